/-! what both write, as a function -/
abbrev WS := List Int32 × (Nat → Int32) × (Nat → Nat) × Nat × Int32
abbrev WS.out (σ : WS) : List Int32 := σ.1
abbrev WS.bg (σ : WS) : Nat → Int32 := σ.2.1
abbrev WS.id (σ : WS) : Nat → Nat := σ.2.2.1
abbrev WS.ids (σ : WS) : Nat := σ.2.2.2.1
abbrev WS.dp (σ : WS) : Int32 := σ.2.2.2.2
abbrev wa (σ : WS) (q : List Int32) : WS := (σ.1 ++ q, σ.2)
def wn1 (kr nr fi : Nat → Int32) (o k : Nat) : List Int32 := if nr (3 * o + k) = fi (3 * (kr o).toNatClampNeg + k) then [] else nI (120 + k) :: 61 :: dg (nr (3 * o + k))
def wi (sh : Nat → Bool) (o n : Nat) : List Int32 := if sh o = true then 35 :: dg (nI n) else []
def wh (kr nr fi : Nat → Int32) (sh : Nat → Bool) (v o : Nat) (σ : WS) : WS :=
  ⟨σ.out ++ ([40, nI (97 + (kr o).toNatClampNeg)] ++ wi sh o σ.ids ++ (wn1 kr nr fi o 0 ++ wn1 kr nr fi o 1 ++ wn1 kr nr fi o 2)), upd σ.bg o 1, fun i => if sh o = true ∧ i = o then σ.ids else σ.id i, if sh o = true then σ.ids + 1 else σ.ids, if 10 < v then 1 else σ.dp⟩
def wl (lr : Nat → Int32) (f : Nat → WS → WS) (o l : Nat) (σ : WS) : WS :=
  if lr (2 * o + l) = -1 then σ else
  if σ.bg (lr (2 * o + l)).toNatClampNeg = 0 then f (lr (2 * o + l)).toNatClampNeg (wa σ [nI (112 + l), 61])
  else wa σ ([nI (112 + l), 61] ++ (64 :: dg (nI (σ.id (lr (2 * o + l)).toNatClampNeg))))
def we (σ : WS) : WS := wa σ [41]
def wo (kr nr lr fi : Nat → Int32) (sh : Nat → Bool) (cut : Bool) : Nat → Nat → Nat → WS → WS
  | 0, _, _, σ => σ
  | m + 1, v, o, σ => if cut = true ∧ 10 < v then (σ.1, σ.2.1, σ.2.2.1, σ.2.2.2.1, 1) else
      we (wl lr (wo kr nr lr fi sh cut m (v + 1)) o 1 (wl lr (wo kr nr lr fi sh cut m (v + 1)) o 0 (wh kr nr fi sh v o σ)))
theorem wl_none {lr : Nat → Int32} {f : Nat → WS → WS} {o l : Nat} {σ : WS} (h : lr (2 * o + l) = -1) : wl lr f o l σ = σ := if_pos h
theorem wl_new {lr : Nat → Int32} {f : Nat → WS → WS} {o l t : Nat} {σ : WS} (ht : t < 24) (h : lr (2 * o + l) = nI t) (h0 : σ.bg t = 0) : wl lr f o l σ = f t (wa σ [nI (112 + l), 61]) := by
  unfold wl
  rw [h, if_neg (fun e => nI_m1 (by omega) e), nI_clamp (by omega), if_pos h0]
theorem wl_old {lr : Nat → Int32} {f : Nat → WS → WS} {o l t : Nat} {σ : WS} (ht : t < 24) (h : lr (2 * o + l) = nI t) (h0 : ¬ σ.bg t = 0) : wl lr f o l σ = wa σ ([nI (112 + l), 61] ++ (64 :: dg (nI (σ.id t)))) := by
  unfold wl
  rw [h, if_neg (fun e => nI_m1 (by omega) e), nI_clamp (by omega), if_neg h0]
theorem wn1_len (kr nr fi : Nat → Int32) (o k : Nat) : (wn1 kr nr fi o k).length ≤ 8 := by
  unfold wn1
  split
  · exact Nat.zero_le _
  · have := dg_len (nr (3 * o + k))
    simp only [List.length_cons]
    omega
theorem wi_len (sh : Nat → Bool) (o n : Nat) : (wi sh o n).length ≤ 7 := by
  unfold wi
  split
  · have := dg_len (nI n)
    simp only [List.length_cons]
    omega
  · exact Nat.zero_le _
theorem cn_mono {f g : Nat → Int32} : ∀ {n : Nat}, (∀ i, i < n → ¬ f i = 0 → ¬ g i = 0) → cn f n ≤ cn g n
  | 0, _ => Nat.le_refl _
  | n + 1, h => by
    have ih := cn_mono (n := n) (fun i hi => h i (by omega))
    have h2 := h n (by omega)
    unfold cn
    by_cases e : f n = 0 <;> by_cases e2 : g n = 0 <;> simp [e, e2] at h2 ⊢ <;> omega
theorem sf_ge {g : Nat → Nat} {k : Nat} : ∀ {n : Nat}, k < n → g k ≤ sf g n
  | 0, h => absurd h (by omega)
  | n + 1, h => by
    unfold sf
    by_cases e : k = n
    · rw [e]; omega
    · have := sf_ge (g := g) (k := k) (n := n) (by omega)
      omega
theorem sf_ge2 {g : Nat → Nat} {k j : Nat} (hkj : k < j) : ∀ {n : Nat}, j < n → g k + g j ≤ sf g n
  | 0, h => absurd h (by omega)
  | n + 1, h => by
    unfold sf
    by_cases e : j = n
    · have := sf_ge (g := g) (k := k) (n := n) (by omega)
      rw [e]; omega
    · have := sf_ge2 (g := g) hkj (n := n) (by omega)
      omega
theorem ll_1 {lr : Nat → Int32} {k o l : Nat} (hl : l < 2) (h : lr (2 * k + l) = nI o) : 1 ≤ ll lr k o := by
  unfold ll
  rcases (show l = 0 ∨ l = 1 by omega) with rfl | rfl
  · rw [if_pos (show lr (2 * k) = nI o from h)]; omega
  · rw [if_pos h]; omega
theorem ld_1 {z : Nat} {lr : Nat → Int32} {r o k l : Nat} (hz : z ≤ 24) (hk : k < z) (hr : rc z lr r k) (hl : l < 2) (h : lr (2 * k + l) = nI o) : 1 ≤ ld z lr r o := by
  have h1 := sf_ge (g := fun k => itN (k < z ∧ rc z lr r k) (ll lr k o) 0) (k := k) (n := 24) (by omega)
  have h2 : itN (k < z ∧ rc z lr r k) (ll lr k o) 0 = ll lr k o := itN_t ⟨hk, hr⟩
  have h3 := ll_1 hl h
  have h1 : itN (k < z ∧ rc z lr r k) (ll lr k o) 0 ≤ ld z lr r o := h1
  omega
theorem ld_2 {z : Nat} {lr : Nat → Int32} {r o p q : Nat} (hz : z ≤ 24) (hp : p / 2 < z) (hpr : rc z lr r (p / 2)) (hq : q / 2 < z) (hqr : rc z lr r (q / 2)) (hne : p < q) (h1 : lr p = nI o) (h2 : lr q = nI o) : 2 ≤ ld z lr r o := by
  have e1 : lr (2 * (p / 2) + p % 2) = nI o := by rw [show 2 * (p / 2) + p % 2 = p by omega]; exact h1
  have e2 : lr (2 * (q / 2) + q % 2) = nI o := by rw [show 2 * (q / 2) + q % 2 = q by omega]; exact h2
  have i1 : itN (p / 2 < z ∧ rc z lr r (p / 2)) (ll lr (p / 2) o) 0 = ll lr (p / 2) o := itN_t ⟨hp, hpr⟩
  have i2 : itN (q / 2 < z ∧ rc z lr r (q / 2)) (ll lr (q / 2) o) 0 = ll lr (q / 2) o := itN_t ⟨hq, hqr⟩
  by_cases e : p / 2 = q / 2
  · have h3 := sf_ge (g := fun k => itN (k < z ∧ rc z lr r k) (ll lr k o) 0) (k := p / 2) (n := 24) (by omega)
    have h3 : itN (p / 2 < z ∧ rc z lr r (p / 2)) (ll lr (p / 2) o) 0 ≤ ld z lr r o := h3
    have h4 : ll lr (p / 2) o = 2 := by
      unfold ll
      rw [if_pos (show lr (2 * (p / 2)) = nI o by rw [show 2 * (p / 2) = p by omega]; exact h1), if_pos (show lr (2 * (p / 2) + 1) = nI o by rw [show 2 * (p / 2) + 1 = q by omega]; exact h2)]
    omega
  · have h3 := sf_ge2 (g := fun k => itN (k < z ∧ rc z lr r k) (ll lr k o) 0) (k := p / 2) (j := q / 2) (by omega) (n := 24) (by omega)
    have h3 : itN (p / 2 < z ∧ rc z lr r (p / 2)) (ll lr (p / 2) o) 0 + itN (q / 2 < z ∧ rc z lr r (q / 2)) (ll lr (q / 2) o) 0 ≤ ld z lr r o := h3
    have h4 := ll_1 (by omega) e1
    have h5 := ll_1 (by omega) e2
    omega
noncomputable def shd (z : Nat) (lr : Nat → Int32) (r o : Nat) : Bool := decide ((if o = r then 1 else 2) ≤ ld z lr r o)
section SP
variable {kr nr lr fi : Nat → Int32} {z r : Nat} {cut : Bool}
/-- what holds while it is written: U are the links of open objects that still wait, s is the room -/
def J (z : Nat) (lr : Nat → Int32) (r : Nat) (σ : WS) (U : Nat → Prop) (s : Nat) : Prop :=
  σ.ids ≤ cn σ.bg 24 ∧ σ.out.length + s ≤ 64 * cn σ.bg 24 ∧ (∀ t, ¬ σ.bg t = 0 → t < z ∧ rc z lr r t ∧ (shd z lr r t = true → σ.id t < 24)) ∧
  (∀ t, ¬ σ.bg t = 0 → t ≠ r → ∃ p, lr p = nI t ∧ p / 2 < z ∧ ¬ σ.bg (p / 2) = 0 ∧ ¬ U p) ∧ ∀ p, U p → ¬ σ.bg (p / 2) = 0
theorem J.wk {σ : WS} {U V : Nat → Prop} {s s' : Nat} (h : J z lr r σ U s) (hU : ∀ p, V p → U p) (hs : s' ≤ s) : J z lr r σ V s' := by
  obtain ⟨h1, h2, h3, h4, h5⟩ := h
  refine ⟨h1, by omega, h3, fun t ht hr => ?_, fun p hp => h5 p (hU p hp)⟩
  obtain ⟨p, p1, p2, p3, p4⟩ := h4 t ht hr
  exact ⟨p, p1, p2, p3, fun hv => p4 (hU p hv)⟩
/-- what came to o: it is the root, or a link that waits no more -/
def Jo (z : Nat) (lr : Nat → Int32) (r : Nat) (σ : WS) (U : Nat → Prop) (o : Nat) : Prop := o < z ∧ rc z lr r o ∧ σ.bg o = 0 ∧ (o = r ∨ ∃ p, lr p = nI o ∧ p / 2 < z ∧ ¬ σ.bg (p / 2) = 0 ∧ ¬ U p)
theorem J_wh {σ : WS} {U : Nat → Prop} {s v o : Nat} (hz : z ≤ 24) (h : J z lr r σ U s) (ho : Jo z lr r σ U o) : J z lr r (wh kr nr fi (shd z lr r) v o σ) (fun p => U p ∨ p / 2 = o) (s + 31) ∧ cn (wh kr nr fi (shd z lr r) v o σ).bg 24 = cn σ.bg 24 + 1 := by
  obtain ⟨h1, h2, h3, h4, h5⟩ := h
  obtain ⟨o1, o2, o3, o4⟩ := ho
  have hc : cn (upd σ.bg o 1) 24 = cn σ.bg 24 + 1 := cn_add o3 (by decide) (by omega)
  have hlt : cn σ.bg 24 < 24 := cn_lt (by omega) o3
  refine ⟨⟨?_, ?_, fun t ht => ?_, fun t ht hr => ?_, fun p hp => ?_⟩, hc⟩
  · show (if shd z lr r o = true then σ.ids + 1 else σ.ids) ≤ cn (upd σ.bg o 1) 24
    rw [hc]
    split <;> omega
  · show (σ.out ++ ([40, nI (97 + (kr o).toNatClampNeg)] ++ wi (shd z lr r) o σ.ids ++ (wn1 kr nr fi o 0 ++ wn1 kr nr fi o 1 ++ wn1 kr nr fi o 2))).length + (s + 31) ≤ 64 * cn (upd σ.bg o 1) 24
    rw [hc]
    simp only [List.length_append, List.length_cons, List.length_nil]
    have a1 := wi_len (shd z lr r) o σ.ids
    have a2 := wn1_len kr nr fi o 0
    have a3 := wn1_len kr nr fi o 1
    have a4 := wn1_len kr nr fi o 2
    omega
  · have ht : ¬ upd σ.bg o 1 t = 0 := ht
    by_cases e : t = o
    · subst e
      refine ⟨o1, o2, fun hs => ?_⟩
      show (if shd z lr r t = true ∧ t = t then σ.ids else σ.id t) < 24
      rw [if_pos ⟨hs, rfl⟩]
      omega
    · rw [upd_n e] at ht
      obtain ⟨a1, a2, a3⟩ := h3 t ht
      refine ⟨a1, a2, fun hs => ?_⟩
      show (if shd z lr r o = true ∧ t = o then σ.ids else σ.id t) < 24
      rw [if_neg (fun hh => e hh.2)]
      exact a3 hs
  · have ht : ¬ upd σ.bg o 1 t = 0 := ht
    have key : ∃ p, lr p = nI t ∧ p / 2 < z ∧ ¬ σ.bg (p / 2) = 0 ∧ ¬ U p := by
      by_cases e : t = o
      · subst e
        exact o4.resolve_left hr
      · rw [upd_n e] at ht
        exact h4 t ht hr
    obtain ⟨p, p1, p2, p3, p4⟩ := key
    have hpo : p / 2 ≠ o := fun e => p3 (by rw [e]; exact o3)
    refine ⟨p, p1, p2, ?_, fun hh => hh.elim p4 hpo⟩
    show ¬ upd σ.bg o 1 (p / 2) = 0
    rw [upd_n hpo]
    exact p3
  · show ¬ upd σ.bg o 1 (p / 2) = 0
    by_cases e : p / 2 = o
    · rw [e, upd_s]; decide
    · rw [upd_n e]
      exact h5 p (hp.resolve_right e)
/-- a link to what is begun: what it leads to has a name -/
theorem J_sh {σ : WS} {U : Nat → Prop} {s o l t : Nat} (hz : z ≤ 24) (h : J z lr r σ U s) (ho : ¬ σ.bg o = 0) (hU : U (2 * o + l)) (hl : l < 2) (e : lr (2 * o + l) = nI t) (ht : ¬ σ.bg t = 0) : shd z lr r t = true ∧ t < z ∧ σ.id t < 24 := by
  obtain ⟨h1, h2, h3, h4, h5⟩ := h
  obtain ⟨a1, a2, a3⟩ := h3 t ht
  obtain ⟨b1, b2, b3⟩ := h3 o ho
  have hs : shd z lr r t = true := by
    unfold shd
    refine decide_eq_true ?_
    by_cases hr : t = r
    · rw [if_pos hr]
      exact ld_1 hz b1 b2 hl e
    · rw [if_neg hr]
      obtain ⟨p, p1, p2, p3, p4⟩ := h4 t ht hr
      have hpr := (h3 _ p3).2.1
      have hne : p ≠ 2 * o + l := fun e2 => p4 (by rw [e2]; exact hU)
      have e3 : (2 * o + l) / 2 = o := by omega
      rcases Nat.lt_or_ge p (2 * o + l) with hh | hh
      · exact ld_2 hz p2 hpr (by rw [e3]; exact b1) (by rw [e3]; exact b2) hh p1 e
      · exact ld_2 hz (by rw [e3]; exact b1) (by rw [e3]; exact b2) p2 hpr (by omega) e p1
  exact ⟨hs, a1, a3 hs⟩
def Jf (z : Nat) (lr : Nat → Int32) (r : Nat) (f : Nat → WS → WS) : Prop := ∀ o σ U s, J z lr r σ U s → Jo z lr r σ U o → J z lr r (f o σ) U s ∧ ∀ i, ¬ σ.bg i = 0 → ¬ (f o σ).bg i = 0
theorem J_out {σ : WS} {U : Nat → Prop} {s s' : Nat} {q : List Int32} (h : J z lr r σ U s) (hs : q.length + s' ≤ s) : J z lr r (wa σ q) U s' := by
  obtain ⟨h1, h2, h3, h4, h5⟩ := h
  refine ⟨h1, ?_, h3, h4, h5⟩
  show (σ.out ++ q).length + s' ≤ 64 * cn σ.bg 24
  rw [List.length_append]
  omega
/-- the new object of a link -/
theorem Jo_new {σ : WS} {U : Nat → Prop} {s o l t : Nat} {q : List Int32} (h : J z lr r σ U s) (ho : ¬ σ.bg o = 0) (hl : l < 2) (htz : t < z) (e : lr (2 * o + l) = nI t) (ht : σ.bg t = 0) : Jo z lr r (wa σ q) (fun p => U p ∧ p ≠ 2 * o + l) t := by
  obtain ⟨h1, h2, h3, h4, h5⟩ := h
  obtain ⟨b1, b2, b3⟩ := h3 o ho
  have e3 : (2 * o + l) / 2 = o := by omega
  exact ⟨htz, rc_step b2 ⟨b1, htz, l, hl, e⟩, ht, Or.inr ⟨2 * o + l, e, by rw [e3]; exact b1, by rw [e3]; exact ho, fun hh => hh.2 rfl⟩⟩
theorem J_wl {f : Nat → WS → WS} {σ : WS} {U : Nat → Prop} {s o l : Nat} (hz : z ≤ 24) (hf : Jf z lr r f) (hlk : lr (2 * o + l) = -1 ∨ ∃ t, t < z ∧ lr (2 * o + l) = nI t) (h : J z lr r σ U (s + 9)) (ho : ¬ σ.bg o = 0) (hl : l < 2) : J z lr r (wl lr f o l σ) (fun p => U p ∧ p ≠ 2 * o + l) s ∧ ∀ i, ¬ σ.bg i = 0 → ¬ (wl lr f o l σ).bg i = 0 := by
  rcases hlk with e | ⟨t, ht, e⟩
  · rw [wl_none e]
    exact ⟨h.wk (fun p hp => hp.1) (by omega), fun i hi => hi⟩
  · by_cases h0 : σ.bg t = 0
    · rw [wl_new (by omega) e h0]
      have h2 := hf t (wa σ [nI (112 + l), 61]) (fun p => U p ∧ p ≠ 2 * o + l) s (J_out (s := s + 2) (h.wk (fun p hp => hp.1) (by omega)) (by simp only [List.length_cons, List.length_nil]; omega)) (Jo_new h ho hl ht e h0)
      exact h2
    · rw [wl_old (by omega) e h0]
      refine ⟨?_, fun i hi => hi⟩
      refine J_out (s := s + 9) (h.wk (fun p hp => hp.1) (by omega)) ?_
      have := dg_len (nI (σ.id t))
      simp only [List.length_append, List.length_cons, List.length_nil]
      omega
theorem J_wo (hz : z ≤ 24) (hlk : ∀ o l, o < z → l < 2 → lr (2 * o + l) = -1 ∨ ∃ t, t < z ∧ lr (2 * o + l) = nI t) : ∀ m v, Jf z lr r (wo kr nr lr fi (shd z lr r) cut m v)
  | 0, v => fun o σ U s h _ => ⟨h, fun i hi => hi⟩
  | m + 1, v => fun o σ U s h ho => by
    have ih := J_wo hz hlk m (v + 1)
    unfold wo
    by_cases hc : cut = true ∧ 10 < v
    · rw [if_pos hc]
      exact ⟨h, fun i hi => hi⟩
    · rw [if_neg hc]
      obtain ⟨a1, a2⟩ := J_wh (kr := kr) (nr := nr) (fi := fi) (v := v) hz h ho
      have ho1 : ¬ (wh kr nr fi (shd z lr r) v o σ).bg o = 0 := by
        show ¬ upd σ.bg o 1 o = 0
        rw [upd_s]
        decide
      obtain ⟨b1, b2⟩ := J_wl (s := s + 22) hz ih (hlk o 0 ho.1 (by omega)) a1 ho1 (by omega)
      obtain ⟨c1, c2⟩ := J_wl (s := s + 13) hz ih (hlk o 1 ho.1 (by omega)) b1 (b2 o ho1) (by omega)
      refine ⟨(J_out (q := [41]) (s' := s + 12) c1 (by simp only [List.length_cons, List.length_nil]; omega)).wk (fun p hp => ⟨⟨Or.inl hp, fun e => ?_⟩, fun e => ?_⟩) (by omega), fun i hi => c2 i (b2 i ?_)⟩
      · exact h.2.2.2.2 p hp (by rw [show p / 2 = o by omega]; exact ho.2.2.1)
      · exact h.2.2.2.2 p hp (by rw [show p / 2 = o by omega]; exact ho.2.2.1)
      · show ¬ upd σ.bg o 1 i = 0
        by_cases e : i = o
        · rw [e, upd_s]; decide
        · rw [upd_n e]; exact hi
end SP
