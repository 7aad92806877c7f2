/-! the reference's loop, and how the two functions compare -/
def Df (f : Nat → WS → WS) : Prop := ∀ o σ, (¬ σ.dp = 0 → ¬ (f o σ).dp = 0) ∧ (σ.dp = 0 ∨ σ.dp = 1 → (f o σ).dp = 0 ∨ (f o σ).dp = 1)
theorem D_wl {lr : Nat → Int32} {f : Nat → WS → WS} (hf : Df f) (l : Nat) : Df (fun o σ => wl lr f o l σ) := by
  intro o σ
  show (¬ σ.dp = 0 → ¬ (wl lr f o l σ).dp = 0) ∧ (σ.dp = 0 ∨ σ.dp = 1 → (wl lr f o l σ).dp = 0 ∨ (wl lr f o l σ).dp = 1)
  unfold wl
  split
  · exact ⟨fun h => h, fun h => h⟩
  · split
    · exact hf _ (wa σ [nI (112 + l), 61])
    · exact ⟨fun h => h, fun h => h⟩
theorem D_wo {kr nr lr fi : Nat → Int32} {sh : Nat → Bool} {cut : Bool} : ∀ m v, Df (wo kr nr lr fi sh cut m v)
  | 0, v => fun o σ => ⟨fun h => h, fun h => h⟩
  | m + 1, v => fun o σ => by
    have ih := D_wo (kr := kr) (nr := nr) (lr := lr) (fi := fi) (sh := sh) (cut := cut) m (v + 1)
    unfold wo
    split
    · exact ⟨fun _ => by show ¬ (1 : Int32) = 0; decide, fun _ => Or.inr rfl⟩
    · have a := D_wl (lr := lr) ih 0 o (wh kr nr fi sh v o σ)
      have b := D_wl (lr := lr) ih 1 o (wl lr (wo kr nr lr fi sh cut m (v + 1)) o 0 (wh kr nr fi sh v o σ))
      refine ⟨fun h => b.1 (a.1 ?_), fun h => b.2 (a.2 ?_)⟩
      · show ¬ (if 10 < v then 1 else σ.dp) = 0
        split
        · decide
        · exact h
      · show (if 10 < v then 1 else σ.dp) = 0 ∨ (if 10 < v then 1 else σ.dp) = 1
        split
        · exact Or.inr rfl
        · exact h
def Cf (f g : Nat → WS → WS) : Prop := ∀ o σ, σ.dp = 0 → (f o σ = g o σ ∧ (f o σ).dp = 0) ∨ (¬ (f o σ).dp = 0 ∧ ¬ (g o σ).dp = 0)
theorem C_wl {lr : Nat → Int32} {f g : Nat → WS → WS} (h : Cf f g) (l : Nat) : Cf (fun o σ => wl lr f o l σ) (fun o σ => wl lr g o l σ) := by
  intro o σ h0
  show (wl lr f o l σ = wl lr g o l σ ∧ (wl lr f o l σ).dp = 0) ∨ (¬ (wl lr f o l σ).dp = 0 ∧ ¬ (wl lr g o l σ).dp = 0)
  by_cases e : lr (2 * o + l) = -1
  · rw [wl_none e, wl_none e]
    exact Or.inl ⟨rfl, h0⟩
  · by_cases e2 : σ.bg (lr (2 * o + l)).toNatClampNeg = 0
    · have q : ∀ f, wl lr f o l σ = f (lr (2 * o + l)).toNatClampNeg (wa σ [nI (112 + l), 61]) := by
        intro f
        unfold wl
        rw [if_neg e, if_pos e2]
      rw [q, q]
      exact h _ (wa σ [nI (112 + l), 61]) h0
    · have q : ∀ f, wl lr f o l σ = wa σ ([nI (112 + l), 61] ++ (64 :: dg (nI (σ.id (lr (2 * o + l)).toNatClampNeg)))) := by
        intro f
        unfold wl
        rw [if_neg e, if_neg e2]
      rw [q, q]
      exact Or.inl ⟨rfl, h0⟩
theorem C_wo {kr nr lr fi : Nat → Int32} {sh : Nat → Bool} : ∀ m v, Cf (wo kr nr lr fi sh true m v) (wo kr nr lr fi sh false m v)
  | 0, v => fun o σ h => Or.inl ⟨rfl, h⟩
  | m + 1, v => fun o σ h => by
    have ih := C_wo (kr := kr) (nr := nr) (lr := lr) (fi := fi) (sh := sh) m (v + 1)
    have D1 := D_wo (kr := kr) (nr := nr) (lr := lr) (fi := fi) (sh := sh) (cut := true) m (v + 1)
    have D2 := D_wo (kr := kr) (nr := nr) (lr := lr) (fi := fi) (sh := sh) (cut := false) m (v + 1)
    have e2 : wo kr nr lr fi sh false (m + 1) v o σ = we (wl lr (wo kr nr lr fi sh false m (v + 1)) o 1 (wl lr (wo kr nr lr fi sh false m (v + 1)) o 0 (wh kr nr fi sh v o σ))) := if_neg (fun hh => absurd hh.1 (by decide))
    by_cases hv : 10 < v
    · have e1 : wo kr nr lr fi sh true (m + 1) v o σ = (σ.1, σ.2.1, σ.2.2.1, σ.2.2.2.1, 1) := if_pos ⟨rfl, hv⟩
      rw [e1, e2]
      refine Or.inr ⟨by show ¬ (1 : Int32) = 0; decide, ?_⟩
      refine (D_wl (lr := lr) D2 1 o _).1 ((D_wl (lr := lr) D2 0 o _).1 ?_)
      show ¬ (if 10 < v then 1 else σ.dp) = 0
      rw [if_pos hv]
      decide
    · have e1 : wo kr nr lr fi sh true (m + 1) v o σ = we (wl lr (wo kr nr lr fi sh true m (v + 1)) o 1 (wl lr (wo kr nr lr fi sh true m (v + 1)) o 0 (wh kr nr fi sh v o σ))) := if_neg (fun hh => hv hh.2)
      rw [e1, e2]
      have h0 : (wh kr nr fi sh v o σ).dp = 0 := by
        show (if 10 < v then 1 else σ.dp) = 0
        rw [if_neg hv]
        exact h
      rcases C_wl (lr := lr) ih 0 o (wh kr nr fi sh v o σ) h0 with ⟨p1, p2⟩ | ⟨p1, p2⟩
      · have p1 : wl lr (wo kr nr lr fi sh true m (v + 1)) o 0 (wh kr nr fi sh v o σ) = wl lr (wo kr nr lr fi sh false m (v + 1)) o 0 (wh kr nr fi sh v o σ) := p1
        rw [← p1]
        rcases C_wl (lr := lr) ih 1 o _ p2 with ⟨q1, q2⟩ | ⟨q1, q2⟩
        · exact Or.inl ⟨congrArg we q1, q2⟩
        · exact Or.inr ⟨q1, q2⟩
      · exact Or.inr ⟨(D_wl (lr := lr) D1 1 o _).1 p1, (D_wl (lr := lr) D2 1 o _).1 p2⟩
section LR
variable {xs : Nat × (Nat → Int32)} {d z r : Nat} {S T : Sv} {K : Sv → Option Value → Prop}
def RSim (xs : Nat × (Nat → Int32)) (K : Sv → Option Value → Prop) (S : Sv) (z r d m w : Nat) (f : Nat → WS → WS) : Prop := ∀ o σ T U s, J z (S 40) r σ U s → Jo z (S 40) r σ U o → 24 ≤ cn σ.bg 24 + m → w ≤ cn σ.bg 24 → (σ.dp = 0 ∨ σ.dp = 1) → PR S T z r (wh (S 38) (S 39) (S 35) (shd z (S 40) r) (w + 1) o σ) → T 31 20 = nI (w + 1) → T 48 w = nI o → T 49 w = 0 → (∀ T', PR S T' z r (f o σ) → T' 31 20 = nI w → (∀ i, i < w → T' 48 i = T 48 i ∧ T' 49 i = T 49 i) → R_109_67 xs d K (nI r) (f o σ).dp T') → R_109_67 xs d K (nI r) (wh (S 38) (S 39) (S 35) (shd z (S 40) r) (w + 1) o σ).dp T
theorem r_67 {f : Nat → WS → WS} {m w o l s : Nat} {σ : WS} {U : Nat → Prop} (hd : 5 ≤ d) (hV : VR S z) (hs : S 31 6 = nI z) (hr : r < z) (hX : ∀ t, t < 24 → (¬ S 43 t = 0 ↔ t < z ∧ rc z (S 40) r t)) (hf : RSim xs K S z r d m (w + 1) f) (ho : o < z) (hl : l < 2) (hP : PR S T z r σ) (hJ : J z (S 40) r σ U (s + 9)) (hb : ¬ σ.bg o = 0) (hU : U (2 * o + l)) (hm : 24 ≤ cn σ.bg 24 + m) (hw : w + 1 ≤ cn σ.bg 24) (hD : σ.dp = 0 ∨ σ.dp = 1) (h20 : T 31 20 = nI (w + 1)) (h48 : T 48 w = nI o) (h49 : T 49 w = nI l) (h : ∀ T', PR S T' z r (wl (S 40) f o l σ) → T' 31 20 = nI (w + 1) → T' 48 w = nI o → T' 49 w = nI (l + 1) → (∀ i, i < w → T' 48 i = T 48 i ∧ T' 49 i = T 49 i) → R_109_67 xs d K (nI r) (wl (S 40) f o l σ).dp T') : R_109_67 xs d K (nI r) σ.dp T := by
  have hz := VI.zb hV
  have hc24 := cn_le σ.bg 24
  have hlen : σ.out.length ≤ 1536 := by
    have h1 := hJ.2.1
    omega
  have P0 : PR S (us T 49 w (nI (l + 1))) z r σ := by
    obtain ⟨h1, h2, h3, h4, h5, h6⟩ := hP
    exact ⟨h1, h2, h3, h4, fun c n1 n2 n3 n4 n5 n6 => by rw [us_ne n6]; exact h5 c n1 n2 n3 n4 n5 n6, h6⟩
  have e31 : (us T 49 w (nI (l + 1))) 31 6 = nI z := by
    show T 31 6 = nI z
    rw [hP.2.2.2.2.2 6 (by decide) (by decide) (by decide)]
    exact hs
  have e40 : (us T 49 w (nI (l + 1))) 40 = S 40 := P0.2.2.2.2.1 40 (by decide) (by decide) (by decide) (by decide) (by decide) (by decide)
  have hg : (112 : Int32) + nI l = nI (112 + l) := nI_add 112 l
  have s48 : ∀ {T' : Sv}, fq (us T 49 w (nI (l + 1))) T' → T' 31 20 = nI (w + 1) ∧ T' 48 w = nI o ∧ T' 49 w = nI (l + 1) ∧ ∀ i, i < w → T' 48 i = T 48 i ∧ T' 49 i = T 49 i := by
    intro T' f'
    refine ⟨by rw [f'.2 20 (by decide)]; exact h20, by rw [f'.1 48 (by decide) (by decide)]; exact h48, ?_, fun i hi => ⟨by rw [f'.1 48 (by decide) (by decide)]; rfl, ?_⟩⟩
    · rw [f'.1 49 (by decide) (by decide)]
      show upd (T 49) w _ w = _
      rw [upd_s]
    · rw [f'.1 49 (by decide) (by decide)]
      show upd (T 49) w _ i = _
      rw [upd_n (by omega)]
  refine h_109_67 ⟨fun g => absurd g (by rw [h20]; exact nI_nle (by omega) (by omega)), fun _ => ?_⟩
  rw [h20, nI_p1]
  refine ⟨w, by omega, rfl, w, by omega, rfl, w, by omega, rfl, w, by omega, rfl, ?_⟩
  rw [h49, h48, nI_1]
  refine ⟨fun g => absurd g (nI_ge (b := 2) hl (by omega)), fun _ => ?_⟩
  refine k_99 (by omega) (P0.vr hV) e31 (fun j b hj hb2 e1 e2 => ⟨_, rfl, ?_⟩) (fun hn => absurd ⟨⟨o, ho, rfl⟩, l, hl, rfl⟩ hn)
  rw [← nI_inj (by omega) (by omega) e1, ← nI_inj (by omega) (by omega) e2, e40]
  refine ⟨fun _ => ⟨fun e => ?_, fun e => ?_⟩, fun g => absurd (nI_lt (b := 2) hl (by omega)) g⟩
  · rw [wl_none e] at h
    obtain ⟨a1, a2, a3, a4⟩ := s48 fq.rf
    exact h _ P0 a1 a2 a3 a4
  · obtain ⟨t, ht, et⟩ := (VI.lr hV o l ho hl).1.resolve_left e
    rw [et, hg]
    refine k_105 (by omega) (by omega) P0.1 (fun T1 f1 t1 => ⟨rfl, ?_⟩)
    refine k_105 (by omega) (by simp only [List.length_append, List.length_cons, List.length_nil]; omega) t1 (fun T2 f2 t2 => ⟨rfl, t, by omega, rfl, ?_⟩)
    rw [List.append_assoc] at t2
    have f12 := f1.tr f2
    have P2 : PR S T2 z r (wa σ [nI (112 + l), 61]) := P0.ap f12 t2
    have e47 : T2 47 t = σ.bg t := P2.2.1 t (by omega)
    rw [e47]
    obtain ⟨a1, a2, a3, a4⟩ := s48 f12
    refine ⟨fun g => ?_, fun g => ?_⟩
    · rw [wl_new (by omega) et g] at h
      have hlt : cn σ.bg 24 < 24 := cn_lt (by omega) g
      have hJ2 : J z (S 40) r (wa σ [nI (112 + l), 61]) (fun p => U p ∧ p ≠ 2 * o + l) s := J_out (s := s + 2) (hJ.wk (fun p hp => hp.1) (by omega)) (by simp only [List.length_cons, List.length_nil]; omega)
      have hJo2 : Jo z (S 40) r (wa σ [nI (112 + l), 61]) (fun p => U p ∧ p ≠ 2 * o + l) t := Jo_new hJ hb hl ht et g
      refine k_108 (v := w + 1 + 1) hd hV hs hr hX hJ2 hJo2 (show w + 1 ≤ 23 by omega) P2 a1 (fun T3 P3 b1 b2 b3 b4 => ⟨rfl, ?_⟩)
      have goal : R_109_67 xs d K (nI r) (if 10 < w + 1 + 1 then 1 else σ.dp) T3 := hf t (wa σ [nI (112 + l), 61]) T3 _ s hJ2 hJo2 hm hw hD P3 b1 b2 b3 (fun T4 P4 c1 c2 => h T4 P4 c1 (by rw [(c2 w (by omega)).1, (b4 w (by omega)).1]; exact a2) (by rw [(c2 w (by omega)).2, (b4 w (by omega)).2]; exact a3) (fun i hi => ⟨by rw [(c2 i (by omega)).1, (b4 i (by omega)).1]; exact (a4 i hi).1, by rw [(c2 i (by omega)).2, (b4 i (by omega)).2]; exact (a4 i hi).2⟩))
      rw [b1]
      refine ⟨fun q => ?_, fun q => ⟨fun q2 => ?_, fun q2 => ?_⟩⟩
      · have e1 : σ.dp = 1 := hD.resolve_left q
        rw [e1] at goal
        have : (if 10 < w + 1 + 1 then (1 : Int32) else 1) = 1 := by split <;> rfl
        rw [this] at goal
        exact goal
      · have e0 : σ.dp = 0 := Classical.byContradiction q
        have := (nI_leI (b := 10) (by omega) (by omega)).mp q2
        rw [if_neg (by omega), e0] at goal
        exact goal
      · have : 10 < w + 1 + 1 := Nat.lt_of_not_le (fun hh => q2 (nI_le (b := 10) hh (by omega)))
        rw [if_pos this] at goal
        exact goal
    · rw [wl_old (by omega) et g] at h
      obtain ⟨j1, j2, j3⟩ := J_sh hz hJ hb hU hl et g
      refine k_105 (by omega) (by simp only [List.length_append, List.length_cons, List.length_nil]; omega) t2 (fun T3 f3 t3 => ⟨rfl, t, by omega, rfl, ?_⟩)
      have e46 : T3 46 t = nI (σ.id t + 1) := by
        rw [f3.1 46 (by decide) (by decide)]
        exact P2.2.2.1 t (by omega) g j1
      rw [e46, nI_p1]
      refine k_106 (by omega) (Int32.le_trans (by decide) (nI_le (a := 0) (b := σ.id t) (by omega) (by omega))) (nI_le (b := 99999) (by omega) (by omega)) (by simp only [List.length_append, List.length_cons, List.length_nil]; omega) t3 (fun T4 f4 t4 => ⟨rfl, ?_⟩)
      obtain ⟨b1, b2, b3, b4⟩ := s48 (f12.tr (f3.tr f4))
      rw [List.append_assoc, List.append_assoc] at t4
      exact h T4 (P0.ap (f12.tr (f3.tr f4)) t4) b1 b2 b3 b4
theorem r_wo (hd : 5 ≤ d) (hV : VR S z) (hs : S 31 6 = nI z) (hr : r < z) (hX : ∀ t, t < 24 → (¬ S 43 t = 0 ↔ t < z ∧ rc z (S 40) r t)) : ∀ m w, RSim xs K S z r d m w (wo (S 38) (S 39) (S 40) (S 35) (shd z (S 40) r) false m (w + 1)) := by
  intro m
  have hz := VI.zb hV
  induction m with
  | zero =>
    intro w o σ T U s hJ hJo hm hw hD hP h20 h48 h49 h
    have : cn σ.bg 24 < 24 := cn_lt (by have := hJo.1; omega) hJo.2.2.1
    omega
  | succ m ih =>
    intro w o σ T U s hJ hJo hm hw hD hP h20 h48 h49 h
    have ih := ih (w + 1)
    have hJf : Jf z (S 40) r (wo (S 38) (S 39) (S 40) (S 35) (shd z (S 40) r) false m (w + 1 + 1)) := J_wo hz (fun o l ho hl => (VI.lr hV o l ho hl).1) m (w + 1 + 1)
    have hDf : Df (wo (S 38) (S 39) (S 40) (S 35) (shd z (S 40) r) false m (w + 1 + 1)) := D_wo m (w + 1 + 1)
    have ho : o < z := hJo.1
    have e2 : wo (S 38) (S 39) (S 40) (S 35) (shd z (S 40) r) false (m + 1) (w + 1) o σ = we (wl (S 40) (wo (S 38) (S 39) (S 40) (S 35) (shd z (S 40) r) false m (w + 1 + 1)) o 1 (wl (S 40) (wo (S 38) (S 39) (S 40) (S 35) (shd z (S 40) r) false m (w + 1 + 1)) o 0 (wh (S 38) (S 39) (S 35) (shd z (S 40) r) (w + 1) o σ))) := if_neg (fun hh => absurd hh.1 (by decide))
    rw [e2] at h
    have hc := J_wh (kr := S 38) (nr := S 39) (fi := S 35) (v := w + 1) hz hJ hJo
    have ho1 : ¬ (wh (S 38) (S 39) (S 35) (shd z (S 40) r) (w + 1) o σ).bg o = 0 := by
      show ¬ upd σ.bg o 1 o = 0
      rw [upd_s]
      decide
    have hm1 : 24 ≤ cn (wh (S 38) (S 39) (S 35) (shd z (S 40) r) (w + 1) o σ).bg 24 + m := by rw [hc.2]; omega
    have hw1 : w + 1 ≤ cn (wh (S 38) (S 39) (S 35) (shd z (S 40) r) (w + 1) o σ).bg 24 := by rw [hc.2]; omega
    have hD1 : (wh (S 38) (S 39) (S 35) (shd z (S 40) r) (w + 1) o σ).dp = 0 ∨ (wh (S 38) (S 39) (S 35) (shd z (S 40) r) (w + 1) o σ).dp = 1 := by
      show (if 10 < w + 1 then 1 else σ.dp) = 0 ∨ (if 10 < w + 1 then 1 else σ.dp) = 1
      split
      · exact Or.inr rfl
      · exact hD
    have b := J_wl (s := s + 22) hz hJf (VI.lr hV o 0 ho (by omega)).1 hc.1 ho1 (by omega)
    have c := J_wl (s := s + 13) hz hJf (VI.lr hV o 1 ho (by omega)).1 b.1 (b.2 o ho1) (by omega)
    have hcn := cn_mono (n := 24) (fun i _ hi => b.2 i hi)
    refine r_67 (s := s + 22) (l := 0) hd hV hs hr hX ih ho (by omega) hP hc.1 ho1 (Or.inr (by omega)) hm1 hw1 hD1 h20 h48 h49 (fun T1 P1 p1 p2 p3 p4 => ?_)
    refine r_67 (s := s + 13) (l := 1) hd hV hs hr hX ih ho (by omega) P1 b.1 (b.2 o ho1) ⟨Or.inr (by omega), by omega⟩ (by omega) (by omega) ((D_wl (lr := S 40) hDf 0 o _).2 hD1) p1 p2 p3 (fun T2 P2 q1 q2 q3 q4 => ?_)
    have hlen := c.1.2.1
    have hc24 := cn_le (wl (S 40) (wo (S 38) (S 39) (S 40) (S 35) (shd z (S 40) r) false m (w + 1 + 1)) o 1 (wl (S 40) (wo (S 38) (S 39) (S 40) (S 35) (shd z (S 40) r) false m (w + 1 + 1)) o 0 (wh (S 38) (S 39) (S 35) (shd z (S 40) r) (w + 1) o σ))).bg 24
    have hw24 : w < 24 := by
      have : cn σ.bg 24 < 24 := cn_lt (by omega) hJo.2.2.1
      omega
    refine h_109_67 ⟨fun g => absurd g (by rw [q1]; exact nI_nle (by omega) (by omega)), fun _ => ?_⟩
    rw [q1, nI_p1]
    refine ⟨w, by omega, rfl, w, by omega, rfl, w, by omega, rfl, w, by omega, rfl, ?_⟩
    rw [q3]
    refine ⟨fun _ => ⟨fun g => absurd g (by decide), fun _ => ?_⟩, fun g => absurd (by decide) g⟩
    have P3 : PR S (us T2 49 w (nI (1 + 1) + 1)) z r (wl (S 40) (wo (S 38) (S 39) (S 40) (S 35) (shd z (S 40) r) false m (w + 1 + 1)) o 1 (wl (S 40) (wo (S 38) (S 39) (S 40) (S 35) (shd z (S 40) r) false m (w + 1 + 1)) o 0 (wh (S 38) (S 39) (S 35) (shd z (S 40) r) (w + 1) o σ))) := by
      obtain ⟨h1, h2, h3, h4, h5, h6⟩ := P2
      exact ⟨h1, h2, h3, h4, fun c n1 n2 n3 n4 n5 n6 => by rw [us_ne n6]; exact h5 c n1 n2 n3 n4 n5 n6, h6⟩
    refine k_105 (by omega) (by omega) P3.1 (fun T3 f3 t3 => ⟨rfl, ?_⟩)
    have e20 : T3 31 20 = nI (w + 1) := by rw [f3.2 20 (by decide)]; exact q1
    rw [e20, nI_p1]
    have P4 := P3.ap f3 t3
    refine h _ ?_ ?_ (fun i hi => ⟨?_, ?_⟩)
    · obtain ⟨h1, h2, h3, h4, h5, h6⟩ := P4
      refine ⟨h1, h2, h3, h4, fun c n1 n2 n3 n4 n5 n6 => by rw [us_ne n1]; exact h5 c n1 n2 n3 n4 n5 n6, fun k k1 k2 k3 => ?_⟩
      show upd (T3 31) 20 (nI w) k = _
      rw [upd_n k3]
      exact h6 k k1 k2 k3
    · rfl
    · show T3 48 i = _
      rw [f3.1 48 (by decide) (by decide)]
      exact (q4 i hi).1.trans (p4 i hi).1
    · show T3 49 i = _
      rw [f3.1 49 (by decide) (by decide)]
      show upd (T2 49) w _ i = _
      rw [upd_n (by omega)]
      exact (q4 i hi).2.trans (p4 i hi).2
end LR
