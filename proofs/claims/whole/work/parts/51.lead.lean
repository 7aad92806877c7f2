/-! how many links lead to an object: class and reference count alike -/
def sf (g : Nat → Nat) : Nat → Nat
  | 0 => 0
  | n + 1 => sf g n + g n
theorem sf_congr {g g' : Nat → Nat} : ∀ {n : Nat}, (∀ i, i < n → g i = g' i) → sf g n = sf g' n
  | 0, _ => rfl
  | n + 1, h => by
    unfold sf
    rw [sf_congr (fun i hi => h i (by omega)), h n (by omega)]
theorem sf_le {g : Nat → Nat} {b : Nat} : ∀ {n : Nat}, (∀ i, i < n → g i ≤ b) → sf g n ≤ n * b
  | 0, _ => by simp [sf]
  | n + 1, h => by
    have h1 := sf_le (g := g) (b := b) (n := n) (fun i hi => h i (by omega))
    have h2 := h n (by omega)
    unfold sf
    rw [Nat.succ_mul]
    omega
theorem sf_out {g : Nat → Nat} : ∀ {n m : Nat}, n ≤ m → (∀ i, n ≤ i → i < m → g i = 0) → sf g m = sf g n
  | n, 0, h, _ => by
    have : n = 0 := by omega
    rw [this]
  | n, m + 1, h, h0 => by
    by_cases e : n = m + 1
    · rw [e]
    · show sf g m + g m = sf g n
      rw [h0 m (by omega) (by omega), sf_out (n := n) (m := m) (by omega) (fun i h1 h2 => h0 i h1 (by omega))]
      rfl
theorem sf_one {g g' : Nat → Nat} {t : Nat} (hn : ∀ i, i ≠ t → g i = g' i) (h0 : g' t = 0) : ∀ {n : Nat}, t < n → sf g n = sf g' n + g t
  | 0, h => absurd h (by omega)
  | n + 1, h => by
    unfold sf
    by_cases e : t = n
    · rw [← e, sf_congr (g := g) (g' := g') (fun i hi => hn i (by omega)), h0]
      omega
    · rw [sf_one hn h0 (show t < n by omega), hn n (fun e2 => e e2.symm)]
      omega
def ll (lr : Nat → Int32) (k o : Nat) : Nat := (if lr (2 * k) = nI o then 1 else 0) + (if lr (2 * k + 1) = nI o then 1 else 0)
theorem ll_le (lr : Nat → Int32) (k o : Nat) : ll lr k o ≤ 2 := by
  unfold ll
  split <;> split <;> omega
noncomputable def itN (P : Prop) (a b : Nat) : Nat := @ite Nat P (Classical.propDecidable P) a b
theorem itN_t {P : Prop} {a b : Nat} (h : P) : itN P a b = a := if_pos h
theorem itN_f {P : Prop} {a b : Nat} (h : ¬ P) : itN P a b = b := if_neg h
/-- how many links of what can be reached from r lead to o -/
noncomputable def ld (z : Nat) (lr : Nat → Int32) (r o : Nat) : Nat := sf (fun k => itN (k < z ∧ rc z lr r k) (ll lr k o) 0) 24
theorem ld_le {z : Nat} {lr : Nat → Int32} {r o : Nat} : ld z lr r o ≤ 48 := by
  have := sf_le (g := fun k => itN (k < z ∧ rc z lr r k) (ll lr k o) 0) (b := 2) (n := 24) (fun i _ => by
    show itN _ _ _ ≤ 2
    by_cases h : i < z ∧ rc z lr r i
    · rw [itN_t h]; exact ll_le _ _ _
    · rw [itN_f h]; omega)
  unfold ld
  omega
theorem sf_perm {g : Nat → Nat} : ∀ {m : Nat} {p : Nat → Nat} {X : Nat → Prop}, (∀ a, a < m → p a < 24) → (∀ a b, a < m → b < m → p a = p b → a = b) → (∀ k, k < 24 → (X k ↔ ∃ a, a < m ∧ p a = k)) → sf (fun a => g (p a)) m = sf (fun k => itN (X k) (g k) 0) 24
  | 0, p, X, _, _, h3 => by
    rw [sf_out (n := 0) (m := 24) (by omega) (fun i _ hi => itN_f (fun hx => by obtain ⟨a, ha, -⟩ := (h3 i hi).mp hx; omega))]
    rfl
  | m + 1, p, X, h1, h2, h3 => by
    have ih := sf_perm (g := g) (m := m) (p := p) (X := fun k => X k ∧ k ≠ p m) (fun a ha => h1 a (by omega)) (fun a b ha hb => h2 a b (by omega) (by omega)) (fun k hk => by
      constructor
      · rintro ⟨hx, hne⟩
        obtain ⟨a, ha, e⟩ := (h3 k hk).mp hx
        refine ⟨a, ?_, e⟩
        rcases Nat.lt_or_ge a m with h | h
        · exact h
        · exact absurd (by rw [← e, show a = m by omega]) hne
      · rintro ⟨a, ha, e⟩
        refine ⟨(h3 k hk).mpr ⟨a, by omega, e⟩, fun e2 => ?_⟩
        have := h2 a m (by omega) (by omega) (e.trans e2)
        omega)
    show sf (fun a => g (p a)) m + g (p m) = _
    rw [ih]
    have hX : X (p m) := (h3 (p m) (h1 m (by omega))).mpr ⟨m, by omega, rfl⟩
    rw [sf_one (g := fun k => itN (X k) (g k) 0) (g' := fun k => itN (X k ∧ k ≠ p m) (g k) 0) (t := p m) (fun i hi => ?_) (itN_f (fun h => h.2 rfl)) (h1 m (by omega)), show itN (X (p m)) (g (p m)) 0 = g (p m) from itN_t hX]
    show itN (X i) (g i) 0 = itN (X i ∧ i ≠ p m) (g i) 0
    by_cases h : X i
    · rw [itN_t h, itN_t ⟨h, hi⟩]
    · rw [itN_f h, itN_f (fun h2 => h h2.1)]
/-! the class -/
abbrev fr5 (S T : Sv) : Prop := ∀ c, c ≠ 12 → c ≠ 13 → c ≠ 14 → c ≠ 24 → T c = S c
section LE
variable {xs : Nat × (Nat → Int32)} {d z r : Nat} {S : Sv} {K : Sv → Option Value → Prop}
theorem VS_fr5 {T : Sv} (hV : VS S z) (hc : fr5 S T) : VS T z := by
  show VI (T 2) (T 3) (T 4) (T 5) (T 6) (T 7) z (T 9) (T 10) (T 11)
  rw [hc 2 (by decide) (by decide) (by decide) (by decide), hc 3 (by decide) (by decide) (by decide) (by decide), hc 4 (by decide) (by decide) (by decide) (by decide), hc 5 (by decide) (by decide) (by decide) (by decide), hc 6 (by decide) (by decide) (by decide) (by decide), hc 7 (by decide) (by decide) (by decide) (by decide), hc 9 (by decide) (by decide) (by decide) (by decide), hc 10 (by decide) (by decide) (by decide) (by decide), hc 11 (by decide) (by decide) (by decide) (by decide)]
  exact hV
/-- the links of the first q found objects, and the first l of the next, are counted -/
def CT (S B T : Sv) (m : Nat) (p : Nat → Nat) (q l : Nat) : Prop := (∀ c, c ≠ 24 → T c = B c) ∧ ∀ o, o < 24 → T 24 o = nI (sf (fun a => ll (S 11) (p a) o) q + (if 0 < l ∧ S 11 (2 * p q) = nI o then 1 else 0) + (if 1 < l ∧ S 11 (2 * p q + 1) = nI o then 1 else 0))
theorem lp_54 {B : Sv} {m : Nat} {p : Nat → Nat} (hd : 3 ≤ d) (hV : VS S z) (hs : S 8 4 = nI z) (hB : fr5 S B) (hm : B 12 3 = nI m) (hm24 : m ≤ 24) (hp : ∀ a, a < m → p a < z ∧ B 13 a = nI (p a)) (hk : ∀ T, CT S B T m p m 0 → K T none) : ∀ (n q : Nat) (T : Sv), q + n = m → CT S B T m p q 0 → R_54_21 xs d K (nI q) T := by
  have hz := VI.zb hV
  intro n
  induction n with
  | zero =>
    intro q T hq hC
    have e : q = m := by omega
    subst e
    refine h_54_21 ⟨fun _ => hk T hC, fun g => absurd ?_ g⟩
    rw [hC.1 12 (by decide), hm]
    exact nI_le (Nat.le_refl _) (by omega)
  | succ n ih =>
    intro q T hq hC
    have hq' : q < m := by omega
    obtain ⟨hpz, epq⟩ := hp q hq'
    have inner : ∀ (k l : Nat) (T : Sv), l + k = 2 → CT S B T m p q l → R_54_34 xs d K (nI q) (nI l) T := by
      intro k
      induction k with
      | zero =>
        intro l T hl hC
        refine h_54_34 ⟨fun _ => ?_, fun g => absurd (nI_le (a := 2) (b := l) (by omega) (by omega)) g⟩
        rw [nI_1]
        refine ih (q + 1) T (by omega) ⟨hC.1, fun o ho => ?_⟩
        rw [hC.2 o ho]
        have e2 : l = 2 := by omega
        subst e2
        congr 1
        rw [if_neg (show ¬ (0 < 0 ∧ S 11 (2 * p (q + 1)) = nI o) from fun h => absurd h.1 (by omega)), if_neg (show ¬ (1 < 0 ∧ S 11 (2 * p (q + 1) + 1) = nI o) from fun h => absurd h.1 (by omega))]
        show _ = sf (fun a => ll (S 11) (p a) o) q + ll (S 11) (p q) o + 0 + 0
        unfold ll
        by_cases h1 : S 11 (2 * p q) = nI o <;> by_cases h2 : S 11 (2 * p q + 1) = nI o <;> simp [h1, h2, Nat.add_assoc]
      | succ k ihk =>
        intro l T hl hC
        have hf : fr5 S T := fun c q1 q2 q3 q4 => (hC.1 c q4).trans (hB c q1 q2 q3 q4)
        have e8 : T 8 4 = nI z := by rw [hf 8 (by decide) (by decide) (by decide) (by decide)]; exact hs
        have e11 : T 11 = S 11 := hf 11 (by decide) (by decide) (by decide) (by decide)
        have e13 : T 13 q = nI (p q) := by rw [hC.1 13 (by decide)]; exact epq
        refine h_54_34 ⟨fun g => absurd g (nI_ge (b := 2) (by omega) (by omega)), fun _ => ⟨q, by omega, rfl, ?_⟩⟩
        rw [e13]
        refine k_38 hd (VS_fr5 hV hf) e8 (fun j' l' hj' hl' e1 e2 => ⟨_, rfl, ?_⟩) (fun h => absurd ⟨⟨p q, hpz, rfl⟩, l, by omega, rfl⟩ h)
        rw [← nI_inj (by omega) (by omega) e1, ← nI_inj (by omega) (by omega) e2, e11, nI_1]
        have hval : ∀ o, (if 0 < l + 1 ∧ S 11 (2 * p q) = nI o then 1 else 0) + (if 1 < l + 1 ∧ S 11 (2 * p q + 1) = nI o then 1 else 0) = (if 0 < l ∧ S 11 (2 * p q) = nI o then 1 else 0) + (if 1 < l ∧ S 11 (2 * p q + 1) = nI o then 1 else 0) + (if S 11 (2 * p q + l) = nI o then 1 else 0) := by
          intro o
          rcases (show l = 0 ∨ l = 1 by omega) with rfl | rfl
          · by_cases h1 : S 11 (2 * p q) = nI o <;> simp [h1]
          · by_cases h1 : S 11 (2 * p q) = nI o <;> by_cases h2 : S 11 (2 * p q + 1) = nI o <;> simp [h1, h2]
        refine k_31 (by omega) hz e8 (fun t ht et => ⟨_, rfl, fun h => absurd h (by decide), fun _ => ?_⟩) (fun hno => ⟨_, rfl, fun _ => ?_, fun h => absurd rfl h⟩)
        · refine ⟨t, by omega, et, t, by omega, et, ihk (l + 1) _ (by omega) ⟨fun c hc => by rw [us_ne hc]; exact hC.1 c hc, fun o ho => ?_⟩⟩
          show upd (T 24) t (T 24 t + 1) o = _
          by_cases e : o = t
          · rw [e, upd_s, hC.2 t (by omega), nI_1]
            congr 1
            have := hval t
            rw [if_pos et] at this
            omega
          · rw [upd_n e, hC.2 o ho]
            congr 1
            have := hval o
            rw [if_neg (show ¬ S 11 (2 * p q + l) = nI o from fun h => e (nI_inj (by omega) (by omega) (h.symm.trans et)))] at this
            omega
        · refine ihk (l + 1) T (by omega) ⟨hC.1, fun o ho => ?_⟩
          rw [hC.2 o ho]
          congr 1
          have := hval o
          by_cases e : S 11 (2 * p q + l) = nI o
          · exfalso
            by_cases hoz : o < z
            · exact hno ⟨o, hoz, e⟩
            · rcases (VI.lr hV (p q) l hpz (by omega)).1 with h | ⟨t, ht, et⟩
              · rw [h] at e
                exact nI_m1 (by omega) e.symm
              · have := nI_inj (by omega) (by omega) (e.symm.trans et)
                omega
          · rw [if_neg e] at this
            omega
    refine h_54_21 ⟨fun g => ?_, fun _ => inner 2 0 T (by omega) hC⟩
    rw [hC.1 12 (by decide), hm] at g
    exact absurd g (nI_ge hq' (by omega))
theorem k_54 (hd : 5 ≤ d) (hV : VS S z) (hs : S 8 4 = nI z) (hr : r < z) (h7 : S 21 7 = nI r) (h : ∀ T, fr5 S T → (∀ o, o < 24 → T 24 o = nI (ld z (S 11) r o)) → K T none) : CS xs d 54 S [.ref 21] K := by
  obtain ⟨d, rfl⟩ := cs_d (d := d) (by omega)
  have hz := VI.zb hV
  obtain ⟨d, rfl⟩ := cs_d (d := d) (by omega)
  refine c_54 (fl_cs (o := 24) (n := 24) rfl (by omega) rfl ⟨rfl, ?_⟩)
  have hA : fr5 S (uf S 24 (fl 24 0 (S 24))) := fun c q1 q2 q3 q4 => uf_ne q4
  have e7 : (uf S 24 (fl 24 0 (S 24))) 21 7 = nI r := h7
  rw [e7]
  refine k_41 (S := uf S 24 (fl 24 0 (S 24))) (z := z) (by omega) (VS_fr5 hV hA) hs (fun r' hr' er B m hE => ⟨rfl, ?_⟩) (fun hno => absurd ⟨r, hr, rfl⟩ hno)
  have hrr : r = r' := nI_inj (by omega) (by omega) er
  subst hrr
  obtain ⟨⟨b1, b2, b3, b4, b5, b6⟩, bE⟩ := hE
  have hm24 : m ≤ 24 := by rw [b3]; exact cn_le _ _
  have hB : fr5 S B := fun c q1 q2 q3 q4 => (b1 c q1 q2 q3).trans (uf_ne q4)
  have hp : ∀ a, a < m → (B 13 a).toNatClampNeg < z ∧ B 13 a = nI (B 13 a).toNatClampNeg := by
    intro a ha
    obtain ⟨t, ht, et, -⟩ := b4 a ha
    rw [et, nI_clamp (by omega)]
    exact ⟨ht, rfl⟩
  have bE11 : (uf S 24 (fl 24 0 (S 24))) 11 = S 11 := rfl
  rw [bE11] at b5 bE
  refine lp_54 (S := S) (B := B) (p := fun a => (B 13 a).toNatClampNeg) (by omega) hV hs hB b2 hm24 hp (fun T hC => h T (fun c q1 q2 q3 q4 => (hC.1 c q4).trans (hB c q1 q2 q3 q4)) (fun o ho => ?_)) m 0 B (by omega) ⟨fun _ _ => rfl, fun o ho => ?_⟩
  · rw [hC.2 o ho]
    congr 1
    rw [if_neg (fun h => absurd h.1 (by omega)), if_neg (fun h => absurd h.1 (by omega))]
    show sf (fun a => ll (S 11) (B 13 a).toNatClampNeg o) m = _
    refine sf_perm (g := fun k => ll (S 11) k o) (p := fun a => (B 13 a).toNatClampNeg) (X := fun k => k < z ∧ rc z (S 11) r k) (fun a ha => ?_) (fun a b ha hb e => ?_) (fun k hk => ?_)
    · have := (hp a ha).1
      omega
    · refine b6 a b ha hb ?_
      rw [(hp a ha).2, (hp b hb).2]
      exact congrArg nI e
    · constructor
      · rintro ⟨hkz, hrc⟩
        obtain ⟨-, -, a, ha, ea⟩ := b5 k hk ((bE k hkz).mp hrc)
        refine ⟨a, ha, ?_⟩
        show (B 13 a).toNatClampNeg = k
        rw [ea, nI_clamp (by omega)]
      · rintro ⟨a, ha, ea⟩
        obtain ⟨t, ht, et, hn⟩ := b4 a ha
        have : t = k := by
          have e2 : (B 13 a).toNatClampNeg = k := ea
          rw [et, nI_clamp (by omega)] at e2
          exact e2
        subst this
        exact ⟨ht, (bE t ht).mpr hn⟩
  · rw [b1 24 (by decide) (by decide) (by decide)]
    show fl 24 0 (S 24) o = _
    rw [show fl 24 0 (S 24) o = 0 from if_pos ho, if_neg (fun h => absurd h.1 (by omega)), if_neg (fun h => absurd h.1 (by omega))]
    rfl
/-! the reference -/
theorem k_107 {T : Sv} {o : Nat} (hd : 4 ≤ d) (hV : VR T z) (hs : T 31 6 = nI z) (ho : o < z) (hX : ∀ t, t < 24 → (¬ T 43 t = 0 ↔ t < z ∧ rc z (T 40) r t)) (h : K T (some (.int (nI (ld z (T 40) r o))))) : CS xs d 107 T [.ref 31, .int (nI o)] K := by
  obtain ⟨d, rfl⟩ := cs_d (d := d) (by omega)
  have hz := VI.zb hV
  have e0 : ld z (T 40) r o = sf (fun k => itN (k < z ∧ rc z (T 40) r k) (ll (T 40) k o) 0) z := by
    unfold ld
    exact sf_out hz (fun i h1 _ => itN_f (fun h2 => absurd h2.1 (by omega)))
  have outer : ∀ (n k : Nat), k + n = z → R_107_4 xs d K (nI o) (nI (sf (fun k => itN (k < z ∧ rc z (T 40) r k) (ll (T 40) k o) 0) k)) (nI k) T := by
    intro n
    induction n with
    | zero =>
      intro k hk
      have e : k = z := by omega
      subst e
      refine h_107_4 ⟨fun _ => by rw [e0] at h; exact h, fun g => absurd (by rw [hs]; exact nI_le (Nat.le_refl _) (by omega)) g⟩
    | succ n ih =>
      intro k hk
      have inner : ∀ (m l c : Nat), l + m = 2 → c = sf (fun k => itN (k < z ∧ rc z (T 40) r k) (ll (T 40) k o) 0) k + itN (k < z ∧ rc z (T 40) r k) ((if 0 < l ∧ T 40 (2 * k) = nI o then 1 else 0) + (if 1 < l ∧ T 40 (2 * k + 1) = nI o then 1 else 0)) 0 → R_107_15 xs d K (nI o) (nI c) (nI k) (nI l) T := by
        intro m
        induction m with
        | zero =>
          intro l c hl hc
          refine h_107_15 ⟨fun _ => ?_, fun g => absurd (nI_le (a := 2) (b := l) (by omega) (by omega)) g⟩
          rw [nI_1]
          have e2 : l = 2 := by omega
          subst e2
          have e3 : c = sf (fun k => itN (k < z ∧ rc z (T 40) r k) (ll (T 40) k o) 0) (k + 1) := by
            rw [hc]
            show _ = sf _ k + itN (k < z ∧ rc z (T 40) r k) (ll (T 40) k o) 0
            congr 1
            congr 1
            unfold ll
            by_cases h1 : T 40 (2 * k) = nI o <;> by_cases h2 : T 40 (2 * k + 1) = nI o <;> simp [h1, h2]
          rw [e3]
          exact ih (k + 1) (by omega)
        | succ m ihm =>
          intro l c hl hc
          refine h_107_15 ⟨fun g => absurd g (nI_ge (b := 2) (by omega) (by omega)), fun _ => ⟨k, by omega, rfl, fun g => ?_, fun g => ?_⟩⟩
          · have hno : ¬ (k < z ∧ rc z (T 40) r k) := fun h2 => (hX k (by omega)).mpr h2 g
            rw [show nI c + 0 = nI (c + 0) from nI_add c 0, nI_1]
            refine ihm (l + 1) (c + 0) (by omega) ?_
            rw [hc, itN_f hno, itN_f hno]
          · have hyes : k < z ∧ rc z (T 40) r k := (hX k (by omega)).mp g
            refine k_99 (by omega) hV hs (fun j' l' hj' hl' e1 e2 => ⟨_, rfl, ?_⟩) (fun h => absurd ⟨⟨k, hyes.1, rfl⟩, l, by omega, rfl⟩ h)
            rw [← nI_inj (by omega) (by omega) e1, ← nI_inj (by omega) (by omega) e2, show nI c + 0 = nI (c + 0) from nI_add c 0, nI_1, nI_1]
            rw [itN_t hyes] at hc
            have hval : (if 0 < l + 1 ∧ T 40 (2 * k) = nI o then 1 else 0) + (if 1 < l + 1 ∧ T 40 (2 * k + 1) = nI o then 1 else 0) = (if 0 < l ∧ T 40 (2 * k) = nI o then 1 else 0) + (if 1 < l ∧ T 40 (2 * k + 1) = nI o then 1 else 0) + (if T 40 (2 * k + l) = nI o then 1 else 0) := by
              rcases (show l = 0 ∨ l = 1 by omega) with rfl | rfl
              · by_cases h1 : T 40 (2 * k) = nI o <;> simp [h1]
              · by_cases h1 : T 40 (2 * k) = nI o <;> by_cases h2 : T 40 (2 * k + 1) = nI o <;> simp [h1, h2]
            refine ⟨fun hne => ihm (l + 1) (c + 0) (by omega) ?_, fun heq => ihm (l + 1) (c + 1) (by omega) ?_⟩
            · rw [itN_t hyes, hc]
              rw [if_neg hne] at hval
              omega
            · rw [itN_t hyes, hc]
              rw [if_pos (Classical.byContradiction heq)] at hval
              omega
      refine h_107_4 ⟨fun g => absurd g (by rw [hs]; exact nI_ge (by omega) (by omega)), fun _ => inner 2 0 _ (by omega) ?_⟩
      by_cases hp : k < z ∧ rc z (T 40) r k
      · rw [itN_t hp, if_neg (fun h => absurd h.1 (by omega)), if_neg (fun h => absurd h.1 (by omega))]
        rfl
      · rw [itN_f hp]
        rfl
  exact c_107 (outer z 0 (by omega))
end LE
