/-! alike: a pairing, as a relation; what an algorithm's pairs say of it -/
def sm (kr nr : Nat → Int32) (j t : Nat) : Prop := kr j = kr t ∧ ∀ i, i < 3 → nr (3 * j + i) = nr (3 * t + i)
def PW (z : Nat) (kr nr lr : Nat → Int32) (a b : Nat) (P : Nat → Nat → Prop) : Prop :=
  P a b ∧ (∀ j t, P j t → j < z ∧ t < z ∧ sm kr nr j t) ∧ (∀ j x y, P j x → P j y → x = y) ∧ (∀ x y t, P x t → P y t → x = y) ∧ (∀ j t l, P j t → l < 2 → (lr (2 * j + l) = -1 ∧ lr (2 * t + l) = -1) ∨ ∃ u u', lr (2 * j + l) = nI u ∧ lr (2 * t + l) = nI u' ∧ P u u')
def AL (z : Nat) (kr nr lr : Nat → Int32) (a b : Nat) : Prop := ∃ P, PW z kr nr lr a b P
def PB (z : Nat) (pr bk : Nat → Int32) : Prop := (∀ j, j < 24 → ¬ pr j = -1 → j < z ∧ ∃ t, t < z ∧ pr j = nI t ∧ bk t = nI j) ∧ (∀ t, t < 24 → ¬ bk t = -1 → t < z ∧ ∃ j, j < z ∧ bk t = nI j ∧ pr j = nI t)
def FP (z : Nat) (kr nr lr : Nat → Int32) (a b j t : Nat) : Prop := ∀ P, PW z kr nr lr a b P → P j t
def PS (z : Nat) (kr nr lr : Nat → Int32) (a b : Nat) (pr : Nat → Int32) : Prop := ∀ j t, j < z → t < z → pr j = nI t → FP z kr nr lr a b j t
def LM (z : Nat) (lr pr : Nat → Int32) (j t l : Nat) : Prop := (lr (2 * j + l) = -1 ∧ lr (2 * t + l) = -1) ∨ ∃ u u', u < z ∧ u' < z ∧ lr (2 * j + l) = nI u ∧ lr (2 * t + l) = nI u' ∧ pr u = nI u'
theorem nI_m1 {t : Nat} (h : t < 2 ^ 31) : ¬ nI t = -1 := by
  intro e
  have h1 := nI_toInt h
  rw [e, show (-1 : Int32).toInt = -1 from by decide] at h1
  omega
theorem AL_of {z : Nat} {kr nr lr pr bk : Nat → Int32} {a b : Nat} (hz : z ≤ 24) (hB : PB z pr bk) (ha : a < z) (hb : b < z) (hab : pr a = nI b) (h : ∀ j t, j < z → t < z → pr j = nI t → sm kr nr j t ∧ ∀ l, l < 2 → LM z lr pr j t l) : AL z kr nr lr a b := by
  refine ⟨fun j t => j < z ∧ t < z ∧ pr j = nI t, ⟨ha, hb, hab⟩, fun j t hjt => ⟨hjt.1, hjt.2.1, (h j t hjt.1 hjt.2.1 hjt.2.2).1⟩, fun j x y h1 h2 => nI_inj (by omega) (by omega) (h1.2.2.symm.trans h2.2.2), fun x y t h1 h2 => ?_, fun j t l hjt hl => ?_⟩
  · obtain ⟨-, t1, q1, q2, q3⟩ := hB.1 x (by omega) (by rw [h1.2.2]; exact nI_m1 (by omega))
    obtain ⟨-, t2, q4, q5, q6⟩ := hB.1 y (by omega) (by rw [h2.2.2]; exact nI_m1 (by omega))
    have e1 : t1 = t := nI_inj (by omega) (by omega) (q2.symm.trans h1.2.2)
    have e2 : t2 = t := nI_inj (by omega) (by omega) (q5.symm.trans h2.2.2)
    rw [e1] at q3
    rw [e2] at q6
    exact nI_inj (by omega) (by omega) (q3.symm.trans q6)
  · rcases (h j t hjt.1 hjt.2.1 hjt.2.2).2 l hl with q | ⟨u, u', q1, q2, q3, q4, q5⟩
    · exact Or.inl q
    · exact Or.inr ⟨u, u', q3, q4, q1, q2, q5⟩
theorem PB_add {z : Nat} {pr bk : Nat → Int32} {j t : Nat} (hz : z ≤ 24) (h : PB z pr bk) (hj : j < z) (ht : t < z) (h1 : pr j = -1) (h2 : bk t = -1) : PB z (upd pr j (nI t)) (upd bk t (nI j)) := by
  refine ⟨fun i hi hn => ?_, fun i hi hn => ?_⟩
  · by_cases e : i = j
    · rw [e, upd_s]
      exact ⟨hj, t, ht, rfl, upd_s⟩
    · rw [upd_n e] at hn ⊢
      obtain ⟨q0, u, q1, q2, q3⟩ := h.1 i hi hn
      refine ⟨q0, u, q1, q2, ?_⟩
      rw [upd_n]
      · exact q3
      · rintro rfl
        rw [h2] at q3
        exact nI_m1 (by omega) q3.symm
  · by_cases e : i = t
    · rw [e, upd_s]
      exact ⟨ht, j, hj, rfl, upd_s⟩
    · rw [upd_n e] at hn ⊢
      obtain ⟨q0, u, q1, q2, q3⟩ := h.2 i hi hn
      refine ⟨q0, u, q1, q2, ?_⟩
      rw [upd_n]
      · exact q3
      · rintro rfl
        rw [h1] at q3
        exact nI_m1 (by omega) q3.symm
theorem PS_add {z : Nat} {kr nr lr pr : Nat → Int32} {a b j t : Nat} (hz : z ≤ 24) (h : PS z kr nr lr a b pr) (ht : t < z) (hf : FP z kr nr lr a b j t) : PS z kr nr lr a b (upd pr j (nI t)) := by
  intro i u hi hu e
  by_cases e1 : i = j
  · rw [e1, upd_s] at e
    rw [e1, ← nI_inj (by omega) (by omega) e]
    exact hf
  · rw [upd_n e1] at e
    exact h i u hi hu e
theorem no_AL {z : Nat} {kr nr lr pr bk : Nat → Int32} {a b j t : Nat} (hz : z ≤ 24) (hB : PB z pr bk) (hS : PS z kr nr lr a b pr) (hj : j < z) (ht : t < z) (hf : FP z kr nr lr a b j t) (hne : ¬ pr j = nI t) (h : ¬ pr j = -1 ∨ ¬ bk t = -1) : ¬ AL z kr nr lr a b := by
  rintro ⟨P, hP⟩
  have hjt := hf P hP
  rcases h with h | h
  · obtain ⟨-, u, q1, q2, q3⟩ := hB.1 j (by omega) h
    have hju := hS j u hj q1 q2 P hP
    rw [hP.2.2.1 j t u hjt hju] at hne
    exact hne q2
  · obtain ⟨-, u, q1, q2, q3⟩ := hB.2 t (by omega) h
    have hut := hS u t q1 ht q3 P hP
    rw [hP.2.2.2.1 j u t hjt hut] at hne
    exact hne q3
theorem no_sm {z : Nat} {kr nr lr : Nat → Int32} {a b j t : Nat} (hf : FP z kr nr lr a b j t) (h : ¬ sm kr nr j t) : ¬ AL z kr nr lr a b := fun ⟨P, hP⟩ => h (hP.2.1 j t (hf P hP)).2.2
/-- what a forced pair's links force -/
theorem link_FP {z : Nat} {kr nr lr : Nat → Int32} {a b j t l u u' : Nat} (hz : z ≤ 24) (hf : FP z kr nr lr a b j t) (hl : l < 2) (h1 : lr (2 * j + l) = nI u) (h2 : lr (2 * t + l) = nI u') (hu : u < z) (hu' : u' < z) : FP z kr nr lr a b u u' := by
  intro P hP
  rcases hP.2.2.2.2 j t l (hf P hP) hl with ⟨q, -⟩ | ⟨v, v', q1, q2, q3⟩
  · rw [h1] at q
    exact absurd q (nI_m1 (by omega))
  · have hv := hP.2.1 v v' q3
    rw [nI_inj (by omega) (by omega) (h1.symm.trans q1), nI_inj (by omega) (by omega) (h2.symm.trans q2)]
    exact q3
theorem link_no {z : Nat} {kr nr lr : Nat → Int32} {a b j t l : Nat} (hz : z ≤ 24) (hf : FP z kr nr lr a b j t) (hl : l < 2) (h : (lr (2 * j + l) = -1 ∧ ¬ lr (2 * t + l) = -1) ∨ (¬ lr (2 * j + l) = -1 ∧ lr (2 * t + l) = -1)) : ¬ AL z kr nr lr a b := by
  rintro ⟨P, hP⟩
  rcases hP.2.2.2.2 j t l (hf P hP) hl with ⟨q1, q2⟩ | ⟨v, v', q1, q2, q3⟩
  · rcases h with h | h
    · exact h.2 q2
    · exact h.1 q1
  · have hv := hP.2.1 v v' q3
    rcases h with h | h
    · rw [h.1] at q1
      exact nI_m1 (by omega) q1.symm
    · rw [h.2] at q2
      exact nI_m1 (by omega) q2.symm
theorem cn_m1 {f : Nat → Int32} {j t n : Nat} (h0 : f j = -1) (ht : t < 1000) (hj : j < n) : cn (fun i => upd f j (nI t) i + 1) n = cn (fun i => f i + 1) n + 1 := by
  have e : (fun i => upd f j (nI t) i + 1) = upd (fun i => f i + 1) j (nI t + 1) := by
    funext i
    by_cases e : i = j
    · rw [e, upd_s, upd_s]
    · rw [upd_n e, upd_n e]
  rw [e]
  refine cn_add ?_ ?_ hj
  · show f j + 1 = 0
    rw [h0]
    decide
  · rw [nI_1]
    exact nI_ne0 (by omega) (by omega)
theorem p1_0 {x : Int32} : x + 1 = 0 ↔ x = -1 := by
  constructor
  · intro h
    have h2 := congrArg (fun y => y - 1) h
    simpa using h2
  · intro h
    rw [h]
    decide
