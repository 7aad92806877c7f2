/-! what can be reached: a set, by closed sets; counting -/
def eg (z : Nat) (lr : Nat → Int32) (j t : Nat) : Prop := j < z ∧ t < z ∧ ∃ l, l < 2 ∧ lr (2 * j + l) = nI t
def rc (z : Nat) (lr : Nat → Int32) (r t : Nat) : Prop := ∀ X : Nat → Prop, X r → (∀ j t, X j → eg z lr j t → X t) → X t
theorem rc_refl {z : Nat} {lr : Nat → Int32} {r : Nat} : rc z lr r r := fun _ h _ => h
theorem rc_step {z : Nat} {lr : Nat → Int32} {r j t : Nat} (h : rc z lr r j) (he : eg z lr j t) : rc z lr r t := fun X h0 hs => hs j t (h X h0 hs) he
theorem rc_lt {z : Nat} {lr : Nat → Int32} {r t : Nat} (h : rc z lr r t) (hr : r < z) : t < z := h (fun t => t < z) hr (fun _ _ _ he => he.2.1)
def cn (f : Nat → Int32) : Nat → Nat
  | 0 => 0
  | n + 1 => cn f n + (if f n = 0 then 0 else 1)
theorem cn_le (f : Nat → Int32) : ∀ n, cn f n ≤ n
  | 0 => Nat.le_refl _
  | n + 1 => by
    have := cn_le f n
    unfold cn
    split <;> omega
theorem cn_congr {f g : Nat → Int32} : ∀ {n : Nat}, (∀ i, i < n → (f i = 0 ↔ g i = 0)) → cn f n = cn g n
  | 0, _ => rfl
  | n + 1, h => by
    unfold cn
    rw [cn_congr (fun i hi => h i (by omega))]
    have := h n (by omega)
    by_cases h1 : f n = 0
    · rw [if_pos h1, if_pos (this.mp h1)]
    · rw [if_neg h1, if_neg (fun h2 => h1 (this.mpr h2))]
theorem cn_out {f : Nat → Int32} {t n : Nat} {v : Int32} (h : n ≤ t) : cn (upd f t v) n = cn f n := cn_congr (fun i hi => by rw [upd_n (by omega)])
theorem cn_add {f : Nat → Int32} {t : Nat} {v : Int32} (h0 : f t = 0) (hv : ¬ v = 0) : ∀ {n : Nat}, t < n → cn (upd f t v) n = cn f n + 1
  | 0, h => absurd h (by omega)
  | n + 1, h => by
    unfold cn
    by_cases e : t = n
    · subst e
      rw [cn_out (Nat.le_refl _), upd_s, if_neg hv, if_pos h0]
    · rw [cn_add h0 hv (show t < n by omega), upd_n (fun h => e h.symm)]
      omega
theorem cn_lt {f : Nat → Int32} {t n : Nat} (h : t < n) (h0 : f t = 0) : cn f n < n := by
  have h1 := cn_add (v := 1) h0 (by decide) h
  have h2 := cn_le (upd f t 1) n
  omega
theorem cn_zero {f : Nat → Int32} : ∀ {n : Nat}, (∀ i, i < n → f i = 0) → cn f n = 0
  | 0, _ => rfl
  | n + 1, h => by
    unfold cn
    rw [cn_zero (fun i hi => h i (by omega)), if_pos (h n (by omega))]
/-! the class's search -/
/-- T: the state in the search from r; S: where it began; m objects are found -/
def BI (S T : Sv) (z r m : Nat) : Prop :=
  (∀ c, c ≠ 12 → c ≠ 13 → c ≠ 14 → T c = S c) ∧ T 12 3 = nI m ∧ m = cn (T 14) 24 ∧ (∀ a, a < m → ∃ t, t < z ∧ T 13 a = nI t ∧ ¬ T 14 t = 0) ∧ (∀ t, t < 24 → ¬ T 14 t = 0 → t < z ∧ rc z (S 11) r t ∧ ∃ a, a < m ∧ T 13 a = nI t) ∧ (∀ a b, a < m → b < m → T 13 a = T 13 b → a = b)
theorem BI_add {S T : Sv} {z r m t : Nat} (hz : z ≤ 24) (h : BI S T z r m) (ht : t < z) (h0 : T 14 t = 0) (hr : rc z (S 11) r t) : BI S (us (us (us T 14 t 1) 13 m (nI t)) 12 3 (nI (m + 1))) z r (m + 1) := by
  obtain ⟨b1, b2, b3, b4, b5, b6⟩ := h
  have hm : m < 24 := by rw [b3]; exact cn_lt (by omega) h0
  refine ⟨fun c h1 h2 h3 => ?_, rfl, ?_, ?_, ?_, ?_⟩
  · rw [us_ne h1, us_ne h2, us_ne h3]
    exact b1 c h1 h2 h3
  · show m + 1 = cn (upd (T 14) t 1) 24
    rw [cn_add h0 (by decide) (by omega), ← b3]
  · intro a ha
    show ∃ t', t' < z ∧ upd (T 13) m (nI t) a = nI t' ∧ ¬ upd (T 14) t 1 t' = 0
    by_cases e : a = m
    · rw [e, upd_s]
      exact ⟨t, ht, rfl, by rw [upd_s]; decide⟩
    · rw [upd_n e]
      obtain ⟨t', q1, q2, q3⟩ := b4 a (by omega)
      refine ⟨t', q1, q2, ?_⟩
      by_cases e2 : t' = t
      · rw [e2, upd_s]; decide
      · rw [upd_n e2]; exact q3
  · intro t' ht' hn
    show t' < z ∧ rc z (S 11) r t' ∧ ∃ a, a < m + 1 ∧ upd (T 13) m (nI t) a = nI t'
    have hn : ¬ upd (T 14) t 1 t' = 0 := hn
    by_cases e : t' = t
    · rw [e]
      exact ⟨ht, hr, m, by omega, upd_s⟩
    · rw [upd_n e] at hn
      obtain ⟨q1, q2, a, q3, q4⟩ := b5 t' ht' hn
      exact ⟨q1, q2, a, by omega, by rw [upd_n (by omega)]; exact q4⟩
  · intro a b ha hb e
    have e : upd (T 13) m (nI t) a = upd (T 13) m (nI t) b := e
    have key : ∀ a, a < m → ¬ T 13 a = nI t := by
      intro a ha e2
      obtain ⟨t', q1, q2, q3⟩ := b4 a ha
      rw [nI_inj (by omega) (by omega) (e2.symm.trans q2)] at h0
      exact q3 h0
    by_cases e1 : a = m
    · by_cases e2 : b = m
      · omega
      · rw [e1, upd_s, upd_n e2] at e
        exact absurd e.symm (key b (by omega))
    · by_cases e2 : b = m
      · rw [e2, upd_s, upd_n e1] at e
        exact absurd e (key a (by omega))
      · rw [upd_n e1, upd_n e2] at e
        exact b6 a b (by omega) (by omega) e
/-- the first q found have been looked at -/
def CL (S T : Sv) (z q : Nat) : Prop := ∀ a, a < q → ∀ j l t, T 13 a = nI j → j < z → l < 2 → S 11 (2 * j + l) = nI t → t < z → ¬ T 14 t = 0
section RE
variable {xs : Nat × (Nat → Int32)} {d z r : Nat} {S : Sv} {K : Sv → Option Value → Prop}
theorem k_42 {T : Sv} {m : Nat} {o : Int32} (hd : 2 ≤ d) (hz : z ≤ 24) (hs : T 8 4 = nI z) (hm : T 12 3 = nI m) (hmb : ∀ t, t < z → T 14 t = 0 → m < 24) (h0 : (¬ isO z o ∨ ∃ t, t < z ∧ o = nI t ∧ ¬ T 14 t = 0) → K T none) (h1 : ∀ t, t < z → o = nI t → T 14 t = 0 → K (us (us (us T 14 t 1) 13 m (nI t)) 12 3 (nI (m + 1))) none) : CS xs d 42 T [.ref 12, .int o] K := by
  obtain ⟨d, rfl⟩ := cs_d (d := d) (by omega)
  refine c_42 (k_31 (by omega) hz hs (fun t ht e => ⟨_, rfl, fun h => absurd h (by decide), fun _ => ⟨t, by omega, e, fun g => h0 (Or.inr ⟨t, ht, e, g⟩), fun g => ?_⟩⟩) (fun h => ⟨_, rfl, fun _ => h0 (Or.inl h), fun h => absurd rfl h⟩))
  have g : T 14 t = 0 := Classical.byContradiction g
  refine ⟨t, by omega, e, m, hmb t ht g, hm, ?_⟩
  rw [hm, nI_1, e]
  exact h1 t ht e g
theorem VS_frame {T : Sv} (hV : VS S z) (hc : ∀ c, c ≠ 12 → c ≠ 13 → c ≠ 14 → T c = S c) : VS T z := by
  show VI (T 2) (T 3) (T 4) (T 5) (T 6) (T 7) z (T 9) (T 10) (T 11)
  rw [hc 2 (by decide) (by decide) (by decide), hc 3 (by decide) (by decide) (by decide), hc 4 (by decide) (by decide) (by decide), hc 5 (by decide) (by decide) (by decide), hc 6 (by decide) (by decide) (by decide), hc 7 (by decide) (by decide) (by decide), hc 9 (by decide) (by decide) (by decide), hc 10 (by decide) (by decide) (by decide), hc 11 (by decide) (by decide) (by decide)]
  exact hV
theorem lp_49 (hd : 3 ≤ d) (hV : VS S z) (hs : S 8 4 = nI z) {q : Nat} (hk : ∀ T m, q < m → BI S T z r m → ¬ T 14 r = 0 → CL S T z (q + 1) → R_41_33 xs d K (nI (q + 1)) T) : ∀ (n l : Nat) (T : Sv) (m : Nat), l + n = 2 → q < m → BI S T z r m → ¬ T 14 r = 0 → CL S T z q → (∀ j l' t, T 13 q = nI j → j < z → l' < l → S 11 (2 * j + l') = nI t → t < z → ¬ T 14 t = 0) → R_41_49 xs d K (nI q) (nI l) T := by
  have hz := VI.zb hV
  intro n
  induction n with
  | zero =>
    intro l T m hl hq hB hr0 hC hi
    refine h_41_49 ⟨fun _ => ?_, fun h => absurd (nI_le (a := 2) (b := l) (by omega) (by omega)) h⟩
    rw [nI_1]
    refine hk T m hq hB hr0 (fun a ha j l' t q1 q2 q3 q4 q5 => ?_)
    by_cases e : a = q
    · subst e
      exact hi j l' t q1 q2 (by omega) q4 q5
    · exact hC a (by omega) j l' t q1 q2 q3 q4 q5
  | succ n ih =>
    intro l T m hl hq hB hr0 hC hi
    have hB0 := hB
    obtain ⟨b1, b2, b3, b4, b5, b6⟩ := hB
    have hm : m ≤ 24 := by rw [b3]; exact cn_le _ _
    obtain ⟨j, hj, ej, hsj⟩ := b4 q hq
    have hVT := VS_frame hV b1
    have e8 : T 8 4 = nI z := by rw [b1 8 (by decide) (by decide) (by decide)]; exact hs
    have e11 : T 11 = S 11 := b1 11 (by decide) (by decide) (by decide)
    refine h_41_49 ⟨fun h => absurd h (nI_ge (b := 2) (by omega) (by omega)), fun _ => ⟨q, by omega, rfl, ?_⟩⟩
    rw [ej]
    refine k_38 hd hVT e8 (fun j' l' hj' hl' e1 e2 => ⟨_, rfl, ?_⟩) (fun h => absurd ⟨⟨j, hj, rfl⟩, l, by omega, rfl⟩ h)
    have hjj : j = j' := nI_inj (by omega) (by omega) e1
    have hll : l = l' := nI_inj (by omega) (by omega) e2
    subst hjj
    subst hll
    have hrj : rc z (S 11) r j := (b5 j (by omega) hsj).2.1
    refine k_42 (m := m) (by omega) hz e8 b2 (fun t ht h0 => by rw [b3]; exact cn_lt (by omega) h0) (fun h => ⟨rfl, ?_⟩) (fun t ht et h0 => ⟨rfl, ?_⟩)
    · rw [nI_1]
      refine ih (l + 1) T m (by omega) hq hB0 hr0 hC (fun j2 l2 t q1 q2 q3 q4 q5 => ?_)
      have hjj : j = j2 := nI_inj (by omega) (by omega) (ej.symm.trans q1)
      subst hjj
      by_cases e : l2 = l
      · subst e
        rw [e11, q4] at h
        rcases h with h | ⟨t', ht', et', hn⟩
        · exact absurd ⟨t, q5, rfl⟩ h
        · rw [nI_inj (by omega) (by omega) et']
          exact hn
      · exact hi j l2 t ej q2 (by omega) q4 q5
    · rw [nI_1]
      rw [e11] at et
      have hrt : rc z (S 11) r t := rc_step hrj ⟨hj, ht, l, hl', et⟩
      have hmono : ∀ t', ¬ T 14 t' = 0 → ¬ upd (T 14) t 1 t' = 0 := by
        intro t' h
        by_cases e : t' = t
        · rw [e, upd_s]; decide
        · rw [upd_n e]; exact h
      have hord : ∀ a, a < m → upd (T 13) m (nI t) a = T 13 a := fun a ha => upd_n (by omega)
      refine ih (l + 1) _ (m + 1) (by omega) (by omega) (BI_add hz hB0 ht h0 hrt) (hmono r hr0) (fun a ha j2 l2 t2 q1 q2 q3 q4 q5 => ?_) (fun j2 l2 t2 q1 q2 q3 q4 q5 => ?_)
      · have q1 : upd (T 13) m (nI t) a = nI j2 := q1
        rw [hord a (by omega)] at q1
        exact hmono t2 (hC a ha j2 l2 t2 q1 q2 q3 q4 q5)
      · have q1 : upd (T 13) m (nI t) q = nI j2 := q1
        rw [hord q hq] at q1
        have hjj : j = j2 := nI_inj (by omega) (by omega) (ej.symm.trans q1)
        subst hjj
        show ¬ upd (T 14) t 1 t2 = 0
        by_cases e : l2 = l
        · subst e
          rw [nI_inj (by omega) (by omega) (q4.symm.trans et), upd_s]
          decide
        · exact hmono t2 (hi j l2 t2 ej q2 (by omega) q4 q5)
/-- behind the search -/
def BE (S T : Sv) (z r m : Nat) : Prop := BI S T z r m ∧ ∀ t, t < z → (rc z (S 11) r t ↔ ¬ T 14 t = 0)
theorem lp_33 (hd : 3 ≤ d) (hV : VS S z) (hs : S 8 4 = nI z) (hr : r < z) (hk : ∀ T m, BE S T z r m → K T none) : ∀ (n q : Nat) (T : Sv) (m : Nat), q + n = 24 → q ≤ m → BI S T z r m → ¬ T 14 r = 0 → CL S T z q → R_41_33 xs d K (nI q) T := by
  have hz := VI.zb hV
  have fin : ∀ T m, BI S T z r m → ¬ T 14 r = 0 → CL S T z m → K T none := by
    intro T m hB h0 hC
    refine hk T m ⟨hB, fun t ht => ⟨fun h => ?_, fun h => (hB.2.2.2.2.1 t (by omega) h).2.1⟩⟩
    have h2 := h (fun t => t < z ∧ ¬ T 14 t = 0) ⟨hr, h0⟩ (fun j t hj he => ?_)
    · exact h2.2
    · obtain ⟨hj1, hj2⟩ := hj
      obtain ⟨he1, he2, l, hl, hlt⟩ := he
      obtain ⟨-, -, a, ha, ea⟩ := hB.2.2.2.2.1 j (by omega) hj2
      exact ⟨he2, hC a ha j l t ea hj1 hl hlt he2⟩
  intro n
  induction n with
  | zero =>
    intro q T m hq hqm hB h0 hC
    have hm : m ≤ 24 := by rw [hB.2.2.1]; exact cn_le _ _
    have e : q = m := by omega
    subst e
    exact h_41_33 ⟨fun _ => fin T q hB h0 hC, fun h => absurd (nI_le (a := 24) (b := q) (by omega) (by omega)) h⟩
  | succ n ih =>
    intro q T m hq hqm hB h0 hC
    have hm : m ≤ 24 := by rw [hB.2.2.1]; exact cn_le _ _
    refine h_41_33 ⟨fun h => absurd h (nI_ge (b := 24) (by omega) (by omega)), fun _ => ⟨fun h => ?_, fun h => ?_⟩⟩
    · rw [hB.2.1] at h
      have : m ≤ q := (nI_leI (by omega) (by omega)).mp h
      have e : q = m := by omega
      subst e
      exact fin T q hB h0 hC
    · rw [hB.2.1] at h
      have hlt : q < m := by
        rcases Nat.lt_or_ge q m with h2 | h2
        · exact h2
        · exact absurd (nI_le h2 (by omega)) h
      refine lp_49 (r := r) (q := q) hd hV hs (fun T' m' hq' hB' h0' hC' => ?_) 2 0 T m (by omega) hlt hB h0 hC (fun j l' t _ _ h => absurd h (by omega))
      exact ih (q + 1) T' m' (by omega) (by omega) hB' h0' hC'
theorem lp_2 {o : Int32} (hk : ∀ T, (∀ c, c ≠ 12 → c ≠ 13 → c ≠ 14 → T c = S c) → (∀ i, i < 24 → T 14 i = 0) → CS xs d 42 (us T 12 3 0) [.ref 12, .int o] (fun S1 v1 => v1 = none ∧ (R_41_33 xs d K 0 S1))) : ∀ (n q : Nat) (T : Sv), q + n = 24 → (∀ c, c ≠ 12 → c ≠ 13 → c ≠ 14 → T c = S c) → (∀ i, i < q → T 14 i = 0) → R_41_2 xs d K o (nI q) T := by
  intro n
  induction n with
  | zero =>
    intro q T hq hf h0
    exact h_41_2 ⟨fun _ => hk T hf (fun i hi => h0 i (by omega)), fun h => absurd (nI_le (a := 24) (b := q) (by omega) (by omega)) h⟩
  | succ n ih =>
    intro q T hq hf h0
    refine h_41_2 ⟨fun h => absurd h (nI_ge (b := 24) (by omega) (by omega)), fun _ => ⟨q, by omega, rfl, ?_⟩⟩
    rw [nI_1]
    refine ih (q + 1) _ (by omega) (fun c h1 h2 h3 => by rw [us_ne h3]; exact hf c h1 h2 h3) (fun i hi => ?_)
    show upd (T 14) q 0 i = 0
    by_cases e : i = q
    · rw [e, upd_s]
    · rw [upd_n e]; exact h0 i (by omega)
theorem k_41 {o : Int32} (hd : 4 ≤ d) (hV : VS S z) (hs : S 8 4 = nI z) (h1 : ∀ r, r < z → o = nI r → ∀ T m, BE S T z r m → K T none) (h0 : ¬ isO z o → ∀ T, (∀ c, c ≠ 12 → c ≠ 13 → c ≠ 14 → T c = S c) → T 12 3 = 0 → K T none) : CS xs d 41 S [.ref 12, .int o] K := by
  obtain ⟨d, rfl⟩ := cs_d (d := d) (by omega)
  have hz := VI.zb hV
  refine c_41 (lp_2 (S := S) (fun T hf hT => ?_) 24 0 S (by omega) (fun _ _ _ _ => rfl) (fun i hi => absurd hi (by omega)))
  have e8 : T 8 4 = nI z := by rw [hf 8 (by decide) (by decide) (by decide)]; exact hs
  have hcn : cn (T 14) 24 = 0 := cn_zero hT
  refine k_42 (m := 0) (by omega) hz e8 rfl (fun _ _ _ => by omega) (fun h => ⟨rfl, ?_⟩) (fun t ht et h => ⟨rfl, ?_⟩)
  · rcases h with h | ⟨t, ht, et, hn⟩
    · refine h_41_33 ⟨fun h => absurd h (by decide), fun _ => ⟨fun _ => h0 h _ (fun c q1 q2 q3 => by rw [us_ne q1]; exact hf c q1 q2 q3) rfl, fun h => absurd (show (0 : Int32) ≤ 0 by decide) h⟩⟩
    · exact absurd (hT t (by omega)) hn
  · have hB : BI S (us T 12 3 0) z t 0 := ⟨fun c q1 q2 q3 => by rw [us_ne q1]; exact hf c q1 q2 q3, rfl, hcn.symm, fun a ha => absurd ha (by omega), fun t ht hn => absurd (hT t ht) hn, fun a b ha => absurd ha (by omega)⟩
    refine lp_33 (S := S) (r := t) (by omega) hV hs ht (fun T' m' hE => h1 t ht et T' m' hE) 24 0 _ 1 (by omega) (by omega) (BI_add hz hB ht h rc_refl) ?_ (fun a ha => absurd ha (by omega))
    show ¬ upd (T 14) t 1 t = 0
    rw [upd_s]
    decide
end RE
