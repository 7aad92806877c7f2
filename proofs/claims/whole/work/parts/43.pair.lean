/-! the class's pairing -/
abbrev fr4 (S T : Sv) : Prop := ∀ c, c ≠ 15 → c ≠ 16 → c ≠ 17 → c ≠ 18 → T c = S c
def AC (S T : Sv) (z a b m : Nat) : Prop :=
  fr4 S T ∧ T 15 4 = nI m ∧ m = cn (fun i => T 17 i + 1) 24 ∧ (∀ x, x < m → ∃ j, j < z ∧ T 16 x = nI j ∧ ¬ T 17 j = -1) ∧ (∀ j, j < z → ¬ T 17 j = -1 → ∃ x, x < m ∧ T 16 x = nI j) ∧ PB z (T 17) (T 18) ∧ PS z (S 9) (S 10) (S 11) a b (T 17) ∧ (∀ j t, j < z → t < z → T 17 j = nI t → sm (S 9) (S 10) j t)
def EX (T T' : Sv) (m m' : Nat) : Prop := m ≤ m' ∧ (∀ j, ¬ T 17 j = -1 → T' 17 j = T 17 j) ∧ ∀ x, x < m → T' 16 x = T 16 x
theorem EX.rf {T : Sv} {m : Nat} : EX T T m m := ⟨Nat.le_refl _, fun _ _ => rfl, fun _ _ => rfl⟩
theorem EX.tr {T T' T'' : Sv} {m m' m'' : Nat} (h1 : EX T T' m m') (h2 : EX T' T'' m' m'') : EX T T'' m m'' :=
  ⟨Nat.le_trans h1.1 h2.1, fun j hj => (h2.2.1 j (by rw [h1.2.1 j hj]; exact hj)).trans (h1.2.1 j hj), fun x hx => (h2.2.2 x (Nat.lt_of_lt_of_le hx h1.1)).trans (h1.2.2 x hx)⟩
theorem EX.lm {T T' : Sv} {m m' z j t l : Nat} {lr : Nat → Int32} (hz : z ≤ 24) (h : EX T T' m m') (hl : LM z lr (T 17) j t l) : LM z lr (T' 17) j t l := by
  rcases hl with h1 | ⟨u, u', q1, q2, q3, q4, q5⟩
  · exact Or.inl h1
  · exact Or.inr ⟨u, u', q1, q2, q3, q4, (h.2.1 u (by rw [q5]; exact nI_m1 (by omega))).trans q5⟩
def acS (T : Sv) (m j t : Nat) : Sv := us (us (us (us T 17 j (nI t)) 18 t (nI j)) 16 m (nI j)) 15 4 (nI (m + 1))
theorem AC_add {S T : Sv} {z a b m j t : Nat} (hz : z ≤ 24) (h : AC S T z a b m) (hj : j < z) (ht : t < z) (h1 : T 17 j = -1) (h2 : T 18 t = -1) (hs : sm (S 9) (S 10) j t) (hf : FP z (S 9) (S 10) (S 11) a b j t) : AC S (acS T m j t) z a b (m + 1) ∧ EX T (acS T m j t) m (m + 1) := by
  obtain ⟨b1, b2, b3, b4, b5, b6, b7, b8⟩ := h
  refine ⟨⟨fun c q1 q2 q3 q4 => ?_, rfl, ?_, ?_, ?_, ?_, ?_, ?_⟩, Nat.le_succ m, fun i hi => ?_, fun x hx => ?_⟩
  · unfold acS
    rw [us_ne q1, us_ne q2, us_ne q4, us_ne q3]
    exact b1 c q1 q2 q3 q4
  · show m + 1 = cn (fun i => upd (T 17) j (nI t) i + 1) 24
    rw [cn_m1 h1 (by omega) (by omega), ← b3]
  · intro x hx
    show ∃ i, i < z ∧ upd (T 16) m (nI j) x = nI i ∧ ¬ upd (T 17) j (nI t) i = -1
    by_cases e : x = m
    · rw [e, upd_s]
      exact ⟨j, hj, rfl, by rw [upd_s]; exact nI_m1 (by omega)⟩
    · rw [upd_n e]
      obtain ⟨i, q1, q2, q3⟩ := b4 x (by omega)
      refine ⟨i, q1, q2, ?_⟩
      by_cases e2 : i = j
      · rw [e2, upd_s]; exact nI_m1 (by omega)
      · rw [upd_n e2]; exact q3
  · intro i hi hn
    show ∃ x, x < m + 1 ∧ upd (T 16) m (nI j) x = nI i
    have hn : ¬ upd (T 17) j (nI t) i = -1 := hn
    by_cases e : i = j
    · exact ⟨m, by omega, by rw [upd_s, e]⟩
    · rw [upd_n e] at hn
      obtain ⟨x, q1, q2⟩ := b5 i hi hn
      exact ⟨x, by omega, by rw [upd_n (by omega)]; exact q2⟩
  · exact PB_add hz b6 hj ht h1 h2
  · exact PS_add hz b7 ht hf
  · intro i u hi hu e
    have e : upd (T 17) j (nI t) i = nI u := e
    by_cases e1 : i = j
    · rw [e1, upd_s] at e
      rw [e1, ← nI_inj (by omega) (by omega) e]
      exact hs
    · rw [upd_n e1] at e
      exact b8 i u hi hu e
  · show upd (T 17) j (nI t) i = T 17 i
    exact upd_n (fun e => hi (by rw [e]; exact h1))
  · show upd (T 16) m (nI j) x = T 16 x
    exact upd_n (by omega)
section PA
variable {xs : Nat × (Nat → Int32)} {d z a b : Nat} {S : Sv} {K : Sv → Option Value → Prop}
theorem k_39 {j t : Nat} (hd : 4 ≤ d) (hV : VS S z) (hs : S 8 4 = nI z) (hj : j < z) (ht : t < z) (h1 : sm (S 9) (S 10) j t → K S (some (.int 1))) (h0 : ¬ sm (S 9) (S 10) j t → K S (some (.int 0))) : CS xs d 39 S [.ref 8, .int (nI j), .int (nI t)] K := by
  obtain ⟨d, rfl⟩ := cs_d (d := d) (by omega)
  have hz := VI.zb hV
  have loop : S 9 j = S 9 t → ∀ (n i : Nat), i + n = 3 → (∀ i', i' < i → S 10 (3 * j + i') = S 10 (3 * t + i')) → R_39_17 xs d K (nI j) (nI t) (nI i) S := by
    intro hk n
    induction n with
    | zero =>
      intro i hi he
      exact h_39_17 ⟨fun _ => h1 ⟨hk, fun i' hi' => he i' (by omega)⟩, fun h => absurd (nI_le (a := 3) (b := i) (by omega) (by omega)) h⟩
    | succ n ih =>
      intro i hi he
      refine h_39_17 ⟨fun h => absurd h (nI_ge (b := 3) (by omega) (by omega)), fun _ => ?_⟩
      refine k_37 (by omega) hV hs (fun j' i' hj' hi' e1 e2 => ⟨_, rfl, ?_⟩) (fun h => absurd ⟨⟨j, hj, rfl⟩, i, by omega, rfl⟩ h)
      refine k_37 (by omega) hV hs (fun t' i2 ht' hi2 e3 e4 => ⟨_, rfl, ?_⟩) (fun h => absurd ⟨⟨t, ht, rfl⟩, i, by omega, rfl⟩ h)
      rw [← nI_inj (by omega) (by omega) e1, ← nI_inj (by omega) (by omega) e2, ← nI_inj (by omega) (by omega) e3, ← nI_inj (by omega) (by omega) e4]
      refine ⟨fun heq => ?_, fun hne => h0 (fun h => hne (h.2 i (by omega)))⟩
      rw [nI_1]
      refine ih (i + 1) (by omega) (fun i' hi' => ?_)
      by_cases e : i' = i
      · rw [e]; exact heq
      · exact he i' (by omega)
  refine c_39 (k_34 (by omega) hz hs (fun j' hj' e1 => ⟨_, rfl, ?_⟩) (fun h => absurd ⟨j, hj, rfl⟩ h))
  refine k_34 (by omega) hz hs (fun t' ht' e2 => ⟨_, rfl, ?_⟩) (fun h => absurd ⟨t, ht, rfl⟩ h)
  rw [← nI_inj (by omega) (by omega) e1, ← nI_inj (by omega) (by omega) e2]
  exact ⟨fun hk => loop hk 3 0 (by omega) (fun _ h => absurd h (by omega)), fun hne => h0 (fun h => hne h.1)⟩
theorem VS_fr4 {T : Sv} (hV : VS S z) (hc : fr4 S T) : VS T z := by
  show VI (T 2) (T 3) (T 4) (T 5) (T 6) (T 7) z (T 9) (T 10) (T 11)
  rw [hc 2 (by decide) (by decide) (by decide) (by decide), hc 3 (by decide) (by decide) (by decide) (by decide), hc 4 (by decide) (by decide) (by decide) (by decide), hc 5 (by decide) (by decide) (by decide) (by decide), hc 6 (by decide) (by decide) (by decide) (by decide), hc 7 (by decide) (by decide) (by decide) (by decide), hc 9 (by decide) (by decide) (by decide) (by decide), hc 10 (by decide) (by decide) (by decide) (by decide), hc 11 (by decide) (by decide) (by decide) (by decide)]
  exact hV
theorem k_47 {T : Sv} {j t m : Nat} (hd : 5 ≤ d) (hV : VS S z) (hs : S 8 4 = nI z) (hA : AC S T z a b m) (hj : j < z) (ht : t < z) (hf : FP z (S 9) (S 10) (S 11) a b j t) (h1 : ∀ T' m', AC S T' z a b m' → EX T T' m m' → T' 17 j = nI t → K T' (some (.int 1))) (h0 : ¬ AL z (S 9) (S 10) (S 11) a b → K T (some (.int 0))) : CS xs d 47 T [.ref 15, .int (nI j), .int (nI t)] K := by
  obtain ⟨d, rfl⟩ := cs_d (d := d) (by omega)
  have hz := VI.zb hV
  have hA0 := hA
  obtain ⟨b1, b2, b3, b4, b5, b6, b7, b8⟩ := hA
  have e8 : T 8 4 = nI z := by rw [b1 8 (by decide) (by decide) (by decide) (by decide)]; exact hs
  have e9 : T 9 = S 9 := b1 9 (by decide) (by decide) (by decide) (by decide)
  have e10 : T 10 = S 10 := b1 10 (by decide) (by decide) (by decide) (by decide)
  refine c_47 ⟨j, by omega, rfl, fun g => ⟨j, by omega, rfl, fun h => h0 (no_AL hz b6 b7 hj ht hf h (Or.inl g)), fun h => h1 T m hA0 EX.rf (Classical.byContradiction h)⟩, fun g => ⟨t, by omega, rfl, fun g2 => ?_, fun g2 => ⟨j, by omega, rfl, fun h => h0 (no_AL hz b6 b7 hj ht hf h (Or.inr g2)), fun h => h1 T m hA0 EX.rf (Classical.byContradiction h)⟩⟩⟩
  have g : T 17 j = -1 := Classical.byContradiction g
  refine k_39 (by omega) (VS_fr4 hV b1) e8 hj ht (fun hsm => ⟨_, rfl, fun _ => ?_, fun h => absurd (by decide) h⟩) (fun hsm => ⟨_, rfl, fun h => absurd rfl h, fun _ => h0 ?_⟩)
  · rw [e9, e10] at hsm
    obtain ⟨hA', hX'⟩ := AC_add hz hA0 hj ht g g2 hsm hf
    have hm : m < 24 := by
      rw [b3]
      exact cn_lt (t := j) (by omega) (by show T 17 j + 1 = 0; rw [g]; decide)
    refine ⟨j, by omega, rfl, t, by omega, rfl, m, hm, b2, ?_⟩
    rw [b2, nI_1]
    exact h1 _ (m + 1) hA' hX' (show upd (T 17) j (nI t) j = nI t from upd_s)
  · rw [e9, e10] at hsm
    exact no_sm hf hsm
theorem k_46 {T : Sv} {j t l m : Nat} (hd : 6 ≤ d) (hV : VS S z) (hs : S 8 4 = nI z) (hA : AC S T z a b m) (hj : j < z) (ht : t < z) (hl : l < 2) (hjt : T 17 j = nI t) (h1 : ∀ T' m', AC S T' z a b m' → EX T T' m m' → LM z (S 11) (T' 17) j t l → K T' (some (.int 1))) (h0 : ¬ AL z (S 9) (S 10) (S 11) a b → K T (some (.int 0))) : CS xs d 46 T [.ref 15, .int (S 11 (2 * j + l)), .int (S 11 (2 * t + l))] K := by
  obtain ⟨d, rfl⟩ := cs_d (d := d) (by omega)
  have hz := VI.zb hV
  have hA0 := hA
  obtain ⟨b1, b2, b3, b4, b5, b6, b7, b8⟩ := hA
  have e8 : T 8 4 = nI z := by rw [b1 8 (by decide) (by decide) (by decide) (by decide)]; exact hs
  have hf : FP z (S 9) (S 10) (S 11) a b j t := b7 j t hj ht hjt
  have nO : ∀ x, (S 11 x = -1) → ¬ isO z (S 11 x) := by
    rintro x hx ⟨u, hu, e⟩
    rw [hx] at e
    exact nI_m1 (by omega) e.symm
  rcases (VI.lr hV j l hj hl).1 with ej | ⟨u, hu, eu⟩
  · refine c_46 (k_31 (by omega) hz e8 (fun u hu e => absurd ⟨u, hu, e⟩ (nO _ ej)) (fun _ => ⟨_, rfl, fun _ => ⟨fun hne => h0 (link_no hz hf hl (Or.inl ⟨ej, fun et => hne (ej.trans et.symm)⟩)), fun heq => h1 T m hA0 EX.rf (Or.inl ⟨ej, (Classical.byContradiction heq : _ = _).symm.trans ej⟩)⟩, fun h => absurd rfl h⟩))
  · refine c_46 (k_31 (by omega) hz e8 (fun u2 hu2 e => ⟨_, rfl, fun h => absurd h (by decide), fun _ => ?_⟩) (fun h => absurd ⟨u, hu, eu⟩ h))
    rcases (VI.lr hV t l ht hl).1 with et | ⟨v, hv, ev⟩
    · refine k_31 (by omega) hz e8 (fun u2 hu2 e => absurd ⟨u2, hu2, e⟩ (nO _ et)) (fun _ => ⟨_, rfl, fun h => absurd rfl h, fun _ => ⟨fun hne => h0 (link_no hz hf hl (Or.inr ⟨by rw [eu]; exact nI_m1 (by omega), et⟩)), fun heq => ?_⟩⟩)
      have heq : S 11 (2 * j + l) = S 11 (2 * t + l) := Classical.byContradiction heq
      rw [eu, et] at heq
      exact absurd heq (nI_m1 (by omega))
    · refine k_31 (by omega) hz e8 (fun u2 hu2 e => ⟨_, rfl, fun _ => ?_, fun h => absurd (by decide) h⟩) (fun h => absurd ⟨v, hv, ev⟩ h)
      rw [eu, ev]
      refine k_47 (by omega) hV hs hA0 hu hv (link_FP hz hf hl eu ev hu hv) (fun T' m' hA' hX' e => ⟨_, rfl, Or.inr rfl, h1 T' m' hA' hX' (Or.inr ⟨u, v, hu, hv, eu, ev, e⟩)⟩) (fun h => ⟨_, rfl, Or.inl rfl, h0 h⟩)
theorem k_45 {T : Sv} {j t m : Nat} (hd : 7 ≤ d) (hV : VS S z) (hs : S 8 4 = nI z) (hA : AC S T z a b m) (hj : j < z) (ht : t < z) (hjt : T 17 j = nI t) (h1 : ∀ T' m', AC S T' z a b m' → EX T T' m m' → (∀ l, l < 2 → LM z (S 11) (T' 17) j t l) → K T' (some (.int 1))) (h0 : ∀ T', fr4 S T' → ¬ AL z (S 9) (S 10) (S 11) a b → K T' (some (.int 0))) : CS xs d 45 T [.ref 15, .int (nI j), .int (nI t)] K := by
  obtain ⟨d, rfl⟩ := cs_d (d := d) (by omega)
  have hz := VI.zb hV
  have loop : ∀ (n l : Nat) (T' : Sv) (m' : Nat), l + n = 2 → AC S T' z a b m' → EX T T' m m' → (∀ l', l' < l → LM z (S 11) (T' 17) j t l') → R_45_2 xs d K (nI j) (nI t) (nI l) T' := by
    intro n
    induction n with
    | zero =>
      intro l T' m' hl hA' hX' hL
      exact h_45_2 ⟨fun _ => h1 T' m' hA' hX' (fun l' hl' => hL l' (by omega)), fun h => absurd (nI_le (a := 2) (b := l) (by omega) (by omega)) h⟩
    | succ n ih =>
      intro l T' m' hl hA' hX' hL
      have e8 : T' 8 4 = nI z := by rw [hA'.1 8 (by decide) (by decide) (by decide) (by decide)]; exact hs
      have e11 : T' 11 = S 11 := hA'.1 11 (by decide) (by decide) (by decide) (by decide)
      have hV' := VS_fr4 hV hA'.1
      refine h_45_2 ⟨fun h => absurd h (nI_ge (b := 2) (by omega) (by omega)), fun _ => ?_⟩
      refine k_38 (by omega) hV' e8 (fun j' l' hj' hl' e1 e2 => ⟨_, rfl, ?_⟩) (fun h => absurd ⟨⟨j, hj, rfl⟩, l, by omega, rfl⟩ h)
      refine k_38 (by omega) hV' e8 (fun t' l2 ht' hl2 e3 e4 => ⟨_, rfl, ?_⟩) (fun h => absurd ⟨⟨t, ht, rfl⟩, l, by omega, rfl⟩ h)
      rw [← nI_inj (by omega) (by omega) e1, ← nI_inj (by omega) (by omega) e2, ← nI_inj (by omega) (by omega) e3, ← nI_inj (by omega) (by omega) e4, e11]
      have hjt' : T' 17 j = nI t := (hX'.2.1 j (by rw [hjt]; exact nI_m1 (by omega))).trans hjt
      refine k_46 (by omega) hV hs hA' hj ht (by omega) hjt' (fun T2 m2 hA2 hX2 hL2 => ⟨_, rfl, fun _ => ?_, fun h => absurd (by decide) h⟩) (fun h => ⟨_, rfl, fun h => absurd rfl h, fun _ => h0 T' hA'.1 h⟩)
      rw [nI_1]
      refine ih (l + 1) T2 m2 (by omega) hA2 (hX'.tr hX2) (fun l' hl' => ?_)
      by_cases e : l' = l
      · rw [e]; exact hL2
      · exact hX2.lm hz (hL l' (by omega))
  exact c_45 (loop 2 0 T m (by omega) hA EX.rf (fun _ h => absurd h (by omega)))
theorem lp_58 (hd : 7 ≤ d) (hV : VS S z) (hs : S 8 4 = nI z) (ha : a < z) (hb : b < z) (h1 : ∀ T, fr4 S T → AL z (S 9) (S 10) (S 11) a b → K T (some (.int 1))) (h0 : ∀ T, fr4 S T → ¬ AL z (S 9) (S 10) (S 11) a b → K T (some (.int 0))) : ∀ (n q : Nat) (T : Sv) (m : Nat), q + n = 24 → q ≤ m → AC S T z a b m → T 17 a = nI b → (∀ x j t, x < q → T 16 x = nI j → j < z → t < z → T 17 j = nI t → ∀ l, l < 2 → LM z (S 11) (T 17) j t l) → R_44_58 xs d K (nI q) T := by
  have hz := VI.zb hV
  have fin : ∀ (T : Sv) (m : Nat), AC S T z a b m → T 17 a = nI b → (∀ x j t, x < m → T 16 x = nI j → j < z → t < z → T 17 j = nI t → ∀ l, l < 2 → LM z (S 11) (T 17) j t l) → K T (some (.int 1)) := by
    intro T m hA hab hL
    refine h1 T hA.1 (AL_of hz hA.2.2.2.2.2.1 ha hb hab (fun j t hj ht e => ⟨hA.2.2.2.2.2.2.2 j t hj ht e, ?_⟩))
    obtain ⟨x, hx, ex⟩ := hA.2.2.2.2.1 j hj (by rw [e]; exact nI_m1 (by omega))
    exact hL x j t hx ex hj ht e
  intro n
  induction n with
  | zero =>
    intro q T m hq hqm hA hab hL
    have hm : m ≤ 24 := by rw [hA.2.2.1]; exact cn_le _ _
    have e : q = m := by omega
    subst e
    exact h_44_58 ⟨fun _ => fin T q hA hab hL, fun h => absurd (nI_le (a := 24) (b := q) (by omega) (by omega)) h⟩
  | succ n ih =>
    intro q T m hq hqm hA hab hL
    have hm : m ≤ 24 := by rw [hA.2.2.1]; exact cn_le _ _
    refine h_44_58 ⟨fun h => absurd h (nI_ge (b := 24) (by omega) (by omega)), fun _ => ⟨fun h => ?_, fun h => ?_⟩⟩
    · rw [hA.2.1] at h
      have : m ≤ q := (nI_leI (by omega) (by omega)).mp h
      have e : q = m := by omega
      subst e
      exact fin T q hA hab hL
    · rw [hA.2.1] at h
      have hlt : q < m := by
        rcases Nat.lt_or_ge q m with h2 | h2
        · exact h2
        · exact absurd (nI_le h2 (by omega)) h
      obtain ⟨j, hj, ej, hn⟩ := hA.2.2.2.1 q hlt
      obtain ⟨-, t, ht, et, -⟩ := hA.2.2.2.2.2.1.1 j (by omega) hn
      refine ⟨q, by omega, rfl, j, by omega, ej, ?_⟩
      rw [ej, et]
      refine k_45 hd hV hs hA hj ht et (fun T' m' hA' hX' hL' => ⟨_, rfl, fun _ => ?_, fun h => absurd (by decide) h⟩) (fun T' hf h => ⟨_, rfl, fun h => absurd rfl h, fun _ => h0 T' hf h⟩)
      rw [nI_1]
      refine ih (q + 1) T' m' (by omega) (Nat.le_trans hlt hX'.1) hA' ((hX'.2.1 a (by rw [hab]; exact nI_m1 (by omega))).trans hab) (fun x j2 t2 hx ex hj2 ht2 e2 => ?_)
      rw [hX'.2.2 x (by omega)] at ex
      by_cases e : x = q
      · rw [e] at ex
        have hjj : j = j2 := nI_inj (by omega) (by omega) (ej.symm.trans ex)
        subst hjj
        rw [hX'.2.1 j hn] at e2
        have htt : t = t2 := nI_inj (by omega) (by omega) (et.symm.trans e2)
        subst htt
        exact hL'
      · obtain ⟨j3, hj3, ej3, hn3⟩ := hA.2.2.2.1 x (by omega)
        have hjj : j3 = j2 := nI_inj (by omega) (by omega) (ej3.symm.trans ex)
        subst hjj
        rw [hX'.2.1 j3 hn3] at e2
        intro l hl
        exact hX'.lm hz (hL x j3 t2 (by omega) ex hj2 ht2 e2 l hl)
theorem k_44 {x y : Int32} (hd : 8 ≤ d) (hV : VS S z) (hs : S 8 4 = nI z) (h1 : ∀ a b, a < z → b < z → x = nI a → y = nI b → AL z (S 9) (S 10) (S 11) a b → ∀ T, fr4 S T → K T (some (.int 1))) (h0 : ¬ (∃ a b, a < z ∧ b < z ∧ x = nI a ∧ y = nI b ∧ AL z (S 9) (S 10) (S 11) a b) → ∀ T, fr4 S T → K T (some (.int 0))) : CS xs d 44 S [.ref 15, .int x, .int y] K := by
  obtain ⟨d, rfl⟩ := cs_d (d := d) (by omega)
  have hz := VI.zb hV
  refine c_44 (k_31 (by omega) hz hs (fun a ha ea => ⟨_, rfl, fun h => absurd h (by decide), fun _ => ?_⟩) (fun h => ⟨_, rfl, fun _ => h0 (fun ⟨a, b, q1, q2, q3, _⟩ => h ⟨a, q1, q3⟩) S (fun _ _ _ _ _ => rfl), fun h => absurd rfl h⟩))
  refine k_31 (by omega) hz hs (fun b hb eb => ⟨_, rfl, fun _ => ?_, fun h => absurd (by decide) h⟩) (fun h => ⟨_, rfl, fun h => absurd rfl h, fun _ => h0 (fun ⟨a, b, q1, q2, q3, q4, _⟩ => h ⟨b, q2, q4⟩) S (fun _ _ _ _ _ => rfl)⟩)
  subst ea
  subst eb
  obtain ⟨d, rfl⟩ := cs_d (d := d) (by omega)
  refine fl_cs (o := 17) (n := 24) rfl (by omega) rfl ⟨rfl, fl_cs (o := 18) (n := 24) rfl (by omega) rfl ⟨rfl, ?_⟩⟩
  have f17 : ∀ i, i < 24 → (us (uf (uf S 17 (fl 24 (-1) (S 17))) 18 (fl 24 (-1) (S 18))) 15 4 0) 17 i = -1 := fun i hi => if_pos hi
  have f18 : ∀ i, i < 24 → (us (uf (uf S 17 (fl 24 (-1) (S 17))) 18 (fl 24 (-1) (S 18))) 15 4 0) 18 i = -1 := fun i hi => if_pos hi
  have hA : AC S (us (uf (uf S 17 (fl 24 (-1) (S 17))) 18 (fl 24 (-1) (S 18))) 15 4 0) z a b 0 := by
    refine ⟨fun c q1 q2 q3 q4 => by rw [us_ne q1, uf_ne q4, uf_ne q3], rfl, ?_, fun x hx => absurd hx (by omega), fun j hj hn => absurd (f17 j (by omega)) hn, ⟨fun j hj hn => absurd (f17 j hj) hn, fun j hj hn => absurd (f18 j hj) hn⟩, fun j t hj ht e => ?_, fun j t hj ht e => ?_⟩
    · exact (cn_zero (fun i hi => by show (us (uf (uf S 17 (fl 24 (-1) (S 17))) 18 (fl 24 (-1) (S 18))) 15 4 0) 17 i + 1 = 0; rw [f17 i hi]; decide)).symm
    · rw [f17 j (by omega)] at e
      exact absurd e.symm (nI_m1 (by omega))
    · rw [f17 j (by omega)] at e
      exact absurd e.symm (nI_m1 (by omega))
  have hno : ¬ AL z (S 9) (S 10) (S 11) a b → ¬ (∃ a' b', a' < z ∧ b' < z ∧ nI a = nI a' ∧ nI b = nI b' ∧ AL z (S 9) (S 10) (S 11) a' b') := by
    rintro h ⟨a', b', q1, q2, q3, q4, q5⟩
    rw [← nI_inj (by omega) (by omega) q3, ← nI_inj (by omega) (by omega) q4] at q5
    exact h q5
  refine k_47 (by omega) hV hs hA ha hb (fun P hP => hP.1) (fun T' m' hA' hX' e => ⟨_, rfl, fun _ => ?_, fun h => absurd (by decide) h⟩) (fun h => ⟨_, rfl, fun h => absurd rfl h, fun _ => h0 (hno h) _ hA.1⟩)
  exact lp_58 (S := S) (by omega) hV hs ha hb (fun T hf hAL => h1 a b ha hb rfl rfl hAL T hf) (fun T hf h => h0 (hno h) T hf) 24 0 T' m' (by omega) (by omega) hA' e (fun x j t hx => absurd hx (by omega))
end PA
