/-! the reference's pairing -/
abbrev fr2 (S T : Sv) : Prop := ∀ c, c ≠ 44 → c ≠ 45 → T c = S c
def AD (S T : Sv) (z a b n : Nat) : Prop := fr2 S T ∧ n = cn (fun i => T 44 i + 1) 24 ∧ PB z (T 44) (T 45) ∧ PS z (S 38) (S 39) (S 40) a b (T 44)
abbrev AR (S : Sv) (z a b : Nat) : Prop := AL z (S 38) (S 39) (S 40) a b
def CLs (S T : Sv) (z : Nat) : Prop := ∀ j t, j < z → t < z → T 44 j = nI t → sm (S 38) (S 39) j t ∧ ∀ l, l < 2 → LM z (S 40) (T 44) j t l
def SP (S T : Sv) (z k : Nat) : Prop := ∀ j t, j < k → j < z → t < z → T 44 j = nI t → sm (S 38) (S 39) j t ∧ ∀ l, l < 2 → LM z (S 40) (T 44) j t l
def EY (T T' : Sv) : Prop := ∀ j, ¬ T 44 j = -1 → T' 44 j = T 44 j
theorem AD_add {S T : Sv} {z a b n j t : Nat} (hz : z ≤ 24) (h : AD S T z a b n) (hj : j < z) (ht : t < z) (h1 : T 44 j = -1) (h2 : T 45 t = -1) (hf : FP z (S 38) (S 39) (S 40) a b j t) : AD S (us (us T 44 j (nI t)) 45 t (nI j)) z a b (n + 1) ∧ EY T (us (us T 44 j (nI t)) 45 t (nI j)) := by
  obtain ⟨b1, b2, b3, b4⟩ := h
  refine ⟨⟨fun c q1 q2 => by rw [us_ne q2, us_ne q1]; exact b1 c q1 q2, ?_, PB_add hz b3 hj ht h1 h2, PS_add hz b4 ht hf⟩, fun i hi => ?_⟩
  · show n + 1 = cn (fun i => upd (T 44) j (nI t) i + 1) 24
    rw [cn_m1 h1 (by omega) (by omega), ← b2]
  · show upd (T 44) j (nI t) i = T 44 i
    exact upd_n (fun e => hi (by rw [e]; exact h1))
theorem EY.lm {T T' : Sv} {z j t l : Nat} {lr : Nat → Int32} (hz : z ≤ 24) (h : EY T T') (hl : LM z lr (T 44) j t l) : LM z lr (T' 44) j t l := by
  rcases hl with h1 | ⟨u, u', q1, q2, q3, q4, q5⟩
  · exact Or.inl h1
  · exact Or.inr ⟨u, u', q1, q2, q3, q4, (h u (by rw [q5]; exact nI_m1 (by omega))).trans q5⟩
section PR
variable {xs : Nat × (Nat → Int32)} {d z a b : Nat} {S : Sv} {K : Sv → Option Value → Prop}
theorem VR_fr2 {T : Sv} (hV : VR S z) (hc : fr2 S T) : VR T z := by
  show VI (T 32) (T 33) (T 34) (T 35) (T 36) (T 37) z (T 38) (T 39) (T 40)
  rw [hc 32 (by decide) (by decide), hc 33 (by decide) (by decide), hc 34 (by decide) (by decide), hc 35 (by decide) (by decide), hc 36 (by decide) (by decide), hc 37 (by decide) (by decide), hc 38 (by decide) (by decide), hc 39 (by decide) (by decide), hc 40 (by decide) (by decide)]
  exact hV
theorem k_102 {T : Sv} {j t n : Nat} (hd : 1 ≤ d) (hz : z ≤ 24) (hA : AD S T z a b n) (hj : j < z) (ht : t < z) (hf : FP z (S 38) (S 39) (S 40) a b j t) (h1 : ∀ T' n', AD S T' z a b n' → EY T T' → T' 44 j = nI t → ((T' = T ∧ n' = n) ∨ (n + 1 ≤ n' ∧ ¬ T 44 j = nI t)) → K T' (some (.int 1))) (h0 : ¬ AR S z a b → K T (some (.int 0))) : CS xs d 102 T [.ref 31, .int (nI j), .int (nI t)] K := by
  obtain ⟨d, rfl⟩ := cs_d hd
  have hA0 := hA
  obtain ⟨b1, b2, b3, b4⟩ := hA
  have r41 : (¬ T 44 j = -1 ∨ ¬ T 45 t = -1) → R_102_41 xs d K (nI j) (nI t) T := by
    intro hor
    refine h_102_41 ⟨j, by omega, rfl, fun hne => h0 (no_AL hz b3 b4 hj ht hf hne hor), fun heq => ?_⟩
    have heq : T 44 j = nI t := Classical.byContradiction heq
    obtain ⟨-, u, q1, q2, q3⟩ := b3.1 j (by omega) (by rw [heq]; exact nI_m1 (by omega))
    rw [nI_inj (by omega) (by omega) (q2.symm.trans heq)] at q3
    exact ⟨t, by omega, rfl, fun hne => absurd q3 hne, fun _ => h1 T n hA0 (fun _ _ => rfl) heq (Or.inl ⟨rfl, rfl⟩)⟩
  refine c_102 ⟨fun h => absurd h (nI_m1 (by omega)), fun _ => ⟨fun _ => ⟨j, by omega, rfl, fun g => r41 (Or.inl g), fun g => ⟨t, by omega, rfl, fun g2 => ⟨j, by omega, rfl, t, by omega, rfl, ?_⟩, fun g2 => r41 (Or.inr g2)⟩⟩, fun h => absurd (nI_m1 (by omega)) h⟩⟩
  have g : T 44 j = -1 := Classical.byContradiction g
  obtain ⟨hA', hX'⟩ := AD_add hz hA0 hj ht g g2 hf
  refine h1 _ (n + 1) hA' hX' (show upd (T 44) j (nI t) j = nI t from upd_s) (Or.inr ⟨by omega, ?_⟩)
  rw [g]
  exact fun e => nI_m1 (by omega) e.symm
theorem k_102l {T : Sv} {j t l n : Nat} (hd : 1 ≤ d) (hV : VR S z) (hA : AD S T z a b n) (hj : j < z) (ht : t < z) (hl : l < 2) (hjt : T 44 j = nI t) (h1 : ∀ T' n', AD S T' z a b n' → EY T T' → LM z (S 40) (T' 44) j t l → ((T' = T ∧ n' = n) ∨ (n + 1 ≤ n' ∧ ¬ LM z (S 40) (T 44) j t l)) → K T' (some (.int 1))) (h0 : ¬ AR S z a b → K T (some (.int 0))) : CS xs d 102 T [.ref 31, .int (S 40 (2 * j + l)), .int (S 40 (2 * t + l))] K := by
  have hz := VI.zb hV
  have hf : FP z (S 38) (S 39) (S 40) a b j t := hA.2.2.2 j t hj ht hjt
  rcases (VI.lr hV j l hj hl).1 with ej | ⟨u, hu, eu⟩
  · obtain ⟨d, rfl⟩ := cs_d hd
    exact c_102 ⟨fun _ => ⟨fun hne => h0 (link_no hz hf hl (Or.inl ⟨ej, fun et => hne (ej.trans et.symm)⟩)), fun heq => h1 T n hA (fun _ _ => rfl) (Or.inl ⟨ej, (Classical.byContradiction heq : _ = _).symm.trans ej⟩) (Or.inl ⟨rfl, rfl⟩)⟩, fun h => absurd ej h⟩
  · rcases (VI.lr hV t l ht hl).1 with et | ⟨v, hv, ev⟩
    · obtain ⟨d, rfl⟩ := cs_d hd
      refine c_102 ⟨fun h => absurd h (by rw [eu]; exact nI_m1 (by omega)), fun _ => ⟨fun h => absurd et h, fun _ => ⟨fun hne => h0 (link_no hz hf hl (Or.inr ⟨by rw [eu]; exact nI_m1 (by omega), et⟩)), fun heq => ?_⟩⟩⟩
      have heq : S 40 (2 * j + l) = S 40 (2 * t + l) := Classical.byContradiction heq
      rw [eu, et] at heq
      exact absurd heq (nI_m1 (by omega))
    · rw [eu, ev]
      refine k_102 hd hz hA hu hv (link_FP hz hf hl eu ev hu hv) (fun T' n' hA' hX' e hor => h1 T' n' hA' hX' (Or.inr ⟨u, v, hu, hv, eu, ev, e⟩) ?_) h0
      rcases hor with h | ⟨q1, q2⟩
      · exact Or.inl h
      · refine Or.inr ⟨q1, ?_⟩
        rintro (⟨q3, -⟩ | ⟨u2, v2, q3, q4, q5, q6, q7⟩)
        · rw [eu] at q3
          exact nI_m1 (by omega) q3
        · rw [← nI_inj (by omega) (by omega) (eu.symm.trans q5), ← nI_inj (by omega) (by omega) (ev.symm.trans q6)] at q7
          exact q2 q7
theorem k_103 {j t : Nat} (hd : 4 ≤ d) (hV : VR S z) (hs : S 31 6 = nI z) (hj : j < z) (ht : t < z) (h1 : sm (S 38) (S 39) j t → K S (some (.int 1))) (h0 : ¬ sm (S 38) (S 39) j t → K S (some (.int 0))) : CS xs d 103 S [.ref 31, .int (nI j), .int (nI t)] K := by
  obtain ⟨d, rfl⟩ := cs_d (d := d) (by omega)
  have hz := VI.zb hV
  have loop0 : ¬ sm (S 38) (S 39) j t → ∀ (n i : Nat), i + n = 3 → R_103_24 xs d K (nI j) (nI t) 0 (nI i) S := by
    intro hno n
    induction n with
    | zero =>
      intro i hi
      exact h_103_24 ⟨fun _ => ⟨Or.inl rfl, h0 hno⟩, fun h => absurd (nI_le (a := 3) (b := i) (by omega) (by omega)) h⟩
    | succ n ih =>
      intro i hi
      refine h_103_24 ⟨fun h => absurd h (nI_ge (b := 3) (by omega) (by omega)), fun _ => ⟨fun _ => ?_, fun h => absurd rfl h⟩⟩
      rw [nI_1]
      exact ih (i + 1) (by omega)
  have loop1 : S 38 j = S 38 t → ∀ (n i : Nat), i + n = 3 → (∀ i', i' < i → S 39 (3 * j + i') = S 39 (3 * t + i')) → R_103_24 xs d K (nI j) (nI t) 1 (nI i) S := by
    intro hk n
    induction n with
    | zero =>
      intro i hi he
      exact h_103_24 ⟨fun _ => ⟨Or.inr rfl, h1 ⟨hk, fun i' hi' => he i' (by omega)⟩⟩, fun h => absurd (nI_le (a := 3) (b := i) (by omega) (by omega)) h⟩
    | succ n ih =>
      intro i hi he
      refine h_103_24 ⟨fun h => absurd h (nI_ge (b := 3) (by omega) (by omega)), fun _ => ⟨fun h => absurd h (by decide), fun _ => ?_⟩⟩
      refine k_98 (by omega) hV hs (fun j' i' hj' hi' e1 e2 => ⟨_, rfl, ?_⟩) (fun h => absurd ⟨⟨j, hj, rfl⟩, i, by omega, rfl⟩ h)
      refine k_98 (by omega) hV hs (fun t' i2 ht' hi2 e3 e4 => ⟨_, rfl, ?_⟩) (fun h => absurd ⟨⟨t, ht, rfl⟩, i, by omega, rfl⟩ h)
      rw [← nI_inj (by omega) (by omega) e1, ← nI_inj (by omega) (by omega) e2, ← nI_inj (by omega) (by omega) e3, ← nI_inj (by omega) (by omega) e4, nI_1]
      refine ⟨fun hne => loop0 (fun h => hne (h.2 i (by omega))) n (i + 1) (by omega), fun heq => ih (i + 1) (by omega) (fun i' hi' => ?_)⟩
      by_cases e : i' = i
      · rw [e]; exact Classical.byContradiction heq
      · exact he i' (by omega)
  exact c_103 ⟨j, by omega, rfl, t, by omega, rfl, fun hne => loop0 (fun h => hne h.1) 3 0 (by omega), fun heq => loop1 (Classical.byContradiction heq) 3 0 (by omega) (fun _ h => absurd h (by omega))⟩
/-- good or not good any more, as the reference's flag says -/
def GQ (S T : Sv) (z a b n q k : Nat) : Prop := AD S T z a b n ∧ T 44 a = nI b ∧ (CLs S T z ∨ q + 2 ≤ n ∨ (q + 1 ≤ n ∧ SP S T z k))
theorem lp_114 (hd : 4 ≤ d) (hV : VR S z) (hs : S 31 6 = nI z) (hb : b < z) {q k t : Nat} (hk : k < z) (ht : t < z) (h1 : ∀ T n, GQ S T z a b n q (k + 1) → R_104_70 xs d K 1 (nI q) (nI (k + 1)) T) (h0 : ∀ T, fr2 S T → ¬ AR S z a b → R_104_70 xs d K 0 (nI q) (nI (k + 1)) T) : ∀ (m l : Nat) (T : Sv) (n : Nat), l + m = 2 → AD S T z a b n → T 44 a = nI b → T 44 k = nI t → (CLs S T z ∨ q + 2 ≤ n ∨ (q + 1 ≤ n ∧ SP S T z k ∧ sm (S 38) (S 39) k t ∧ ∀ l', l' < l → LM z (S 40) (T 44) k t l')) → R_104_114 xs d K 1 (nI q) (nI k) (nI l) T := by
  have hz := VI.zb hV
  intro m
  induction m with
  | zero =>
    intro l T n hl hA hab hkt hC
    refine h_104_114 ⟨fun _ => ?_, fun h => absurd (nI_le (a := 2) (b := l) (by omega) (by omega)) h⟩
    rw [nI_1]
    refine h1 T n ⟨hA, hab, ?_⟩
    rcases hC with h | h | ⟨q1, q2, q3, q4⟩
    · exact Or.inl h
    · exact Or.inr (Or.inl h)
    · refine Or.inr (Or.inr ⟨q1, fun j u hj hjz hu e => ?_⟩)
      by_cases e2 : j = k
      · rw [e2] at e ⊢
        rw [← nI_inj (by omega) (by omega) (hkt.symm.trans e)]
        exact ⟨q3, fun l' hl' => q4 l' (by omega)⟩
      · exact q2 j u (by omega) hjz hu e
  | succ m ih =>
    intro l T n hl hA hab hkt hC
    have e6 : T 31 6 = nI z := by rw [hA.1 31 (by decide) (by decide)]; exact hs
    have e40 : T 40 = S 40 := hA.1 40 (by decide) (by decide)
    have hV' := VR_fr2 hV hA.1
    refine h_104_114 ⟨fun h => absurd h (nI_ge (b := 2) (by omega) (by omega)), fun _ => ⟨fun h => absurd h (by decide), fun _ => ?_⟩⟩
    refine k_99 (by omega) hV' e6 (fun j' l' hj' hl' e1 e2 => ⟨_, rfl, k, by omega, rfl, ?_⟩) (fun h => absurd ⟨⟨k, hk, rfl⟩, l, by omega, rfl⟩ h)
    rw [hkt]
    refine k_99 (by omega) hV' e6 (fun t' l2 ht' hl2 e3 e4 => ⟨_, rfl, ?_⟩) (fun h => absurd ⟨⟨t, ht, rfl⟩, l, by omega, rfl⟩ h)
    rw [← nI_inj (by omega) (by omega) e1, ← nI_inj (by omega) (by omega) e2, ← nI_inj (by omega) (by omega) e3, ← nI_inj (by omega) (by omega) e4, e40, nI_1]
    refine k_102l (by omega) hV hA hk ht (by omega) hkt (fun T' n' hA' hX' hL' hor => ⟨_, rfl, ?_⟩) (fun h => ⟨_, rfl, ?_⟩)
    · refine ih (l + 1) T' n' (by omega) hA' ((hX' a (by rw [hab]; exact nI_m1 (by omega))).trans hab) ((hX' k (by rw [hkt]; exact nI_m1 (by omega))).trans hkt) ?_
      rcases hor with ⟨rfl, rfl⟩ | ⟨hn, hnl⟩
      · rcases hC with h | h | ⟨q1, q2, q3, q4⟩
        · exact Or.inl h
        · exact Or.inr (Or.inl h)
        · refine Or.inr (Or.inr ⟨q1, q2, q3, fun l' hl' => ?_⟩)
          by_cases e : l' = l
          · rw [e]; exact hL'
          · exact q4 l' (by omega)
      · rcases hC with h | h | ⟨q1, -⟩
        · exact absurd ((h k t hk ht hkt).2 l (by omega)) hnl
        · exact Or.inr (Or.inl (by omega))
        · exact Or.inr (Or.inl (by omega))
    · refine h_104_114 ⟨fun _ => ?_, fun _ => ⟨fun _ => ?_, fun h => absurd rfl h⟩⟩
      · rw [nI_1]; exact h0 T hA.1 h
      · rw [nI_1]; exact h0 T hA.1 h
theorem lp_70 (hd : 5 ≤ d) (hV : VR S z) (hs : S 31 6 = nI z) (hb : b < z) {q : Nat} (h1 : ∀ T n, AD S T z a b n → T 44 a = nI b → CLs S T z ∨ q + 2 ≤ n → R_104_56 xs d K 1 (nI (q + 1)) T) (h0 : ∀ T, fr2 S T → ¬ AR S z a b → R_104_56 xs d K 0 (nI (q + 1)) T) : ∀ (m k : Nat), k + m = z → (∀ T n, GQ S T z a b n q k → R_104_70 xs d K 1 (nI q) (nI k) T) ∧ (∀ T, fr2 S T → ¬ AR S z a b → R_104_70 xs d K 0 (nI q) (nI k) T) := by
  have hz := VI.zb hV
  intro m
  induction m with
  | zero =>
    intro k hkm
    refine ⟨fun T n hG => ?_, fun T hf hno => ?_⟩
    · obtain ⟨hA, hab, hC⟩ := hG
      have e6 : T 31 6 = nI z := by rw [hA.1 31 (by decide) (by decide)]; exact hs
      refine h_104_70 ⟨fun _ => ?_, fun h => absurd (by rw [e6]; exact nI_le (by omega) (by omega)) h⟩
      rw [nI_1]
      refine h1 T n hA hab ?_
      rcases hC with h | h | ⟨q1, q2⟩
      · exact Or.inl h
      · exact Or.inr h
      · exact Or.inl (fun j t hj ht e => q2 j t (by omega) hj ht e)
    · have e6 : T 31 6 = nI z := by rw [hf 31 (by decide) (by decide)]; exact hs
      refine h_104_70 ⟨fun _ => ?_, fun h => absurd (by rw [e6]; exact nI_le (by omega) (by omega)) h⟩
      rw [nI_1]
      exact h0 T hf hno
  | succ m ih =>
    intro k hkm
    obtain ⟨ih1, ih0⟩ := ih (k + 1) (by omega)
    refine ⟨fun T n hG => ?_, fun T hf hno => ?_⟩
    · have hG0 := hG
      obtain ⟨hA, hab, hC⟩ := hG
      have e6 : T 31 6 = nI z := by rw [hA.1 31 (by decide) (by decide)]; exact hs
      have e38 : T 38 = S 38 := hA.1 38 (by decide) (by decide)
      have e39 : T 39 = S 39 := hA.1 39 (by decide) (by decide)
      refine h_104_70 ⟨fun h => absurd h (by rw [e6]; exact nI_ge (by omega) (by omega)), fun _ => ⟨k, by omega, rfl, fun g => ?_, fun g => ⟨fun _ => ⟨k, by omega, rfl, ?_⟩, fun h => absurd (by decide) h⟩⟩⟩
      · rw [nI_1]
        refine ih1 T n ⟨hA, hab, ?_⟩
        rcases hC with h | h | ⟨q1, q2⟩
        · exact Or.inl h
        · exact Or.inr (Or.inl h)
        · refine Or.inr (Or.inr ⟨q1, fun j t hj hjz ht e => ?_⟩)
          by_cases e2 : j = k
          · rw [e2, g] at e
            exact absurd e.symm (nI_m1 (by omega))
          · exact q2 j t (by omega) hjz ht e
      · obtain ⟨-, t, ht, et, -⟩ := hA.2.2.1.1 k (by omega) g
        rw [et]
        refine k_103 (by omega) (VR_fr2 hV hA.1) e6 (by omega) ht (fun hsm => ⟨_, rfl, ?_⟩) (fun hsm => ⟨_, rfl, ?_⟩)
        · rw [e38, e39] at hsm
          refine lp_114 (S := S) (a := a) (b := b) (k := k) (by omega) hV hs hb (by omega) ht ih1 ih0 2 0 T n (by omega) hA hab et ?_
          rcases hC with h | h | ⟨q1, q2⟩
          · exact Or.inl h
          · exact Or.inr (Or.inl h)
          · exact Or.inr (Or.inr ⟨q1, q2, hsm, fun _ h => absurd h (by omega)⟩)
        · rw [e38, e39] at hsm
          have hno : ¬ AR S z a b := no_sm (hA.2.2.2 k t (by omega) ht et) hsm
          refine h_104_114 ⟨fun h => absurd h (by decide), fun _ => ⟨fun _ => ?_, fun h => absurd rfl h⟩⟩
          rw [nI_1]
          exact ih0 T hA.1 hno
    · have e6 : T 31 6 = nI z := by rw [hf 31 (by decide) (by decide)]; exact hs
      refine h_104_70 ⟨fun h => absurd h (by rw [e6]; exact nI_ge (by omega) (by omega)), fun _ => ⟨k, by omega, rfl, fun _ => ?_, fun _ => ⟨fun h => absurd rfl h, fun _ => ?_⟩⟩⟩
      · rw [nI_1]; exact ih0 T hf hno
      · rw [nI_1]; exact ih0 T hf hno
theorem lp_56 (hd : 5 ≤ d) (hV : VR S z) (hs : S 31 6 = nI z) (ha : a < z) (hb : b < z) (h1 : ∀ T, fr2 S T → AR S z a b → K T (some (.int 1))) (h0 : ∀ T, fr2 S T → ¬ AR S z a b → K T (some (.int 0))) : ∀ (m q : Nat), q + m = 24 → (∀ T n, AD S T z a b n → T 44 a = nI b → CLs S T z ∨ q + 1 ≤ n → R_104_56 xs d K 1 (nI q) T) ∧ (∀ T, fr2 S T → ¬ AR S z a b → R_104_56 xs d K 0 (nI q) T) := by
  have hz := VI.zb hV
  intro m
  induction m with
  | zero =>
    intro q hq
    refine ⟨fun T n hA hab hC => ?_, fun T hf hno => ?_⟩
    · have hn : n ≤ 24 := by rw [hA.2.1]; exact cn_le _ _
      have hC : CLs S T z := hC.resolve_right (by omega)
      exact h_104_56 ⟨fun _ => ⟨Or.inr rfl, h1 T hA.1 (AL_of hz hA.2.2.1 ha hb hab hC)⟩, fun h => absurd (nI_le (a := 24) (b := q) (by omega) (by omega)) h⟩
    · exact h_104_56 ⟨fun _ => ⟨Or.inl rfl, h0 T hf hno⟩, fun h => absurd (nI_le (a := 24) (b := q) (by omega) (by omega)) h⟩
  | succ m ih =>
    intro q hq
    obtain ⟨ih1, ih0⟩ := ih (q + 1) (by omega)
    refine ⟨fun T n hA hab hC => ?_, fun T hf hno => ?_⟩
    · refine h_104_56 ⟨fun h => absurd h (nI_ge (b := 24) (by omega) (by omega)), fun _ => ⟨fun h => absurd h (by decide), fun _ => ?_⟩⟩
      refine (lp_70 (S := S) (a := a) (b := b) (q := q) hd hV hs hb ih1 ih0 z 0 (by omega)).1 T n ⟨hA, hab, ?_⟩
      rcases hC with h | h
      · exact Or.inl h
      · exact Or.inr (Or.inr ⟨h, fun j t hj => absurd hj (by omega)⟩)
    · exact h_104_56 ⟨fun h => absurd h (nI_ge (b := 24) (by omega) (by omega)), fun _ => ⟨fun _ => ⟨Or.inl rfl, h0 T hf hno⟩, fun h => absurd rfl h⟩⟩
theorem lp_20 {x y : Int32} (hk : ∀ T, fr2 S T → (∀ i, i < 24 → T 44 i = -1 ∧ T 45 i = -1) → CS xs d 102 T [.ref 31, .int x, .int y] (fun S1 v1 => ∃ r1 : Int32, v1 = some (.int r1) ∧ (R_104_56 xs d K r1 0 S1))) : ∀ (m q : Nat) (T : Sv), q + m = 24 → fr2 S T → (∀ i, i < q → T 44 i = -1 ∧ T 45 i = -1) → R_104_20 xs d K x y (nI q) T := by
  intro m
  induction m with
  | zero =>
    intro q T hq hf h
    exact h_104_20 ⟨fun _ => hk T hf (fun i hi => h i (by omega)), fun h => absurd (nI_le (a := 24) (b := q) (by omega) (by omega)) h⟩
  | succ m ih =>
    intro q T hq hf h
    refine h_104_20 ⟨fun h => absurd h (nI_ge (b := 24) (by omega) (by omega)), fun _ => ⟨q, by omega, rfl, q, by omega, rfl, ?_⟩⟩
    rw [nI_1]
    refine ih (q + 1) _ (by omega) (fun c q1 q2 => by rw [us_ne q2, us_ne q1]; exact hf c q1 q2) (fun i hi => ?_)
    show upd (T 44) q (-1) i = -1 ∧ upd (T 45) q (-1) i = -1
    by_cases e : i = q
    · rw [e, upd_s, upd_s]; exact ⟨rfl, rfl⟩
    · rw [upd_n e, upd_n e]; exact h i (by omega)
theorem k_104 {x y : Int32} (hd : 7 ≤ d) (hV : VR S z) (hs : S 31 6 = nI z) (h1 : ∀ a b, a < z → b < z → x = nI a → y = nI b → AR S z a b → ∀ T, fr2 S T → K T (some (.int 1))) (h0 : ¬ (∃ a b, a < z ∧ b < z ∧ x = nI a ∧ y = nI b ∧ AR S z a b) → ∀ T, fr2 S T → K T (some (.int 0))) : CS xs d 104 S [.ref 31, .int x, .int y] K := by
  obtain ⟨d, rfl⟩ := cs_d (d := d) (by omega)
  have hz := VI.zb hV
  refine c_104 (k_88 (by omega) hz hs (fun a ha ea => ⟨_, rfl, fun h => absurd h (by decide), fun _ => ?_⟩) (fun h => ⟨_, rfl, fun _ => h0 (fun ⟨a, b, q1, q2, q3, _⟩ => h ⟨a, q1, q3⟩) S (fun _ _ _ => rfl), fun h => absurd rfl h⟩))
  refine k_88 (by omega) hz hs (fun b hb eb => ⟨_, rfl, fun _ => ?_, fun h => absurd (by decide) h⟩) (fun h => ⟨_, rfl, fun h => absurd rfl h, fun _ => h0 (fun ⟨a, b, q1, q2, q3, q4, _⟩ => h ⟨b, q2, q4⟩) S (fun _ _ _ => rfl)⟩)
  subst ea
  subst eb
  have hno : ¬ AR S z a b → ¬ (∃ a' b', a' < z ∧ b' < z ∧ nI a = nI a' ∧ nI b = nI b' ∧ AR S z a' b') := by
    rintro h ⟨a', b', q1, q2, q3, q4, q5⟩
    rw [← nI_inj (by omega) (by omega) q3, ← nI_inj (by omega) (by omega) q4] at q5
    exact h q5
  have L := lp_56 (S := S) (a := a) (b := b) (K := K) (xs := xs) (d := d) (by omega) hV hs ha hb (fun T hf hAL => h1 a b ha hb rfl rfl hAL T hf) (fun T hf h => h0 (hno h) T hf) 24 0 (by omega)
  refine lp_20 (S := S) (fun T hf hT => ?_) 24 0 S (by omega) (fun _ _ _ => rfl) (fun i hi => absurd hi (by omega))
  have hA : AD S T z a b 0 := by
    refine ⟨hf, (cn_zero (fun i hi => by show T 44 i + 1 = 0; rw [(hT i hi).1]; decide)).symm, ⟨fun j hj hn => absurd (hT j hj).1 hn, fun j hj hn => absurd (hT j hj).2 hn⟩, fun j t hj ht e => ?_⟩
    rw [(hT j (by omega)).1] at e
    exact absurd e.symm (nI_m1 (by omega))
  refine k_102 (by omega) hz hA ha hb (fun P hP => hP.1) (fun T' n' hA' hX' e hor => ⟨_, rfl, L.1 T' n' hA' e (Or.inr ?_)⟩) (fun h => ⟨_, rfl, L.2 T hf h⟩)
  rcases hor with ⟨rfl, rfl⟩ | ⟨hn, -⟩
  · rw [(hT a (by omega)).1] at e
    exact absurd e.symm (nI_m1 (by omega))
  · omega
end PR
theorem Inv_p {S T : Sv} (h : Inv S) (hc : fr4 S T) : Inv T := by
  have h1 : ∀ c, kp c → T c = S c := fun c hk => hc c (by rintro rfl; revert hk; decide) (by rintro rfl; revert hk; decide) (by rintro rfl; revert hk; decide) (by rintro rfl; revert hk; decide)
  exact h.of_same h1 (by rw [hc 8 (by decide) (by decide) (by decide) (by decide)]) (by rw [hc 31 (by decide) (by decide) (by decide) (by decide)]) (by rw [hc 19 (by decide) (by decide) (by decide) (by decide)]) (by rw [hc 31 (by decide) (by decide) (by decide) (by decide)]) (by rw [hc 28 (by decide) (by decide) (by decide) (by decide)]) (by rw [hc 31 (by decide) (by decide) (by decide) (by decide)])
theorem Inv_q {S T : Sv} (h : Inv S) (hc : fr2 S T) : Inv T := by
  have h1 : ∀ c, kp c → T c = S c := fun c hk => hc c (by rintro rfl; revert hk; decide) (by rintro rfl; revert hk; decide)
  exact h.of_same h1 (by rw [hc 8 (by decide) (by decide)]) (by rw [hc 31 (by decide) (by decide)]) (by rw [hc 19 (by decide) (by decide)]) (by rw [hc 31 (by decide) (by decide)]) (by rw [hc 28 (by decide) (by decide)]) (by rw [hc 31 (by decide) (by decide)])
theorem op_11 : op_ok w_law_11 := by
  intro xs R S i h hi hR
  obtain ⟨z, n, f, hz, hn, hf, s1, s2, s3, s4, s5, s6, hV, hW⟩ := h.VR
  have hI := h
  obtain ⟨_, _, _, _, _, _, _, _, ⟨g1, g2, g3, g4, g5⟩, -⟩ := hI
  have eT : ∀ T, fr4 S T → VR T z ∧ T 31 6 = nI z ∧ ∀ a b, AR T z a b ↔ AL z (S 9) (S 10) (S 11) a b := by
    intro T hc
    have e38 : T 38 = S 9 := by rw [hc 38 (by decide) (by decide) (by decide) (by decide)]; exact g3
    have e39 : T 39 = S 10 := by rw [hc 39 (by decide) (by decide) (by decide) (by decide)]; exact g4
    have e40 : T 40 = S 11 := by rw [hc 40 (by decide) (by decide) (by decide) (by decide)]; exact g5
    refine ⟨?_, by rw [hc 31 (by decide) (by decide) (by decide) (by decide)]; exact s2, fun a b => by show AL z (T 38) (T 39) (T 40) a b ↔ _; rw [e38, e39, e40]⟩
    show VI (T 32) (T 33) (T 34) (T 35) (T 36) (T 37) z (T 38) (T 39) (T 40)
    rw [hc 32 (by decide) (by decide) (by decide) (by decide), hc 33 (by decide) (by decide) (by decide) (by decide), hc 34 (by decide) (by decide) (by decide) (by decide), hc 35 (by decide) (by decide) (by decide) (by decide), hc 36 (by decide) (by decide) (by decide) (by decide), hc 37 (by decide) (by decide) (by decide) (by decide), hc 38 (by decide) (by decide) (by decide) (by decide), hc 39 (by decide) (by decide) (by decide) (by decide), hc 40 (by decide) (by decide) (by decide) (by decide)]
    exact hW
  refine ⟨i + 1, by omega, ad_1 i, i + 2, by omega, ad_2 i, ?_⟩
  refine c_13 (d := 999) (k_44 (by omega) hV s1 (fun a b ha hb ea eb hAL T hc => ⟨_, rfl, Or.inr rfl, _, rfl, i + 1, by omega, ad_1 i, i + 2, by omega, ad_2 i, ?_⟩) (fun hno T hc => ⟨_, rfl, Or.inl rfl, _, rfl, i + 1, by omega, ad_1 i, i + 2, by omega, ad_2 i, ?_⟩))
  · obtain ⟨hVT, e6, hiff⟩ := eT T hc
    refine k_104 (z := z) (by omega) hVT e6 (fun a' b' _ _ _ _ _ T' hc' => ⟨_, rfl, fun _ => hR _ (Inv_q (Inv_p h hc) hc'), fun hne => absurd rfl hne⟩) (fun hno => absurd ⟨a, b, ha, hb, ea, eb, (hiff a b).mpr hAL⟩ hno)
  · obtain ⟨hVT, e6, hiff⟩ := eT T hc
    exact k_104 (z := z) (by omega) hVT e6 (fun a' b' q1 q2 q3 q4 q5 => absurd ⟨a', b', q1, q2, q3, q4, (hiff a' b').mp q5⟩ hno) (fun _ T' hc' => ⟨_, rfl, fun _ => hR _ (Inv_q (Inv_p h hc) hc'), fun hne => absurd rfl hne⟩)
