/-! the class: kinds and objects. Each row: what a method answers and does, by the state's numbers -/
def isO (z : Nat) (o : Int32) : Prop := ∃ j, j < z ∧ o = nI j
def isK (df : Nat → Int32) (k : Int32) : Prop := ∃ a, a < 4 ∧ k = nI a ∧ ¬ df a = 0
def hK (nm : Nat → Int32) (k i : Int32) : Prop := ∃ a, a < 4 ∧ k = nI a ∧ ¬ i < 0 ∧ ¬ nm a ≤ i
theorem hK_ix {nm : Nat → Int32} {a m : Nat} {i : Int32} (hn : ∃ b, b ≤ m ∧ nm a = nI b) (hm : m ≤ 1000) (h0 : ¬ i < 0) (h1 : ¬ nm a ≤ i) : ∃ b, b < m ∧ i = nI b ∧ nI b < nm a := by
  obtain ⟨n, hn1, hn2⟩ := hn
  rw [hn2] at h1
  obtain ⟨j, hj, rfl⟩ := in_n (by omega) h0 h1
  exact ⟨j, by omega, rfl, by rw [hn2]; exact nI_lt hj (by omega)⟩
section BE
variable {xs : Nat × (Nat → Int32)} {d : Nat} {S : Sv} {K : Sv → Option Value → Prop}
theorem k_31 {z : Nat} {o : Int32} (hd : 1 ≤ d) (hz : z ≤ 24) (hs : S 8 4 = nI z) (h1 : ∀ j, j < z → o = nI j → K S (some (.int 1))) (h0 : ¬ isO z o → K S (some (.int 0))) : CS xs d 31 S [.ref 8, .int o] K := by
  obtain ⟨d, rfl⟩ := cs_d hd
  refine c_31 ⟨fun hc => h0 ?_, fun hc => ⟨fun hc2 => h0 ?_, fun hc2 => ?_⟩⟩
  · rintro ⟨j, hj, rfl⟩
    exact nI_pos (by omega) hc
  · rintro ⟨j, hj, rfl⟩
    rw [hs] at hc2
    exact nI_ge hj (by omega) hc2
  · rw [hs] at hc2
    obtain ⟨j, hj, rfl⟩ := in_n (by omega) hc hc2
    exact h1 j hj rfl
theorem k_23 {k : Int32} (hd : 1 ≤ d) (h1 : ∀ a, a < 4 → k = nI a → ¬ S 2 a = 0 → K S (some (.int 1))) (h0 : ¬ isK (S 2) k → K S (some (.int 0))) : CS xs d 23 S [.ref 1, .int k] K := by
  obtain ⟨d, rfl⟩ := cs_d hd
  refine c_23 ⟨fun hc => h0 ?_, fun hc => ⟨fun hc2 => h0 ?_, fun hc2 => ?_⟩⟩
  · rintro ⟨j, hj, rfl, -⟩
    exact nI_pos (by omega) hc
  · rintro ⟨j, hj, rfl, -⟩
    exact nI_ge hj (by omega) hc2
  · obtain ⟨j, hj, rfl⟩ := in_n (n := 4) (by omega) hc hc2
    refine ⟨j, hj, rfl, fun hc3 => h0 ?_, fun hc3 => h1 j hj rfl hc3⟩
    rintro ⟨a, ha, e, h⟩
    rw [← nI_inj (by omega) (by omega) e] at h
    exact h hc3
theorem k_24 {k i : Int32} (hd : 1 ≤ d) (h1 : ∀ a, a < 4 → k = nI a → ¬ i < 0 → ¬ S 3 a ≤ i → K S (some (.int 1))) (h0 : ¬ hK (S 3) k i → K S (some (.int 0))) : CS xs d 24 S [.ref 1, .int k, .int i] K := by
  obtain ⟨d, rfl⟩ := cs_d hd
  refine c_24 ⟨fun hc => h0 ?_, fun hc => ⟨fun hc2 => h0 ?_, fun hc2 => ⟨fun hc3 => h0 ?_, fun hc3 => ?_⟩⟩⟩
  · rintro ⟨j, hj, rfl, -⟩
    exact nI_pos (by omega) hc
  · rintro ⟨j, hj, rfl, -⟩
    exact nI_ge hj (by omega) hc2
  · rintro ⟨j, hj, rfl, h, -⟩
    exact h hc3
  · obtain ⟨j, hj, rfl⟩ := in_n (n := 4) (by omega) hc hc2
    refine ⟨j, hj, rfl, fun hc4 => h0 ?_, fun hc4 => h1 j hj rfl hc3 hc4⟩
    rintro ⟨a, ha, e, -, h⟩
    rw [← nI_inj (by omega) (by omega) e] at h
    exact h hc4
theorem k_25 {k i : Int32} (hd : 1 ≤ d) (h1 : ∀ a, a < 4 → k = nI a → ¬ i < 0 → ¬ S 4 a ≤ i → K S (some (.int 1))) (h0 : ¬ hK (S 4) k i → K S (some (.int 0))) : CS xs d 25 S [.ref 1, .int k, .int i] K := by
  obtain ⟨d, rfl⟩ := cs_d hd
  refine c_25 ⟨fun hc => h0 ?_, fun hc => ⟨fun hc2 => h0 ?_, fun hc2 => ⟨fun hc3 => h0 ?_, fun hc3 => ?_⟩⟩⟩
  · rintro ⟨j, hj, rfl, -⟩
    exact nI_pos (by omega) hc
  · rintro ⟨j, hj, rfl, -⟩
    exact nI_ge hj (by omega) hc2
  · rintro ⟨j, hj, rfl, h, -⟩
    exact h hc3
  · obtain ⟨j, hj, rfl⟩ := in_n (n := 4) (by omega) hc hc2
    refine ⟨j, hj, rfl, fun hc4 => h0 ?_, fun hc4 => h1 j hj rfl hc3 hc4⟩
    rintro ⟨a, ha, e, -, h⟩
    rw [← nI_inj (by omega) (by omega) e] at h
    exact h hc4
theorem k_34 {z : Nat} {o : Int32} (hd : 2 ≤ d) (hz : z ≤ 24) (hs : S 8 4 = nI z) (h1 : ∀ j, j < z → o = nI j → K S (some (.int (S 9 j)))) (h0 : ¬ isO z o → K S (some (.int (-1)))) : CS xs d 34 S [.ref 8, .int o] K := by
  obtain ⟨d, rfl⟩ := cs_d (d := d) (by omega)
  refine c_34 (k_31 (by omega) hz hs (fun j hj e => ⟨_, rfl, fun h => absurd h (by decide), fun _ => ⟨j, by omega, e, h1 j hj e⟩⟩) (fun h => ⟨_, rfl, fun _ => h0 h, fun h => absurd rfl h⟩))
/-- what numbers and links a state's kinds have -/
def nmB (nm : Nat → Int32) (m : Nat) : Prop := ∀ k, k < 4 → ∃ a, a ≤ m ∧ nm k = nI a
theorem k_28 {k i : Int32} (hd : 2 ≤ d) (hn : nmB (S 3) 3) (h1 : ∀ a b, a < 4 → b < 3 → k = nI a → i = nI b → nI b < S 3 a → K S (some (.int (S 5 (3 * a + b))))) (h0 : ¬ hK (S 3) k i → K S (some (.int 0))) : CS xs d 28 S [.ref 1, .int k, .int i] K := by
  obtain ⟨d, rfl⟩ := cs_d (d := d) (by omega)
  refine c_28 (k_24 (by omega) (fun a ha e g0 g1 => ⟨_, rfl, fun h => absurd h (by decide), fun _ => ?_⟩) (fun h => ⟨_, rfl, fun _ => h0 h, fun h => absurd rfl h⟩))
  obtain ⟨b, hb, rfl, hlt⟩ := hK_ix (hn a ha) (by omega) g0 g1
  subst e
  exact ⟨3 * a + b, by omega, by rw [m3, Nat.mul_comm], h1 a b ha hb rfl rfl hlt⟩
theorem k_29 {k i v : Int32} (hd : 2 ≤ d) (hn : nmB (S 3) 3) (h1 : ∀ a b, a < 4 → b < 3 → k = nI a → i = nI b → nI b < S 3 a → ¬ v < S 6 (3 * a + b) → ¬ S 7 (3 * a + b) < v → K S (some (.int 1))) (h0 : ¬ (∃ a b, a < 4 ∧ b < 3 ∧ k = nI a ∧ i = nI b ∧ nI b < S 3 a ∧ ¬ v < S 6 (3 * a + b) ∧ ¬ S 7 (3 * a + b) < v) → K S (some (.int 0))) : CS xs d 29 S [.ref 1, .int k, .int i, .int v] K := by
  obtain ⟨d, rfl⟩ := cs_d (d := d) (by omega)
  refine c_29 (k_24 (by omega) (fun a ha e g0 g1 => ⟨_, rfl, fun _ => ?_, fun h => absurd (by decide) h⟩) (fun h => ⟨_, rfl, fun h => absurd rfl h, fun _ => h0 ?_⟩))
  · obtain ⟨b, hb, rfl, hlt⟩ := hK_ix (hn a ha) (by omega) g0 g1
    subst e
    have key : ∀ a' b', nI a = nI a' → nI b = nI b' → a' < 4 → b' < 3 → a = a' ∧ b = b' := fun a' b' e1 e2 h1 h2 => ⟨nI_inj (by omega) (by omega) e1, nI_inj (by omega) (by omega) e2⟩
    refine ⟨3 * a + b, by omega, by rw [m3, Nat.mul_comm], fun hc => h0 ?_, fun hc => ⟨3 * a + b, by omega, by rw [m3, Nat.mul_comm], fun hc2 => h0 ?_, fun hc2 => h1 a b ha hb rfl rfl hlt hc hc2⟩⟩
    · rintro ⟨a', b', h1, h2, h3, h4, -, h5, -⟩
      obtain ⟨rfl, rfl⟩ := key a' b' h3 h4 h1 h2
      exact h5 hc
    · rintro ⟨a', b', h1, h2, h3, h4, -, -, h5⟩
      obtain ⟨rfl, rfl⟩ := key a' b' h3 h4 h1 h2
      exact h5 hc2
  · rintro ⟨a, b, ha, hb, rfl, rfl, hlt, -⟩
    exact h ⟨a, ha, rfl, nI_pos (by omega), Int32.not_le.mpr hlt⟩
end BE
