/-! the class: define, values, the text, the failures -/
def okD (df : Nat → Int32) (k n l : Int32) (a : Nat) : Prop := a < 4 ∧ k = nI a ∧ df a = 0 ∧ ¬ n < 0 ∧ n ≤ 3 ∧ ¬ l < 0 ∧ l ≤ 2
def okV (nm : Nat → Int32) (k i f lo hi : Int32) (a b : Nat) : Prop := a < 4 ∧ b < 3 ∧ k = nI a ∧ i = nI b ∧ nI b < nm a ∧ ¬ lo < -99999 ∧ hi ≤ 99999 ∧ ¬ f < lo ∧ f ≤ hi
theorem ti_ge {x : Int32} {c : Int32} (h : ¬ x < c) : c.toInt ≤ x.toInt := Int32.le_iff_toInt_le.mp (Int32.not_lt.mp h)
theorem ti_le {x : Int32} {c : Int32} (h : x ≤ c) : x.toInt ≤ c.toInt := Int32.le_iff_toInt_le.mp h
theorem ti_lt {x : Int32} {c : Int32} (h : x < c) : x.toInt < c.toInt := Int32.lt_iff_toInt_lt.mp h
theorem ti_nle {x : Int32} {c : Int32} (h : ¬ x ≤ c) : c.toInt < x.toInt := Int32.lt_iff_toInt_lt.mp (Int32.not_le.mp h)
theorem nar_c {x : Int32} (h1 : ¬ x < 32) (h2 : ¬ 126 < x) : vp_nar .char x = x := by
  have e1 := ti_ge h1
  have e2 := ti_ge h2
  rw [show (32 : Int32).toInt = 32 from by decide] at e1
  rw [show (126 : Int32).toInt = 126 from by decide] at e2
  have e3 : x = nI x.toInt.toNat := nI_ofn (by omega)
  rw [e3]
  unfold vp_nar
  rw [(pk_charN (by omega)).1]
section MR
variable {xs : Nat × (Nat → Int32)} {d z : Nat} {S : Sv} {K : Sv → Option Value → Prop}
theorem k_26 {k n l : Int32} (hd : 1 ≤ d) (h1 : ∀ a, okD (S 2) k n l a → K (us (us (us S 2 a 1) 3 a n) 4 a l) (some (.int 1))) (h0 : ¬ (∃ a, okD (S 2) k n l a) → K S (some (.int 0))) : CS xs d 26 S [.ref 1, .int k, .int n, .int l] K := by
  obtain ⟨d, rfl⟩ := cs_d hd
  refine c_26 ⟨fun hc => h0 ?_, fun hc => ⟨fun hc2 => h0 ?_, fun hc2 => ?_⟩⟩
  · rintro ⟨a, ha, rfl, -⟩
    exact nI_pos (by omega) hc
  · rintro ⟨a, ha, rfl, -⟩
    exact nI_ge ha (by omega) hc2
  · obtain ⟨j, hj, rfl⟩ := in_n (n := 4) (by omega) hc hc2
    refine ⟨j, hj, rfl, fun g1 => ⟨fun g2 => h0 ?_, fun g2 => ⟨fun g3 => ⟨fun g4 => h0 ?_, fun g4 => ⟨fun g5 => ⟨j, hj, rfl, j, hj, rfl, j, hj, rfl, h1 j ⟨hj, rfl, g1, g2, g3, g4, g5⟩⟩, fun g5 => h0 ?_⟩⟩, fun g3 => h0 ?_⟩⟩, fun g1 => h0 ?_⟩
    · rintro ⟨a, -, -, -, h, -⟩
      exact h g2
    · rintro ⟨a, -, -, -, -, -, h, -⟩
      exact h g4
    · rintro ⟨a, -, -, -, -, -, -, h⟩
      exact g5 h
    · rintro ⟨a, -, -, -, -, h, -⟩
      exact g3 h
    · rintro ⟨a, ha, e, h, -⟩
      rw [← nI_inj (by omega) (by omega) e] at h
      exact g1 h
theorem k_27 {k i f lo hi : Int32} (hd : 2 ≤ d) (hn : nmB (S 3) 3) (h1 : ∀ a b, okV (S 3) k i f lo hi a b → K (us (us (us S 5 (3 * a + b) f) 6 (3 * a + b) lo) 7 (3 * a + b) hi) (some (.int 1))) (h0 : ¬ (∃ a b, okV (S 3) k i f lo hi a b) → K S (some (.int 0))) : CS xs d 27 S [.ref 1, .int k, .int i, .int f, .int lo, .int hi] K := by
  obtain ⟨d, rfl⟩ := cs_d (d := d) (by omega)
  refine c_27 (k_24 (by omega) (fun a ha e g0 g1 => ⟨_, rfl, fun _ => ⟨fun q1 => h0 ?_, fun q1 => ⟨fun q2 => ⟨fun q3 => h0 ?_, fun q3 => ⟨fun q4 => ?_, fun q4 => h0 ?_⟩⟩, fun q2 => h0 ?_⟩⟩, fun h => absurd (by decide) h⟩) (fun h => ⟨_, rfl, fun h => absurd rfl h, fun _ => h0 ?_⟩))
  · rintro ⟨a, b, -, -, -, -, -, h, -⟩
    exact h q1
  · rintro ⟨a, b, -, -, -, -, -, -, -, h, -⟩
    exact h q3
  · obtain ⟨b, hb, rfl, hlt⟩ := hK_ix (hn a ha) (by omega) g0 g1
    subst e
    have e1 : nI a * 3 + nI b = nI (3 * a + b) := by rw [m3, Nat.mul_comm]
    exact ⟨3 * a + b, by omega, e1, 3 * a + b, by omega, e1, 3 * a + b, by omega, e1, h1 a b ⟨ha, hb, rfl, rfl, hlt, q1, q2, q3, q4⟩⟩
  · rintro ⟨a, b, -, -, -, -, -, -, -, -, h⟩
    exact q4 h
  · rintro ⟨a, b, -, -, -, -, -, -, h, -⟩
    exact q2 h
  · rintro ⟨a, b, ha, hb, e1, e2, hlt, -⟩
    exact h ⟨a, ha, e1, by rw [e2]; exact nI_pos (by omega), by rw [e2]; exact Int32.not_le.mpr hlt⟩
theorem k_49 {c : Int32} {n : Nat} (hd : 1 ≤ d) (hn : n ≤ 300) (hs : S 19 1 = nI n) (h1 : n < 300 → ¬ c < 32 → ¬ 126 < c → K (us (us S 20 n c) 19 1 (nI (n + 1))) (some (.int 1))) (h0 : ¬ (n < 300 ∧ ¬ c < 32 ∧ ¬ 126 < c) → K S (some (.int 0))) : CS xs d 49 S [.ref 19, .int c] K := by
  obtain ⟨d, rfl⟩ := cs_d hd
  refine c_49_19 ⟨fun g1 => h0 (fun h => h.2.1 g1), fun g1 => ⟨fun g2 => h0 (fun h => h.2.2 g2), fun g2 => ⟨fun g3 => ?_, fun g3 => h0 (fun h => g3 ?_)⟩⟩⟩
  · rw [hs] at g3
    have hl : n < 300 := (nI_ltI (b := 300) (by omega) (by omega)).mp g3
    rw [hs, nar_c g1 g2, nI_1]
    exact ⟨n, hl, rfl, h1 hl g1 g2⟩
  · rw [hs]
    exact nI_lt (b := 300) h.1 (by decide)
theorem k_50 {p : Int32} {n : Nat} (hd : 1 ≤ d) (hn : n ≤ 300) (hs : S 19 1 = nI n) (h1 : ∀ j, j < n → p = nI (j + 1) → K S (some (.int (S 20 j)))) (h0 : ¬ (∃ j, j < n ∧ p = nI (j + 1)) → K S (some (.int (-1)))) : CS xs d 50 S [.ref 19, .int p] K := by
  obtain ⟨d, rfl⟩ := cs_d hd
  refine c_50_19 ⟨fun g1 => h0 ?_, fun g1 => ⟨fun g2 => h0 ?_, fun g2 => ?_⟩⟩
  · rintro ⟨j, hj, rfl⟩
    exact absurd g1 (nI_nlt (a := j + 1) (b := 1) (by omega) (by omega))
  · rintro ⟨j, hj, rfl⟩
    rw [hs] at g2
    exact nI_nlt (by omega) (by omega) g2
  · rw [hs] at g2
    have e1 := ti_ge g1
    have e2 := ti_ge g2
    rw [show (1 : Int32).toInt = 1 from by decide] at e1
    rw [nI_toInt (by omega)] at e2
    have e3 : p = nI (p.toInt.toNat - 1 + 1) := nI_of_toInt (by omega)
    have e4 : p - 1 = nI (p.toInt.toNat - 1) := (congrArg (fun x => x - 1) e3).trans (nI_pred _)
    exact ⟨p.toInt.toNat - 1, by omega, e4, h1 _ (by omega) e3⟩
theorem k_75 {p : Int32} {f : Nat} (hd : 1 ≤ d) (hf : f ≤ 300) (hs : S 28 4 = nI f) (h1 : ∀ j, j < f → p = nI j → K S (some (.int (S 30 j)))) (h0 : ¬ isO f p → K S (some (.int 0))) : CS xs d 75 S [.ref 28, .int p] K := by
  obtain ⟨d, rfl⟩ := cs_d hd
  refine c_75 ⟨fun g1 => h0 ?_, fun g1 => ⟨fun g2 => h0 ?_, fun g2 => ?_⟩⟩
  · rintro ⟨j, hj, rfl⟩
    exact nI_pos (by omega) g1
  · rintro ⟨j, hj, rfl⟩
    rw [hs] at g2
    exact nI_ge hj (by omega) g2
  · rw [hs] at g2
    obtain ⟨j, hj, rfl⟩ := in_n (by omega) g1 g2
    exact ⟨j, by omega, rfl, h1 j hj rfl⟩
end MR
