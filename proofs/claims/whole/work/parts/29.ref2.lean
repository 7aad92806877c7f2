/-! the reference: define, values, make, text, failures -/
section RG
variable {xs : Nat × (Nat → Int32)} {d z : Nat} {S : Sv} {K : Sv → Option Value → Prop}
theorem k_86 {k n l : Int32} (hd : 1 ≤ d) (h1 : ∀ a, okD (S 32) k n l a → K (dfR S a n l) (some (.int 1))) (h0 : ¬ (∃ a, okD (S 32) k n l a) → K S (some (.int 0))) : CS xs d 86 S [.ref 31, .int k, .int n, .int l] K := by
  obtain ⟨d, rfl⟩ := cs_d hd
  refine c_86 ⟨fun hc => h0 ?_, fun hc => ⟨fun hc2 => h0 ?_, fun hc2 => ?_⟩⟩
  · rintro ⟨a, ha, rfl, -⟩
    exact nI_pos (by omega) hc
  · rintro ⟨a, ha, rfl, -⟩
    exact lt3 ha hc2
  · obtain ⟨a, ha, rfl⟩ := in_n (n := 4) (by omega) hc (gt3 hc2)
    refine ⟨a, ha, rfl, fun g1 => h0 ?_, fun g1 => ⟨fun g2 => h0 ?_, fun g2 => ⟨fun g3 => h0 ?_, fun g3 => ⟨fun g4 => h0 ?_, fun g4 => ⟨fun g5 => ⟨a, ha, rfl, a, ha, rfl, a, ha, rfl, ?_⟩, fun g5 => h0 ?_⟩⟩⟩⟩⟩
    · rintro ⟨a', ha', e, h, -⟩
      rw [← nI_inj (by omega) (by omega) e] at h
      exact g1 h
    · rintro ⟨a', -, -, -, h, -⟩
      exact h g2
    · rintro ⟨a', -, -, -, -, h, -⟩
      exact absurd g3 (Int32.not_lt.mpr h)
    · rintro ⟨a', -, -, -, -, -, h, -⟩
      exact h g4
    · have hK1 := h1 a ⟨ha, rfl, Classical.byContradiction g1, g2, Int32.not_lt.mp g3, g4, g5⟩
      have e3 : 3 * nI a = nI (3 * a) := by
        have := m3' a 0
        rw [nI_0] at this
        simpa using this
      have e33 : 3 * nI a + 3 = nI (3 * a + 3) := m3' a 3
      have r3 : R_86_64 xs d K (nI a) (nI (3 * a + 2 + 1)) (dfR S a n l) := h_86_64 ⟨fun _ => hK1, fun h => absurd (by rw [e33]; exact nI_le (by omega) (by omega)) h⟩
      have r2 : R_86_64 xs d K (nI a) (nI (3 * a + 1 + 1)) (us (us (us (us (us (us (us (us (us S 32 a 1) 33 a n) 34 a l) 35 (3 * a) 0) 36 (3 * a) (-1000)) 37 (3 * a) 1000) 35 (3 * a + 1) 0) 36 (3 * a + 1) (-1000)) 37 (3 * a + 1) 1000) := h_86_64 ⟨fun h => absurd h (by rw [e33]; exact nI_ge (by omega) (by omega)), fun _ => ⟨3 * a + 2, by omega, rfl, 3 * a + 2, by omega, rfl, 3 * a + 2, by omega, rfl, by rw [nI_1]; exact r3⟩⟩
      have r1 : R_86_64 xs d K (nI a) (nI (3 * a + 1)) (us (us (us (us (us (us S 32 a 1) 33 a n) 34 a l) 35 (3 * a) 0) 36 (3 * a) (-1000)) 37 (3 * a) 1000) := h_86_64 ⟨fun h => absurd h (by rw [e33]; exact nI_ge (by omega) (by omega)), fun _ => ⟨3 * a + 1, by omega, rfl, 3 * a + 1, by omega, rfl, 3 * a + 1, by omega, rfl, by rw [nI_1]; exact r2⟩⟩
      rw [e3]
      exact h_86_64 ⟨fun h => absurd h (by rw [e33]; exact nI_ge (by omega) (by omega)), fun _ => ⟨3 * a, by omega, rfl, 3 * a, by omega, rfl, 3 * a, by omega, rfl, by rw [nI_1]; exact r1⟩⟩
    · rintro ⟨a', -, -, -, -, -, -, h⟩
      exact g5 h
theorem k_87 {k i f lo hi : Int32} (hd : 2 ≤ d) (hV : VR S z) (h1 : ∀ a b, okV (S 33) k i f lo hi a b → K (us (us (us S 35 (3 * a + b) f) 36 (3 * a + b) lo) 37 (3 * a + b) hi) (some (.int 1))) (h0 : ¬ (∃ a b, okV (S 33) k i f lo hi a b) → K S (some (.int 0))) : CS xs d 87 S [.ref 31, .int k, .int i, .int f, .int lo, .int hi] K := by
  obtain ⟨d, rfl⟩ := cs_d (d := d) (by omega)
  refine c_87 (k_85 (by omega) (fun a ha e hdf => ⟨_, rfl, fun h => absurd h (by decide), fun _ => ⟨fun g0 => h0 ?_, fun g0 => ⟨a, ha, e, fun g1 => h0 ?_, fun g1 => ⟨fun q1 => h0 ?_, fun q1 => ⟨fun q2 => h0 ?_, fun q2 => ⟨fun q3 => h0 ?_, fun q3 => ⟨fun q4 => ?_, fun q4 => h0 ?_⟩⟩⟩⟩⟩⟩⟩) (fun h => ⟨_, rfl, fun _ => h0 ?_, fun h => absurd rfl h⟩))
  · rintro ⟨a', b, -, hb, -, e2, -⟩
    rw [e2] at g0
    exact absurd g0 (nI_pos (by omega))
  · rintro ⟨a', b, ha', hb, e1, e2, hlt, -⟩
    rw [← nI_inj (by omega) (by omega) (e.symm.trans e1)] at hlt
    rw [e2] at g1
    exact absurd g1 (Int32.not_le.mpr hlt)
  · rintro ⟨a', b, -, -, -, -, -, h, -⟩
    exact h q1
  · rintro ⟨a', b, -, -, -, -, -, -, h, -⟩
    exact absurd q2 (Int32.not_lt.mpr h)
  · rintro ⟨a', b, -, -, -, -, -, -, -, h, -⟩
    exact h q3
  · obtain ⟨b, hb, rfl, hlt⟩ := hK_ix (VI.nm hV a ha) (by omega) g0 g1
    subst e
    have e1 : 3 * nI a + nI b = nI (3 * a + b) := m3' a b
    exact ⟨3 * a + b, by omega, e1, 3 * a + b, by omega, e1, 3 * a + b, by omega, e1, h1 a b ⟨ha, hb, rfl, rfl, hlt, q1, Int32.not_lt.mp q2, q3, q4⟩⟩
  · rintro ⟨a', b, -, -, -, -, -, -, -, -, h⟩
    exact q4 h
  · rintro ⟨a, b, ha, hb, e1, e2, hlt, -⟩
    refine h ⟨a, ha, e1, fun hz => ?_⟩
    rw [(hV.2.2.2.1 a ha hz).1] at hlt
    exact nI_pos (by omega) hlt
theorem k_91 {k : Int32} (hd : 3 ≤ d) (hV : VR S z) (hs : S 31 6 = nI z) (h1 : ∀ a, a < 4 → k = nI a → ¬ S 32 a = 0 → z < 24 → K (adR S z a) (some (.int (nI z)))) (h0 : ¬ (isK (S 32) k ∧ z < 24) → K S (some (.int (-1)))) : CS xs d 91 S [.ref 31, .int k] K := by
  obtain ⟨d, rfl⟩ := cs_d (d := d) (by omega)
  have hz := VI.zb hV
  refine c_91 (k_85 (by omega) (fun a ha e hdf => ⟨_, rfl, fun h => absurd h (by decide), fun _ => ⟨fun hne => ?_, fun heq => h0 ?_⟩⟩) (fun h => ⟨_, rfl, fun _ => h0 (fun h2 => h h2.1), fun h => absurd rfl h⟩))
  · rw [hs] at hne ⊢
    have hzl : z < 24 := by
      rcases Nat.lt_or_ge z 24 with h | h
      · exact h
      · exact absurd (by rw [show z = 24 by omega]; rfl) hne
    subst e
    refine ⟨z, hzl, rfl, ?_⟩
    have hK1 := h1 a ha rfl hdf hzl
    have e2 : 2 * nI z = nI (2 * z) := by
      have := m2' z 0
      rw [nI_0] at this
      simpa using this
    have r3 : R_91_31 xs d K (nI a) (nI 3) (us (us (us (us S 38 z (nI a)) 39 (3 * z) (S 35 (3 * a))) 39 (3 * z + 1) (S 35 (3 * a + 1))) 39 (3 * z + 2) (S 35 (3 * a + 2))) := by
      refine h_91_31 ⟨fun _ => ⟨2 * z, by omega, ?_, 2 * z + 1, by omega, ?_, ?_⟩, fun h => absurd (by decide) h⟩
      · show 2 * S 31 6 = _
        rw [hs, e2]
      · show 2 * S 31 6 + 1 = _
        rw [hs, e2, nI_1]
      · show K (us (us (us _ 40 (2 * z) (-1)) 40 (2 * z + 1) (-1)) 31 6 (S 31 6 + 1)) (some (.int (S 31 6 + 1 - 1)))
        rw [hs, nI_1, nI_pred]
        exact hK1
    have st : ∀ (T : Sv) (b : Nat), b < 3 → T 31 6 = nI z → T 35 = S 35 → R_91_31 xs d K (nI a) (nI (b + 1)) (us T 39 (3 * z + b) (S 35 (3 * a + b))) → R_91_31 xs d K (nI a) (nI b) T := by
      intro T b hb e6 e35 hR
      refine h_91_31 ⟨fun h => absurd h (nI_ge (b := 3) hb (by decide)), fun _ => ⟨3 * a + b, by omega, by rw [m3'], 3 * z + b, by omega, by rw [e6, m3'], ?_⟩⟩
      rw [nI_1, e35]
      exact hR
    exact st _ 0 (by omega) hs rfl (st _ 1 (by omega) hs rfl (st _ 2 (by omega) hs rfl r3))
  · intro h
    rw [hs] at heq
    have heq : nI z = 24 := Classical.byContradiction heq
    have := nI_inj (b := 24) (by omega) (by decide) heq
    omega
theorem k_110 {c : Int32} {n : Nat} (hd : 1 ≤ d) (hn : n ≤ 300) (hs : S 31 11 = nI n) (h1 : n < 300 → ¬ c < 32 → ¬ 126 < c → K (us (us S 41 n c) 31 11 (nI (n + 1))) (some (.int 1))) (h0 : ¬ (n < 300 ∧ ¬ c < 32 ∧ ¬ 126 < c) → K S (some (.int 0))) : CS xs d 110 S [.ref 31, .int c] K := by
  obtain ⟨d, rfl⟩ := cs_d hd
  refine c_110 ⟨fun g1 => h0 (fun h => h.2.1 g1), fun g1 => ⟨fun g2 => h0 (fun h => h.2.2 g2), fun g2 => ⟨fun g3 => ?_, fun g3 => h0 (fun h => g3 (fun g4 => ?_))⟩⟩⟩
  · rw [hs] at g3 ⊢
    have hl : n < 300 := by
      rcases Nat.lt_or_ge n 300 with h | h
      · exact h
      · exact absurd (by rw [show n = 300 by omega]; rfl) g3
    rw [nI_1]
    exact ⟨n, hl, rfl, h1 hl g1 g2⟩
  · rw [hs] at g4
    have := nI_inj (b := 300) (by omega) (by decide) g4
    omega
theorem k_113 {p : Int32} {n : Nat} (hd : 1 ≤ d) (hn : n ≤ 300) (hs : S 31 11 = nI n) (h1 : ∀ j, j < n → p = nI (j + 1) → K S (some (.int (S 41 j)))) (h0 : ¬ (∃ j, j < n ∧ p = nI (j + 1)) → K S (some (.int (-1)))) : CS xs d 113 S [.ref 31, .int p] K := by
  obtain ⟨d, rfl⟩ := cs_d hd
  refine c_113 ⟨fun g1 => h0 ?_, fun g1 => ⟨fun g2 => ?_, fun g2 => h0 ?_⟩⟩
  · rintro ⟨j, hj, rfl⟩
    exact absurd g1 (nI_nlt (a := j + 1) (b := 1) (by omega) (by omega))
  · rw [hs] at g2
    have e1 := ti_ge g1
    have e2 := ti_le g2
    rw [show (1 : Int32).toInt = 1 from by decide] at e1
    rw [nI_toInt (by omega)] at e2
    have e3 : p = nI (p.toInt.toNat - 1 + 1) := nI_of_toInt (by omega)
    have e4 : p - 1 = nI (p.toInt.toNat - 1) := (congrArg (fun x => x - 1) e3).trans (nI_pred _)
    exact ⟨p.toInt.toNat - 1, by omega, e4, h1 _ (by omega) e3⟩
  · rintro ⟨j, hj, rfl⟩
    rw [hs] at g2
    exact g2 (nI_le (by omega) (by omega))
theorem k_127 {p : Int32} {f : Nat} (hd : 1 ≤ d) (hf : f ≤ 300) (hs : S 31 34 = nI f) (h1 : ∀ j, j < f → p = nI j → K S (some (.int (S 52 j)))) (h0 : ¬ isO f p → K S (some (.int 0))) : CS xs d 127 S [.ref 31, .int p] K := by
  obtain ⟨d, rfl⟩ := cs_d hd
  refine c_127 ⟨fun g1 => h0 ?_, fun g1 => ⟨fun g2 => ?_, fun g2 => h0 ?_⟩⟩
  · rintro ⟨j, hj, rfl⟩
    exact nI_pos (by omega) g1
  · rw [hs] at g2
    obtain ⟨j, hj, rfl⟩ := in_n (by omega) g1 (Int32.not_le.mpr g2)
    exact ⟨j, by omega, rfl, h1 j hj rfl⟩
  · rintro ⟨j, hj, rfl⟩
    rw [hs] at g2
    exact g2 (nI_lt hj (by omega))
end RG
