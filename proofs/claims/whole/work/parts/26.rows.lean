/-! the class: objects' rows -/
/-- what a new object is -/
def adS (S : Sv) (z a : Nat) : Sv := us (us (us (us (us (us (us S 9 z (nI a)) 10 (3 * z) (S 5 (3 * a))) 10 (3 * z + 1) (S 5 (3 * a + 1))) 10 (3 * z + 2) (S 5 (3 * a + 2))) 11 (2 * z) (-1)) 11 (2 * z + 1) (-1)) 8 4 (nI (z + 1))
abbrev VS (S : Sv) (z : Nat) : Prop := VI (S 2) (S 3) (S 4) (S 5) (S 6) (S 7) z (S 9) (S 10) (S 11)
section RW
variable {xs : Nat × (Nat → Int32)} {d z : Nat} {S : Sv} {K : Sv → Option Value → Prop}
theorem VI.nm {df nm lk fi le gr : Nat → Int32} {z : Nat} {kr nr lr : Nat → Int32} (h : VI df nm lk fi le gr z kr nr lr) : nmB nm 3 := h.2.1
theorem VI.lk {df nm lk fi le gr : Nat → Int32} {z : Nat} {kr nr lr : Nat → Int32} (h : VI df nm lk fi le gr z kr nr lr) : nmB lk 2 := h.2.2.1
theorem VI.zb {df nm lk fi le gr : Nat → Int32} {z : Nat} {kr nr lr : Nat → Int32} (h : VI df nm lk fi le gr z kr nr lr) : z ≤ 24 := h.2.2.2.2.2.2.1
theorem VI.kd {df nm lk fi le gr : Nat → Int32} {z : Nat} {kr nr lr : Nat → Int32} (h : VI df nm lk fi le gr z kr nr lr) : ∀ o, o < z → ∃ k, k < 4 ∧ kr o = nI k ∧ df k = 1 := h.2.2.2.2.2.2.2.1
theorem VI.nr {df nm lk fi le gr : Nat → Int32} {z : Nat} {kr nr lr : Nat → Int32} (h : VI df nm lk fi le gr z kr nr lr) : ∀ o i, o < z → i < 3 → -99999 ≤ nr (3 * o + i) ∧ nr (3 * o + i) ≤ 99999 ∧ ∀ k, k < 4 → kr o = nI k → nm k ≤ nI i → nr (3 * o + i) = 0 := h.2.2.2.2.2.2.2.2.1
theorem VI.lr {df nm lk fi le gr : Nat → Int32} {z : Nat} {kr nr lr : Nat → Int32} (h : VI df nm lk fi le gr z kr nr lr) : ∀ o i, o < z → i < 2 → (lr (2 * o + i) = -1 ∨ ∃ t, t < z ∧ lr (2 * o + i) = nI t) ∧ ∀ k, k < 4 → kr o = nI k → lk k ≤ nI i → lr (2 * o + i) = -1 := h.2.2.2.2.2.2.2.2.2
theorem VI.fi {df nm lk fi le gr : Nat → Int32} {z : Nat} {kr nr lr : Nat → Int32} (h : VI df nm lk fi le gr z kr nr lr) : ∀ k i, k < 4 → i < 3 → nm k ≤ nI i → fi (3 * k + i) = 0 := h.2.2.2.2.2.1
theorem VI.bd {df nm lk fi le gr : Nat → Int32} {z : Nat} {kr nr lr : Nat → Int32} (h : VI df nm lk fi le gr z kr nr lr) : ∀ k i, k < 4 → i < 3 → df k = 1 → -99999 ≤ le (3 * k + i) ∧ le (3 * k + i) ≤ fi (3 * k + i) ∧ fi (3 * k + i) ≤ gr (3 * k + i) ∧ gr (3 * k + i) ≤ 99999 := h.2.2.2.2.1
theorem neg_nhK {nm : Nat → Int32} {i : Int32} : ¬ hK nm (-1) i := by
  rintro ⟨a, ha, e, -⟩
  have h1 : (nI a).toInt = (a : Int) := nI_toInt (by omega)
  rw [← e] at h1
  have h2 : (-1 : Int32).toInt = -1 := by decide
  omega
theorem k_37 {o i : Int32} (hd : 3 ≤ d) (hV : VS S z) (hs : S 8 4 = nI z) (h1 : ∀ j b, j < z → b < 3 → o = nI j → i = nI b → K S (some (.int (S 10 (3 * j + b))))) (h0 : ¬ (isO z o ∧ isO 3 i) → K S (some (.int 0))) : CS xs d 37 S [.ref 8, .int o, .int i] K := by
  obtain ⟨d, rfl⟩ := cs_d (d := d) (by omega)
  have hz := (VI.zb hV)
  refine c_37 (k_34 (by omega) hz hs (fun j hj e => ⟨_, rfl, ?_⟩) (fun h => ⟨_, rfl, ?_⟩))
  · obtain ⟨a, ha, hk, -⟩ := (VI.kd hV) j hj
    rw [hk]
    subst e
    refine k_24 (by omega) (fun a' ha' e g0 g1 => ⟨_, rfl, fun h => absurd h (by decide), fun _ => ?_⟩) (fun h => ⟨_, rfl, fun _ => ?_, fun h => absurd rfl h⟩)
    · obtain ⟨b, hb, rfl, hlt⟩ := hK_ix ((VI.nm hV) a' ha') (by omega) g0 g1
      exact ⟨3 * j + b, by omega, by rw [m3, Nat.mul_comm], h1 j b hj hb rfl rfl⟩
    · by_cases hi : isO 3 i
      · obtain ⟨b, hb, rfl⟩ := hi
        have hle : S 3 a ≤ nI b := Int32.not_lt.mp (fun hlt => h ⟨a, ha, rfl, nI_pos (by omega), Int32.not_le.mpr hlt⟩)
        have h3 := h1 j b hj hb rfl rfl
        rw [((VI.nr hV) j b hj hb).2.2 a ha hk hle] at h3
        exact h3
      · exact h0 (fun h => hi h.2)
  · exact k_24 (by omega) (fun a' ha' e g0 g1 => absurd ⟨a', ha', e, g0, g1⟩ neg_nhK) (fun _ => ⟨_, rfl, fun _ => h0 (fun h2 => h h2.1), fun h => absurd rfl h⟩)
theorem k_38 {o i : Int32} (hd : 3 ≤ d) (hV : VS S z) (hs : S 8 4 = nI z) (h1 : ∀ j b, j < z → b < 2 → o = nI j → i = nI b → K S (some (.int (S 11 (2 * j + b))))) (h0 : ¬ (isO z o ∧ isO 2 i) → K S (some (.int (-1)))) : CS xs d 38 S [.ref 8, .int o, .int i] K := by
  obtain ⟨d, rfl⟩ := cs_d (d := d) (by omega)
  have hz := (VI.zb hV)
  refine c_38 (k_34 (by omega) hz hs (fun j hj e => ⟨_, rfl, ?_⟩) (fun h => ⟨_, rfl, ?_⟩))
  · obtain ⟨a, ha, hk, -⟩ := (VI.kd hV) j hj
    rw [hk]
    subst e
    refine k_25 (by omega) (fun a' ha' e g0 g1 => ⟨_, rfl, fun h => absurd h (by decide), fun _ => ?_⟩) (fun h => ⟨_, rfl, fun _ => ?_, fun h => absurd rfl h⟩)
    · obtain ⟨b, hb, rfl, hlt⟩ := hK_ix ((VI.lk hV) a' ha') (by omega) g0 g1
      exact ⟨2 * j + b, by omega, by rw [m2, Nat.mul_comm], h1 j b hj hb rfl rfl⟩
    · by_cases hi : isO 2 i
      · obtain ⟨b, hb, rfl⟩ := hi
        have hle : S 4 a ≤ nI b := Int32.not_lt.mp (fun hlt => h ⟨a, ha, rfl, nI_pos (by omega), Int32.not_le.mpr hlt⟩)
        have h3 := h1 j b hj hb rfl rfl
        rw [((VI.lr hV) j b hj hb).2 a ha hk hle] at h3
        exact h3
      · exact h0 (fun h => hi h.2)
  · exact k_25 (by omega) (fun a' ha' e g0 g1 => absurd ⟨a', ha', e, g0, g1⟩ neg_nhK) (fun _ => ⟨_, rfl, fun _ => h0 (fun h2 => h h2.1), fun h => absurd rfl h⟩)
/-- may object o's number i become v? -/
def okN (nm le gr : Nat → Int32) (z : Nat) (kr : Nat → Int32) (o i v : Int32) (j a b : Nat) : Prop := j < z ∧ a < 4 ∧ b < 3 ∧ o = nI j ∧ i = nI b ∧ kr j = nI a ∧ nI b < nm a ∧ ¬ v < le (3 * a + b) ∧ ¬ gr (3 * a + b) < v
theorem k_35 {o i v : Int32} (hd : 3 ≤ d) (hV : VS S z) (hs : S 8 4 = nI z) (h1 : ∀ j a b, okN (S 3) (S 6) (S 7) z (S 9) o i v j a b → K (us S 10 (3 * j + b) v) (some (.int 1))) (h0 : ¬ (∃ j a b, okN (S 3) (S 6) (S 7) z (S 9) o i v j a b) → K S (some (.int 0))) : CS xs d 35 S [.ref 8, .int o, .int i, .int v] K := by
  obtain ⟨d, rfl⟩ := cs_d (d := d) (by omega)
  have hz := (VI.zb hV)
  refine c_35 (k_34 (by omega) hz hs (fun j hj e => ⟨_, rfl, ?_⟩) (fun h => ⟨_, rfl, ?_⟩))
  · refine k_29 (by omega) (VI.nm hV) (fun a b ha hb e1 e2 g1 g2 g3 => ⟨_, rfl, fun _ => ⟨3 * j + b, by omega, by rw [e, e2, m3, Nat.mul_comm], h1 j a b ⟨hj, ha, hb, e, e2, e1, g1, g2, g3⟩⟩, fun h => absurd (by decide) h⟩) (fun h => ⟨_, rfl, fun h => absurd rfl h, fun _ => h0 ?_⟩)
    rintro ⟨j', a, b, g1, g2, g3, g4, g5, g6, g7, g8, g9⟩
    have hjj : j = j' := nI_inj (by omega) (by omega) (e.symm.trans g4)
    subst hjj
    exact h ⟨a, b, g2, g3, g6, g5, g7, g8, g9⟩
  · refine k_29 (by omega) (VI.nm hV) (fun a b ha hb e1 e2 g1 g2 g3 => absurd (show hK (S 3) (-1) i from ⟨a, ha, e1, by rw [e2]; exact nI_pos (by omega), by rw [e2]; exact Int32.not_le.mpr g1⟩) neg_nhK) (fun _ => ⟨_, rfl, fun h => absurd rfl h, fun _ => h0 ?_⟩)
    rintro ⟨j', a, b, g1, g2, g3, g4, -⟩
    exact h ⟨j', g1, g4⟩
def okL (lk : Nat → Int32) (z : Nat) (kr : Nat → Int32) (o i v : Int32) (j a b : Nat) : Prop := j < z ∧ a < 4 ∧ b < 2 ∧ o = nI j ∧ i = nI b ∧ kr j = nI a ∧ nI b < lk a ∧ (v = -1 ∨ isO z v)
theorem k_36 {o i v : Int32} (hd : 3 ≤ d) (hV : VS S z) (hs : S 8 4 = nI z) (h1 : ∀ j a b, okL (S 4) z (S 9) o i v j a b → K (us S 11 (2 * j + b) v) (some (.int 1))) (h0 : ¬ (∃ j a b, okL (S 4) z (S 9) o i v j a b) → K S (some (.int 0))) : CS xs d 36 S [.ref 8, .int o, .int i, .int v] K := by
  obtain ⟨d, rfl⟩ := cs_d (d := d) (by omega)
  have hz := (VI.zb hV)
  refine c_36 (k_34 (by omega) hz hs (fun j hj e => ⟨_, rfl, ?_⟩) (fun h => ⟨_, rfl, ?_⟩))
  · refine k_25 (by omega) (fun a ha e1 g0 g1 => ⟨_, rfl, fun _ => ?_, fun h => absurd (by decide) h⟩) (fun h => ⟨_, rfl, fun h => absurd rfl h, fun _ => h0 ?_⟩)
    · obtain ⟨b, hb, rfl, hlt⟩ := hK_ix ((VI.lk hV) a ha) (by omega) g0 g1
      have hput : (v = -1 ∨ isO z v) → R_36_33 xs d K o (nI b) v S := by
        intro hv
        refine h_36_33 ?_
        subst e
        exact ⟨2 * j + b, by omega, by rw [m2, Nat.mul_comm], h1 j a b ⟨hj, ha, hb, rfl, rfl, e1, hlt, hv⟩⟩
      refine ⟨fun hv => hput (Or.inl hv), fun hv => k_31 (by omega) hz hs (fun t ht et => ⟨_, rfl, fun _ => hput (Or.inr ⟨t, ht, et⟩), fun h => absurd (by decide) h⟩) (fun h => ⟨_, rfl, fun h => absurd rfl h, fun _ => h0 ?_⟩)⟩
      rintro ⟨j', a', b', -, -, -, -, -, -, -, g⟩
      rcases g with g | g
      · exact hv g
      · exact h g
    · rintro ⟨j', a, b, g1, g2, g3, g4, g5, g6, g7, -⟩
      have hjj : j = j' := nI_inj (by omega) (by omega) (e.symm.trans g4)
      subst hjj
      exact h ⟨a, g2, g6, by rw [g5]; exact nI_pos (by omega), by rw [g5]; exact Int32.not_le.mpr g7⟩
  · refine k_25 (by omega) (fun a' ha' e g0 g1 => absurd ⟨a', ha', e, g0, g1⟩ neg_nhK) (fun _ => ⟨_, rfl, fun h => absurd rfl h, fun _ => h0 ?_⟩)
    rintro ⟨j', a, b, g1, g2, g3, g4, -⟩
    exact h ⟨j', g1, g4⟩
theorem k_32 {k : Int32} (hd : 3 ≤ d) (hV : VS S z) (hs : S 8 4 = nI z) (h1 : ∀ a, a < 4 → k = nI a → ¬ S 2 a = 0 → z < 24 → K (adS S z a) (some (.int (nI z)))) (h0 : ¬ (isK (S 2) k ∧ z < 24) → K S (some (.int (-1)))) : CS xs d 32 S [.ref 8, .int k] K := by
  obtain ⟨d, rfl⟩ := cs_d (d := d) (by omega)
  have hz := (VI.zb hV)
  refine c_32 (k_23 (by omega) (fun a ha e hdf => ⟨_, rfl, fun h => absurd h (by decide), fun _ => ⟨fun hlt => ?_, fun hge => h0 ?_⟩⟩) (fun h => ⟨_, rfl, fun _ => h0 (fun h2 => h h2.1), fun h => absurd rfl h⟩))
  · rw [hs] at hlt
    have hzl : z < 24 := (nI_ltI (b := 24) (by omega) (by omega)).mp hlt
    rw [hs]
    refine ⟨z, hzl, rfl, ?_⟩
    subst e
    have hK1 := h1 a ha rfl hdf hzl
    have hfin : K (us (us (us (us (us (us (us S 9 z (nI a)) 10 (3 * z) (S 5 (3 * a))) 10 (3 * z + 1) (S 5 (3 * a + 1))) 10 (3 * z + 2) (S 5 (3 * a + 2))) 11 (2 * z) (-1)) 11 (2 * z + 1) (-1)) 8 4 (S 8 4 + 1)) (some (.int (nI z))) := by
      rw [hs, nI_1]
      exact hK1
    have l2 : R_32_68 xs d K (nI z) (nI 2) (us (us (us (us (us (us S 9 z (nI a)) 10 (3 * z) (S 5 (3 * a))) 10 (3 * z + 1) (S 5 (3 * a + 1))) 10 (3 * z + 2) (S 5 (3 * a + 2))) 11 (2 * z) (-1)) 11 (2 * z + 1) (-1)) := h_32_68 ⟨fun _ => hfin, fun h => absurd (by decide) h⟩
    have l1 : R_32_68 xs d K (nI z) (nI 1) (us (us (us (us (us S 9 z (nI a)) 10 (3 * z) (S 5 (3 * a))) 10 (3 * z + 1) (S 5 (3 * a + 1))) 10 (3 * z + 2) (S 5 (3 * a + 2))) 11 (2 * z) (-1)) := h_32_68 ⟨fun h => absurd h (by decide), fun _ => ⟨2 * z + 1, by omega, by rw [m2, Nat.mul_comm], by rw [nI_1]; exact l2⟩⟩
    have l0 : R_32_68 xs d K (nI z) (nI 0) (us (us (us (us S 9 z (nI a)) 10 (3 * z) (S 5 (3 * a))) 10 (3 * z + 1) (S 5 (3 * a + 1))) 10 (3 * z + 2) (S 5 (3 * a + 2))) := h_32_68 ⟨fun h => absurd h (by decide), fun _ => ⟨2 * z, by omega, by rw [m2, Nat.mul_comm]; rfl, by rw [nI_1]; exact l1⟩⟩
    have dfl : ∀ (T : Sv) (b : Nat), T 3 = S 3 → T 5 = S 5 → b < 3 → (∀ K', K' T (some (.int (S 5 (3 * a + b)))) → CS xs d 28 T [.ref 1, .int (nI a), .int (nI b)] K') := by
      intro T b e3 e5 hb K' hK'
      refine k_28 (by omega) (by rw [e3]; exact (VI.nm hV)) (fun a' b' ha' hb' ea eb _ => ?_) (fun h => ?_)
      · rw [← nI_inj (by omega) (by omega) ea, ← nI_inj (by omega) (by omega) eb, e5]
        exact hK'
      · rw [e3] at h
        have hle : S 3 a ≤ nI b := Int32.not_lt.mp (fun hlt => h ⟨a, ha, rfl, nI_pos (by omega), Int32.not_le.mpr hlt⟩)
        rw [(VI.fi hV) a b ha hb hle] at hK'
        exact hK'
    have m3_ : R_32_36 xs d K (nI a) (nI z) (nI 3) (us (us (us (us S 9 z (nI a)) 10 (3 * z) (S 5 (3 * a))) 10 (3 * z + 1) (S 5 (3 * a + 1))) 10 (3 * z + 2) (S 5 (3 * a + 2))) := h_32_36 ⟨fun _ => l0, fun h => absurd (by decide) h⟩
    have m2_ : R_32_36 xs d K (nI a) (nI z) (nI 2) (us (us (us S 9 z (nI a)) 10 (3 * z) (S 5 (3 * a))) 10 (3 * z + 1) (S 5 (3 * a + 1))) := h_32_36 ⟨fun h => absurd h (by decide), fun _ => dfl _ 2 (by rfl) (by rfl) (by omega) _ ⟨_, rfl, 3 * z + 2, by omega, by rw [m3, Nat.mul_comm], by rw [nI_1]; exact m3_⟩⟩
    have m1_ : R_32_36 xs d K (nI a) (nI z) (nI 1) (us (us S 9 z (nI a)) 10 (3 * z) (S 5 (3 * a))) := h_32_36 ⟨fun h => absurd h (by decide), fun _ => dfl _ 1 (by rfl) (by rfl) (by omega) _ ⟨_, rfl, 3 * z + 1, by omega, by rw [m3, Nat.mul_comm], by rw [nI_1]; exact m2_⟩⟩
    have m0_ : R_32_36 xs d K (nI a) (nI z) (nI 0) (us S 9 z (nI a)) := h_32_36 ⟨fun h => absurd h (by decide), fun _ => dfl _ 0 (by rfl) (by rfl) (by omega) _ ⟨_, rfl, 3 * z, by omega, by rw [m3, Nat.mul_comm]; rfl, by rw [nI_1]; exact m1_⟩⟩
    exact m0_
  · intro h
    rw [hs] at hge
    exact hge (nI_lt (b := 24) h.2 (by decide))
end RW
