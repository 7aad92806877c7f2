/-! the reference: kinds, objects, text, failures -/
abbrev VR (S : Sv) (z : Nat) : Prop := VI (S 32) (S 33) (S 34) (S 35) (S 36) (S 37) z (S 38) (S 39) (S 40)
def dfR (S : Sv) (a : Nat) (n l : Int32) : Sv := us (us (us (us (us (us (us (us (us (us (us (us S 32 a 1) 33 a n) 34 a l) 35 (3 * a) 0) 36 (3 * a) (-1000)) 37 (3 * a) 1000) 35 (3 * a + 1) 0) 36 (3 * a + 1) (-1000)) 37 (3 * a + 1) 1000) 35 (3 * a + 2) 0) 36 (3 * a + 2) (-1000)) 37 (3 * a + 2) 1000
def adR (S : Sv) (z a : Nat) : Sv := us (us (us (us (us (us (us S 38 z (nI a)) 39 (3 * z) (S 35 (3 * a))) 39 (3 * z + 1) (S 35 (3 * a + 1))) 39 (3 * z + 2) (S 35 (3 * a + 2))) 40 (2 * z) (-1)) 40 (2 * z + 1) (-1)) 31 6 (nI (z + 1))
theorem gt3 {x : Int32} (h : ¬ 3 < x) : ¬ nI 4 ≤ x := by
  intro h2
  have e1 := ti_ge h
  have e2 := ti_le h2
  rw [show (3 : Int32).toInt = 3 from by decide] at e1
  rw [nI_toInt (by omega)] at e2
  omega
theorem lt3 {a : Nat} (h : a < 4) : ¬ 3 < nI a := nI_nlt (a := 3) (b := a) (by omega) (by omega) |> fun _ => Int32.not_lt.mpr (nI_le (b := 3) (by omega) (by decide))
section RF
variable {xs : Nat × (Nat → Int32)} {d z : Nat} {S : Sv} {K : Sv → Option Value → Prop}
theorem k_85 {k : Int32} (hd : 1 ≤ d) (h1 : ∀ a, a < 4 → k = nI a → ¬ S 32 a = 0 → K S (some (.int 1))) (h0 : ¬ isK (S 32) k → K S (some (.int 0))) : CS xs d 85 S [.ref 31, .int k] K := by
  obtain ⟨d, rfl⟩ := cs_d hd
  refine c_85 ⟨fun hc => h0 ?_, fun hc => ⟨fun hc2 => h0 ?_, fun hc2 => ?_⟩⟩
  · rintro ⟨j, hj, rfl, -⟩
    exact nI_pos (by omega) hc
  · rintro ⟨j, hj, rfl, -⟩
    exact lt3 hj hc2
  · obtain ⟨j, hj, rfl⟩ := in_n (n := 4) (by omega) hc (gt3 hc2)
    refine ⟨j, hj, rfl, fun hc3 => h0 ?_, fun hc3 => h1 j hj rfl hc3⟩
    rintro ⟨a, ha, e, h⟩
    rw [← nI_inj (by omega) (by omega) e] at h
    exact h hc3
theorem k_88 {o : Int32} (hd : 1 ≤ d) (hz : z ≤ 24) (hs : S 31 6 = nI z) (h1 : ∀ j, j < z → o = nI j → K S (some (.int 1))) (h0 : ¬ isO z o → K S (some (.int 0))) : CS xs d 88 S [.ref 31, .int o] K := by
  obtain ⟨d, rfl⟩ := cs_d hd
  refine c_88 ⟨fun hc => h0 ?_, fun hc => ⟨fun hc2 => h0 ?_, fun hc2 => ?_⟩⟩
  · rintro ⟨j, hj, rfl⟩
    exact nI_pos (by omega) hc
  · rintro ⟨j, hj, rfl⟩
    rw [hs] at hc2
    exact nI_ge hj (by omega) hc2
  · rw [hs] at hc2
    obtain ⟨j, hj, rfl⟩ := in_n (by omega) hc hc2
    exact h1 j hj rfl
/-- has object o a number (a link) i? -/
def hO (nm : Nat → Int32) (z m : Nat) (kr : Nat → Int32) (o i : Int32) (j a b : Nat) : Prop := j < z ∧ a < 4 ∧ b < m ∧ o = nI j ∧ i = nI b ∧ kr j = nI a ∧ nI b < nm a
theorem k_89 {o i : Int32} (hd : 2 ≤ d) (hV : VR S z) (hs : S 31 6 = nI z) (h1 : ∀ j a b, hO (S 33) z 3 (S 38) o i j a b → K S (some (.int 1))) (h0 : ¬ (∃ j a b, hO (S 33) z 3 (S 38) o i j a b) → K S (some (.int 0))) : CS xs d 89 S [.ref 31, .int o, .int i] K := by
  obtain ⟨d, rfl⟩ := cs_d (d := d) (by omega)
  have hz := VI.zb hV
  refine c_89 (k_88 (by omega) hz hs (fun j hj e => ⟨_, rfl, fun h => absurd h (by decide), fun _ => ⟨fun g1 => h0 ?_, fun g1 => ?_⟩⟩) (fun h => ⟨_, rfl, fun _ => h0 ?_, fun h => absurd rfl h⟩))
  · rintro ⟨j', a, b, -, -, hb, -, e, -⟩
    rw [e] at g1
    exact absurd g1 (nI_pos (by omega))
  · obtain ⟨a, ha, hk, -⟩ := VI.kd hV j hj
    refine ⟨j, by omega, e, a, ha, hk, fun g2 => h0 ?_, fun g2 => ?_⟩
    · rintro ⟨j', a', b, q1, q2, q3, q4, q5, q6, q7⟩
      have hjj : j = j' := nI_inj (by omega) (by omega) (e.symm.trans q4)
      subst hjj
      have haa : a = a' := nI_inj (by omega) (by omega) (hk.symm.trans q6)
      subst haa
      rw [q5] at g2
      exact absurd g2 (Int32.not_le.mpr q7)
    · obtain ⟨b, hb, rfl, hlt⟩ := hK_ix (VI.nm hV a ha) (by omega) g1 g2
      exact h1 j a b ⟨hj, ha, hb, e, rfl, hk, hlt⟩
  · rintro ⟨j', a, b, q1, q2, q3, q4, -⟩
    exact h ⟨j', q1, q4⟩
theorem k_90 {o i : Int32} (hd : 2 ≤ d) (hV : VR S z) (hs : S 31 6 = nI z) (h1 : ∀ j a b, hO (S 34) z 2 (S 38) o i j a b → K S (some (.int 1))) (h0 : ¬ (∃ j a b, hO (S 34) z 2 (S 38) o i j a b) → K S (some (.int 0))) : CS xs d 90 S [.ref 31, .int o, .int i] K := by
  obtain ⟨d, rfl⟩ := cs_d (d := d) (by omega)
  have hz := VI.zb hV
  refine c_90 (k_88 (by omega) hz hs (fun j hj e => ⟨_, rfl, fun h => absurd h (by decide), fun _ => ⟨fun g1 => h0 ?_, fun g1 => ?_⟩⟩) (fun h => ⟨_, rfl, fun _ => h0 ?_, fun h => absurd rfl h⟩))
  · rintro ⟨j', a, b, -, -, hb, -, e, -⟩
    rw [e] at g1
    exact absurd g1 (nI_pos (by omega))
  · obtain ⟨a, ha, hk, -⟩ := VI.kd hV j hj
    refine ⟨j, by omega, e, a, ha, hk, fun g2 => h0 ?_, fun g2 => ?_⟩
    · rintro ⟨j', a', b, q1, q2, q3, q4, q5, q6, q7⟩
      have hjj : j = j' := nI_inj (by omega) (by omega) (e.symm.trans q4)
      subst hjj
      have haa : a = a' := nI_inj (by omega) (by omega) (hk.symm.trans q6)
      subst haa
      rw [q5] at g2
      exact absurd g2 (Int32.not_le.mpr q7)
    · obtain ⟨b, hb, rfl, hlt⟩ := hK_ix (VI.lk hV a ha) (by omega) g1 g2
      exact h1 j a b ⟨hj, ha, hb, e, rfl, hk, hlt⟩
  · rintro ⟨j', a, b, q1, q2, q3, q4, -⟩
    exact h ⟨j', q1, q4⟩
theorem k_94 {o : Int32} (hd : 2 ≤ d) (hz : z ≤ 24) (hs : S 31 6 = nI z) (h1 : ∀ j, j < z → o = nI j → K S (some (.int (S 38 j)))) (h0 : ¬ isO z o → K S (some (.int (-1)))) : CS xs d 94 S [.ref 31, .int o] K := by
  obtain ⟨d, rfl⟩ := cs_d (d := d) (by omega)
  exact c_94 (k_88 (by omega) hz hs (fun j hj e => ⟨_, rfl, fun h => absurd h (by decide), fun _ => ⟨j, by omega, e, h1 j hj e⟩⟩) (fun h => ⟨_, rfl, fun _ => h0 h, fun h => absurd rfl h⟩))
theorem k_95 {v : Int32} {j a b : Nat} (hd : 1 ≤ d) (hj : j < 24) (ha : a < 4) (hb : b < 3) (hk : S 38 j = nI a) (h1 : ¬ v < S 36 (3 * a + b) → ¬ S 37 (3 * a + b) < v → K S (some (.int 1))) (h0 : ¬ (¬ v < S 36 (3 * a + b) ∧ ¬ S 37 (3 * a + b) < v) → K S (some (.int 0))) : CS xs d 95 S [.ref 31, .int (nI j), .int (nI b), .int v] K := by
  obtain ⟨d, rfl⟩ := cs_d hd
  refine c_95 ⟨j, hj, rfl, 3 * a + b, by omega, by rw [hk, m3'], fun g1 => h0 (fun h => h.1 g1), fun g1 => ⟨3 * a + b, by omega, by rw [hk, m3'], fun g2 => h0 (fun h => h.2 g2), fun g2 => h1 g1 g2⟩⟩
theorem k_96 {o i v : Int32} (hd : 3 ≤ d) (hV : VR S z) (hs : S 31 6 = nI z) (h1 : ∀ j a b, okN (S 33) (S 36) (S 37) z (S 38) o i v j a b → K (us S 39 (3 * j + b) v) (some (.int 1))) (h0 : ¬ (∃ j a b, okN (S 33) (S 36) (S 37) z (S 38) o i v j a b) → K S (some (.int 0))) : CS xs d 96 S [.ref 31, .int o, .int i, .int v] K := by
  obtain ⟨d, rfl⟩ := cs_d (d := d) (by omega)
  have hz := VI.zb hV
  refine c_96 (k_89 (by omega) hV hs (fun j a b h => ⟨_, rfl, fun h => absurd h (by decide), fun _ => ?_⟩) (fun h => ⟨_, rfl, fun _ => h0 ?_, fun h => absurd rfl h⟩))
  · obtain ⟨hj, ha, hb, rfl, rfl, hk, hlt⟩ := h
    refine k_95 (by omega) (by omega) ha hb hk (fun g1 g2 => ⟨_, rfl, fun _ => ⟨3 * j + b, by omega, by rw [m3'], h1 j a b ⟨hj, ha, hb, rfl, rfl, hk, hlt, g1, g2⟩⟩, fun h => absurd (by decide) h⟩) (fun h => ⟨_, rfl, fun h => absurd rfl h, fun _ => h0 ?_⟩)
    rintro ⟨j', a', b', q1, q2, q3, q4, q5, q6, q7, q8, q9⟩
    have hjj : j = j' := nI_inj (by omega) (by omega) q4
    subst hjj
    have haa : a = a' := nI_inj (by omega) (by omega) (hk.symm.trans q6)
    subst haa
    have hbb : b = b' := nI_inj (by omega) (by omega) q5
    subst hbb
    exact h ⟨q8, q9⟩
  · rintro ⟨j', a', b', q1, q2, q3, q4, q5, q6, q7, -⟩
    exact h ⟨j', a', b', q1, q2, q3, q4, q5, q6, q7⟩
theorem k_97 {o i v : Int32} (hd : 3 ≤ d) (hV : VR S z) (hs : S 31 6 = nI z) (h1 : ∀ j a b, okL (S 34) z (S 38) o i v j a b → K (us S 40 (2 * j + b) v) (some (.int 1))) (h0 : ¬ (∃ j a b, okL (S 34) z (S 38) o i v j a b) → K S (some (.int 0))) : CS xs d 97 S [.ref 31, .int o, .int i, .int v] K := by
  obtain ⟨d, rfl⟩ := cs_d (d := d) (by omega)
  have hz := VI.zb hV
  refine c_97 (k_90 (by omega) hV hs (fun j a b h => ⟨_, rfl, fun h => absurd h (by decide), fun _ => ?_⟩) (fun h => ⟨_, rfl, fun _ => h0 ?_, fun h => absurd rfl h⟩))
  · obtain ⟨hj, ha, hb, rfl, rfl, hk, hlt⟩ := h
    have hput : (v = -1 ∨ isO z v) → R_97_24 xs d K (nI j) (nI b) v S := fun hv => h_97_24 ⟨2 * j + b, by omega, by rw [m2'], h1 j a b ⟨hj, ha, hb, rfl, rfl, hk, hlt, hv⟩⟩
    refine ⟨fun hv => hput (Or.inl hv), fun hv => k_88 (by omega) hz hs (fun t ht et => ⟨_, rfl, fun _ => hput (Or.inr ⟨t, ht, et⟩), fun h => absurd (by decide) h⟩) (fun h => ⟨_, rfl, fun h => absurd rfl h, fun _ => h0 ?_⟩)⟩
    rintro ⟨j', a', b', -, -, -, -, -, -, -, g⟩
    rcases g with g | g
    · exact hv g
    · exact h g
  · rintro ⟨j', a', b', q1, q2, q3, q4, q5, q6, q7, -⟩
    exact h ⟨j', a', b', q1, q2, q3, q4, q5, q6, q7⟩
theorem k_98 {o i : Int32} (hd : 3 ≤ d) (hV : VR S z) (hs : S 31 6 = nI z) (h1 : ∀ j b, j < z → b < 3 → o = nI j → i = nI b → K S (some (.int (S 39 (3 * j + b))))) (h0 : ¬ (isO z o ∧ isO 3 i) → K S (some (.int 0))) : CS xs d 98 S [.ref 31, .int o, .int i] K := by
  obtain ⟨d, rfl⟩ := cs_d (d := d) (by omega)
  have hz := VI.zb hV
  refine c_98 (k_89 (by omega) hV hs (fun j a b h => ⟨_, rfl, fun h => absurd h (by decide), fun _ => ?_⟩) (fun h => ⟨_, rfl, fun _ => ?_, fun h => absurd rfl h⟩))
  · obtain ⟨hj, ha, hb, rfl, rfl, hk, hlt⟩ := h
    exact ⟨3 * j + b, by omega, by rw [m3'], h1 j b hj hb rfl rfl⟩
  · by_cases hi : isO z o ∧ isO 3 i
    · obtain ⟨⟨j, hj, rfl⟩, b, hb, rfl⟩ := hi
      obtain ⟨a, ha, hk, -⟩ := VI.kd hV j hj
      have hle : S 33 a ≤ nI b := Int32.not_lt.mp (fun hlt => h ⟨j, a, b, hj, ha, hb, rfl, rfl, hk, hlt⟩)
      have h3 := h1 j b hj hb rfl rfl
      rw [(VI.nr hV j b hj hb).2.2 a ha hk hle] at h3
      exact h3
    · exact h0 hi
theorem k_99 {o i : Int32} (hd : 3 ≤ d) (hV : VR S z) (hs : S 31 6 = nI z) (h1 : ∀ j b, j < z → b < 2 → o = nI j → i = nI b → K S (some (.int (S 40 (2 * j + b))))) (h0 : ¬ (isO z o ∧ isO 2 i) → K S (some (.int (-1)))) : CS xs d 99 S [.ref 31, .int o, .int i] K := by
  obtain ⟨d, rfl⟩ := cs_d (d := d) (by omega)
  have hz := VI.zb hV
  refine c_99 (k_90 (by omega) hV hs (fun j a b h => ⟨_, rfl, fun h => absurd h (by decide), fun _ => ?_⟩) (fun h => ⟨_, rfl, fun _ => ?_, fun h => absurd rfl h⟩))
  · obtain ⟨hj, ha, hb, rfl, rfl, hk, hlt⟩ := h
    exact ⟨2 * j + b, by omega, by rw [m2'], h1 j b hj hb rfl rfl⟩
  · by_cases hi : isO z o ∧ isO 2 i
    · obtain ⟨⟨j, hj, rfl⟩, b, hb, rfl⟩ := hi
      obtain ⟨a, ha, hk, -⟩ := VI.kd hV j hj
      have hle : S 34 a ≤ nI b := Int32.not_lt.mp (fun hlt => h ⟨j, a, b, hj, ha, hb, rfl, rfl, hk, hlt⟩)
      have h3 := h1 j b hj hb rfl rfl
      rw [(VI.lr hV j b hj hb).2 a ha hk hle] at h3
      exact h3
    · exact h0 hi
end RF
