/-- make keeps what the rows mean: for any rows -/
theorem VI_add {df nm lk fi le gr : Nat → Int32} {z a : Nat} {kr nr lr : Nat → Int32} (h : VI df nm lk fi le gr z kr nr lr) (ha : a < 4) (hd : ¬ df a = 0) (hz : z < 24) : VI df nm lk fi le gr (z + 1) (upd kr z (nI a)) (upd (upd (upd nr (3 * z) (fi (3 * a))) (3 * z + 1) (fi (3 * a + 1))) (3 * z + 2) (fi (3 * a + 2))) (upd (upd lr (2 * z) (-1)) (2 * z + 1) (-1)) := by
  obtain ⟨v1, v2, v3, v4, v5, v6, v7, v8, v9, v10⟩ := h
  have hda : df a = 1 := (v1 a ha).resolve_left hd
  refine ⟨v1, v2, v3, v4, v5, v6, by omega, ?_, ?_, ?_⟩
  · intro o ho
    by_cases e : o = z
    · rw [e, upd_s]
      exact ⟨a, ha, rfl, hda⟩
    · rw [upd_n e]
      exact v8 o (by omega)
  · intro o i ho hi
    by_cases e : o = z
    · subst e
      have hv : upd (upd (upd nr (3 * o) (fi (3 * a))) (3 * o + 1) (fi (3 * a + 1))) (3 * o + 2) (fi (3 * a + 2)) (3 * o + i) = fi (3 * a + i) := by
        unfold upd
        by_cases h2 : i = 2
        · subst h2; rw [if_pos rfl]
        · rw [if_neg (by omega)]
          by_cases h1 : i = 1
          · subst h1; rw [if_pos rfl]
          · rw [if_neg (by omega), if_pos (by omega), show i = 0 by omega]; rfl
      rw [hv, upd_s]
      obtain ⟨w1, w2, w3, w4⟩ := v5 a i ha hi hda
      refine ⟨i32_le_trans w1 w2, i32_le_trans w3 w4, fun k hk e hle => ?_⟩
      rw [← nI_inj (by omega) (by omega) e] at hle
      exact v6 a i ha hi hle
    · rw [upd_n e, upd_n (by omega), upd_n (by omega), upd_n (by omega)]
      exact v9 o i (by omega) hi
  · intro o i ho hi
    by_cases e : o = z
    · subst e
      have hv : upd (upd lr (2 * o) (-1)) (2 * o + 1) (-1) (2 * o + i) = -1 := by
        unfold upd
        by_cases h1 : i = 1
        · subst h1; rw [if_pos rfl]
        · rw [if_neg (by omega), if_pos (by omega)]
      rw [hv]
      exact ⟨Or.inl rfl, fun _ _ _ _ => rfl⟩
    · rw [upd_n e, upd_n (by omega), upd_n (by omega)]
      obtain ⟨w1, w2⟩ := v10 o i (by omega) hi
      exact ⟨w1.imp id (fun ⟨t, ht, et⟩ => ⟨t, by omega, et⟩), w2⟩
theorem Inv_make {S : Sv} {z a : Nat} (h : Inv S) (hs : S 8 4 = nI z) (ha : a < 4) (hd : ¬ S 2 a = 0) (hz : z < 24) : Inv (adR (adS S z a) z a) := by
  obtain ⟨z', nn, f, hV, hn, hf, hU, ⟨e2, e3, e4, e5, e6⟩, ⟨g1, g2, g3, g4, g5⟩, ht, hfl⟩ := h
  have hz' : z' = z := nI_inj (by have := VI.zb hV; omega) (by omega) (g1.symm.trans hs)
  subst hz'
  refine ⟨z' + 1, nn, f, VI_add hV ha hd hz, hn, hf, hU, ⟨e2, e3, e4, e5, e6⟩, ⟨rfl, rfl, ?_, ?_, ?_⟩, ht, hfl⟩
  · show upd (S 38) z' (nI a) = upd (S 9) z' (nI a)
    rw [g3]
  · show upd (upd (upd (S 39) (3 * z') (S 35 (3 * a))) (3 * z' + 1) (S 35 (3 * a + 1))) (3 * z' + 2) (S 35 (3 * a + 2)) = upd (upd (upd (S 10) (3 * z') (S 5 (3 * a))) (3 * z' + 1) (S 5 (3 * a + 1))) (3 * z' + 2) (S 5 (3 * a + 2))
    rw [g4, e5]
  · show upd (upd (S 40) (2 * z') (-1)) (2 * z' + 1) (-1) = upd (upd (S 11) (2 * z') (-1)) (2 * z' + 1) (-1)
    rw [g5]
/-- the reference's rows mean the same -/
theorem Inv.VR {S : Sv} (h : Inv S) : ∃ z n f, z ≤ 24 ∧ n ≤ 300 ∧ f ≤ 300 ∧ S 8 4 = nI z ∧ S 31 6 = nI z ∧ S 19 1 = nI n ∧ S 31 11 = nI n ∧ S 28 4 = nI f ∧ S 31 34 = nI f ∧ VS S z ∧ VR S z := by
  obtain ⟨z, n, f, hV, hn, hf, hU, ⟨e2, e3, e4, e5, e6⟩, ⟨g1, g2, g3, g4, g5⟩, ⟨t1, t2, t3, t4⟩, f1, f2, f3⟩ := h
  refine ⟨z, n, f, VI.zb hV, hn, hf, g1, g2, t1, t2, f1, f2, hV, ?_⟩
  show VI (S 32) (S 33) (S 34) (S 35) (S 36) (S 37) z (S 38) (S 39) (S 40)
  rw [e2, e3, e4, e5, g3, g4, g5]
  obtain ⟨v1, v2, v3, v4, v5, v6, v7, v8, v9, v10⟩ := hV
  refine ⟨v1, v2, v3, v4, fun k i hk hi hd => ?_, v6, v7, v8, v9, v10⟩
  rw [(e6 k hk hd i hi).1, (e6 k hk hd i hi).2]
  exact v5 k i hk hi hd
