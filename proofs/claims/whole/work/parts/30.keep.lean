/-! what each call keeps of Inv -/
theorem i32_le_trans {a b c : Int32} (h1 : a ≤ b) (h2 : b ≤ c) : a ≤ c := Int32.le_iff_toInt_le.mpr (Int.le_trans (Int32.le_iff_toInt_le.mp h1) (Int32.le_iff_toInt_le.mp h2))
theorem Inv_define {S : Sv} {k n l : Int32} {a : Nat} (h : Inv S) (ho : okD (S 2) k n l a) : Inv (dfR (us (us (us S 2 a 1) 3 a n) 4 a l) a n l) := by
  obtain ⟨z, nn, f, hV, hn, hf, hU, ⟨e2, e3, e4, e5, e6⟩, ⟨g1, g2, g3, g4, g5⟩, ht, hfl⟩ := h
  obtain ⟨ha, rfl, hd, n0, n3, l0, l2⟩ := ho
  obtain ⟨v1, v2, v3, v4, v5, v6, v7, v8, v9, v10⟩ := hV
  obtain ⟨n', hn', rfl⟩ : ∃ j, j ≤ 3 ∧ n = nI j := nI_of2 (M := 3) (n := 3) (by decide) n0 n3
  obtain ⟨l', hl', rfl⟩ : ∃ j, j ≤ 2 ∧ l = nI j := nI_of2 (M := 2) (n := 2) (by decide) l0 l2
  have kd : ∀ o, o < z → ∀ k, k < 4 → S 9 o = nI k → k ≠ a := by
    intro o ho k hk e
    obtain ⟨k', hk', e', hd'⟩ := v8 o ho
    have : k = k' := nI_inj (by omega) (by omega) (e.symm.trans e')
    rintro rfl
    rw [this] at hd
    rw [hd] at hd'
    exact absurd hd' (by decide)
  refine ⟨z, nn, f, ⟨?_, ?_, ?_, ?_, ?_, ?_, v7, ?_, ?_, ?_⟩, hn, hf, ?_, ⟨?_, ?_, ?_, ?_, ?_⟩, ⟨g1, g2, g3, g4, g5⟩, ht, hfl⟩
  · intro k hk
    show upd (S 2) a 1 k = 0 ∨ upd (S 2) a 1 k = 1
    by_cases e : k = a
    · rw [e, upd_s]; exact Or.inr rfl
    · rw [upd_n e]; exact v1 k hk
  · intro k hk
    show ∃ b, b ≤ 3 ∧ upd (S 3) a (nI n') k = nI b
    by_cases e : k = a
    · rw [e, upd_s]; exact ⟨n', hn', rfl⟩
    · rw [upd_n e]; exact v2 k hk
  · intro k hk
    show ∃ b, b ≤ 2 ∧ upd (S 4) a (nI l') k = nI b
    by_cases e : k = a
    · rw [e, upd_s]; exact ⟨l', hl', rfl⟩
    · rw [upd_n e]; exact v3 k hk
  · intro k hk
    show upd (S 2) a 1 k = 0 → upd (S 3) a (nI n') k = 0 ∧ upd (S 4) a (nI l') k = 0
    by_cases e : k = a
    · rw [e, upd_s]; exact fun h => absurd h (by decide)
    · rw [upd_n e, upd_n e, upd_n e]; exact v4 k hk
  · intro k i hk hi
    show upd (S 2) a 1 k = 1 → -99999 ≤ S 6 (3 * k + i) ∧ S 6 (3 * k + i) ≤ S 5 (3 * k + i) ∧ S 5 (3 * k + i) ≤ S 7 (3 * k + i) ∧ S 7 (3 * k + i) ≤ 99999
    by_cases e : k = a
    · intro _
      rw [e, (hU a ha hd i hi).1, (hU a ha hd i hi).2.1, (hU a ha hd i hi).2.2]
      decide
    · rw [upd_n e]; exact v5 k i hk hi
  · intro k i hk hi
    show upd (S 3) a (nI n') k ≤ nI i → S 5 (3 * k + i) = 0
    by_cases e : k = a
    · intro _
      rw [e]
      exact (hU a ha hd i hi).1
    · rw [upd_n e]; exact v6 k i hk hi
  · intro o ho
    obtain ⟨k, hk, e, hdk⟩ := v8 o ho
    refine ⟨k, hk, e, ?_⟩
    show upd (S 2) a 1 k = 1
    rw [upd_n (kd o ho k hk e)]
    exact hdk
  · intro o i ho hi
    obtain ⟨q1, q2, q3⟩ := v9 o i ho hi
    refine ⟨q1, q2, fun k hk e hle => q3 k hk e ?_⟩
    have hle : upd (S 3) a (nI n') k ≤ nI i := hle
    rw [upd_n (kd o ho k hk e)] at hle
    exact hle
  · intro o i ho hi
    obtain ⟨q1, q2⟩ := v10 o i ho hi
    refine ⟨q1, fun k hk e hle => q2 k hk e ?_⟩
    have hle : upd (S 4) a (nI l') k ≤ nI i := hle
    rw [upd_n (kd o ho k hk e)] at hle
    exact hle
  · intro k hk
    show upd (S 2) a 1 k = 0 → ∀ i, i < 3 → S 5 (3 * k + i) = 0 ∧ S 6 (3 * k + i) = -1000 ∧ S 7 (3 * k + i) = 1000
    by_cases e : k = a
    · rw [e, upd_s]; exact fun h => absurd h (by decide)
    · rw [upd_n e]; exact hU k hk
  · show upd (S 32) a 1 = upd (S 2) a 1
    rw [e2]
  · show upd (S 33) a (nI n') = upd (S 3) a (nI n')
    rw [e3]
  · show upd (S 34) a (nI l') = upd (S 4) a (nI l')
    rw [e4]
  · show upd (upd (upd (S 35) (3 * a) 0) (3 * a + 1) 0) (3 * a + 2) 0 = S 5
    rw [e5]
    funext j
    unfold upd
    by_cases h2 : j = 3 * a + 2
    · rw [if_pos h2, h2, (hU a ha hd 2 (by omega)).1]
    · rw [if_neg h2]
      by_cases h1 : j = 3 * a + 1
      · rw [if_pos h1, h1, (hU a ha hd 1 (by omega)).1]
      · rw [if_neg h1]
        by_cases h0 : j = 3 * a
        · rw [if_pos h0, h0]
          exact (hU a ha hd 0 (by omega)).1.symm
        · rw [if_neg h0]
  · intro k hk
    show upd (S 2) a 1 k = 1 → ∀ i, i < 3 → upd (upd (upd (S 36) (3 * a) (-1000)) (3 * a + 1) (-1000)) (3 * a + 2) (-1000) (3 * k + i) = S 6 (3 * k + i) ∧ upd (upd (upd (S 37) (3 * a) 1000) (3 * a + 1) 1000) (3 * a + 2) 1000 (3 * k + i) = S 7 (3 * k + i)
    by_cases e : k = a
    · intro _ i hi
      subst e
      rw [(hU k ha hd i hi).2.1, (hU k ha hd i hi).2.2]
      unfold upd
      by_cases h2 : 3 * k + i = 3 * k + 2
      · rw [if_pos h2, if_pos h2]; exact ⟨rfl, rfl⟩
      · rw [if_neg h2, if_neg h2]
        by_cases h1 : 3 * k + i = 3 * k + 1
        · rw [if_pos h1, if_pos h1]; exact ⟨rfl, rfl⟩
        · rw [if_neg h1, if_neg h1, if_pos (by omega), if_pos (by omega)]; exact ⟨rfl, rfl⟩
    · rw [upd_n e]
      intro hdk i hi
      rw [upd_n (by omega), upd_n (by omega), upd_n (by omega), upd_n (by omega), upd_n (by omega), upd_n (by omega)]
      exact e6 k hk hdk i hi
theorem Inv_values {S : Sv} {k i fv lo hi : Int32} {a b : Nat} (h : Inv S) (ho : okV (S 3) k i fv lo hi a b) : Inv (us (us (us (us (us (us S 5 (3 * a + b) fv) 6 (3 * a + b) lo) 7 (3 * a + b) hi) 35 (3 * a + b) fv) 36 (3 * a + b) lo) 37 (3 * a + b) hi) := by
  obtain ⟨z, nn, f, hV, hn, hf, hU, ⟨e2, e3, e4, e5, e6⟩, ⟨g1, g2, g3, g4, g5⟩, ht, hfl⟩ := h
  obtain ⟨ha, hb, rfl, rfl, hlt, q1, q2, q3, q4⟩ := ho
  obtain ⟨v1, v2, v3, v4, v5, v6, v7, v8, v9, v10⟩ := hV
  have hda : S 2 a = 1 := by
    rcases v1 a ha with h | h
    · rw [(v4 a ha h).1] at hlt
      exact absurd hlt (nI_pos (by omega))
    · exact h
  have ix : ∀ k' i', i' < 3 → 3 * k' + i' = 3 * a + b → k' = a ∧ i' = b := fun k' i' h1 h2 => by omega
  refine ⟨z, nn, f, ⟨v1, v2, v3, v4, ?_, ?_, v7, v8, v9, v10⟩, hn, hf, ?_, ⟨e2, e3, e4, ?_, ?_⟩, ⟨g1, g2, g3, g4, g5⟩, ht, hfl⟩
  · intro k' i' hk' hi' hd
    show -99999 ≤ upd (S 6) (3 * a + b) lo (3 * k' + i') ∧ upd (S 6) (3 * a + b) lo (3 * k' + i') ≤ upd (S 5) (3 * a + b) fv (3 * k' + i') ∧ upd (S 5) (3 * a + b) fv (3 * k' + i') ≤ upd (S 7) (3 * a + b) hi (3 * k' + i') ∧ upd (S 7) (3 * a + b) hi (3 * k' + i') ≤ 99999
    by_cases e : 3 * k' + i' = 3 * a + b
    · rw [e, upd_s, upd_s, upd_s]
      exact ⟨Int32.not_lt.mp q1, Int32.not_lt.mp q3, q4, q2⟩
    · rw [upd_n e, upd_n e, upd_n e]
      exact v5 k' i' hk' hi' hd
  · intro k' i' hk' hi' hle
    show upd (S 5) (3 * a + b) fv (3 * k' + i') = 0
    by_cases e : 3 * k' + i' = 3 * a + b
    · obtain ⟨rfl, rfl⟩ := ix k' i' hi' e
      exact absurd hle (Int32.not_le.mpr hlt)
    · rw [upd_n e]
      exact v6 k' i' hk' hi' hle
  · intro k' hk' hd i' hi'
    have hne : 3 * k' + i' ≠ 3 * a + b := by
      intro e
      obtain ⟨rfl, rfl⟩ := ix k' i' hi' e
      have hd : S 2 k' = 0 := hd
      rw [hda] at hd
      exact absurd hd (by decide)
    show upd (S 5) (3 * a + b) fv (3 * k' + i') = 0 ∧ upd (S 6) (3 * a + b) lo (3 * k' + i') = -1000 ∧ upd (S 7) (3 * a + b) hi (3 * k' + i') = 1000
    rw [upd_n hne, upd_n hne, upd_n hne]
    exact hU k' hk' hd i' hi'
  · show upd (S 35) (3 * a + b) fv = upd (S 5) (3 * a + b) fv
    rw [e5]
  · intro k' hk' hd i' hi'
    show upd (S 36) (3 * a + b) lo (3 * k' + i') = upd (S 6) (3 * a + b) lo (3 * k' + i') ∧ upd (S 37) (3 * a + b) hi (3 * k' + i') = upd (S 7) (3 * a + b) hi (3 * k' + i')
    by_cases e : 3 * k' + i' = 3 * a + b
    · rw [e, upd_s, upd_s, upd_s, upd_s]; exact ⟨rfl, rfl⟩
    · rw [upd_n e, upd_n e, upd_n e, upd_n e]
      exact e6 k' hk' hd i' hi'
theorem Inv_number {S : Sv} {o i v : Int32} {z j a b : Nat} (h : Inv S) (hz : S 8 4 = nI z) (hzl : z ≤ 24) (ho : okN (S 3) (S 6) (S 7) z (S 9) o i v j a b) : Inv (us (us S 10 (3 * j + b) v) 39 (3 * j + b) v) := by
  obtain ⟨z', nn, f, hV, hn, hf, hU, ⟨e2, e3, e4, e5, e6⟩, ⟨g1, g2, g3, g4, g5⟩, ht, hfl⟩ := h
  obtain ⟨hj, ha, hb, rfl, rfl, hk, hlt, q1, q2⟩ := ho
  have hz' : z' = z := nI_inj (by have := VI.zb hV; omega) (by omega) (g1.symm.trans hz)
  subst hz'
  obtain ⟨v1, v2, v3, v4, v5, v6, v7, v8, v9, v10⟩ := hV
  have hda : S 2 a = 1 := by
    rcases v1 a ha with h | h
    · rw [(v4 a ha h).1] at hlt
      exact absurd hlt (nI_pos (by omega))
    · exact h
  refine ⟨z', nn, f, ⟨v1, v2, v3, v4, v5, v6, v7, v8, ?_, v10⟩, hn, hf, hU, ⟨e2, e3, e4, e5, e6⟩, ⟨g1, g2, g3, ?_, g5⟩, ht, hfl⟩
  · intro o' i' ho' hi'
    show -99999 ≤ upd (S 10) (3 * j + b) v (3 * o' + i') ∧ upd (S 10) (3 * j + b) v (3 * o' + i') ≤ 99999 ∧ ∀ k, k < 4 → S 9 o' = nI k → S 3 k ≤ nI i' → upd (S 10) (3 * j + b) v (3 * o' + i') = 0
    by_cases e : 3 * o' + i' = 3 * j + b
    · have e1 : o' = j := by omega
      have e2 : i' = b := by omega
      subst e1
      subst e2
      rw [upd_s]
      obtain ⟨w1, w2, w3, w4⟩ := v5 a i' ha hi' hda
      refine ⟨i32_le_trans w1 (Int32.not_lt.mp q1), i32_le_trans (Int32.not_lt.mp q2) w4, fun k hk2 ek hle => ?_⟩
      rw [nI_inj (by omega) (by omega) (ek.symm.trans hk)] at hle
      exact absurd hle (Int32.not_le.mpr hlt)
    · rw [upd_n e]
      exact v9 o' i' ho' hi'
  · show upd (S 39) (3 * j + b) v = upd (S 10) (3 * j + b) v
    rw [g4]
theorem Inv_link {S : Sv} {o i v : Int32} {z j a b : Nat} (h : Inv S) (hz : S 8 4 = nI z) (hzl : z ≤ 24) (ho : okL (S 4) z (S 9) o i v j a b) : Inv (us (us S 11 (2 * j + b) v) 40 (2 * j + b) v) := by
  obtain ⟨z', nn, f, hV, hn, hf, hU, ⟨e2, e3, e4, e5, e6⟩, ⟨g1, g2, g3, g4, g5⟩, ht, hfl⟩ := h
  obtain ⟨hj, ha, hb, rfl, rfl, hk, hlt, q1⟩ := ho
  have hz' : z' = z := nI_inj (by have := VI.zb hV; omega) (by omega) (g1.symm.trans hz)
  subst hz'
  obtain ⟨v1, v2, v3, v4, v5, v6, v7, v8, v9, v10⟩ := hV
  refine ⟨z', nn, f, ⟨v1, v2, v3, v4, v5, v6, v7, v8, v9, ?_⟩, hn, hf, hU, ⟨e2, e3, e4, e5, e6⟩, ⟨g1, g2, g3, g4, ?_⟩, ht, hfl⟩
  · intro o' i' ho' hi'
    show (upd (S 11) (2 * j + b) v (2 * o' + i') = -1 ∨ ∃ t, t < z' ∧ upd (S 11) (2 * j + b) v (2 * o' + i') = nI t) ∧ ∀ k, k < 4 → S 9 o' = nI k → S 4 k ≤ nI i' → upd (S 11) (2 * j + b) v (2 * o' + i') = -1
    by_cases e : 2 * o' + i' = 2 * j + b
    · have e1 : o' = j := by omega
      have e2 : i' = b := by omega
      subst e1
      subst e2
      rw [upd_s]
      refine ⟨q1, fun k hk2 ek hle => ?_⟩
      rw [nI_inj (by omega) (by omega) (ek.symm.trans hk)] at hle
      exact absurd hle (Int32.not_le.mpr hlt)
    · rw [upd_n e]
      exact v10 o' i' ho' hi'
  · show upd (S 40) (2 * j + b) v = upd (S 11) (2 * j + b) v
    rw [g5]
theorem Inv_clear {S : Sv} (h : Inv S) : Inv (us (us S 8 4 0) 31 6 0) := by
  obtain ⟨z', nn, f, hV, hn, hf, hU, he, ⟨g1, g2, g3, g4, g5⟩, ht, hfl⟩ := h
  obtain ⟨v1, v2, v3, v4, v5, v6, v7, v8, v9, v10⟩ := hV
  exact ⟨0, nn, f, ⟨v1, v2, v3, v4, v5, v6, by omega, fun o ho => absurd ho (by omega), fun o i ho => absurd ho (by omega), fun o i ho => absurd ho (by omega)⟩, hn, hf, hU, he, ⟨rfl, rfl, g3, g4, g5⟩, ht, hfl⟩
theorem Inv_wipe {S : Sv} (h : Inv S) : Inv (us (us S 19 1 0) 31 11 0) := by
  obtain ⟨z', nn, f, hV, hn, hf, hU, he, hg, ⟨t1, t2, t3, t4⟩, hfl⟩ := h
  exact ⟨z', 0, f, hV, by omega, hf, hU, he, hg, ⟨rfl, rfl, t3, fun i hi => absurd hi (by omega)⟩, hfl⟩
theorem Inv_type {S : Sv} {c : Int32} {n : Nat} (h : Inv S) (hs : S 19 1 = nI n) (hn : n < 300) (h1 : ¬ c < 32) (h2 : ¬ 126 < c) : Inv (us (us (us (us S 20 n c) 19 1 (nI (n + 1))) 41 n c) 31 11 (nI (n + 1))) := by
  obtain ⟨z', nn, f, hV, hnn, hf, hU, he, hg, ⟨t1, t2, t3, t4⟩, hfl⟩ := h
  have e : nn = n := nI_inj (by omega) (by omega) (t1.symm.trans hs)
  subst e
  refine ⟨z', nn + 1, f, hV, by omega, hf, hU, he, hg, ⟨rfl, rfl, ?_, fun i hi => ?_⟩, hfl⟩
  · show upd (S 41) nn c = upd (S 20) nn c
    rw [t3]
  · show 32 ≤ upd (S 20) nn c i ∧ upd (S 20) nn c i ≤ 126
    by_cases e : i = nn
    · rw [e, upd_s]
      exact ⟨Int32.not_lt.mp h1, Int32.not_lt.mp h2⟩
    · rw [upd_n e]
      exact t4 i (by omega)
