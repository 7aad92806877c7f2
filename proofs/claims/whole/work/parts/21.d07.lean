-- ReplayedBeans$Grammar.wrongPlace()I (number 62)
def R_62_17 (xs : Nat × (Nat → Int32)) (d : Nat) (K : Sv → Option Value → Prop) (a1 : Int32) (S : Sv) : Prop := RN xs d 62 K 17 [some (.ref 27), some (.int a1)] [] S
def w_62_17 (xs : Nat × (Nat → Int32)) (d : Nat) (K : Sv → Option Value → Prop) (a1 : Int32) (S : Sv) : Prop :=
  ((S 19 1) < a1 → ((¬ (S 27 1) = 10 → (K S (some (.int ((S 19 1) + 1))))) ∧ (¬ (¬ (S 27 1) = 10) → (K S (some (.int 0)))))) ∧ (¬ ((S 19 1) < a1) → (CS xs d 50 S [.ref 19, .int a1] (fun S1 v1 => ∃ r1 : Int32, v1 = some (.int r1) ∧ (CS xs d 63 S1 [.ref 27, .int r1] (fun S2 v2 => ∃ r2 : Int32, v2 = some (.int r2) ∧ ((¬ r2 = 11 → (R_62_17 xs d K (a1 + 1) (us S2 27 1 r2))) ∧ (¬ (¬ r2 = 11) → (K (us S2 27 1 r2) (some (.int a1))))))))))
set_option maxRecDepth 100000 in
set_option maxHeartbeats 4000000 in
theorem h_62_17 {xs : Nat × (Nat → Int32)} {d : Nat} {K : Sv → Option Value → Prop} {a1 : Int32} {S : Sv} (h : w_62_17 xs d K a1 S) : R_62_17 xs d K a1 S := by
  unfold w_62_17 at h
  unfold R_62_17
  refine rn_iload_n rfl rfl ?_
  refine rn_aload_n rfl rfl ?_
  refine rn_getfield rfl rfl rfl ?_
  refine rn_getfield rfl rfl rfl ?_
  refine rn_icmp_gt rfl (fun hc => ?_) (fun hc => ?_)
  · replace h := h.1 hc
    refine rn_aload_n rfl rfl ?_
    refine rn_getfield rfl rfl rfl ?_
    refine rn_bipush rfl ?_
    refine rn_icmp_ne rfl (fun hc => ?_) (fun hc => ?_)
    · replace h := h.1 hc
      refine rn_aload_n rfl rfl ?_
      refine rn_getfield rfl rfl rfl ?_
      refine rn_getfield rfl rfl rfl ?_
      refine rn_iconst rfl ?_
      refine rn_iadd rfl ?_
      exact rn_ireturn rfl rfl rfl h
    · replace h := h.2 hc
      refine rn_iconst rfl ?_
      refine rn_goto rfl ?_
      exact rn_ireturn rfl rfl rfl h
  · replace h := h.2 hc
    refine rn_aload_n rfl rfl ?_
    refine rn_aload_n rfl rfl ?_
    refine rn_aload_n rfl rfl ?_
    refine rn_getfield rfl rfl rfl ?_
    refine rn_iload_n rfl rfl ?_
    refine rn_virtual rfl (Nat.le_of_ble_eq_true rfl) (Nat.le_of_ble_eq_true rfl) rfl rfl (as := [.ref 19, .int a1]) (rest := [.ref 27, .ref 27]) rfl rfl rfl (cs_mono h (fun S1 v1 h => ?_))
    obtain ⟨r1, rfl, h⟩ := h
    refine rn_virtual rfl (Nat.le_of_ble_eq_true rfl) (Nat.le_of_ble_eq_true rfl) rfl rfl (as := [.ref 27, .int r1]) (rest := [.ref 27]) rfl rfl rfl (cs_mono h (fun S2 v2 h => ?_))
    obtain ⟨r2, rfl, h⟩ := h
    refine rn_putfield (S' := (us S2 27 1 r2)) rfl rfl (Nat.le_of_ble_eq_true rfl) (Or.inl rfl) rfl ?_
    refine rn_aload_n rfl rfl ?_
    refine rn_getfield rfl rfl rfl ?_
    refine rn_bipush rfl ?_
    refine rn_icmp_ne rfl (fun hc => ?_) (fun hc => ?_)
    · replace h := h.1 hc
      refine rn_iinc rfl rfl rfl ?_
      refine rn_goto rfl ?_
      exact h
    · replace h := h.2 hc
      refine rn_iload_n rfl rfl ?_
      exact rn_ireturn rfl rfl rfl h
def w_62 (xs : Nat × (Nat → Int32)) (d : Nat) (K : Sv → Option Value → Prop) (S : Sv) : Prop :=
  R_62_17 xs d K 1 (us (us (us S 27 1 0) 27 2 0) 27 3 0)
set_option maxRecDepth 100000 in
set_option maxHeartbeats 4000000 in
theorem c_62 {xs : Nat × (Nat → Int32)} {d : Nat} {K : Sv → Option Value → Prop} {S : Sv} (h : w_62 xs d K S) : CS xs (d + 1) 62 S [.ref 27] K := by
  unfold w_62 at h
  refine cs_in rfl rfl rfl rfl ?_
  refine rn_aload_n rfl rfl ?_
  refine rn_iconst rfl ?_
  refine rn_putfield (S' := (us S 27 1 0)) rfl rfl (Nat.le_of_ble_eq_true rfl) (Or.inl rfl) rfl ?_
  refine rn_aload_n rfl rfl ?_
  refine rn_iconst rfl ?_
  refine rn_putfield (S' := (us (us S 27 1 0) 27 2 0)) rfl rfl (Nat.le_of_ble_eq_true rfl) (Or.inl rfl) rfl ?_
  refine rn_aload_n rfl rfl ?_
  refine rn_iconst rfl ?_
  refine rn_putfield (S' := (us (us (us S 27 1 0) 27 2 0) 27 3 0)) rfl rfl (Nat.le_of_ble_eq_true rfl) (Or.inl rfl) rfl ?_
  refine rn_iconst rfl ?_
  refine rn_istore_n rfl rfl ?_
  exact h
-- ReplayedBeans$Grammar.dueAfter(I)I (number 63)
def w_63 (xs : Nat × (Nat → Int32)) (d : Nat) (K : Sv → Option Value → Prop) (a1 : Int32) (S : Sv) : Prop :=
  ((S 27 1) = 0 → ((¬ a1 = 40 → (K S (some (.int 11)))) ∧ (¬ (¬ a1 = 40) → (CS xs d 64 S [.ref 27] (fun S1 v1 => ∃ r1 : Int32, v1 = some (.int r1) ∧ (K S1 (some (.int r1)))))))) ∧ ((S 27 1) = 1 → ((a1 < 97 → (K S (some (.int 11)))) ∧ (¬ (a1 < 97) → ((100 < a1 → (K S (some (.int 11)))) ∧ (¬ (100 < a1) → (K S (some (.int 2)))))))) ∧ ((S 27 1) = 2 → ((¬ a1 = 35 → (CS xs d 68 S [.ref 27, .int a1] (fun S2 v2 => ∃ r2 : Int32, v2 = some (.int r2) ∧ (K S2 (some (.int r2)))))) ∧ (¬ (¬ a1 = 35) → (CS xs d 66 S [.ref 27] (fun S3 v3 => ∃ r3 : Int32, v3 = some (.int r3) ∧ (K S3 (some (.int r3)))))))) ∧ ((S 27 1) = 3 → (CS xs d 68 S [.ref 27, .int a1] (fun S4 v4 => ∃ r4 : Int32, v4 = some (.int r4) ∧ (K S4 (some (.int r4)))))) ∧ ((S 27 1) = 4 → ((¬ a1 = 61 → (K S (some (.int 11)))) ∧ (¬ (¬ a1 = 61) → (K S (some (.int 6)))))) ∧ ((S 27 1) = 5 → ((¬ a1 = 61 → (K S (some (.int 11)))) ∧ (¬ (¬ a1 = 61) → (K S (some (.int 7)))))) ∧ ((S 27 1) = 6 → ((¬ a1 = 45 → (CS xs d 67 (us S 27 3 5) [.ref 27, .int a1] (fun S5 v5 => ∃ r5 : Int32, v5 = some (.int r5) ∧ (K S5 (some (.int r5)))))) ∧ (¬ (¬ a1 = 45) → (K (us S 27 3 5) (some (.int 8)))))) ∧ ((S 27 1) = 7 → (CS xs d 69 S [.ref 27, .int a1] (fun S6 v6 => ∃ r6 : Int32, v6 = some (.int r6) ∧ (K S6 (some (.int r6)))))) ∧ ((S 27 1) = 8 → (CS xs d 67 S [.ref 27, .int a1] (fun S7 v7 => ∃ r7 : Int32, v7 = some (.int r7) ∧ (K S7 (some (.int r7)))))) ∧ ((S 27 1) = 9 → (CS xs d 70 S [.int a1] (fun S8 v8 => ∃ r8 : Int32, v8 = some (.int r8) ∧ ((r8 = 0 → (CS xs d 68 S8 [.ref 27, .int a1] (fun S9 v9 => ∃ r9 : Int32, v9 = some (.int r9) ∧ (K S9 (some (.int r9)))))) ∧ (¬ (r8 = 0) → (CS xs d 67 S8 [.ref 27, .int a1] (fun S10 v10 => ∃ r10 : Int32, v10 = some (.int r10) ∧ (K S10 (some (.int r10)))))))))) ∧ (((S 27 1).toInt < 0 ∨ 9 < (S 27 1).toInt) → (K S (some (.int 11))))
set_option maxRecDepth 100000 in
set_option maxHeartbeats 4000000 in
theorem c_63 {xs : Nat × (Nat → Int32)} {d : Nat} {K : Sv → Option Value → Prop} {a1 : Int32} {S : Sv} (h : w_63 xs d K a1 S) : CS xs (d + 1) 63 S [.ref 27, .int a1] K := by
  unfold w_63 at h
  refine cs_in rfl rfl rfl rfl ?_
  refine rn_aload_n rfl rfl ?_
  refine rn_getfield rfl rfl rfl ?_
  by_cases hc0 : (S 27 1) = 0
  · replace h := h.1 hc0
    rw [hc0]
    refine rn_tableIn 60 rfl (by decide) (by decide) rfl rfl ?_
    refine rn_iload_n rfl rfl ?_
    refine rn_bipush rfl ?_
    refine rn_icmp_ne rfl (fun hc => ?_) (fun hc => ?_)
    · replace h := h.1 hc
      refine rn_bipush rfl ?_
      exact rn_ireturn rfl rfl rfl h
    · replace h := h.2 hc
      refine rn_aload_n rfl rfl ?_
      refine rn_virtual rfl (Nat.le_of_ble_eq_true rfl) (Nat.le_of_ble_eq_true rfl) rfl rfl (as := [.ref 27]) (rest := []) rfl rfl rfl (cs_mono h (fun S1 v1 h => ?_))
      obtain ⟨r1, rfl, h⟩ := h
      refine rn_goto rfl ?_
      exact rn_ireturn rfl rfl rfl h
  by_cases hc1 : (S 27 1) = 1
  · replace h := h.2.1 hc1
    rw [hc1]
    refine rn_tableIn 76 rfl (by decide) (by decide) rfl rfl ?_
    refine rn_iload_n rfl rfl ?_
    refine rn_bipush rfl ?_
    refine rn_icmp_lt rfl (fun hc => ?_) (fun hc => ?_)
    · replace h := h.1 hc
      refine rn_bipush rfl ?_
      exact rn_ireturn rfl rfl rfl h
    · replace h := h.2 hc
      refine rn_iload_n rfl rfl ?_
      refine rn_bipush rfl ?_
      refine rn_icmp_gt rfl (fun hc => ?_) (fun hc => ?_)
      · replace h := h.1 hc
        refine rn_bipush rfl ?_
        exact rn_ireturn rfl rfl rfl h
      · replace h := h.2 hc
        refine rn_iconst rfl ?_
        refine rn_goto rfl ?_
        exact rn_ireturn rfl rfl rfl h
  by_cases hc2 : (S 27 1) = 2
  · replace h := h.2.2.1 hc2
    rw [hc2]
    refine rn_tableIn 95 rfl (by decide) (by decide) rfl rfl ?_
    refine rn_iload_n rfl rfl ?_
    refine rn_bipush rfl ?_
    refine rn_icmp_ne rfl (fun hc => ?_) (fun hc => ?_)
    · replace h := h.1 hc
      refine rn_aload_n rfl rfl ?_
      refine rn_iload_n rfl rfl ?_
      refine rn_virtual rfl (Nat.le_of_ble_eq_true rfl) (Nat.le_of_ble_eq_true rfl) rfl rfl (as := [.ref 27, .int a1]) (rest := []) rfl rfl rfl (cs_mono h (fun S2 v2 h => ?_))
      obtain ⟨r2, rfl, h⟩ := h
      exact rn_ireturn rfl rfl rfl h
    · replace h := h.2 hc
      refine rn_aload_n rfl rfl ?_
      refine rn_virtual rfl (Nat.le_of_ble_eq_true rfl) (Nat.le_of_ble_eq_true rfl) rfl rfl (as := [.ref 27]) (rest := []) rfl rfl rfl (cs_mono h (fun S3 v3 h => ?_))
      obtain ⟨r3, rfl, h⟩ := h
      refine rn_goto rfl ?_
      exact rn_ireturn rfl rfl rfl h
  by_cases hc3 : (S 27 1) = 3
  · replace h := h.2.2.2.1 hc3
    rw [hc3]
    refine rn_tableIn 114 rfl (by decide) (by decide) rfl rfl ?_
    refine rn_aload_n rfl rfl ?_
    refine rn_iload_n rfl rfl ?_
    refine rn_virtual rfl (Nat.le_of_ble_eq_true rfl) (Nat.le_of_ble_eq_true rfl) rfl rfl (as := [.ref 27, .int a1]) (rest := []) rfl rfl rfl (cs_mono h (fun S4 v4 h => ?_))
    obtain ⟨r4, rfl, h⟩ := h
    exact rn_ireturn rfl rfl rfl h
  by_cases hc4 : (S 27 1) = 4
  · replace h := h.2.2.2.2.1 hc4
    rw [hc4]
    refine rn_tableIn 120 rfl (by decide) (by decide) rfl rfl ?_
    refine rn_iload_n rfl rfl ?_
    refine rn_bipush rfl ?_
    refine rn_icmp_ne rfl (fun hc => ?_) (fun hc => ?_)
    · replace h := h.1 hc
      refine rn_bipush rfl ?_
      exact rn_ireturn rfl rfl rfl h
    · replace h := h.2 hc
      refine rn_bipush rfl ?_
      refine rn_goto rfl ?_
      exact rn_ireturn rfl rfl rfl h
  by_cases hc5 : (S 27 1) = 5
  · replace h := h.2.2.2.2.2.1 hc5
    rw [hc5]
    refine rn_tableIn 134 rfl (by decide) (by decide) rfl rfl ?_
    refine rn_iload_n rfl rfl ?_
    refine rn_bipush rfl ?_
    refine rn_icmp_ne rfl (fun hc => ?_) (fun hc => ?_)
    · replace h := h.1 hc
      refine rn_bipush rfl ?_
      exact rn_ireturn rfl rfl rfl h
    · replace h := h.2 hc
      refine rn_bipush rfl ?_
      refine rn_goto rfl ?_
      exact rn_ireturn rfl rfl rfl h
  by_cases hc6 : (S 27 1) = 6
  · replace h := h.2.2.2.2.2.2.1 hc6
    rw [hc6]
    refine rn_tableIn 148 rfl (by decide) (by decide) rfl rfl ?_
    refine rn_aload_n rfl rfl ?_
    refine rn_iconst rfl ?_
    refine rn_putfield (S' := (us S 27 3 5)) rfl rfl (Nat.le_of_ble_eq_true rfl) (Or.inl rfl) rfl ?_
    refine rn_iload_n rfl rfl ?_
    refine rn_bipush rfl ?_
    refine rn_icmp_ne rfl (fun hc => ?_) (fun hc => ?_)
    · replace h := h.1 hc
      refine rn_aload_n rfl rfl ?_
      refine rn_iload_n rfl rfl ?_
      refine rn_virtual rfl (Nat.le_of_ble_eq_true rfl) (Nat.le_of_ble_eq_true rfl) rfl rfl (as := [.ref 27, .int a1]) (rest := []) rfl rfl rfl (cs_mono h (fun S5 v5 h => ?_))
      obtain ⟨r5, rfl, h⟩ := h
      exact rn_ireturn rfl rfl rfl h
    · replace h := h.2 hc
      refine rn_bipush rfl ?_
      refine rn_goto rfl ?_
      exact rn_ireturn rfl rfl rfl h
  by_cases hc7 : (S 27 1) = 7
  · replace h := h.2.2.2.2.2.2.2.1 hc7
    rw [hc7]
    refine rn_tableIn 170 rfl (by decide) (by decide) rfl rfl ?_
    refine rn_aload_n rfl rfl ?_
    refine rn_iload_n rfl rfl ?_
    refine rn_virtual rfl (Nat.le_of_ble_eq_true rfl) (Nat.le_of_ble_eq_true rfl) rfl rfl (as := [.ref 27, .int a1]) (rest := []) rfl rfl rfl (cs_mono h (fun S6 v6 h => ?_))
    obtain ⟨r6, rfl, h⟩ := h
    exact rn_ireturn rfl rfl rfl h
  by_cases hc8 : (S 27 1) = 8
  · replace h := h.2.2.2.2.2.2.2.2.1 hc8
    rw [hc8]
    refine rn_tableIn 176 rfl (by decide) (by decide) rfl rfl ?_
    refine rn_aload_n rfl rfl ?_
    refine rn_iload_n rfl rfl ?_
    refine rn_virtual rfl (Nat.le_of_ble_eq_true rfl) (Nat.le_of_ble_eq_true rfl) rfl rfl (as := [.ref 27, .int a1]) (rest := []) rfl rfl rfl (cs_mono h (fun S7 v7 h => ?_))
    obtain ⟨r7, rfl, h⟩ := h
    exact rn_ireturn rfl rfl rfl h
  by_cases hc9 : (S 27 1) = 9
  · replace h := h.2.2.2.2.2.2.2.2.2.1 hc9
    rw [hc9]
    refine rn_tableIn 182 rfl (by decide) (by decide) rfl rfl ?_
    refine rn_iload_n rfl rfl ?_
    refine rn_static rfl (Nat.le_of_ble_eq_true rfl) (Nat.le_of_ble_eq_true rfl) rfl rfl (as := [.int a1]) (rest := []) rfl rfl (cs_mono h (fun S8 v8 h => ?_))
    obtain ⟨r8, rfl, h⟩ := h
    refine rn_if_eq rfl (fun hc => ?_) (fun hc => ?_)
    · replace h := h.1 hc
      refine rn_aload_n rfl rfl ?_
      refine rn_iload_n rfl rfl ?_
      refine rn_virtual rfl (Nat.le_of_ble_eq_true rfl) (Nat.le_of_ble_eq_true rfl) rfl rfl (as := [.ref 27, .int a1]) (rest := []) rfl rfl rfl (cs_mono h (fun S9 v9 h => ?_))
      obtain ⟨r9, rfl, h⟩ := h
      exact rn_ireturn rfl rfl rfl h
    · replace h := h.2 hc
      refine rn_aload_n rfl rfl ?_
      refine rn_iload_n rfl rfl ?_
      refine rn_virtual rfl (Nat.le_of_ble_eq_true rfl) (Nat.le_of_ble_eq_true rfl) rfl rfl (as := [.ref 27, .int a1]) (rest := []) rfl rfl rfl (cs_mono h (fun S10 v10 h => ?_))
      obtain ⟨r10, rfl, h⟩ := h
      refine rn_goto rfl ?_
      exact rn_ireturn rfl rfl rfl h
  have hout : (S 27 1).toInt < 0 ∨ 9 < (S 27 1).toInt := by
    rcases Int.lt_or_le (S 27 1).toInt 0 with hz | hz
    · exact Or.inl hz
    · rcases Int.lt_or_le 9 (S 27 1).toInt with hz2 | hz2
      · exact Or.inr hz2
      · exfalso
        have hq0 : ¬ (S 27 1).toInt = 0 := fun e => hc0 (Int32.toInt_inj.mp (e.trans (by decide)))
        have hq1 : ¬ (S 27 1).toInt = 1 := fun e => hc1 (Int32.toInt_inj.mp (e.trans (by decide)))
        have hq2 : ¬ (S 27 1).toInt = 2 := fun e => hc2 (Int32.toInt_inj.mp (e.trans (by decide)))
        have hq3 : ¬ (S 27 1).toInt = 3 := fun e => hc3 (Int32.toInt_inj.mp (e.trans (by decide)))
        have hq4 : ¬ (S 27 1).toInt = 4 := fun e => hc4 (Int32.toInt_inj.mp (e.trans (by decide)))
        have hq5 : ¬ (S 27 1).toInt = 5 := fun e => hc5 (Int32.toInt_inj.mp (e.trans (by decide)))
        have hq6 : ¬ (S 27 1).toInt = 6 := fun e => hc6 (Int32.toInt_inj.mp (e.trans (by decide)))
        have hq7 : ¬ (S 27 1).toInt = 7 := fun e => hc7 (Int32.toInt_inj.mp (e.trans (by decide)))
        have hq8 : ¬ (S 27 1).toInt = 8 := fun e => hc8 (Int32.toInt_inj.mp (e.trans (by decide)))
        have hq9 : ¬ (S 27 1).toInt = 9 := fun e => hc9 (Int32.toInt_inj.mp (e.trans (by decide)))
        omega
  replace h := h.2.2.2.2.2.2.2.2.2.2 hout
  refine rn_tableOut 203 rfl hout rfl ?_
  refine rn_bipush rfl ?_
  exact rn_ireturn rfl rfl rfl h
-- ReplayedBeans$Grammar.opened()I (number 64)
def w_64 (xs : Nat × (Nat → Int32)) (d : Nat) (K : Sv → Option Value → Prop) (S : Sv) : Prop :=
  ((S 27 2) < 10 → (K (us S 27 2 ((S 27 2) + 1)) (some (.int 1)))) ∧ (¬ ((S 27 2) < 10) → (K S (some (.int 11))))
set_option maxRecDepth 100000 in
set_option maxHeartbeats 4000000 in
theorem c_64 {xs : Nat × (Nat → Int32)} {d : Nat} {K : Sv → Option Value → Prop} {S : Sv} (h : w_64 xs d K S) : CS xs (d + 1) 64 S [.ref 27] K := by
  unfold w_64 at h
  refine cs_in rfl rfl rfl rfl ?_
  refine rn_aload_n rfl rfl ?_
  refine rn_getfield rfl rfl rfl ?_
  refine rn_bipush rfl ?_
  refine rn_icmp_lt rfl (fun hc => ?_) (fun hc => ?_)
  · replace h := h.1 hc
    refine rn_aload_n rfl rfl ?_
    refine rn_dup rfl rfl ?_
    refine rn_getfield rfl rfl rfl ?_
    refine rn_iconst rfl ?_
    refine rn_iadd rfl ?_
    refine rn_putfield (S' := (us S 27 2 ((S 27 2) + 1))) rfl rfl (Nat.le_of_ble_eq_true rfl) (Or.inl rfl) rfl ?_
    refine rn_iconst rfl ?_
    exact rn_ireturn rfl rfl rfl h
  · replace h := h.2 hc
    refine rn_bipush rfl ?_
    exact rn_ireturn rfl rfl rfl h
-- ReplayedBeans$Grammar.closed()I (number 65)
def w_65 (xs : Nat × (Nat → Int32)) (d : Nat) (K : Sv → Option Value → Prop) (S : Sv) : Prop :=
  (¬ ((S 27 2) - 1) = 0 → (K (us S 27 2 ((S 27 2) - 1)) (some (.int 3)))) ∧ (¬ (¬ ((S 27 2) - 1) = 0) → (K (us S 27 2 ((S 27 2) - 1)) (some (.int 10))))
set_option maxRecDepth 100000 in
set_option maxHeartbeats 4000000 in
theorem c_65 {xs : Nat × (Nat → Int32)} {d : Nat} {K : Sv → Option Value → Prop} {S : Sv} (h : w_65 xs d K S) : CS xs (d + 1) 65 S [.ref 27] K := by
  unfold w_65 at h
  refine cs_in rfl rfl rfl rfl ?_
  refine rn_aload_n rfl rfl ?_
  refine rn_dup rfl rfl ?_
  refine rn_getfield rfl rfl rfl ?_
  refine rn_iconst rfl ?_
  refine rn_isub rfl ?_
  refine rn_putfield (S' := (us S 27 2 ((S 27 2) - 1))) rfl rfl (Nat.le_of_ble_eq_true rfl) (Or.inl rfl) rfl ?_
  refine rn_aload_n rfl rfl ?_
  refine rn_getfield rfl rfl rfl ?_
  refine rn_if_ne rfl (fun hc => ?_) (fun hc => ?_)
  · replace h := h.1 hc
    refine rn_iconst rfl ?_
    exact rn_ireturn rfl rfl rfl h
  · replace h := h.2 hc
    refine rn_bipush rfl ?_
    refine rn_goto rfl ?_
    exact rn_ireturn rfl rfl rfl h
-- ReplayedBeans$Grammar.idDigits()I (number 66)
def w_66 (xs : Nat × (Nat → Int32)) (d : Nat) (K : Sv → Option Value → Prop) (S : Sv) : Prop :=
  K (us S 27 3 2) (some (.int 8))
set_option maxRecDepth 100000 in
set_option maxHeartbeats 4000000 in
theorem c_66 {xs : Nat × (Nat → Int32)} {d : Nat} {K : Sv → Option Value → Prop} {S : Sv} (h : w_66 xs d K S) : CS xs (d + 1) 66 S [.ref 27] K := by
  unfold w_66 at h
  refine cs_in rfl rfl rfl rfl ?_
  refine rn_aload_n rfl rfl ?_
  refine rn_iconst rfl ?_
  refine rn_putfield (S' := (us S 27 3 2)) rfl rfl (Nat.le_of_ble_eq_true rfl) (Or.inl rfl) rfl ?_
  refine rn_bipush rfl ?_
  exact rn_ireturn rfl rfl rfl h
-- ReplayedBeans$Grammar.afterDigit(I)I (number 67)
def w_67 (xs : Nat × (Nat → Int32)) (d : Nat) (K : Sv → Option Value → Prop) (a1 : Int32) (S : Sv) : Prop :=
  CS xs d 70 S [.int a1] (fun S1 v1 => ∃ r1 : Int32, v1 = some (.int r1) ∧ ((r1 = 0 → (K S1 (some (.int 11)))) ∧ (¬ (r1 = 0) → ((0 < (S1 27 3) → (K (us S1 27 3 ((S1 27 3) - 1)) (some (.int 9)))) ∧ (¬ (0 < (S1 27 3)) → (K S1 (some (.int 11))))))))
set_option maxRecDepth 100000 in
set_option maxHeartbeats 4000000 in
theorem c_67 {xs : Nat × (Nat → Int32)} {d : Nat} {K : Sv → Option Value → Prop} {a1 : Int32} {S : Sv} (h : w_67 xs d K a1 S) : CS xs (d + 1) 67 S [.ref 27, .int a1] K := by
  unfold w_67 at h
  refine cs_in rfl rfl rfl rfl ?_
  refine rn_iload_n rfl rfl ?_
  refine rn_static rfl (Nat.le_of_ble_eq_true rfl) (Nat.le_of_ble_eq_true rfl) rfl rfl (as := [.int a1]) (rest := []) rfl rfl (cs_mono h (fun S1 v1 h => ?_))
  obtain ⟨r1, rfl, h⟩ := h
  refine rn_if_eq rfl (fun hc => ?_) (fun hc => ?_)
  · replace h := h.1 hc
    refine rn_bipush rfl ?_
    exact rn_ireturn rfl rfl rfl h
  · replace h := h.2 hc
    refine rn_aload_n rfl rfl ?_
    refine rn_getfield rfl rfl rfl ?_
    refine rn_if_gt rfl (fun hc => ?_) (fun hc => ?_)
    · replace h := h.1 hc
      refine rn_aload_n rfl rfl ?_
      refine rn_dup rfl rfl ?_
      refine rn_getfield rfl rfl rfl ?_
      refine rn_iconst rfl ?_
      refine rn_isub rfl ?_
      refine rn_putfield (S' := (us S1 27 3 ((S1 27 3) - 1))) rfl rfl (Nat.le_of_ble_eq_true rfl) (Or.inl rfl) rfl ?_
      refine rn_bipush rfl ?_
      exact rn_ireturn rfl rfl rfl h
    · replace h := h.2 hc
      refine rn_bipush rfl ?_
      exact rn_ireturn rfl rfl rfl h
-- ReplayedBeans$Grammar.afterBody(I)I (number 68)
def w_68 (xs : Nat × (Nat → Int32)) (d : Nat) (K : Sv → Option Value → Prop) (a1 : Int32) (S : Sv) : Prop :=
  CS xs d 72 S [.int a1] (fun S1 v1 => ∃ r1 : Int32, v1 = some (.int r1) ∧ ((r1 = 0 → ((¬ a1 = 41 → (K S1 (some (.int 11)))) ∧ (¬ (¬ a1 = 41) → (CS xs d 65 S1 [.ref 27] (fun S2 v2 => ∃ r2 : Int32, v2 = some (.int r2) ∧ (K S2 (some (.int r2)))))))) ∧ (¬ (r1 = 0) → (CS xs d 71 S1 [.int a1] (fun S3 v3 => ∃ r3 : Int32, v3 = some (.int r3) ∧ ((r3 = 0 → (K S3 (some (.int 5)))) ∧ (¬ (r3 = 0) → (K S3 (some (.int 4))))))))))
set_option maxRecDepth 100000 in
set_option maxHeartbeats 4000000 in
theorem c_68 {xs : Nat × (Nat → Int32)} {d : Nat} {K : Sv → Option Value → Prop} {a1 : Int32} {S : Sv} (h : w_68 xs d K a1 S) : CS xs (d + 1) 68 S [.ref 27, .int a1] K := by
  unfold w_68 at h
  refine cs_in rfl rfl rfl rfl ?_
  refine rn_iload_n rfl rfl ?_
  refine rn_static rfl (Nat.le_of_ble_eq_true rfl) (Nat.le_of_ble_eq_true rfl) rfl rfl (as := [.int a1]) (rest := []) rfl rfl (cs_mono h (fun S1 v1 h => ?_))
  obtain ⟨r1, rfl, h⟩ := h
  refine rn_if_eq rfl (fun hc => ?_) (fun hc => ?_)
  · replace h := h.1 hc
    refine rn_iload_n rfl rfl ?_
    refine rn_bipush rfl ?_
    refine rn_icmp_ne rfl (fun hc => ?_) (fun hc => ?_)
    · replace h := h.1 hc
      refine rn_bipush rfl ?_
      exact rn_ireturn rfl rfl rfl h
    · replace h := h.2 hc
      refine rn_aload_n rfl rfl ?_
      refine rn_virtual rfl (Nat.le_of_ble_eq_true rfl) (Nat.le_of_ble_eq_true rfl) rfl rfl (as := [.ref 27]) (rest := []) rfl rfl rfl (cs_mono h (fun S2 v2 h => ?_))
      obtain ⟨r2, rfl, h⟩ := h
      refine rn_goto rfl ?_
      exact rn_ireturn rfl rfl rfl h
  · replace h := h.2 hc
    refine rn_iload_n rfl rfl ?_
    refine rn_static rfl (Nat.le_of_ble_eq_true rfl) (Nat.le_of_ble_eq_true rfl) rfl rfl (as := [.int a1]) (rest := []) rfl rfl (cs_mono h (fun S3 v3 h => ?_))
    obtain ⟨r3, rfl, h⟩ := h
    refine rn_if_eq rfl (fun hc => ?_) (fun hc => ?_)
    · replace h := h.1 hc
      refine rn_iconst rfl ?_
      exact rn_ireturn rfl rfl rfl h
    · replace h := h.2 hc
      refine rn_iconst rfl ?_
      refine rn_goto rfl ?_
      exact rn_ireturn rfl rfl rfl h
-- ReplayedBeans$Grammar.afterLinkValue(I)I (number 69)
def w_69 (xs : Nat × (Nat → Int32)) (d : Nat) (K : Sv → Option Value → Prop) (a1 : Int32) (S : Sv) : Prop :=
  (a1 = 40 → (CS xs d 64 S [.ref 27] (fun S1 v1 => ∃ r1 : Int32, v1 = some (.int r1) ∧ (K S1 (some (.int r1)))))) ∧ (a1 = 64 → (CS xs d 66 S [.ref 27] (fun S2 v2 => ∃ r2 : Int32, v2 = some (.int r2) ∧ (K S2 (some (.int r2)))))) ∧ (a1 = 126 → (K S (some (.int 3)))) ∧ (¬ a1 = 40 ∧ ¬ a1 = 64 ∧ ¬ a1 = 126 → (K S (some (.int 11))))
set_option maxRecDepth 100000 in
set_option maxHeartbeats 4000000 in
theorem c_69 {xs : Nat × (Nat → Int32)} {d : Nat} {K : Sv → Option Value → Prop} {a1 : Int32} {S : Sv} (h : w_69 xs d K a1 S) : CS xs (d + 1) 69 S [.ref 27, .int a1] K := by
  unfold w_69 at h
  refine cs_in rfl rfl rfl rfl ?_
  refine rn_iload_n rfl rfl ?_
  by_cases hc0 : a1 = 40
  · replace h := h.1 hc0
    rw [hc0]
    refine rn_lookup 36 rfl rfl ?_
    refine rn_aload_n rfl rfl ?_
    refine rn_virtual rfl (Nat.le_of_ble_eq_true rfl) (Nat.le_of_ble_eq_true rfl) rfl rfl (as := [.ref 27]) (rest := []) rfl rfl rfl (cs_mono h (fun S1 v1 h => ?_))
    obtain ⟨r1, rfl, h⟩ := h
    exact rn_ireturn rfl rfl rfl h
  by_cases hc1 : a1 = 64
  · replace h := h.2.1 hc1
    rw [hc1]
    refine rn_lookup 41 rfl rfl ?_
    refine rn_aload_n rfl rfl ?_
    refine rn_virtual rfl (Nat.le_of_ble_eq_true rfl) (Nat.le_of_ble_eq_true rfl) rfl rfl (as := [.ref 27]) (rest := []) rfl rfl rfl (cs_mono h (fun S2 v2 h => ?_))
    obtain ⟨r2, rfl, h⟩ := h
    exact rn_ireturn rfl rfl rfl h
  by_cases hc2 : a1 = 126
  · replace h := h.2.2.1 hc2
    rw [hc2]
    refine rn_lookup 46 rfl rfl ?_
    refine rn_iconst rfl ?_
    exact rn_ireturn rfl rfl rfl h
  replace h := h.2.2.2 ⟨hc0, hc1, hc2⟩
  have hsw : Op.lookupswitch.offset [(40, 35), (64, 40), (126, 45)] 47 a1.toInt = 47 := (lv_osw hc0 (by decide)).trans ((lv_osw hc1 (by decide)).trans ((lv_osw hc2 (by decide)).trans (rfl)))
  refine rn_lookup 48 rfl (by show ((1 : Nat) : Int) + Op.lookupswitch.offset [(40, 35), (64, 40), (126, 45)] 47 a1.toInt = _; rw [hsw]; rfl) ?_
  refine rn_bipush rfl ?_
  exact rn_ireturn rfl rfl rfl h
-- ReplayedBeans$Grammar.isDigit(I)Z (number 70)
def w_70 (xs : Nat × (Nat → Int32)) (d : Nat) (K : Sv → Option Value → Prop) (a0 : Int32) (S : Sv) : Prop :=
  (a0 < 48 → (K S (some (.int 0)))) ∧ (¬ (a0 < 48) → ((57 < a0 → (K S (some (.int 0)))) ∧ (¬ (57 < a0) → (K S (some (.int 1))))))
set_option maxRecDepth 100000 in
set_option maxHeartbeats 4000000 in
theorem c_70 {xs : Nat × (Nat → Int32)} {d : Nat} {K : Sv → Option Value → Prop} {a0 : Int32} {S : Sv} (h : w_70 xs d K a0 S) : CS xs (d + 1) 70 S [.int a0] K := by
  unfold w_70 at h
  refine cs_in rfl rfl rfl rfl ?_
  refine rn_iload_n rfl rfl ?_
  refine rn_bipush rfl ?_
  refine rn_icmp_lt rfl (fun hc => ?_) (fun hc => ?_)
  · replace h := h.1 hc
    refine rn_iconst rfl ?_
    exact rn_ireturn rfl rfl (by decide) h
  · replace h := h.2 hc
    refine rn_iload_n rfl rfl ?_
    refine rn_bipush rfl ?_
    refine rn_icmp_gt rfl (fun hc => ?_) (fun hc => ?_)
    · replace h := h.1 hc
      refine rn_iconst rfl ?_
      exact rn_ireturn rfl rfl (by decide) h
    · replace h := h.2 hc
      refine rn_iconst rfl ?_
      refine rn_goto rfl ?_
      exact rn_ireturn rfl rfl (by decide) h
-- ReplayedBeans$Grammar.isNumberLetter(I)Z (number 71)
def w_71 (xs : Nat × (Nat → Int32)) (d : Nat) (K : Sv → Option Value → Prop) (a0 : Int32) (S : Sv) : Prop :=
  (a0 < 120 → (K S (some (.int 0)))) ∧ (¬ (a0 < 120) → ((122 < a0 → (K S (some (.int 0)))) ∧ (¬ (122 < a0) → (K S (some (.int 1))))))
set_option maxRecDepth 100000 in
set_option maxHeartbeats 4000000 in
theorem c_71 {xs : Nat × (Nat → Int32)} {d : Nat} {K : Sv → Option Value → Prop} {a0 : Int32} {S : Sv} (h : w_71 xs d K a0 S) : CS xs (d + 1) 71 S [.int a0] K := by
  unfold w_71 at h
  refine cs_in rfl rfl rfl rfl ?_
  refine rn_iload_n rfl rfl ?_
  refine rn_bipush rfl ?_
  refine rn_icmp_lt rfl (fun hc => ?_) (fun hc => ?_)
  · replace h := h.1 hc
    refine rn_iconst rfl ?_
    exact rn_ireturn rfl rfl (by decide) h
  · replace h := h.2 hc
    refine rn_iload_n rfl rfl ?_
    refine rn_bipush rfl ?_
    refine rn_icmp_gt rfl (fun hc => ?_) (fun hc => ?_)
    · replace h := h.1 hc
      refine rn_iconst rfl ?_
      exact rn_ireturn rfl rfl (by decide) h
    · replace h := h.2 hc
      refine rn_iconst rfl ?_
      refine rn_goto rfl ?_
      exact rn_ireturn rfl rfl (by decide) h
-- ReplayedBeans$Grammar.isProperty(I)Z (number 72)
def w_72 (xs : Nat × (Nat → Int32)) (d : Nat) (K : Sv → Option Value → Prop) (a0 : Int32) (S : Sv) : Prop :=
  CS xs d 71 S [.int a0] (fun S1 v1 => ∃ r1 : Int32, v1 = some (.int r1) ∧ ((¬ r1 = 0 → (K S1 (some (.int 1)))) ∧ (¬ (¬ r1 = 0) → ((a0 = 112 → (K S1 (some (.int 1)))) ∧ (¬ (a0 = 112) → ((¬ a0 = 113 → (K S1 (some (.int 0)))) ∧ (¬ (¬ a0 = 113) → (K S1 (some (.int 1))))))))))
set_option maxRecDepth 100000 in
set_option maxHeartbeats 4000000 in
theorem c_72 {xs : Nat × (Nat → Int32)} {d : Nat} {K : Sv → Option Value → Prop} {a0 : Int32} {S : Sv} (h : w_72 xs d K a0 S) : CS xs (d + 1) 72 S [.int a0] K := by
  unfold w_72 at h
  refine cs_in rfl rfl rfl rfl ?_
  refine rn_iload_n rfl rfl ?_
  refine rn_static rfl (Nat.le_of_ble_eq_true rfl) (Nat.le_of_ble_eq_true rfl) rfl rfl (as := [.int a0]) (rest := []) rfl rfl (cs_mono h (fun S1 v1 h => ?_))
  obtain ⟨r1, rfl, h⟩ := h
  refine rn_if_ne rfl (fun hc => ?_) (fun hc => ?_)
  · replace h := h.1 hc
    refine rn_iconst rfl ?_
    refine rn_goto rfl ?_
    exact rn_ireturn rfl rfl (by decide) h
  · replace h := h.2 hc
    refine rn_iload_n rfl rfl ?_
    refine rn_bipush rfl ?_
    refine rn_icmp_eq rfl (fun hc => ?_) (fun hc => ?_)
    · replace h := h.1 hc
      refine rn_iconst rfl ?_
      refine rn_goto rfl ?_
      exact rn_ireturn rfl rfl (by decide) h
    · replace h := h.2 hc
      refine rn_iload_n rfl rfl ?_
      refine rn_bipush rfl ?_
      refine rn_icmp_ne rfl (fun hc => ?_) (fun hc => ?_)
      · replace h := h.1 hc
        refine rn_iconst rfl ?_
        exact rn_ireturn rfl rfl (by decide) h
      · replace h := h.2 hc
        refine rn_iconst rfl ?_
        refine rn_goto rfl ?_
        exact rn_ireturn rfl rfl (by decide) h
