-- ReplayedBeans$Writer.draftFrom(I)V (number 53)
def R_53_30 (xs : Nat × (Nat → Int32)) (d : Nat) (K : Sv → Option Value → Prop) (a1 a2 : Int32) (S : Sv) : Prop := RN xs d 53 K 30 [some (.ref 21), some (.int a1), some (.int a2)] [] S
def w_53_30 (xs : Nat × (Nat → Int32)) (d : Nat) (K : Sv → Option Value → Prop) (a1 a2 : Int32) (S : Sv) : Prop :=
  (24 ≤ a2 → (CS xs d 54 S [.ref 21] (fun S1 v1 => v1 = none ∧ (CS xs d 56 S1 [.ref 21, .int a1, .int 1] (fun S2 v2 => v2 = none ∧ (K S2 none)))))) ∧ (¬ (24 ≤ a2) → (∃ j3 : Nat, j3 < 24 ∧ a2 = nI j3 ∧ (R_53_30 xs d K a1 (a2 + 1) (us S 26 j3 0))))
set_option maxRecDepth 100000 in
set_option maxHeartbeats 4000000 in
theorem h_53_30 {xs : Nat × (Nat → Int32)} {d : Nat} {K : Sv → Option Value → Prop} {a1 a2 : Int32} {S : Sv} (h : w_53_30 xs d K a1 a2 S) : R_53_30 xs d K a1 a2 S := by
  unfold w_53_30 at h
  unfold R_53_30
  refine rn_iload_n rfl rfl ?_
  refine rn_bipush rfl ?_
  refine rn_icmp_ge rfl (fun hc => ?_) (fun hc => ?_)
  · replace h := h.1 hc
    refine rn_aload_n rfl rfl ?_
    refine rn_virtual rfl (Nat.le_of_ble_eq_true rfl) (Nat.le_of_ble_eq_true rfl) rfl rfl (as := [.ref 21]) (rest := []) rfl rfl rfl (cs_mono h (fun S1 v1 h => ?_))
    obtain ⟨rfl, h⟩ := h
    refine rn_aload_n rfl rfl ?_
    refine rn_iload_n rfl rfl ?_
    refine rn_iconst rfl ?_
    refine rn_virtual rfl (Nat.le_of_ble_eq_true rfl) (Nat.le_of_ble_eq_true rfl) rfl rfl (as := [.ref 21, .int a1, .int 1]) (rest := []) rfl rfl rfl (cs_mono h (fun S2 v2 h => ?_))
    obtain ⟨rfl, h⟩ := h
    exact rn_return rfl rfl h
  · replace h := h.2 hc
    refine rn_aload_n rfl rfl ?_
    refine rn_getfield rfl rfl rfl ?_
    refine rn_iload_n rfl rfl ?_
    refine rn_iconst rfl ?_
    obtain ⟨j3, hj3, ej3, h⟩ := h
    refine rn_bastore (j := j3) (S' := (us S 26 j3 0)) rfl rfl (Nat.le_of_ble_eq_true rfl) ej3 hj3 (by decide) rfl ?_
    refine rn_iinc rfl rfl rfl ?_
    refine rn_goto rfl ?_
    exact h
def w_53 (xs : Nat × (Nat → Int32)) (d : Nat) (K : Sv → Option Value → Prop) (a1 : Int32) (S : Sv) : Prop :=
  R_53_30 xs d K a1 0 (us (us (us (us (us S 22 1 0) 21 7 a1) 21 8 0) 21 9 0) 21 10 0)
set_option maxRecDepth 100000 in
set_option maxHeartbeats 4000000 in
theorem c_53 {xs : Nat × (Nat → Int32)} {d : Nat} {K : Sv → Option Value → Prop} {a1 : Int32} {S : Sv} (h : w_53 xs d K a1 S) : CS xs (d + 1) 53 S [.ref 21, .int a1] K := by
  unfold w_53 at h
  refine cs_in rfl rfl rfl rfl ?_
  refine rn_aload_n rfl rfl ?_
  refine rn_getfield rfl rfl rfl ?_
  refine rn_iconst rfl ?_
  refine rn_putfield (S' := (us S 22 1 0)) rfl rfl (Nat.le_of_ble_eq_true rfl) (Or.inl rfl) rfl ?_
  refine rn_aload_n rfl rfl ?_
  refine rn_iload_n rfl rfl ?_
  refine rn_putfield (S' := (us (us S 22 1 0) 21 7 a1)) rfl rfl (Nat.le_of_ble_eq_true rfl) (Or.inl rfl) rfl ?_
  refine rn_aload_n rfl rfl ?_
  refine rn_iconst rfl ?_
  refine rn_putfield (S' := (us (us (us S 22 1 0) 21 7 a1) 21 8 0)) rfl rfl (Nat.le_of_ble_eq_true rfl) (Or.inl rfl) rfl ?_
  refine rn_aload_n rfl rfl ?_
  refine rn_iconst rfl ?_
  refine rn_putfield (S' := (us (us (us (us S 22 1 0) 21 7 a1) 21 8 0) 21 9 0)) rfl rfl (Nat.le_of_ble_eq_true rfl) (Or.inr ⟨rfl, Or.inl rfl⟩) rfl ?_
  refine rn_aload_n rfl rfl ?_
  refine rn_iconst rfl ?_
  refine rn_putfield (S' := (us (us (us (us (us S 22 1 0) 21 7 a1) 21 8 0) 21 9 0) 21 10 0)) rfl rfl (Nat.le_of_ble_eq_true rfl) (Or.inr ⟨rfl, Or.inl rfl⟩) rfl ?_
  refine rn_iconst rfl ?_
  refine rn_istore_n rfl rfl ?_
  exact h
-- ReplayedBeans$Writer.countLinks()V (number 54)
def R_54_21 (xs : Nat × (Nat → Int32)) (d : Nat) (K : Sv → Option Value → Prop) (a1 : Int32) (S : Sv) : Prop := ∀ u2 u3 : Option Value, RN xs d 54 K 21 [some (.ref 21), some (.int a1), u2, u3] [] S
def R_54_34 (xs : Nat × (Nat → Int32)) (d : Nat) (K : Sv → Option Value → Prop) (a1 a2 : Int32) (S : Sv) : Prop := ∀ u3 : Option Value, RN xs d 54 K 34 [some (.ref 21), some (.int a1), some (.int a2), u3] [] S
def w_54_21 (xs : Nat × (Nat → Int32)) (d : Nat) (K : Sv → Option Value → Prop) (a1 : Int32) (S : Sv) : Prop :=
  ((S 12 3) ≤ a1 → (K S none)) ∧ (¬ ((S 12 3) ≤ a1) → (R_54_34 xs d K a1 0 S))
set_option maxRecDepth 100000 in
set_option maxHeartbeats 4000000 in
theorem h_54_21 {xs : Nat × (Nat → Int32)} {d : Nat} {K : Sv → Option Value → Prop} {a1 : Int32} {S : Sv} (h : w_54_21 xs d K a1 S) : R_54_21 xs d K a1 S := by
  unfold w_54_21 at h
  unfold R_54_21
  intro u2 u3
  refine rn_iload_n rfl rfl ?_
  refine rn_aload_n rfl rfl ?_
  refine rn_getfield rfl rfl rfl ?_
  refine rn_getfield rfl rfl rfl ?_
  refine rn_icmp_ge rfl (fun hc => ?_) (fun hc => ?_)
  · replace h := h.1 hc
    exact rn_return rfl rfl h
  · replace h := h.2 hc
    refine rn_iconst rfl ?_
    refine rn_istore_n rfl rfl ?_
    exact h _
def w_54_34 (xs : Nat × (Nat → Int32)) (d : Nat) (K : Sv → Option Value → Prop) (a1 a2 : Int32) (S : Sv) : Prop :=
  (2 ≤ a2 → (R_54_21 xs d K (a1 + 1) S)) ∧ (¬ (2 ≤ a2) → (∃ j1 : Nat, j1 < 24 ∧ a1 = nI j1 ∧ (CS xs d 38 S [.ref 8, .int (S 13 j1), .int a2] (fun S2 v2 => ∃ r2 : Int32, v2 = some (.int r2) ∧ (CS xs d 31 S2 [.ref 8, .int r2] (fun S3 v3 => ∃ r3 : Int32, v3 = some (.int r3) ∧ ((r3 = 0 → (R_54_34 xs d K a1 (a2 + 1) S3)) ∧ (¬ (r3 = 0) → (∃ j4 : Nat, j4 < 24 ∧ r2 = nI j4 ∧ (∃ j5 : Nat, j5 < 24 ∧ r2 = nI j5 ∧ (R_54_34 xs d K a1 (a2 + 1) (us S3 24 j5 ((S3 24 j4) + 1)))))))))))))
set_option maxRecDepth 100000 in
set_option maxHeartbeats 4000000 in
theorem h_54_34 {xs : Nat × (Nat → Int32)} {d : Nat} {K : Sv → Option Value → Prop} {a1 a2 : Int32} {S : Sv} (h : w_54_34 xs d K a1 a2 S) : R_54_34 xs d K a1 a2 S := by
  unfold w_54_34 at h
  unfold R_54_34
  intro u3
  refine rn_iload_n rfl rfl ?_
  refine rn_iconst rfl ?_
  refine rn_icmp_ge rfl (fun hc => ?_) (fun hc => ?_)
  · replace h := h.1 hc
    refine rn_iinc rfl rfl rfl ?_
    refine rn_goto rfl ?_
    exact h _ _
  · replace h := h.2 hc
    refine rn_aload_n rfl rfl ?_
    refine rn_getfield rfl rfl rfl ?_
    refine rn_aload_n rfl rfl ?_
    refine rn_getfield rfl rfl rfl ?_
    refine rn_getfield rfl rfl rfl ?_
    refine rn_iload_n rfl rfl ?_
    obtain ⟨j1, hj1, ej1, h⟩ := h
    refine rn_iaload (j := j1) rfl rfl (Nat.le_of_ble_eq_true rfl) ej1 hj1 ?_
    refine rn_iload_n rfl rfl ?_
    refine rn_virtual rfl (Nat.le_of_ble_eq_true rfl) (Nat.le_of_ble_eq_true rfl) rfl rfl (as := [.ref 8, .int (S 13 j1), .int a2]) (rest := []) rfl rfl rfl (cs_mono h (fun S2 v2 h => ?_))
    obtain ⟨r2, rfl, h⟩ := h
    refine rn_istore_n rfl rfl ?_
    refine rn_aload_n rfl rfl ?_
    refine rn_getfield rfl rfl rfl ?_
    refine rn_iload_n rfl rfl ?_
    refine rn_virtual rfl (Nat.le_of_ble_eq_true rfl) (Nat.le_of_ble_eq_true rfl) rfl rfl (as := [.ref 8, .int r2]) (rest := []) rfl rfl rfl (cs_mono h (fun S3 v3 h => ?_))
    obtain ⟨r3, rfl, h⟩ := h
    refine rn_if_eq rfl (fun hc => ?_) (fun hc => ?_)
    · replace h := h.1 hc
      refine rn_iinc rfl rfl rfl ?_
      refine rn_goto rfl ?_
      exact h _
    · replace h := h.2 hc
      refine rn_aload_n rfl rfl ?_
      refine rn_getfield rfl rfl rfl ?_
      refine rn_iload_n rfl rfl ?_
      refine rn_dup2 rfl rfl rfl ?_
      obtain ⟨j4, hj4, ej4, h⟩ := h
      refine rn_iaload (j := j4) rfl rfl (Nat.le_of_ble_eq_true rfl) ej4 hj4 ?_
      refine rn_iconst rfl ?_
      refine rn_iadd rfl ?_
      obtain ⟨j5, hj5, ej5, h⟩ := h
      refine rn_iastore (j := j5) (S' := (us S3 24 j5 ((S3 24 j4) + 1))) rfl rfl (Nat.le_of_ble_eq_true rfl) ej5 hj5 rfl ?_
      refine rn_iinc rfl rfl rfl ?_
      refine rn_goto rfl ?_
      exact h _
def w_54 (xs : Nat × (Nat → Int32)) (d : Nat) (K : Sv → Option Value → Prop) (S : Sv) : Prop :=
  CS xs d 0 S [.ref 24, .int 0] (fun S1 v1 => v1 = none ∧ (CS xs d 41 S1 [.ref 12, .int (S1 21 7)] (fun S2 v2 => v2 = none ∧ (R_54_21 xs d K 0 S2))))
set_option maxRecDepth 100000 in
set_option maxHeartbeats 4000000 in
theorem c_54 {xs : Nat × (Nat → Int32)} {d : Nat} {K : Sv → Option Value → Prop} {S : Sv} (h : w_54 xs d K S) : CS xs (d + 1) 54 S [.ref 21] K := by
  unfold w_54 at h
  refine cs_in rfl rfl rfl rfl ?_
  refine rn_aload_n rfl rfl ?_
  refine rn_getfield rfl rfl rfl ?_
  refine rn_iconst rfl ?_
  refine rn_static rfl (Nat.le_of_ble_eq_true rfl) (Nat.le_of_ble_eq_true rfl) rfl rfl (as := [.ref 24, .int 0]) (rest := []) rfl rfl (cs_mono h (fun S1 v1 h => ?_))
  obtain ⟨rfl, h⟩ := h
  refine rn_aload_n rfl rfl ?_
  refine rn_getfield rfl rfl rfl ?_
  refine rn_aload_n rfl rfl ?_
  refine rn_getfield rfl rfl rfl ?_
  refine rn_virtual rfl (Nat.le_of_ble_eq_true rfl) (Nat.le_of_ble_eq_true rfl) rfl rfl (as := [.ref 12, .int (S1 21 7)]) (rest := []) rfl rfl rfl (cs_mono h (fun S2 v2 h => ?_))
  obtain ⟨rfl, h⟩ := h
  refine rn_iconst rfl ?_
  refine rn_istore_n rfl rfl ?_
  exact h _ _
-- ReplayedBeans$Writer.isShared(I)Z (number 55)
def w_55 (xs : Nat × (Nat → Int32)) (d : Nat) (K : Sv → Option Value → Prop) (a1 : Int32) (S : Sv) : Prop :=
  ∃ j1 : Nat, j1 < 24 ∧ a1 = nI j1 ∧ ((¬ a1 = (S 21 7) → (((S 24 j1) < 2 → (K S (some (.int 0)))) ∧ (¬ ((S 24 j1) < 2) → (K S (some (.int 1)))))) ∧ (¬ (¬ a1 = (S 21 7)) → (((S 24 j1) < 1 → (K S (some (.int 0)))) ∧ (¬ ((S 24 j1) < 1) → (K S (some (.int 1)))))))
set_option maxRecDepth 100000 in
set_option maxHeartbeats 4000000 in
theorem c_55 {xs : Nat × (Nat → Int32)} {d : Nat} {K : Sv → Option Value → Prop} {a1 : Int32} {S : Sv} (h : w_55 xs d K a1 S) : CS xs (d + 1) 55 S [.ref 21, .int a1] K := by
  unfold w_55 at h
  refine cs_in rfl rfl rfl rfl ?_
  refine rn_aload_n rfl rfl ?_
  refine rn_getfield rfl rfl rfl ?_
  refine rn_iload_n rfl rfl ?_
  obtain ⟨j1, hj1, ej1, h⟩ := h
  refine rn_iaload (j := j1) rfl rfl (Nat.le_of_ble_eq_true rfl) ej1 hj1 ?_
  refine rn_iload_n rfl rfl ?_
  refine rn_aload_n rfl rfl ?_
  refine rn_getfield rfl rfl rfl ?_
  refine rn_icmp_ne rfl (fun hc => ?_) (fun hc => ?_)
  · replace h := h.1 hc
    refine rn_iconst rfl ?_
    refine rn_icmp_lt rfl (fun hc => ?_) (fun hc => ?_)
    · replace h := h.1 hc
      refine rn_iconst rfl ?_
      exact rn_ireturn rfl rfl (by decide) h
    · replace h := h.2 hc
      refine rn_iconst rfl ?_
      refine rn_goto rfl ?_
      exact rn_ireturn rfl rfl (by decide) h
  · replace h := h.2 hc
    refine rn_iconst rfl ?_
    refine rn_goto rfl ?_
    refine rn_icmp_lt rfl (fun hc => ?_) (fun hc => ?_)
    · replace h := h.1 hc
      refine rn_iconst rfl ?_
      exact rn_ireturn rfl rfl (by decide) h
    · replace h := h.2 hc
      refine rn_iconst rfl ?_
      refine rn_goto rfl ?_
      exact rn_ireturn rfl rfl (by decide) h
-- ReplayedBeans$Writer.putObject(II)V (number 56)
def R_56_92 (xs : Nat × (Nat → Int32)) (d : Nat) (K : Sv → Option Value → Prop) (a1 a2 a3 : Int32) (S : Sv) : Prop := ∀ u4 : Option Value, RN xs d 56 K 92 [some (.ref 21), some (.int a1), some (.int a2), some (.int a3), u4] [] S
def w_56_92 (xs : Nat × (Nat → Int32)) (d : Nat) (K : Sv → Option Value → Prop) (a1 a2 a3 : Int32) (S : Sv) : Prop :=
  (2 ≤ a3 → (CS xs d 60 S [.ref 21, .int 41] (fun S1 v1 => v1 = none ∧ (K S1 none)))) ∧ (¬ (2 ≤ a3) → (CS xs d 38 S [.ref 8, .int a1, .int a3] (fun S2 v2 => ∃ r2 : Int32, v2 = some (.int r2) ∧ (CS xs d 31 S2 [.ref 8, .int r2] (fun S3 v3 => ∃ r3 : Int32, v3 = some (.int r3) ∧ ((r3 = 0 → (R_56_92 xs d K a1 a2 (a3 + 1) S3)) ∧ (¬ (r3 = 0) → (CS xs d 58 S3 [.ref 21, .int a3, .int r2, .int a2] (fun S4 v4 => v4 = none ∧ (R_56_92 xs d K a1 a2 (a3 + 1) S4))))))))))
set_option maxRecDepth 100000 in
set_option maxHeartbeats 4000000 in
theorem h_56_92 {xs : Nat × (Nat → Int32)} {d : Nat} {K : Sv → Option Value → Prop} {a1 a2 a3 : Int32} {S : Sv} (h : w_56_92 xs d K a1 a2 a3 S) : R_56_92 xs d K a1 a2 a3 S := by
  unfold w_56_92 at h
  unfold R_56_92
  intro u4
  refine rn_iload_n rfl rfl ?_
  refine rn_iconst rfl ?_
  refine rn_icmp_ge rfl (fun hc => ?_) (fun hc => ?_)
  · replace h := h.1 hc
    refine rn_aload_n rfl rfl ?_
    refine rn_bipush rfl ?_
    refine rn_virtual rfl (Nat.le_of_ble_eq_true rfl) (Nat.le_of_ble_eq_true rfl) rfl rfl (as := [.ref 21, .int 41]) (rest := []) rfl rfl rfl (cs_mono h (fun S1 v1 h => ?_))
    obtain ⟨rfl, h⟩ := h
    exact rn_return rfl rfl h
  · replace h := h.2 hc
    refine rn_aload_n rfl rfl ?_
    refine rn_getfield rfl rfl rfl ?_
    refine rn_iload_n rfl rfl ?_
    refine rn_iload_n rfl rfl ?_
    refine rn_virtual rfl (Nat.le_of_ble_eq_true rfl) (Nat.le_of_ble_eq_true rfl) rfl rfl (as := [.ref 8, .int a1, .int a3]) (rest := []) rfl rfl rfl (cs_mono h (fun S2 v2 h => ?_))
    obtain ⟨r2, rfl, h⟩ := h
    refine rn_istore rfl rfl ?_
    refine rn_aload_n rfl rfl ?_
    refine rn_getfield rfl rfl rfl ?_
    refine rn_iload rfl rfl ?_
    refine rn_virtual rfl (Nat.le_of_ble_eq_true rfl) (Nat.le_of_ble_eq_true rfl) rfl rfl (as := [.ref 8, .int r2]) (rest := []) rfl rfl rfl (cs_mono h (fun S3 v3 h => ?_))
    obtain ⟨r3, rfl, h⟩ := h
    refine rn_if_eq rfl (fun hc => ?_) (fun hc => ?_)
    · replace h := h.1 hc
      refine rn_iinc rfl rfl rfl ?_
      refine rn_goto rfl ?_
      exact h _
    · replace h := h.2 hc
      refine rn_aload_n rfl rfl ?_
      refine rn_iload_n rfl rfl ?_
      refine rn_iload rfl rfl ?_
      refine rn_iload_n rfl rfl ?_
      refine rn_virtual rfl (Nat.le_of_ble_eq_true rfl) (Nat.le_of_ble_eq_true rfl) rfl rfl (as := [.ref 21, .int a3, .int r2, .int a2]) (rest := []) rfl rfl rfl (cs_mono h (fun S4 v4 h => ?_))
      obtain ⟨rfl, h⟩ := h
      refine rn_iinc rfl rfl rfl ?_
      refine rn_goto rfl ?_
      exact h _
def w_56 (xs : Nat × (Nat → Int32)) (d : Nat) (K : Sv → Option Value → Prop) (a1 a2 : Int32) (S : Sv) : Prop :=
  (a2 ≤ 10 → (∃ j1 : Nat, j1 < 24 ∧ a1 = nI j1 ∧ (CS xs d 60 (us S 26 j1 1) [.ref 21, .int 40] (fun S2 v2 => v2 = none ∧ (CS xs d 34 S2 [.ref 8, .int a1] (fun S3 v3 => ∃ r3 : Int32, v3 = some (.int r3) ∧ (CS xs d 60 S3 [.ref 21, .int ((97 + r3).toUInt32 % 65536).toInt32] (fun S4 v4 => v4 = none ∧ (CS xs d 55 S4 [.ref 21, .int a1] (fun S5 v5 => ∃ r5 : Int32, v5 = some (.int r5) ∧ ((r5 = 0 → (CS xs d 57 S5 [.ref 21, .int a1] (fun S6 v6 => v6 = none ∧ (R_56_92 xs d K a1 a2 0 S6)))) ∧ (¬ (r5 = 0) → (∃ j7 : Nat, j7 < 24 ∧ a1 = nI j7 ∧ (CS xs d 60 (us (us S5 25 j7 (S5 21 8)) 21 8 ((S5 21 8) + 1)) [.ref 21, .int 35] (fun S8 v8 => v8 = none ∧ (∃ j9 : Nat, j9 < 24 ∧ a1 = nI j9 ∧ (CS xs d 59 S8 [.ref 21, .int (S8 25 j9)] (fun S10 v10 => v10 = none ∧ (CS xs d 57 S10 [.ref 21, .int a1] (fun S11 v11 => v11 = none ∧ (R_56_92 xs d K a1 a2 0 S11))))))))))))))))))))) ∧ (¬ (a2 ≤ 10) → (K (us S 21 9 1) none))
set_option maxRecDepth 100000 in
set_option maxHeartbeats 4000000 in
theorem c_56 {xs : Nat × (Nat → Int32)} {d : Nat} {K : Sv → Option Value → Prop} {a1 a2 : Int32} {S : Sv} (h : w_56 xs d K a1 a2 S) : CS xs (d + 1) 56 S [.ref 21, .int a1, .int a2] K := by
  unfold w_56 at h
  refine cs_in rfl rfl rfl rfl ?_
  refine rn_iload_n rfl rfl ?_
  refine rn_bipush rfl ?_
  refine rn_icmp_le rfl (fun hc => ?_) (fun hc => ?_)
  · replace h := h.1 hc
    refine rn_aload_n rfl rfl ?_
    refine rn_getfield rfl rfl rfl ?_
    refine rn_iload_n rfl rfl ?_
    refine rn_iconst rfl ?_
    obtain ⟨j1, hj1, ej1, h⟩ := h
    refine rn_bastore (j := j1) (S' := (us S 26 j1 1)) rfl rfl (Nat.le_of_ble_eq_true rfl) ej1 hj1 (by decide) rfl ?_
    refine rn_aload_n rfl rfl ?_
    refine rn_bipush rfl ?_
    refine rn_virtual rfl (Nat.le_of_ble_eq_true rfl) (Nat.le_of_ble_eq_true rfl) rfl rfl (as := [.ref 21, .int 40]) (rest := []) rfl rfl rfl (cs_mono h (fun S2 v2 h => ?_))
    obtain ⟨rfl, h⟩ := h
    refine rn_aload_n rfl rfl ?_
    refine rn_bipush rfl ?_
    refine rn_aload_n rfl rfl ?_
    refine rn_getfield rfl rfl rfl ?_
    refine rn_iload_n rfl rfl ?_
    refine rn_virtual rfl (Nat.le_of_ble_eq_true rfl) (Nat.le_of_ble_eq_true rfl) rfl rfl (as := [.ref 8, .int a1]) (rest := [.int 97, .ref 21]) rfl rfl rfl (cs_mono h (fun S3 v3 h => ?_))
    obtain ⟨r3, rfl, h⟩ := h
    refine rn_iadd rfl ?_
    refine rn_i2c rfl ?_
    refine rn_virtual rfl (Nat.le_of_ble_eq_true rfl) (Nat.le_of_ble_eq_true rfl) rfl rfl (as := [.ref 21, .int ((97 + r3).toUInt32 % 65536).toInt32]) (rest := []) rfl rfl rfl (cs_mono h (fun S4 v4 h => ?_))
    obtain ⟨rfl, h⟩ := h
    refine rn_aload_n rfl rfl ?_
    refine rn_iload_n rfl rfl ?_
    refine rn_virtual rfl (Nat.le_of_ble_eq_true rfl) (Nat.le_of_ble_eq_true rfl) rfl rfl (as := [.ref 21, .int a1]) (rest := []) rfl rfl rfl (cs_mono h (fun S5 v5 h => ?_))
    obtain ⟨r5, rfl, h⟩ := h
    refine rn_if_eq rfl (fun hc => ?_) (fun hc => ?_)
    · replace h := h.1 hc
      refine rn_aload_n rfl rfl ?_
      refine rn_iload_n rfl rfl ?_
      refine rn_virtual rfl (Nat.le_of_ble_eq_true rfl) (Nat.le_of_ble_eq_true rfl) rfl rfl (as := [.ref 21, .int a1]) (rest := []) rfl rfl rfl (cs_mono h (fun S6 v6 h => ?_))
      obtain ⟨rfl, h⟩ := h
      refine rn_iconst rfl ?_
      refine rn_istore_n rfl rfl ?_
      exact h _
    · replace h := h.2 hc
      refine rn_aload_n rfl rfl ?_
      refine rn_getfield rfl rfl rfl ?_
      refine rn_iload_n rfl rfl ?_
      refine rn_aload_n rfl rfl ?_
      refine rn_getfield rfl rfl rfl ?_
      obtain ⟨j7, hj7, ej7, h⟩ := h
      refine rn_iastore (j := j7) (S' := (us S5 25 j7 (S5 21 8))) rfl rfl (Nat.le_of_ble_eq_true rfl) ej7 hj7 rfl ?_
      refine rn_aload_n rfl rfl ?_
      refine rn_dup rfl rfl ?_
      refine rn_getfield rfl rfl rfl ?_
      refine rn_iconst rfl ?_
      refine rn_iadd rfl ?_
      refine rn_putfield (S' := (us (us S5 25 j7 (S5 21 8)) 21 8 ((S5 21 8) + 1))) rfl rfl (Nat.le_of_ble_eq_true rfl) (Or.inl rfl) rfl ?_
      refine rn_aload_n rfl rfl ?_
      refine rn_bipush rfl ?_
      refine rn_virtual rfl (Nat.le_of_ble_eq_true rfl) (Nat.le_of_ble_eq_true rfl) rfl rfl (as := [.ref 21, .int 35]) (rest := []) rfl rfl rfl (cs_mono h (fun S8 v8 h => ?_))
      obtain ⟨rfl, h⟩ := h
      refine rn_aload_n rfl rfl ?_
      refine rn_aload_n rfl rfl ?_
      refine rn_getfield rfl rfl rfl ?_
      refine rn_iload_n rfl rfl ?_
      obtain ⟨j9, hj9, ej9, h⟩ := h
      refine rn_iaload (j := j9) rfl rfl (Nat.le_of_ble_eq_true rfl) ej9 hj9 ?_
      refine rn_virtual rfl (Nat.le_of_ble_eq_true rfl) (Nat.le_of_ble_eq_true rfl) rfl rfl (as := [.ref 21, .int (S8 25 j9)]) (rest := []) rfl rfl rfl (cs_mono h (fun S10 v10 h => ?_))
      obtain ⟨rfl, h⟩ := h
      refine rn_aload_n rfl rfl ?_
      refine rn_iload_n rfl rfl ?_
      refine rn_virtual rfl (Nat.le_of_ble_eq_true rfl) (Nat.le_of_ble_eq_true rfl) rfl rfl (as := [.ref 21, .int a1]) (rest := []) rfl rfl rfl (cs_mono h (fun S11 v11 h => ?_))
      obtain ⟨rfl, h⟩ := h
      refine rn_iconst rfl ?_
      refine rn_istore_n rfl rfl ?_
      exact h _
  · replace h := h.2 hc
    refine rn_aload_n rfl rfl ?_
    refine rn_iconst rfl ?_
    refine rn_putfield (S' := (us S 21 9 1)) rfl rfl (Nat.le_of_ble_eq_true rfl) (Or.inr ⟨rfl, Or.inr rfl⟩) rfl ?_
    exact rn_return rfl rfl h
-- ReplayedBeans$Writer.putNumbers(I)V (number 57)
def R_57_11 (xs : Nat × (Nat → Int32)) (d : Nat) (K : Sv → Option Value → Prop) (a1 a2 a3 : Int32) (S : Sv) : Prop := ∀ u4 : Option Value, RN xs d 57 K 11 [some (.ref 21), some (.int a1), some (.int a2), some (.int a3), u4] [] S
def w_57_11 (xs : Nat × (Nat → Int32)) (d : Nat) (K : Sv → Option Value → Prop) (a1 a2 a3 : Int32) (S : Sv) : Prop :=
  (3 ≤ a3 → (K S none)) ∧ (¬ (3 ≤ a3) → (CS xs d 37 S [.ref 8, .int a1, .int a3] (fun S1 v1 => ∃ r1 : Int32, v1 = some (.int r1) ∧ (CS xs d 28 S1 [.ref 1, .int a2, .int a3] (fun S2 v2 => ∃ r2 : Int32, v2 = some (.int r2) ∧ ((r1 = r2 → (R_57_11 xs d K a1 a2 (a3 + 1) S2)) ∧ (¬ (r1 = r2) → (CS xs d 60 S2 [.ref 21, .int ((120 + a3).toUInt32 % 65536).toInt32] (fun S3 v3 => v3 = none ∧ (CS xs d 60 S3 [.ref 21, .int 61] (fun S4 v4 => v4 = none ∧ (CS xs d 59 S4 [.ref 21, .int r1] (fun S5 v5 => v5 = none ∧ (R_57_11 xs d K a1 a2 (a3 + 1) S5))))))))))))))
set_option maxRecDepth 100000 in
set_option maxHeartbeats 4000000 in
theorem h_57_11 {xs : Nat × (Nat → Int32)} {d : Nat} {K : Sv → Option Value → Prop} {a1 a2 a3 : Int32} {S : Sv} (h : w_57_11 xs d K a1 a2 a3 S) : R_57_11 xs d K a1 a2 a3 S := by
  unfold w_57_11 at h
  unfold R_57_11
  intro u4
  refine rn_iload_n rfl rfl ?_
  refine rn_iconst rfl ?_
  refine rn_icmp_ge rfl (fun hc => ?_) (fun hc => ?_)
  · replace h := h.1 hc
    exact rn_return rfl rfl h
  · replace h := h.2 hc
    refine rn_aload_n rfl rfl ?_
    refine rn_getfield rfl rfl rfl ?_
    refine rn_iload_n rfl rfl ?_
    refine rn_iload_n rfl rfl ?_
    refine rn_virtual rfl (Nat.le_of_ble_eq_true rfl) (Nat.le_of_ble_eq_true rfl) rfl rfl (as := [.ref 8, .int a1, .int a3]) (rest := []) rfl rfl rfl (cs_mono h (fun S1 v1 h => ?_))
    obtain ⟨r1, rfl, h⟩ := h
    refine rn_istore rfl rfl ?_
    refine rn_iload rfl rfl ?_
    refine rn_aload_n rfl rfl ?_
    refine rn_getfield rfl rfl rfl ?_
    refine rn_iload_n rfl rfl ?_
    refine rn_iload_n rfl rfl ?_
    refine rn_virtual rfl (Nat.le_of_ble_eq_true rfl) (Nat.le_of_ble_eq_true rfl) rfl rfl (as := [.ref 1, .int a2, .int a3]) (rest := [.int r1]) rfl rfl rfl (cs_mono h (fun S2 v2 h => ?_))
    obtain ⟨r2, rfl, h⟩ := h
    refine rn_icmp_eq rfl (fun hc => ?_) (fun hc => ?_)
    · replace h := h.1 hc
      refine rn_iinc rfl rfl rfl ?_
      refine rn_goto rfl ?_
      exact h _
    · replace h := h.2 hc
      refine rn_aload_n rfl rfl ?_
      refine rn_bipush rfl ?_
      refine rn_iload_n rfl rfl ?_
      refine rn_iadd rfl ?_
      refine rn_i2c rfl ?_
      refine rn_virtual rfl (Nat.le_of_ble_eq_true rfl) (Nat.le_of_ble_eq_true rfl) rfl rfl (as := [.ref 21, .int ((120 + a3).toUInt32 % 65536).toInt32]) (rest := []) rfl rfl rfl (cs_mono h (fun S3 v3 h => ?_))
      obtain ⟨rfl, h⟩ := h
      refine rn_aload_n rfl rfl ?_
      refine rn_bipush rfl ?_
      refine rn_virtual rfl (Nat.le_of_ble_eq_true rfl) (Nat.le_of_ble_eq_true rfl) rfl rfl (as := [.ref 21, .int 61]) (rest := []) rfl rfl rfl (cs_mono h (fun S4 v4 h => ?_))
      obtain ⟨rfl, h⟩ := h
      refine rn_aload_n rfl rfl ?_
      refine rn_iload rfl rfl ?_
      refine rn_virtual rfl (Nat.le_of_ble_eq_true rfl) (Nat.le_of_ble_eq_true rfl) rfl rfl (as := [.ref 21, .int r1]) (rest := []) rfl rfl rfl (cs_mono h (fun S5 v5 h => ?_))
      obtain ⟨rfl, h⟩ := h
      refine rn_iinc rfl rfl rfl ?_
      refine rn_goto rfl ?_
      exact h _
def w_57 (xs : Nat × (Nat → Int32)) (d : Nat) (K : Sv → Option Value → Prop) (a1 : Int32) (S : Sv) : Prop :=
  CS xs d 34 S [.ref 8, .int a1] (fun S1 v1 => ∃ r1 : Int32, v1 = some (.int r1) ∧ (R_57_11 xs d K a1 r1 0 S1))
set_option maxRecDepth 100000 in
set_option maxHeartbeats 4000000 in
theorem c_57 {xs : Nat × (Nat → Int32)} {d : Nat} {K : Sv → Option Value → Prop} {a1 : Int32} {S : Sv} (h : w_57 xs d K a1 S) : CS xs (d + 1) 57 S [.ref 21, .int a1] K := by
  unfold w_57 at h
  refine cs_in rfl rfl rfl rfl ?_
  refine rn_aload_n rfl rfl ?_
  refine rn_getfield rfl rfl rfl ?_
  refine rn_iload_n rfl rfl ?_
  refine rn_virtual rfl (Nat.le_of_ble_eq_true rfl) (Nat.le_of_ble_eq_true rfl) rfl rfl (as := [.ref 8, .int a1]) (rest := []) rfl rfl rfl (cs_mono h (fun S1 v1 h => ?_))
  obtain ⟨r1, rfl, h⟩ := h
  refine rn_istore_n rfl rfl ?_
  refine rn_iconst rfl ?_
  refine rn_istore_n rfl rfl ?_
  exact h _
-- ReplayedBeans$Writer.putLinkStatement(III)V (number 58)
def w_58 (xs : Nat × (Nat → Int32)) (d : Nat) (K : Sv → Option Value → Prop) (a1 a2 a3 : Int32) (S : Sv) : Prop :=
  CS xs d 60 S [.ref 21, .int ((112 + a1).toUInt32 % 65536).toInt32] (fun S1 v1 => v1 = none ∧ (CS xs d 60 S1 [.ref 21, .int 61] (fun S2 v2 => v2 = none ∧ (∃ j3 : Nat, j3 < 24 ∧ a2 = nI j3 ∧ (((S2 26 j3) = 0 → (CS xs d 56 S2 [.ref 21, .int a2, .int (a3 + 1)] (fun S4 v4 => v4 = none ∧ (K S4 none)))) ∧ (¬ ((S2 26 j3) = 0) → (CS xs d 60 S2 [.ref 21, .int 64] (fun S5 v5 => v5 = none ∧ (∃ j6 : Nat, j6 < 24 ∧ a2 = nI j6 ∧ (CS xs d 59 S5 [.ref 21, .int (S5 25 j6)] (fun S7 v7 => v7 = none ∧ (K S7 none))))))))))))
set_option maxRecDepth 100000 in
set_option maxHeartbeats 4000000 in
theorem c_58 {xs : Nat × (Nat → Int32)} {d : Nat} {K : Sv → Option Value → Prop} {a1 a2 a3 : Int32} {S : Sv} (h : w_58 xs d K a1 a2 a3 S) : CS xs (d + 1) 58 S [.ref 21, .int a1, .int a2, .int a3] K := by
  unfold w_58 at h
  refine cs_in rfl rfl rfl rfl ?_
  refine rn_aload_n rfl rfl ?_
  refine rn_bipush rfl ?_
  refine rn_iload_n rfl rfl ?_
  refine rn_iadd rfl ?_
  refine rn_i2c rfl ?_
  refine rn_virtual rfl (Nat.le_of_ble_eq_true rfl) (Nat.le_of_ble_eq_true rfl) rfl rfl (as := [.ref 21, .int ((112 + a1).toUInt32 % 65536).toInt32]) (rest := []) rfl rfl rfl (cs_mono h (fun S1 v1 h => ?_))
  obtain ⟨rfl, h⟩ := h
  refine rn_aload_n rfl rfl ?_
  refine rn_bipush rfl ?_
  refine rn_virtual rfl (Nat.le_of_ble_eq_true rfl) (Nat.le_of_ble_eq_true rfl) rfl rfl (as := [.ref 21, .int 61]) (rest := []) rfl rfl rfl (cs_mono h (fun S2 v2 h => ?_))
  obtain ⟨rfl, h⟩ := h
  refine rn_aload_n rfl rfl ?_
  refine rn_getfield rfl rfl rfl ?_
  refine rn_iload_n rfl rfl ?_
  obtain ⟨j3, hj3, ej3, h⟩ := h
  refine rn_baload (j := j3) rfl rfl (Nat.le_of_ble_eq_true rfl) ej3 hj3 ?_
  refine rn_if_eq rfl (fun hc => ?_) (fun hc => ?_)
  · replace h := h.1 hc
    refine rn_aload_n rfl rfl ?_
    refine rn_iload_n rfl rfl ?_
    refine rn_iload_n rfl rfl ?_
    refine rn_iconst rfl ?_
    refine rn_iadd rfl ?_
    refine rn_virtual rfl (Nat.le_of_ble_eq_true rfl) (Nat.le_of_ble_eq_true rfl) rfl rfl (as := [.ref 21, .int a2, .int (a3 + 1)]) (rest := []) rfl rfl rfl (cs_mono h (fun S4 v4 h => ?_))
    obtain ⟨rfl, h⟩ := h
    exact rn_return rfl rfl h
  · replace h := h.2 hc
    refine rn_aload_n rfl rfl ?_
    refine rn_bipush rfl ?_
    refine rn_virtual rfl (Nat.le_of_ble_eq_true rfl) (Nat.le_of_ble_eq_true rfl) rfl rfl (as := [.ref 21, .int 64]) (rest := []) rfl rfl rfl (cs_mono h (fun S5 v5 h => ?_))
    obtain ⟨rfl, h⟩ := h
    refine rn_aload_n rfl rfl ?_
    refine rn_aload_n rfl rfl ?_
    refine rn_getfield rfl rfl rfl ?_
    refine rn_iload_n rfl rfl ?_
    obtain ⟨j6, hj6, ej6, h⟩ := h
    refine rn_iaload (j := j6) rfl rfl (Nat.le_of_ble_eq_true rfl) ej6 hj6 ?_
    refine rn_virtual rfl (Nat.le_of_ble_eq_true rfl) (Nat.le_of_ble_eq_true rfl) rfl rfl (as := [.ref 21, .int (S5 25 j6)]) (rest := []) rfl rfl rfl (cs_mono h (fun S7 v7 h => ?_))
    obtain ⟨rfl, h⟩ := h
    refine rn_goto rfl ?_
    exact rn_return rfl rfl h
-- ReplayedBeans$Writer.putWhole(I)V (number 59)
def R_59_10 (xs : Nat × (Nat → Int32)) (d : Nat) (K : Sv → Option Value → Prop) (a1 : Int32) (S : Sv) : Prop := ∀ u2 u3 u4 : Option Value, RN xs d 59 K 10 [some (.ref 21), some (.int a1), u2, u3, u4] [] S
def R_59_26 (xs : Nat × (Nat → Int32)) (d : Nat) (K : Sv → Option Value → Prop) (a2 a3 a4 : Int32) (S : Sv) : Prop := ∀ u1 : Option Value, RN xs d 59 K 26 [some (.ref 21), u1, some (.int a2), some (.int a3), some (.int a4)] [] S
def R_59_51 (xs : Nat × (Nat → Int32)) (d : Nat) (K : Sv → Option Value → Prop) (a2 a3 : Int32) (S : Sv) : Prop := ∀ u1 u4 : Option Value, RN xs d 59 K 51 [some (.ref 21), u1, some (.int a2), some (.int a3), u4] [] S
def w_59_10 (xs : Nat × (Nat → Int32)) (d : Nat) (K : Sv → Option Value → Prop) (a1 : Int32) (S : Sv) : Prop :=
  (0 ≤ a1 → (R_59_26 xs d K a1 1 1 S)) ∧ (¬ (0 ≤ a1) → (R_59_26 xs d K (-a1) 1 1 S))
set_option maxRecDepth 100000 in
set_option maxHeartbeats 4000000 in
theorem h_59_10 {xs : Nat × (Nat → Int32)} {d : Nat} {K : Sv → Option Value → Prop} {a1 : Int32} {S : Sv} (h : w_59_10 xs d K a1 S) : R_59_10 xs d K a1 S := by
  unfold w_59_10 at h
  unfold R_59_10
  intro u2 u3 u4
  refine rn_iload_n rfl rfl ?_
  refine rn_if_ge rfl (fun hc => ?_) (fun hc => ?_)
  · replace h := h.1 hc
    refine rn_iload_n rfl rfl ?_
    refine rn_istore_n rfl rfl ?_
    refine rn_iconst rfl ?_
    refine rn_istore_n rfl rfl ?_
    refine rn_iconst rfl ?_
    refine rn_istore rfl rfl ?_
    exact h _
  · replace h := h.2 hc
    refine rn_iload_n rfl rfl ?_
    refine rn_ineg rfl ?_
    refine rn_goto rfl ?_
    refine rn_istore_n rfl rfl ?_
    refine rn_iconst rfl ?_
    refine rn_istore_n rfl rfl ?_
    refine rn_iconst rfl ?_
    refine rn_istore rfl rfl ?_
    exact h _
def w_59_26 (xs : Nat × (Nat → Int32)) (d : Nat) (K : Sv → Option Value → Prop) (a2 a3 a4 : Int32) (S : Sv) : Prop :=
  (5 ≤ a4 → (R_59_51 xs d K a2 a3 S)) ∧ (¬ (5 ≤ a4) → (¬ a3 = 0 ∧ (((a2 / a3) < 10 → (R_59_51 xs d K a2 a3 S)) ∧ (¬ ((a2 / a3) < 10) → (R_59_26 xs d K a2 (a3 * 10) (a4 + 1) S)))))
set_option maxRecDepth 100000 in
set_option maxHeartbeats 4000000 in
theorem h_59_26 {xs : Nat × (Nat → Int32)} {d : Nat} {K : Sv → Option Value → Prop} {a2 a3 a4 : Int32} {S : Sv} (h : w_59_26 xs d K a2 a3 a4 S) : R_59_26 xs d K a2 a3 a4 S := by
  unfold w_59_26 at h
  unfold R_59_26
  intro u1
  refine rn_iload rfl rfl ?_
  refine rn_iconst rfl ?_
  refine rn_icmp_ge rfl (fun hc => ?_) (fun hc => ?_)
  · replace h := h.1 hc
    exact h _ _
  · replace h := h.2 hc
    refine rn_iload_n rfl rfl ?_
    refine rn_iload_n rfl rfl ?_
    obtain ⟨hy, h⟩ := h
    refine rn_idiv rfl hy ?_
    refine rn_bipush rfl ?_
    refine rn_icmp_lt rfl (fun hc => ?_) (fun hc => ?_)
    · replace h := h.1 hc
      exact h _ _
    · replace h := h.2 hc
      refine rn_iload_n rfl rfl ?_
      refine rn_bipush rfl ?_
      refine rn_imul rfl ?_
      refine rn_istore_n rfl rfl ?_
      refine rn_iinc rfl rfl rfl ?_
      refine rn_goto rfl ?_
      exact h _
def w_59_51 (xs : Nat × (Nat → Int32)) (d : Nat) (K : Sv → Option Value → Prop) (a2 a3 : Int32) (S : Sv) : Prop :=
  (a3 ≤ 0 → (K S none)) ∧ (¬ (a3 ≤ 0) → (¬ a3 = 0 ∧ (CS xs d 60 S [.ref 21, .int ((48 + ((a2 / a3) - (a2 / a3) / 10 * 10)).toUInt32 % 65536).toInt32] (fun S1 v1 => v1 = none ∧ (R_59_51 xs d K a2 (a3 / 10) S1)))))
set_option maxRecDepth 100000 in
set_option maxHeartbeats 4000000 in
theorem h_59_51 {xs : Nat × (Nat → Int32)} {d : Nat} {K : Sv → Option Value → Prop} {a2 a3 : Int32} {S : Sv} (h : w_59_51 xs d K a2 a3 S) : R_59_51 xs d K a2 a3 S := by
  unfold w_59_51 at h
  unfold R_59_51
  intro u1 u4
  refine rn_iload_n rfl rfl ?_
  refine rn_if_le rfl (fun hc => ?_) (fun hc => ?_)
  · replace h := h.1 hc
    exact rn_return rfl rfl h
  · replace h := h.2 hc
    refine rn_aload_n rfl rfl ?_
    refine rn_bipush rfl ?_
    refine rn_iload_n rfl rfl ?_
    refine rn_iload_n rfl rfl ?_
    obtain ⟨hy, h⟩ := h
    refine rn_idiv rfl hy ?_
    refine rn_bipush rfl ?_
    refine rn_irem rfl (by decide) ?_
    refine rn_iadd rfl ?_
    refine rn_i2c rfl ?_
    refine rn_virtual rfl (Nat.le_of_ble_eq_true rfl) (Nat.le_of_ble_eq_true rfl) rfl rfl (as := [.ref 21, .int ((48 + ((a2 / a3) - (a2 / a3) / 10 * 10)).toUInt32 % 65536).toInt32]) (rest := []) rfl rfl rfl (cs_mono h (fun S1 v1 h => ?_))
    obtain ⟨rfl, h⟩ := h
    refine rn_iload_n rfl rfl ?_
    refine rn_bipush rfl ?_
    refine rn_idiv rfl (by decide) ?_
    refine rn_istore_n rfl rfl ?_
    refine rn_goto rfl ?_
    exact h _ _
def w_59 (xs : Nat × (Nat → Int32)) (d : Nat) (K : Sv → Option Value → Prop) (a1 : Int32) (S : Sv) : Prop :=
  (0 ≤ a1 → (R_59_10 xs d K a1 S)) ∧ (¬ (0 ≤ a1) → (CS xs d 60 S [.ref 21, .int 45] (fun S1 v1 => v1 = none ∧ (R_59_10 xs d K a1 S1))))
set_option maxRecDepth 100000 in
set_option maxHeartbeats 4000000 in
theorem c_59 {xs : Nat × (Nat → Int32)} {d : Nat} {K : Sv → Option Value → Prop} {a1 : Int32} {S : Sv} (h : w_59 xs d K a1 S) : CS xs (d + 1) 59 S [.ref 21, .int a1] K := by
  unfold w_59 at h
  refine cs_in rfl rfl rfl rfl ?_
  refine rn_iload_n rfl rfl ?_
  refine rn_if_ge rfl (fun hc => ?_) (fun hc => ?_)
  · replace h := h.1 hc
    exact h _ _ _
  · replace h := h.2 hc
    refine rn_aload_n rfl rfl ?_
    refine rn_bipush rfl ?_
    refine rn_virtual rfl (Nat.le_of_ble_eq_true rfl) (Nat.le_of_ble_eq_true rfl) rfl rfl (as := [.ref 21, .int 45]) (rest := []) rfl rfl rfl (cs_mono h (fun S1 v1 h => ?_))
    obtain ⟨rfl, h⟩ := h
    exact h _ _ _
-- ReplayedBeans$Writer.put(C)V (number 60)
def w_60 (xs : Nat × (Nat → Int32)) (d : Nat) (K : Sv → Option Value → Prop) (a1 : Int32) (S : Sv) : Prop :=
  CS xs d 49 S [.ref 22, .int a1] (fun S1 v1 => ∃ r1 : Int32, v1 = some (.int r1) ∧ ((¬ r1 = 0 → (K S1 none)) ∧ (¬ (¬ r1 = 0) → (K (us S1 21 10 1) none))))
set_option maxRecDepth 100000 in
set_option maxHeartbeats 4000000 in
theorem c_60 {xs : Nat × (Nat → Int32)} {d : Nat} {K : Sv → Option Value → Prop} {a1 : Int32} {S : Sv} (h : w_60 xs d K a1 S) : CS xs (d + 1) 60 S [.ref 21, .int a1] K := by
  unfold w_60 at h
  refine cs_in rfl rfl rfl rfl ?_
  refine rn_aload_n rfl rfl ?_
  refine rn_getfield rfl rfl rfl ?_
  refine rn_iload_n rfl rfl ?_
  refine rn_virtual rfl (Nat.le_of_ble_eq_true rfl) (Nat.le_of_ble_eq_true rfl) rfl rfl (as := [.ref 22, .int a1]) (rest := []) rfl rfl rfl (cs_mono h (fun S1 v1 h => ?_))
  obtain ⟨r1, rfl, h⟩ := h
  refine rn_if_ne rfl (fun hc => ?_) (fun hc => ?_)
  · replace h := h.1 hc
    exact rn_return rfl rfl h
  · replace h := h.2 hc
    refine rn_aload_n rfl rfl ?_
    refine rn_iconst rfl ?_
    refine rn_putfield (S' := (us S1 21 10 1)) rfl rfl (Nat.le_of_ble_eq_true rfl) (Or.inr ⟨rfl, Or.inr rfl⟩) rfl ?_
    exact rn_return rfl rfl h
