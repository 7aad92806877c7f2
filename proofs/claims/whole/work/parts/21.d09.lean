-- ReplayedBeans.define(III)Z (number 2)
def w_2 (xs : Nat × (Nat → Int32)) (d : Nat) (K : Sv → Option Value → Prop) (a1 a2 a3 : Int32) (S : Sv) : Prop :=
  CS xs d 26 S [.ref 1, .int a1, .int a2, .int a3] (fun S1 v1 => ∃ r1 : Int32, v1 = some (.int r1) ∧ ((r1 = 0 ∨ r1 = 1) ∧ K S1 (some (.int r1))))
set_option maxRecDepth 100000 in
set_option maxHeartbeats 4000000 in
theorem c_2 {xs : Nat × (Nat → Int32)} {d : Nat} {K : Sv → Option Value → Prop} {a1 a2 a3 : Int32} {S : Sv} (h : w_2 xs d K a1 a2 a3 S) : CS xs (d + 1) 2 S [.ref 0, .int a1, .int a2, .int a3] K := by
  unfold w_2 at h
  refine cs_in rfl rfl rfl rfl ?_
  refine rn_aload_n rfl rfl ?_
  refine rn_getfield rfl rfl rfl ?_
  refine rn_iload_n rfl rfl ?_
  refine rn_iload_n rfl rfl ?_
  refine rn_iload_n rfl rfl ?_
  refine rn_virtual rfl (Nat.le_of_ble_eq_true rfl) (Nat.le_of_ble_eq_true rfl) rfl rfl (as := [.ref 1, .int a1, .int a2, .int a3]) (rest := []) rfl rfl rfl (cs_mono h (fun S1 v1 h => ?_))
  obtain ⟨r1, rfl, h⟩ := h
  exact rn_ireturn rfl rfl (nar_z h.1) h.2
-- ReplayedBeans.values(IIIII)Z (number 3)
def w_3 (xs : Nat × (Nat → Int32)) (d : Nat) (K : Sv → Option Value → Prop) (a1 a2 a3 a4 a5 : Int32) (S : Sv) : Prop :=
  CS xs d 27 S [.ref 1, .int a1, .int a2, .int a3, .int a4, .int a5] (fun S1 v1 => ∃ r1 : Int32, v1 = some (.int r1) ∧ ((r1 = 0 ∨ r1 = 1) ∧ K S1 (some (.int r1))))
set_option maxRecDepth 100000 in
set_option maxHeartbeats 4000000 in
theorem c_3 {xs : Nat × (Nat → Int32)} {d : Nat} {K : Sv → Option Value → Prop} {a1 a2 a3 a4 a5 : Int32} {S : Sv} (h : w_3 xs d K a1 a2 a3 a4 a5 S) : CS xs (d + 1) 3 S [.ref 0, .int a1, .int a2, .int a3, .int a4, .int a5] K := by
  unfold w_3 at h
  refine cs_in rfl rfl rfl rfl ?_
  refine rn_aload_n rfl rfl ?_
  refine rn_getfield rfl rfl rfl ?_
  refine rn_iload_n rfl rfl ?_
  refine rn_iload_n rfl rfl ?_
  refine rn_iload_n rfl rfl ?_
  refine rn_iload rfl rfl ?_
  refine rn_iload rfl rfl ?_
  refine rn_virtual rfl (Nat.le_of_ble_eq_true rfl) (Nat.le_of_ble_eq_true rfl) rfl rfl (as := [.ref 1, .int a1, .int a2, .int a3, .int a4, .int a5]) (rest := []) rfl rfl rfl (cs_mono h (fun S1 v1 h => ?_))
  obtain ⟨r1, rfl, h⟩ := h
  exact rn_ireturn rfl rfl (nar_z h.1) h.2
-- ReplayedBeans.make(I)I (number 4)
def w_4 (xs : Nat × (Nat → Int32)) (d : Nat) (K : Sv → Option Value → Prop) (a1 : Int32) (S : Sv) : Prop :=
  CS xs d 32 S [.ref 8, .int a1] (fun S1 v1 => ∃ r1 : Int32, v1 = some (.int r1) ∧ (K S1 (some (.int r1))))
set_option maxRecDepth 100000 in
set_option maxHeartbeats 4000000 in
theorem c_4 {xs : Nat × (Nat → Int32)} {d : Nat} {K : Sv → Option Value → Prop} {a1 : Int32} {S : Sv} (h : w_4 xs d K a1 S) : CS xs (d + 1) 4 S [.ref 0, .int a1] K := by
  unfold w_4 at h
  refine cs_in rfl rfl rfl rfl ?_
  refine rn_aload_n rfl rfl ?_
  refine rn_getfield rfl rfl rfl ?_
  refine rn_iload_n rfl rfl ?_
  refine rn_virtual rfl (Nat.le_of_ble_eq_true rfl) (Nat.le_of_ble_eq_true rfl) rfl rfl (as := [.ref 8, .int a1]) (rest := []) rfl rfl rfl (cs_mono h (fun S1 v1 h => ?_))
  obtain ⟨r1, rfl, h⟩ := h
  exact rn_ireturn rfl rfl rfl h
-- ReplayedBeans.clear()V (number 5)
def w_5 (xs : Nat × (Nat → Int32)) (d : Nat) (K : Sv → Option Value → Prop) (S : Sv) : Prop :=
  CS xs d 33 S [.ref 8] (fun S1 v1 => v1 = none ∧ (K S1 none))
set_option maxRecDepth 100000 in
set_option maxHeartbeats 4000000 in
theorem c_5 {xs : Nat × (Nat → Int32)} {d : Nat} {K : Sv → Option Value → Prop} {S : Sv} (h : w_5 xs d K S) : CS xs (d + 1) 5 S [.ref 0] K := by
  unfold w_5 at h
  refine cs_in rfl rfl rfl rfl ?_
  refine rn_aload_n rfl rfl ?_
  refine rn_getfield rfl rfl rfl ?_
  refine rn_virtual rfl (Nat.le_of_ble_eq_true rfl) (Nat.le_of_ble_eq_true rfl) rfl rfl (as := [.ref 8]) (rest := []) rfl rfl rfl (cs_mono h (fun S1 v1 h => ?_))
  obtain ⟨rfl, h⟩ := h
  exact rn_return rfl rfl h
-- ReplayedBeans.count()I (number 6)
def w_6 (xs : Nat × (Nat → Int32)) (d : Nat) (K : Sv → Option Value → Prop) (S : Sv) : Prop :=
  K S (some (.int (S 8 4)))
set_option maxRecDepth 100000 in
set_option maxHeartbeats 4000000 in
theorem c_6 {xs : Nat × (Nat → Int32)} {d : Nat} {K : Sv → Option Value → Prop} {S : Sv} (h : w_6 xs d K S) : CS xs (d + 1) 6 S [.ref 0] K := by
  unfold w_6 at h
  refine cs_in rfl rfl rfl rfl ?_
  refine rn_aload_n rfl rfl ?_
  refine rn_getfield rfl rfl rfl ?_
  refine rn_getfield rfl rfl rfl ?_
  exact rn_ireturn rfl rfl rfl h
-- ReplayedBeans.kind(I)I (number 7)
def w_7 (xs : Nat × (Nat → Int32)) (d : Nat) (K : Sv → Option Value → Prop) (a1 : Int32) (S : Sv) : Prop :=
  CS xs d 34 S [.ref 8, .int a1] (fun S1 v1 => ∃ r1 : Int32, v1 = some (.int r1) ∧ (K S1 (some (.int r1))))
set_option maxRecDepth 100000 in
set_option maxHeartbeats 4000000 in
theorem c_7 {xs : Nat × (Nat → Int32)} {d : Nat} {K : Sv → Option Value → Prop} {a1 : Int32} {S : Sv} (h : w_7 xs d K a1 S) : CS xs (d + 1) 7 S [.ref 0, .int a1] K := by
  unfold w_7 at h
  refine cs_in rfl rfl rfl rfl ?_
  refine rn_aload_n rfl rfl ?_
  refine rn_getfield rfl rfl rfl ?_
  refine rn_iload_n rfl rfl ?_
  refine rn_virtual rfl (Nat.le_of_ble_eq_true rfl) (Nat.le_of_ble_eq_true rfl) rfl rfl (as := [.ref 8, .int a1]) (rest := []) rfl rfl rfl (cs_mono h (fun S1 v1 h => ?_))
  obtain ⟨r1, rfl, h⟩ := h
  exact rn_ireturn rfl rfl rfl h
-- ReplayedBeans.setNumber(III)Z (number 8)
def w_8 (xs : Nat × (Nat → Int32)) (d : Nat) (K : Sv → Option Value → Prop) (a1 a2 a3 : Int32) (S : Sv) : Prop :=
  CS xs d 35 S [.ref 8, .int a1, .int a2, .int a3] (fun S1 v1 => ∃ r1 : Int32, v1 = some (.int r1) ∧ ((r1 = 0 ∨ r1 = 1) ∧ K S1 (some (.int r1))))
set_option maxRecDepth 100000 in
set_option maxHeartbeats 4000000 in
theorem c_8 {xs : Nat × (Nat → Int32)} {d : Nat} {K : Sv → Option Value → Prop} {a1 a2 a3 : Int32} {S : Sv} (h : w_8 xs d K a1 a2 a3 S) : CS xs (d + 1) 8 S [.ref 0, .int a1, .int a2, .int a3] K := by
  unfold w_8 at h
  refine cs_in rfl rfl rfl rfl ?_
  refine rn_aload_n rfl rfl ?_
  refine rn_getfield rfl rfl rfl ?_
  refine rn_iload_n rfl rfl ?_
  refine rn_iload_n rfl rfl ?_
  refine rn_iload_n rfl rfl ?_
  refine rn_virtual rfl (Nat.le_of_ble_eq_true rfl) (Nat.le_of_ble_eq_true rfl) rfl rfl (as := [.ref 8, .int a1, .int a2, .int a3]) (rest := []) rfl rfl rfl (cs_mono h (fun S1 v1 h => ?_))
  obtain ⟨r1, rfl, h⟩ := h
  exact rn_ireturn rfl rfl (nar_z h.1) h.2
-- ReplayedBeans.setLink(III)Z (number 9)
def w_9 (xs : Nat × (Nat → Int32)) (d : Nat) (K : Sv → Option Value → Prop) (a1 a2 a3 : Int32) (S : Sv) : Prop :=
  CS xs d 36 S [.ref 8, .int a1, .int a2, .int a3] (fun S1 v1 => ∃ r1 : Int32, v1 = some (.int r1) ∧ ((r1 = 0 ∨ r1 = 1) ∧ K S1 (some (.int r1))))
set_option maxRecDepth 100000 in
set_option maxHeartbeats 4000000 in
theorem c_9 {xs : Nat × (Nat → Int32)} {d : Nat} {K : Sv → Option Value → Prop} {a1 a2 a3 : Int32} {S : Sv} (h : w_9 xs d K a1 a2 a3 S) : CS xs (d + 1) 9 S [.ref 0, .int a1, .int a2, .int a3] K := by
  unfold w_9 at h
  refine cs_in rfl rfl rfl rfl ?_
  refine rn_aload_n rfl rfl ?_
  refine rn_getfield rfl rfl rfl ?_
  refine rn_iload_n rfl rfl ?_
  refine rn_iload_n rfl rfl ?_
  refine rn_iload_n rfl rfl ?_
  refine rn_virtual rfl (Nat.le_of_ble_eq_true rfl) (Nat.le_of_ble_eq_true rfl) rfl rfl (as := [.ref 8, .int a1, .int a2, .int a3]) (rest := []) rfl rfl rfl (cs_mono h (fun S1 v1 h => ?_))
  obtain ⟨r1, rfl, h⟩ := h
  exact rn_ireturn rfl rfl (nar_z h.1) h.2
-- ReplayedBeans.number(II)I (number 10)
def w_10 (xs : Nat × (Nat → Int32)) (d : Nat) (K : Sv → Option Value → Prop) (a1 a2 : Int32) (S : Sv) : Prop :=
  CS xs d 37 S [.ref 8, .int a1, .int a2] (fun S1 v1 => ∃ r1 : Int32, v1 = some (.int r1) ∧ (K S1 (some (.int r1))))
set_option maxRecDepth 100000 in
set_option maxHeartbeats 4000000 in
theorem c_10 {xs : Nat × (Nat → Int32)} {d : Nat} {K : Sv → Option Value → Prop} {a1 a2 : Int32} {S : Sv} (h : w_10 xs d K a1 a2 S) : CS xs (d + 1) 10 S [.ref 0, .int a1, .int a2] K := by
  unfold w_10 at h
  refine cs_in rfl rfl rfl rfl ?_
  refine rn_aload_n rfl rfl ?_
  refine rn_getfield rfl rfl rfl ?_
  refine rn_iload_n rfl rfl ?_
  refine rn_iload_n rfl rfl ?_
  refine rn_virtual rfl (Nat.le_of_ble_eq_true rfl) (Nat.le_of_ble_eq_true rfl) rfl rfl (as := [.ref 8, .int a1, .int a2]) (rest := []) rfl rfl rfl (cs_mono h (fun S1 v1 h => ?_))
  obtain ⟨r1, rfl, h⟩ := h
  exact rn_ireturn rfl rfl rfl h
-- ReplayedBeans.link(II)I (number 11)
def w_11 (xs : Nat × (Nat → Int32)) (d : Nat) (K : Sv → Option Value → Prop) (a1 a2 : Int32) (S : Sv) : Prop :=
  CS xs d 38 S [.ref 8, .int a1, .int a2] (fun S1 v1 => ∃ r1 : Int32, v1 = some (.int r1) ∧ (K S1 (some (.int r1))))
set_option maxRecDepth 100000 in
set_option maxHeartbeats 4000000 in
theorem c_11 {xs : Nat × (Nat → Int32)} {d : Nat} {K : Sv → Option Value → Prop} {a1 a2 : Int32} {S : Sv} (h : w_11 xs d K a1 a2 S) : CS xs (d + 1) 11 S [.ref 0, .int a1, .int a2] K := by
  unfold w_11 at h
  refine cs_in rfl rfl rfl rfl ?_
  refine rn_aload_n rfl rfl ?_
  refine rn_getfield rfl rfl rfl ?_
  refine rn_iload_n rfl rfl ?_
  refine rn_iload_n rfl rfl ?_
  refine rn_virtual rfl (Nat.le_of_ble_eq_true rfl) (Nat.le_of_ble_eq_true rfl) rfl rfl (as := [.ref 8, .int a1, .int a2]) (rest := []) rfl rfl rfl (cs_mono h (fun S1 v1 h => ?_))
  obtain ⟨r1, rfl, h⟩ := h
  exact rn_ireturn rfl rfl rfl h
-- ReplayedBeans.reachable(I)I (number 12)
def w_12 (xs : Nat × (Nat → Int32)) (d : Nat) (K : Sv → Option Value → Prop) (a1 : Int32) (S : Sv) : Prop :=
  CS xs d 41 S [.ref 12, .int a1] (fun S1 v1 => v1 = none ∧ (K S1 (some (.int (S1 12 3)))))
set_option maxRecDepth 100000 in
set_option maxHeartbeats 4000000 in
theorem c_12 {xs : Nat × (Nat → Int32)} {d : Nat} {K : Sv → Option Value → Prop} {a1 : Int32} {S : Sv} (h : w_12 xs d K a1 S) : CS xs (d + 1) 12 S [.ref 0, .int a1] K := by
  unfold w_12 at h
  refine cs_in rfl rfl rfl rfl ?_
  refine rn_aload_n rfl rfl ?_
  refine rn_getfield rfl rfl rfl ?_
  refine rn_iload_n rfl rfl ?_
  refine rn_virtual rfl (Nat.le_of_ble_eq_true rfl) (Nat.le_of_ble_eq_true rfl) rfl rfl (as := [.ref 12, .int a1]) (rest := []) rfl rfl rfl (cs_mono h (fun S1 v1 h => ?_))
  obtain ⟨rfl, h⟩ := h
  refine rn_aload_n rfl rfl ?_
  refine rn_getfield rfl rfl rfl ?_
  refine rn_getfield rfl rfl rfl ?_
  exact rn_ireturn rfl rfl rfl h
-- ReplayedBeans.alike(II)Z (number 13)
def w_13 (xs : Nat × (Nat → Int32)) (d : Nat) (K : Sv → Option Value → Prop) (a1 a2 : Int32) (S : Sv) : Prop :=
  CS xs d 44 S [.ref 15, .int a1, .int a2] (fun S1 v1 => ∃ r1 : Int32, v1 = some (.int r1) ∧ ((r1 = 0 ∨ r1 = 1) ∧ K S1 (some (.int r1))))
set_option maxRecDepth 100000 in
set_option maxHeartbeats 4000000 in
theorem c_13 {xs : Nat × (Nat → Int32)} {d : Nat} {K : Sv → Option Value → Prop} {a1 a2 : Int32} {S : Sv} (h : w_13 xs d K a1 a2 S) : CS xs (d + 1) 13 S [.ref 0, .int a1, .int a2] K := by
  unfold w_13 at h
  refine cs_in rfl rfl rfl rfl ?_
  refine rn_aload_n rfl rfl ?_
  refine rn_getfield rfl rfl rfl ?_
  refine rn_iload_n rfl rfl ?_
  refine rn_iload_n rfl rfl ?_
  refine rn_virtual rfl (Nat.le_of_ble_eq_true rfl) (Nat.le_of_ble_eq_true rfl) rfl rfl (as := [.ref 15, .int a1, .int a2]) (rest := []) rfl rfl rfl (cs_mono h (fun S1 v1 h => ?_))
  obtain ⟨r1, rfl, h⟩ := h
  exact rn_ireturn rfl rfl (nar_z h.1) h.2
-- ReplayedBeans.write(I)I (number 14)
def w_14 (xs : Nat × (Nat → Int32)) (d : Nat) (K : Sv → Option Value → Prop) (a1 : Int32) (S : Sv) : Prop :=
  CS xs d 31 S [.ref 8, .int a1] (fun S1 v1 => ∃ r1 : Int32, v1 = some (.int r1) ∧ ((¬ r1 = 0 → (CS xs d 53 S1 [.ref 21, .int a1] (fun S2 v2 => v2 = none ∧ (((S2 21 9) = 0 → (((S2 21 10) = 0 → (CS xs d 51 S2 [.ref 19, .ref 22] (fun S3 v3 => v3 = none ∧ (K S3 (some (.int (S3 19 1))))))) ∧ (¬ ((S2 21 10) = 0) → (K S2 (some (.int (-3))))))) ∧ (¬ ((S2 21 9) = 0) → (K S2 (some (.int (-2))))))))) ∧ (¬ (¬ r1 = 0) → (K S1 (some (.int (-1)))))))
set_option maxRecDepth 100000 in
set_option maxHeartbeats 4000000 in
theorem c_14 {xs : Nat × (Nat → Int32)} {d : Nat} {K : Sv → Option Value → Prop} {a1 : Int32} {S : Sv} (h : w_14 xs d K a1 S) : CS xs (d + 1) 14 S [.ref 0, .int a1] K := by
  unfold w_14 at h
  refine cs_in rfl rfl rfl rfl ?_
  refine rn_aload_n rfl rfl ?_
  refine rn_getfield rfl rfl rfl ?_
  refine rn_iload_n rfl rfl ?_
  refine rn_virtual rfl (Nat.le_of_ble_eq_true rfl) (Nat.le_of_ble_eq_true rfl) rfl rfl (as := [.ref 8, .int a1]) (rest := []) rfl rfl rfl (cs_mono h (fun S1 v1 h => ?_))
  obtain ⟨r1, rfl, h⟩ := h
  refine rn_if_ne rfl (fun hc => ?_) (fun hc => ?_)
  · replace h := h.1 hc
    refine rn_aload_n rfl rfl ?_
    refine rn_getfield rfl rfl rfl ?_
    refine rn_iload_n rfl rfl ?_
    refine rn_virtual rfl (Nat.le_of_ble_eq_true rfl) (Nat.le_of_ble_eq_true rfl) rfl rfl (as := [.ref 21, .int a1]) (rest := []) rfl rfl rfl (cs_mono h (fun S2 v2 h => ?_))
    obtain ⟨rfl, h⟩ := h
    refine rn_aload_n rfl rfl ?_
    refine rn_getfield rfl rfl rfl ?_
    refine rn_getfield rfl rfl rfl ?_
    refine rn_if_eq rfl (fun hc => ?_) (fun hc => ?_)
    · replace h := h.1 hc
      refine rn_aload_n rfl rfl ?_
      refine rn_getfield rfl rfl rfl ?_
      refine rn_getfield rfl rfl rfl ?_
      refine rn_if_eq rfl (fun hc => ?_) (fun hc => ?_)
      · replace h := h.1 hc
        refine rn_aload_n rfl rfl ?_
        refine rn_getfield rfl rfl rfl ?_
        refine rn_aload_n rfl rfl ?_
        refine rn_getfield rfl rfl rfl ?_
        refine rn_getfield rfl rfl rfl ?_
        refine rn_virtual rfl (Nat.le_of_ble_eq_true rfl) (Nat.le_of_ble_eq_true rfl) rfl rfl (as := [.ref 19, .ref 22]) (rest := []) rfl rfl rfl (cs_mono h (fun S3 v3 h => ?_))
        obtain ⟨rfl, h⟩ := h
        refine rn_aload_n rfl rfl ?_
        refine rn_getfield rfl rfl rfl ?_
        refine rn_getfield rfl rfl rfl ?_
        exact rn_ireturn rfl rfl rfl h
      · replace h := h.2 hc
        refine rn_bipush rfl ?_
        exact rn_ireturn rfl rfl rfl h
    · replace h := h.2 hc
      refine rn_bipush rfl ?_
      exact rn_ireturn rfl rfl rfl h
  · replace h := h.2 hc
    refine rn_iconst rfl ?_
    exact rn_ireturn rfl rfl rfl h
-- ReplayedBeans.type(C)Z (number 15)
def w_15 (xs : Nat × (Nat → Int32)) (d : Nat) (K : Sv → Option Value → Prop) (a1 : Int32) (S : Sv) : Prop :=
  CS xs d 49 S [.ref 19, .int a1] (fun S1 v1 => ∃ r1 : Int32, v1 = some (.int r1) ∧ ((r1 = 0 ∨ r1 = 1) ∧ K S1 (some (.int r1))))
set_option maxRecDepth 100000 in
set_option maxHeartbeats 4000000 in
theorem c_15 {xs : Nat × (Nat → Int32)} {d : Nat} {K : Sv → Option Value → Prop} {a1 : Int32} {S : Sv} (h : w_15 xs d K a1 S) : CS xs (d + 1) 15 S [.ref 0, .int a1] K := by
  unfold w_15 at h
  refine cs_in rfl rfl rfl rfl ?_
  refine rn_aload_n rfl rfl ?_
  refine rn_getfield rfl rfl rfl ?_
  refine rn_iload_n rfl rfl ?_
  refine rn_virtual rfl (Nat.le_of_ble_eq_true rfl) (Nat.le_of_ble_eq_true rfl) rfl rfl (as := [.ref 19, .int a1]) (rest := []) rfl rfl rfl (cs_mono h (fun S1 v1 h => ?_))
  obtain ⟨r1, rfl, h⟩ := h
  exact rn_ireturn rfl rfl (nar_z h.1) h.2
-- ReplayedBeans.wipe()V (number 16)
def w_16 (xs : Nat × (Nat → Int32)) (d : Nat) (K : Sv → Option Value → Prop) (S : Sv) : Prop :=
  K (us S 19 1 0) none
set_option maxRecDepth 100000 in
set_option maxHeartbeats 4000000 in
theorem c_16 {xs : Nat × (Nat → Int32)} {d : Nat} {K : Sv → Option Value → Prop} {S : Sv} (h : w_16 xs d K S) : CS xs (d + 1) 16 S [.ref 0] K := by
  unfold w_16 at h
  refine cs_in rfl rfl rfl rfl ?_
  refine rn_aload_n rfl rfl ?_
  refine rn_getfield rfl rfl rfl ?_
  refine rn_iconst rfl ?_
  refine rn_putfield (S' := (us S 19 1 0)) rfl rfl (Nat.le_of_ble_eq_true rfl) (Or.inl rfl) rfl ?_
  exact rn_return rfl rfl h
-- ReplayedBeans.length()I (number 17)
def w_17 (xs : Nat × (Nat → Int32)) (d : Nat) (K : Sv → Option Value → Prop) (S : Sv) : Prop :=
  K S (some (.int (S 19 1)))
set_option maxRecDepth 100000 in
set_option maxHeartbeats 4000000 in
theorem c_17 {xs : Nat × (Nat → Int32)} {d : Nat} {K : Sv → Option Value → Prop} {S : Sv} (h : w_17 xs d K S) : CS xs (d + 1) 17 S [.ref 0] K := by
  unfold w_17 at h
  refine cs_in rfl rfl rfl rfl ?_
  refine rn_aload_n rfl rfl ?_
  refine rn_getfield rfl rfl rfl ?_
  refine rn_getfield rfl rfl rfl ?_
  exact rn_ireturn rfl rfl rfl h
-- ReplayedBeans.at(I)I (number 18)
def w_18 (xs : Nat × (Nat → Int32)) (d : Nat) (K : Sv → Option Value → Prop) (a1 : Int32) (S : Sv) : Prop :=
  CS xs d 50 S [.ref 19, .int a1] (fun S1 v1 => ∃ r1 : Int32, v1 = some (.int r1) ∧ (K S1 (some (.int r1))))
set_option maxRecDepth 100000 in
set_option maxHeartbeats 4000000 in
theorem c_18 {xs : Nat × (Nat → Int32)} {d : Nat} {K : Sv → Option Value → Prop} {a1 : Int32} {S : Sv} (h : w_18 xs d K a1 S) : CS xs (d + 1) 18 S [.ref 0, .int a1] K := by
  unfold w_18 at h
  refine cs_in rfl rfl rfl rfl ?_
  refine rn_aload_n rfl rfl ?_
  refine rn_getfield rfl rfl rfl ?_
  refine rn_iload_n rfl rfl ?_
  refine rn_virtual rfl (Nat.le_of_ble_eq_true rfl) (Nat.le_of_ble_eq_true rfl) rfl rfl (as := [.ref 19, .int a1]) (rest := []) rfl rfl rfl (cs_mono h (fun S1 v1 h => ?_))
  obtain ⟨r1, rfl, h⟩ := h
  exact rn_ireturn rfl rfl rfl h
-- ReplayedBeans.read()I (number 19)
def w_19 (xs : Nat × (Nat → Int32)) (d : Nat) (K : Sv → Option Value → Prop) (S : Sv) : Prop :=
  CS xs d 62 S [.ref 27] (fun S1 v1 => ∃ r1 : Int32, v1 = some (.int r1) ∧ ((r1 = 0 → (CS xs d 74 S1 [.ref 28] (fun S2 v2 => ∃ r2 : Int32, v2 = some (.int r2) ∧ (K S2 (some (.int r2)))))) ∧ (¬ (r1 = 0) → (K S1 (some (.int ((-1000) - r1)))))))
set_option maxRecDepth 100000 in
set_option maxHeartbeats 4000000 in
theorem c_19 {xs : Nat × (Nat → Int32)} {d : Nat} {K : Sv → Option Value → Prop} {S : Sv} (h : w_19 xs d K S) : CS xs (d + 1) 19 S [.ref 0] K := by
  unfold w_19 at h
  refine cs_in rfl rfl rfl rfl ?_
  refine rn_aload_n rfl rfl ?_
  refine rn_getfield rfl rfl rfl ?_
  refine rn_virtual rfl (Nat.le_of_ble_eq_true rfl) (Nat.le_of_ble_eq_true rfl) rfl rfl (as := [.ref 27]) (rest := []) rfl rfl rfl (cs_mono h (fun S1 v1 h => ?_))
  obtain ⟨r1, rfl, h⟩ := h
  refine rn_istore_n rfl rfl ?_
  refine rn_iload_n rfl rfl ?_
  refine rn_if_eq rfl (fun hc => ?_) (fun hc => ?_)
  · replace h := h.1 hc
    refine rn_aload_n rfl rfl ?_
    refine rn_getfield rfl rfl rfl ?_
    refine rn_virtual rfl (Nat.le_of_ble_eq_true rfl) (Nat.le_of_ble_eq_true rfl) rfl rfl (as := [.ref 28]) (rest := []) rfl rfl rfl (cs_mono h (fun S2 v2 h => ?_))
    obtain ⟨r2, rfl, h⟩ := h
    exact rn_ireturn rfl rfl rfl h
  · replace h := h.2 hc
    refine rn_sipush rfl ?_
    refine rn_iload_n rfl rfl ?_
    refine rn_isub rfl ?_
    exact rn_ireturn rfl rfl rfl h
-- ReplayedBeans.failures()I (number 20)
def w_20 (xs : Nat × (Nat → Int32)) (d : Nat) (K : Sv → Option Value → Prop) (S : Sv) : Prop :=
  K S (some (.int (S 28 4)))
set_option maxRecDepth 100000 in
set_option maxHeartbeats 4000000 in
theorem c_20 {xs : Nat × (Nat → Int32)} {d : Nat} {K : Sv → Option Value → Prop} {S : Sv} (h : w_20 xs d K S) : CS xs (d + 1) 20 S [.ref 0] K := by
  unfold w_20 at h
  refine cs_in rfl rfl rfl rfl ?_
  refine rn_aload_n rfl rfl ?_
  refine rn_getfield rfl rfl rfl ?_
  refine rn_getfield rfl rfl rfl ?_
  exact rn_ireturn rfl rfl rfl h
-- ReplayedBeans.failure(I)I (number 21)
def w_21 (xs : Nat × (Nat → Int32)) (d : Nat) (K : Sv → Option Value → Prop) (a1 : Int32) (S : Sv) : Prop :=
  CS xs d 75 S [.ref 28, .int a1] (fun S1 v1 => ∃ r1 : Int32, v1 = some (.int r1) ∧ (K S1 (some (.int r1))))
set_option maxRecDepth 100000 in
set_option maxHeartbeats 4000000 in
theorem c_21 {xs : Nat × (Nat → Int32)} {d : Nat} {K : Sv → Option Value → Prop} {a1 : Int32} {S : Sv} (h : w_21 xs d K a1 S) : CS xs (d + 1) 21 S [.ref 0, .int a1] K := by
  unfold w_21 at h
  refine cs_in rfl rfl rfl rfl ?_
  refine rn_aload_n rfl rfl ?_
  refine rn_getfield rfl rfl rfl ?_
  refine rn_iload_n rfl rfl ?_
  refine rn_virtual rfl (Nat.le_of_ble_eq_true rfl) (Nat.le_of_ble_eq_true rfl) rfl rfl (as := [.ref 28, .int a1]) (rest := []) rfl rfl rfl (cs_mono h (fun S1 v1 h => ?_))
  obtain ⟨r1, rfl, h⟩ := h
  exact rn_ireturn rfl rfl rfl h
