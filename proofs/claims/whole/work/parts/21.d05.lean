-- ReplayedBeans$Pairing.pairsUp(II)Z (number 44)
def R_44_58 (xs : Nat × (Nat → Int32)) (d : Nat) (K : Sv → Option Value → Prop) (a3 : Int32) (S : Sv) : Prop := ∀ u1 u2 u4 : Option Value, RN xs d 44 K 58 [some (.ref 15), u1, u2, some (.int a3), u4] [] S
def w_44_58 (xs : Nat × (Nat → Int32)) (d : Nat) (K : Sv → Option Value → Prop) (a3 : Int32) (S : Sv) : Prop :=
  (24 ≤ a3 → (K S (some (.int 1)))) ∧ (¬ (24 ≤ a3) → (((S 15 4) ≤ a3 → (K S (some (.int 1)))) ∧ (¬ ((S 15 4) ≤ a3) → (∃ j1 : Nat, j1 < 24 ∧ a3 = nI j1 ∧ (∃ j2 : Nat, j2 < 24 ∧ (S 16 j1) = nI j2 ∧ (CS xs d 45 S [.ref 15, .int (S 16 j1), .int (S 17 j2)] (fun S3 v3 => ∃ r3 : Int32, v3 = some (.int r3) ∧ ((¬ r3 = 0 → (R_44_58 xs d K (a3 + 1) S3)) ∧ (¬ (¬ r3 = 0) → (K S3 (some (.int 0))))))))))))
set_option maxRecDepth 100000 in
set_option maxHeartbeats 4000000 in
theorem h_44_58 {xs : Nat × (Nat → Int32)} {d : Nat} {K : Sv → Option Value → Prop} {a3 : Int32} {S : Sv} (h : w_44_58 xs d K a3 S) : R_44_58 xs d K a3 S := by
  unfold w_44_58 at h
  unfold R_44_58
  intro u1 u2 u4
  refine rn_iload_n rfl rfl ?_
  refine rn_bipush rfl ?_
  refine rn_icmp_ge rfl (fun hc => ?_) (fun hc => ?_)
  · replace h := h.1 hc
    refine rn_iconst rfl ?_
    exact rn_ireturn rfl rfl (by decide) h
  · replace h := h.2 hc
    refine rn_iload_n rfl rfl ?_
    refine rn_aload_n rfl rfl ?_
    refine rn_getfield rfl rfl rfl ?_
    refine rn_icmp_ge rfl (fun hc => ?_) (fun hc => ?_)
    · replace h := h.1 hc
      refine rn_iconst rfl ?_
      exact rn_ireturn rfl rfl (by decide) h
    · replace h := h.2 hc
      refine rn_aload_n rfl rfl ?_
      refine rn_getfield rfl rfl rfl ?_
      refine rn_iload_n rfl rfl ?_
      obtain ⟨j1, hj1, ej1, h⟩ := h
      refine rn_iaload (j := j1) rfl rfl (Nat.le_of_ble_eq_true rfl) ej1 hj1 ?_
      refine rn_istore rfl rfl ?_
      refine rn_aload_n rfl rfl ?_
      refine rn_iload rfl rfl ?_
      refine rn_aload_n rfl rfl ?_
      refine rn_getfield rfl rfl rfl ?_
      refine rn_iload rfl rfl ?_
      obtain ⟨j2, hj2, ej2, h⟩ := h
      refine rn_iaload (j := j2) rfl rfl (Nat.le_of_ble_eq_true rfl) ej2 hj2 ?_
      refine rn_virtual rfl (Nat.le_of_ble_eq_true rfl) (Nat.le_of_ble_eq_true rfl) rfl rfl (as := [.ref 15, .int (S 16 j1), .int (S 17 j2)]) (rest := []) rfl rfl rfl (cs_mono h (fun S3 v3 h => ?_))
      obtain ⟨r3, rfl, h⟩ := h
      refine rn_if_ne rfl (fun hc => ?_) (fun hc => ?_)
      · replace h := h.1 hc
        refine rn_iinc rfl rfl rfl ?_
        refine rn_goto rfl ?_
        exact h _ _ _
      · replace h := h.2 hc
        refine rn_iconst rfl ?_
        exact rn_ireturn rfl rfl (by decide) h
def w_44 (xs : Nat × (Nat → Int32)) (d : Nat) (K : Sv → Option Value → Prop) (a1 a2 : Int32) (S : Sv) : Prop :=
  CS xs d 31 S [.ref 8, .int a1] (fun S1 v1 => ∃ r1 : Int32, v1 = some (.int r1) ∧ ((r1 = 0 → (K S1 (some (.int 0)))) ∧ (¬ (r1 = 0) → (CS xs d 31 S1 [.ref 8, .int a2] (fun S2 v2 => ∃ r2 : Int32, v2 = some (.int r2) ∧ ((¬ r2 = 0 → (CS xs d 0 S2 [.ref 17, .int (-1)] (fun S3 v3 => v3 = none ∧ (CS xs d 0 S3 [.ref 18, .int (-1)] (fun S4 v4 => v4 = none ∧ (CS xs d 47 (us S4 15 4 0) [.ref 15, .int a1, .int a2] (fun S5 v5 => ∃ r5 : Int32, v5 = some (.int r5) ∧ ((¬ r5 = 0 → (R_44_58 xs d K 0 S5)) ∧ (¬ (¬ r5 = 0) → (K S5 (some (.int 0)))))))))))) ∧ (¬ (¬ r2 = 0) → (K S2 (some (.int 0))))))))))
set_option maxRecDepth 100000 in
set_option maxHeartbeats 4000000 in
theorem c_44 {xs : Nat × (Nat → Int32)} {d : Nat} {K : Sv → Option Value → Prop} {a1 a2 : Int32} {S : Sv} (h : w_44 xs d K a1 a2 S) : CS xs (d + 1) 44 S [.ref 15, .int a1, .int a2] K := by
  unfold w_44 at h
  refine cs_in rfl rfl rfl rfl ?_
  refine rn_aload_n rfl rfl ?_
  refine rn_getfield rfl rfl rfl ?_
  refine rn_iload_n rfl rfl ?_
  refine rn_virtual rfl (Nat.le_of_ble_eq_true rfl) (Nat.le_of_ble_eq_true rfl) rfl rfl (as := [.ref 8, .int a1]) (rest := []) rfl rfl rfl (cs_mono h (fun S1 v1 h => ?_))
  obtain ⟨r1, rfl, h⟩ := h
  refine rn_if_eq rfl (fun hc => ?_) (fun hc => ?_)
  · replace h := h.1 hc
    refine rn_iconst rfl ?_
    exact rn_ireturn rfl rfl (by decide) h
  · replace h := h.2 hc
    refine rn_aload_n rfl rfl ?_
    refine rn_getfield rfl rfl rfl ?_
    refine rn_iload_n rfl rfl ?_
    refine rn_virtual rfl (Nat.le_of_ble_eq_true rfl) (Nat.le_of_ble_eq_true rfl) rfl rfl (as := [.ref 8, .int a2]) (rest := []) rfl rfl rfl (cs_mono h (fun S2 v2 h => ?_))
    obtain ⟨r2, rfl, h⟩ := h
    refine rn_if_ne rfl (fun hc => ?_) (fun hc => ?_)
    · replace h := h.1 hc
      refine rn_aload_n rfl rfl ?_
      refine rn_getfield rfl rfl rfl ?_
      refine rn_iconst rfl ?_
      refine rn_static rfl (Nat.le_of_ble_eq_true rfl) (Nat.le_of_ble_eq_true rfl) rfl rfl (as := [.ref 17, .int (-1)]) (rest := []) rfl rfl (cs_mono h (fun S3 v3 h => ?_))
      obtain ⟨rfl, h⟩ := h
      refine rn_aload_n rfl rfl ?_
      refine rn_getfield rfl rfl rfl ?_
      refine rn_iconst rfl ?_
      refine rn_static rfl (Nat.le_of_ble_eq_true rfl) (Nat.le_of_ble_eq_true rfl) rfl rfl (as := [.ref 18, .int (-1)]) (rest := []) rfl rfl (cs_mono h (fun S4 v4 h => ?_))
      obtain ⟨rfl, h⟩ := h
      refine rn_aload_n rfl rfl ?_
      refine rn_iconst rfl ?_
      refine rn_putfield (S' := (us S4 15 4 0)) rfl rfl (Nat.le_of_ble_eq_true rfl) (Or.inl rfl) rfl ?_
      refine rn_aload_n rfl rfl ?_
      refine rn_iload_n rfl rfl ?_
      refine rn_iload_n rfl rfl ?_
      refine rn_virtual rfl (Nat.le_of_ble_eq_true rfl) (Nat.le_of_ble_eq_true rfl) rfl rfl (as := [.ref 15, .int a1, .int a2]) (rest := []) rfl rfl rfl (cs_mono h (fun S5 v5 h => ?_))
      obtain ⟨r5, rfl, h⟩ := h
      refine rn_if_ne rfl (fun hc => ?_) (fun hc => ?_)
      · replace h := h.1 hc
        refine rn_iconst rfl ?_
        refine rn_istore_n rfl rfl ?_
        exact h _ _ _
      · replace h := h.2 hc
        refine rn_iconst rfl ?_
        exact rn_ireturn rfl rfl (by decide) h
    · replace h := h.2 hc
      refine rn_iconst rfl ?_
      exact rn_ireturn rfl rfl (by decide) h
-- ReplayedBeans$Pairing.linksPairUp(II)Z (number 45)
def R_45_2 (xs : Nat × (Nat → Int32)) (d : Nat) (K : Sv → Option Value → Prop) (a1 a2 a3 : Int32) (S : Sv) : Prop := RN xs d 45 K 2 [some (.ref 15), some (.int a1), some (.int a2), some (.int a3)] [] S
def w_45_2 (xs : Nat × (Nat → Int32)) (d : Nat) (K : Sv → Option Value → Prop) (a1 a2 a3 : Int32) (S : Sv) : Prop :=
  (2 ≤ a3 → (K S (some (.int 1)))) ∧ (¬ (2 ≤ a3) → (CS xs d 38 S [.ref 8, .int a1, .int a3] (fun S1 v1 => ∃ r1 : Int32, v1 = some (.int r1) ∧ (CS xs d 38 S1 [.ref 8, .int a2, .int a3] (fun S2 v2 => ∃ r2 : Int32, v2 = some (.int r2) ∧ (CS xs d 46 S2 [.ref 15, .int r1, .int r2] (fun S3 v3 => ∃ r3 : Int32, v3 = some (.int r3) ∧ ((¬ r3 = 0 → (R_45_2 xs d K a1 a2 (a3 + 1) S3)) ∧ (¬ (¬ r3 = 0) → (K S3 (some (.int 0))))))))))))
set_option maxRecDepth 100000 in
set_option maxHeartbeats 4000000 in
theorem h_45_2 {xs : Nat × (Nat → Int32)} {d : Nat} {K : Sv → Option Value → Prop} {a1 a2 a3 : Int32} {S : Sv} (h : w_45_2 xs d K a1 a2 a3 S) : R_45_2 xs d K a1 a2 a3 S := by
  unfold w_45_2 at h
  unfold R_45_2
  refine rn_iload_n rfl rfl ?_
  refine rn_iconst rfl ?_
  refine rn_icmp_ge rfl (fun hc => ?_) (fun hc => ?_)
  · replace h := h.1 hc
    refine rn_iconst rfl ?_
    exact rn_ireturn rfl rfl (by decide) h
  · replace h := h.2 hc
    refine rn_aload_n rfl rfl ?_
    refine rn_aload_n rfl rfl ?_
    refine rn_getfield rfl rfl rfl ?_
    refine rn_iload_n rfl rfl ?_
    refine rn_iload_n rfl rfl ?_
    refine rn_virtual rfl (Nat.le_of_ble_eq_true rfl) (Nat.le_of_ble_eq_true rfl) rfl rfl (as := [.ref 8, .int a1, .int a3]) (rest := [.ref 15]) rfl rfl rfl (cs_mono h (fun S1 v1 h => ?_))
    obtain ⟨r1, rfl, h⟩ := h
    refine rn_aload_n rfl rfl ?_
    refine rn_getfield rfl rfl rfl ?_
    refine rn_iload_n rfl rfl ?_
    refine rn_iload_n rfl rfl ?_
    refine rn_virtual rfl (Nat.le_of_ble_eq_true rfl) (Nat.le_of_ble_eq_true rfl) rfl rfl (as := [.ref 8, .int a2, .int a3]) (rest := [.int r1, .ref 15]) rfl rfl rfl (cs_mono h (fun S2 v2 h => ?_))
    obtain ⟨r2, rfl, h⟩ := h
    refine rn_virtual rfl (Nat.le_of_ble_eq_true rfl) (Nat.le_of_ble_eq_true rfl) rfl rfl (as := [.ref 15, .int r1, .int r2]) (rest := []) rfl rfl rfl (cs_mono h (fun S3 v3 h => ?_))
    obtain ⟨r3, rfl, h⟩ := h
    refine rn_if_ne rfl (fun hc => ?_) (fun hc => ?_)
    · replace h := h.1 hc
      refine rn_iinc rfl rfl rfl ?_
      refine rn_goto rfl ?_
      exact h
    · replace h := h.2 hc
      refine rn_iconst rfl ?_
      exact rn_ireturn rfl rfl (by decide) h
def w_45 (xs : Nat × (Nat → Int32)) (d : Nat) (K : Sv → Option Value → Prop) (a1 a2 : Int32) (S : Sv) : Prop :=
  R_45_2 xs d K a1 a2 0 S
set_option maxRecDepth 100000 in
set_option maxHeartbeats 4000000 in
theorem c_45 {xs : Nat × (Nat → Int32)} {d : Nat} {K : Sv → Option Value → Prop} {a1 a2 : Int32} {S : Sv} (h : w_45 xs d K a1 a2 S) : CS xs (d + 1) 45 S [.ref 15, .int a1, .int a2] K := by
  unfold w_45 at h
  refine cs_in rfl rfl rfl rfl ?_
  refine rn_iconst rfl ?_
  refine rn_istore_n rfl rfl ?_
  exact h
-- ReplayedBeans$Pairing.joinOrBothNone(II)Z (number 46)
def w_46 (xs : Nat × (Nat → Int32)) (d : Nat) (K : Sv → Option Value → Prop) (a1 a2 : Int32) (S : Sv) : Prop :=
  CS xs d 31 S [.ref 8, .int a1] (fun S1 v1 => ∃ r1 : Int32, v1 = some (.int r1) ∧ ((r1 = 0 → ((¬ a1 = a2 → (K S1 (some (.int 0)))) ∧ (¬ (¬ a1 = a2) → (K S1 (some (.int 1)))))) ∧ (¬ (r1 = 0) → (CS xs d 31 S1 [.ref 8, .int a2] (fun S2 v2 => ∃ r2 : Int32, v2 = some (.int r2) ∧ ((¬ r2 = 0 → (CS xs d 47 S2 [.ref 15, .int a1, .int a2] (fun S3 v3 => ∃ r3 : Int32, v3 = some (.int r3) ∧ ((r3 = 0 ∨ r3 = 1) ∧ K S3 (some (.int r3)))))) ∧ (¬ (¬ r2 = 0) → ((¬ a1 = a2 → (K S2 (some (.int 0)))) ∧ (¬ (¬ a1 = a2) → (K S2 (some (.int 1))))))))))))
set_option maxRecDepth 100000 in
set_option maxHeartbeats 4000000 in
theorem c_46 {xs : Nat × (Nat → Int32)} {d : Nat} {K : Sv → Option Value → Prop} {a1 a2 : Int32} {S : Sv} (h : w_46 xs d K a1 a2 S) : CS xs (d + 1) 46 S [.ref 15, .int a1, .int a2] K := by
  unfold w_46 at h
  refine cs_in rfl rfl rfl rfl ?_
  refine rn_aload_n rfl rfl ?_
  refine rn_getfield rfl rfl rfl ?_
  refine rn_iload_n rfl rfl ?_
  refine rn_virtual rfl (Nat.le_of_ble_eq_true rfl) (Nat.le_of_ble_eq_true rfl) rfl rfl (as := [.ref 8, .int a1]) (rest := []) rfl rfl rfl (cs_mono h (fun S1 v1 h => ?_))
  obtain ⟨r1, rfl, h⟩ := h
  refine rn_if_eq rfl (fun hc => ?_) (fun hc => ?_)
  · replace h := h.1 hc
    refine rn_iload_n rfl rfl ?_
    refine rn_iload_n rfl rfl ?_
    refine rn_icmp_ne rfl (fun hc => ?_) (fun hc => ?_)
    · replace h := h.1 hc
      refine rn_iconst rfl ?_
      exact rn_ireturn rfl rfl (by decide) h
    · replace h := h.2 hc
      refine rn_iconst rfl ?_
      refine rn_goto rfl ?_
      exact rn_ireturn rfl rfl (by decide) h
  · replace h := h.2 hc
    refine rn_aload_n rfl rfl ?_
    refine rn_getfield rfl rfl rfl ?_
    refine rn_iload_n rfl rfl ?_
    refine rn_virtual rfl (Nat.le_of_ble_eq_true rfl) (Nat.le_of_ble_eq_true rfl) rfl rfl (as := [.ref 8, .int a2]) (rest := []) rfl rfl rfl (cs_mono h (fun S2 v2 h => ?_))
    obtain ⟨r2, rfl, h⟩ := h
    refine rn_if_ne rfl (fun hc => ?_) (fun hc => ?_)
    · replace h := h.1 hc
      refine rn_aload_n rfl rfl ?_
      refine rn_iload_n rfl rfl ?_
      refine rn_iload_n rfl rfl ?_
      refine rn_virtual rfl (Nat.le_of_ble_eq_true rfl) (Nat.le_of_ble_eq_true rfl) rfl rfl (as := [.ref 15, .int a1, .int a2]) (rest := []) rfl rfl rfl (cs_mono h (fun S3 v3 h => ?_))
      obtain ⟨r3, rfl, h⟩ := h
      exact rn_ireturn rfl rfl (nar_z h.1) h.2
    · replace h := h.2 hc
      refine rn_iload_n rfl rfl ?_
      refine rn_iload_n rfl rfl ?_
      refine rn_icmp_ne rfl (fun hc => ?_) (fun hc => ?_)
      · replace h := h.1 hc
        refine rn_iconst rfl ?_
        exact rn_ireturn rfl rfl (by decide) h
      · replace h := h.2 hc
        refine rn_iconst rfl ?_
        refine rn_goto rfl ?_
        exact rn_ireturn rfl rfl (by decide) h
-- ReplayedBeans$Pairing.join(II)Z (number 47)
def w_47 (xs : Nat × (Nat → Int32)) (d : Nat) (K : Sv → Option Value → Prop) (a1 a2 : Int32) (S : Sv) : Prop :=
  ∃ j1 : Nat, j1 < 24 ∧ a1 = nI j1 ∧ ((¬ (S 17 j1) = (-1) → (∃ j2 : Nat, j2 < 24 ∧ a1 = nI j2 ∧ ((¬ (S 17 j2) = a2 → (K S (some (.int 0)))) ∧ (¬ (¬ (S 17 j2) = a2) → (K S (some (.int 1))))))) ∧ (¬ (¬ (S 17 j1) = (-1)) → (∃ j3 : Nat, j3 < 24 ∧ a2 = nI j3 ∧ (((S 18 j3) = (-1) → (CS xs d 39 S [.ref 8, .int a1, .int a2] (fun S4 v4 => ∃ r4 : Int32, v4 = some (.int r4) ∧ ((¬ r4 = 0 → (∃ j5 : Nat, j5 < 24 ∧ a1 = nI j5 ∧ (∃ j6 : Nat, j6 < 24 ∧ a2 = nI j6 ∧ (∃ j7 : Nat, j7 < 24 ∧ (S4 15 4) = nI j7 ∧ (K (us (us (us (us S4 17 j5 a2) 18 j6 a1) 16 j7 a1) 15 4 ((S4 15 4) + 1)) (some (.int 1))))))) ∧ (¬ (¬ r4 = 0) → (K S4 (some (.int 0)))))))) ∧ (¬ ((S 18 j3) = (-1)) → (∃ j8 : Nat, j8 < 24 ∧ a1 = nI j8 ∧ ((¬ (S 17 j8) = a2 → (K S (some (.int 0)))) ∧ (¬ (¬ (S 17 j8) = a2) → (K S (some (.int 1)))))))))))
set_option maxRecDepth 100000 in
set_option maxHeartbeats 4000000 in
theorem c_47 {xs : Nat × (Nat → Int32)} {d : Nat} {K : Sv → Option Value → Prop} {a1 a2 : Int32} {S : Sv} (h : w_47 xs d K a1 a2 S) : CS xs (d + 1) 47 S [.ref 15, .int a1, .int a2] K := by
  unfold w_47 at h
  refine cs_in rfl rfl rfl rfl ?_
  refine rn_aload_n rfl rfl ?_
  refine rn_getfield rfl rfl rfl ?_
  refine rn_iload_n rfl rfl ?_
  obtain ⟨j1, hj1, ej1, h⟩ := h
  refine rn_iaload (j := j1) rfl rfl (Nat.le_of_ble_eq_true rfl) ej1 hj1 ?_
  refine rn_iconst rfl ?_
  refine rn_icmp_ne rfl (fun hc => ?_) (fun hc => ?_)
  · replace h := h.1 hc
    refine rn_aload_n rfl rfl ?_
    refine rn_getfield rfl rfl rfl ?_
    refine rn_iload_n rfl rfl ?_
    obtain ⟨j2, hj2, ej2, h⟩ := h
    refine rn_iaload (j := j2) rfl rfl (Nat.le_of_ble_eq_true rfl) ej2 hj2 ?_
    refine rn_iload_n rfl rfl ?_
    refine rn_icmp_ne rfl (fun hc => ?_) (fun hc => ?_)
    · replace h := h.1 hc
      refine rn_iconst rfl ?_
      exact rn_ireturn rfl rfl (by decide) h
    · replace h := h.2 hc
      refine rn_iconst rfl ?_
      refine rn_goto rfl ?_
      exact rn_ireturn rfl rfl (by decide) h
  · replace h := h.2 hc
    refine rn_aload_n rfl rfl ?_
    refine rn_getfield rfl rfl rfl ?_
    refine rn_iload_n rfl rfl ?_
    obtain ⟨j3, hj3, ej3, h⟩ := h
    refine rn_iaload (j := j3) rfl rfl (Nat.le_of_ble_eq_true rfl) ej3 hj3 ?_
    refine rn_iconst rfl ?_
    refine rn_icmp_eq rfl (fun hc => ?_) (fun hc => ?_)
    · replace h := h.1 hc
      refine rn_aload_n rfl rfl ?_
      refine rn_getfield rfl rfl rfl ?_
      refine rn_iload_n rfl rfl ?_
      refine rn_iload_n rfl rfl ?_
      refine rn_virtual rfl (Nat.le_of_ble_eq_true rfl) (Nat.le_of_ble_eq_true rfl) rfl rfl (as := [.ref 8, .int a1, .int a2]) (rest := []) rfl rfl rfl (cs_mono h (fun S4 v4 h => ?_))
      obtain ⟨r4, rfl, h⟩ := h
      refine rn_if_ne rfl (fun hc => ?_) (fun hc => ?_)
      · replace h := h.1 hc
        refine rn_aload_n rfl rfl ?_
        refine rn_getfield rfl rfl rfl ?_
        refine rn_iload_n rfl rfl ?_
        refine rn_iload_n rfl rfl ?_
        obtain ⟨j5, hj5, ej5, h⟩ := h
        refine rn_iastore (j := j5) (S' := (us S4 17 j5 a2)) rfl rfl (Nat.le_of_ble_eq_true rfl) ej5 hj5 rfl ?_
        refine rn_aload_n rfl rfl ?_
        refine rn_getfield rfl rfl rfl ?_
        refine rn_iload_n rfl rfl ?_
        refine rn_iload_n rfl rfl ?_
        obtain ⟨j6, hj6, ej6, h⟩ := h
        refine rn_iastore (j := j6) (S' := (us (us S4 17 j5 a2) 18 j6 a1)) rfl rfl (Nat.le_of_ble_eq_true rfl) ej6 hj6 rfl ?_
        refine rn_aload_n rfl rfl ?_
        refine rn_getfield rfl rfl rfl ?_
        refine rn_aload_n rfl rfl ?_
        refine rn_getfield rfl rfl rfl ?_
        refine rn_iload_n rfl rfl ?_
        obtain ⟨j7, hj7, ej7, h⟩ := h
        refine rn_iastore (j := j7) (S' := (us (us (us S4 17 j5 a2) 18 j6 a1) 16 j7 a1)) rfl rfl (Nat.le_of_ble_eq_true rfl) ej7 hj7 rfl ?_
        refine rn_aload_n rfl rfl ?_
        refine rn_dup rfl rfl ?_
        refine rn_getfield rfl rfl rfl ?_
        refine rn_iconst rfl ?_
        refine rn_iadd rfl ?_
        refine rn_putfield (S' := (us (us (us (us S4 17 j5 a2) 18 j6 a1) 16 j7 a1) 15 4 ((S4 15 4) + 1))) rfl rfl (Nat.le_of_ble_eq_true rfl) (Or.inl rfl) rfl ?_
        refine rn_iconst rfl ?_
        exact rn_ireturn rfl rfl (by decide) h
      · replace h := h.2 hc
        refine rn_iconst rfl ?_
        exact rn_ireturn rfl rfl (by decide) h
    · replace h := h.2 hc
      refine rn_aload_n rfl rfl ?_
      refine rn_getfield rfl rfl rfl ?_
      refine rn_iload_n rfl rfl ?_
      obtain ⟨j8, hj8, ej8, h⟩ := h
      refine rn_iaload (j := j8) rfl rfl (Nat.le_of_ble_eq_true rfl) ej8 hj8 ?_
      refine rn_iload_n rfl rfl ?_
      refine rn_icmp_ne rfl (fun hc => ?_) (fun hc => ?_)
      · replace h := h.1 hc
        refine rn_iconst rfl ?_
        exact rn_ireturn rfl rfl (by decide) h
      · replace h := h.2 hc
        refine rn_iconst rfl ?_
        refine rn_goto rfl ?_
        exact rn_ireturn rfl rfl (by decide) h
