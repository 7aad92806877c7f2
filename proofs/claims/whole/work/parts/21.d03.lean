-- ReplayedBeans$Beans.isThere(I)Z (number 31)
def w_31 (xs : Nat × (Nat → Int32)) (d : Nat) (K : Sv → Option Value → Prop) (a1 : Int32) (S : Sv) : Prop :=
  (a1 < 0 → (K S (some (.int 0)))) ∧ (¬ (a1 < 0) → (((S 8 4) ≤ a1 → (K S (some (.int 0)))) ∧ (¬ ((S 8 4) ≤ a1) → (K S (some (.int 1))))))
set_option maxRecDepth 100000 in
set_option maxHeartbeats 4000000 in
theorem c_31 {xs : Nat × (Nat → Int32)} {d : Nat} {K : Sv → Option Value → Prop} {a1 : Int32} {S : Sv} (h : w_31 xs d K a1 S) : CS xs (d + 1) 31 S [.ref 8, .int a1] K := by
  unfold w_31 at h
  refine cs_in rfl rfl rfl rfl ?_
  refine rn_iload_n rfl rfl ?_
  refine rn_if_lt rfl (fun hc => ?_) (fun hc => ?_)
  · replace h := h.1 hc
    refine rn_iconst rfl ?_
    exact rn_ireturn rfl rfl (by decide) h
  · replace h := h.2 hc
    refine rn_iload_n rfl rfl ?_
    refine rn_aload_n rfl rfl ?_
    refine rn_getfield rfl rfl rfl ?_
    refine rn_icmp_ge rfl (fun hc => ?_) (fun hc => ?_)
    · replace h := h.1 hc
      refine rn_iconst rfl ?_
      exact rn_ireturn rfl rfl (by decide) h
    · replace h := h.2 hc
      refine rn_iconst rfl ?_
      refine rn_goto rfl ?_
      exact rn_ireturn rfl rfl (by decide) h
-- ReplayedBeans$Beans.add(I)I (number 32)
def R_32_36 (xs : Nat × (Nat → Int32)) (d : Nat) (K : Sv → Option Value → Prop) (a1 a2 a3 : Int32) (S : Sv) : Prop := RN xs d 32 K 36 [some (.ref 8), some (.int a1), some (.int a2), some (.int a3)] [] S
def R_32_68 (xs : Nat × (Nat → Int32)) (d : Nat) (K : Sv → Option Value → Prop) (a2 a3 : Int32) (S : Sv) : Prop := ∀ u1 : Option Value, RN xs d 32 K 68 [some (.ref 8), u1, some (.int a2), some (.int a3)] [] S
def w_32_36 (xs : Nat × (Nat → Int32)) (d : Nat) (K : Sv → Option Value → Prop) (a1 a2 a3 : Int32) (S : Sv) : Prop :=
  (3 ≤ a3 → (R_32_68 xs d K a2 0 S)) ∧ (¬ (3 ≤ a3) → (CS xs d 28 S [.ref 1, .int a1, .int a3] (fun S1 v1 => ∃ r1 : Int32, v1 = some (.int r1) ∧ (∃ j2 : Nat, j2 < 72 ∧ ((a2 * 3) + a3) = nI j2 ∧ (R_32_36 xs d K a1 a2 (a3 + 1) (us S1 10 j2 r1))))))
set_option maxRecDepth 100000 in
set_option maxHeartbeats 4000000 in
theorem h_32_36 {xs : Nat × (Nat → Int32)} {d : Nat} {K : Sv → Option Value → Prop} {a1 a2 a3 : Int32} {S : Sv} (h : w_32_36 xs d K a1 a2 a3 S) : R_32_36 xs d K a1 a2 a3 S := by
  unfold w_32_36 at h
  unfold R_32_36
  refine rn_iload_n rfl rfl ?_
  refine rn_iconst rfl ?_
  refine rn_icmp_ge rfl (fun hc => ?_) (fun hc => ?_)
  · replace h := h.1 hc
    refine rn_iconst rfl ?_
    refine rn_istore_n rfl rfl ?_
    exact h _
  · replace h := h.2 hc
    refine rn_aload_n rfl rfl ?_
    refine rn_getfield rfl rfl rfl ?_
    refine rn_iload_n rfl rfl ?_
    refine rn_iconst rfl ?_
    refine rn_imul rfl ?_
    refine rn_iload_n rfl rfl ?_
    refine rn_iadd rfl ?_
    refine rn_aload_n rfl rfl ?_
    refine rn_getfield rfl rfl rfl ?_
    refine rn_iload_n rfl rfl ?_
    refine rn_iload_n rfl rfl ?_
    refine rn_virtual rfl (Nat.le_of_ble_eq_true rfl) (Nat.le_of_ble_eq_true rfl) rfl rfl (as := [.ref 1, .int a1, .int a3]) (rest := [.int ((a2 * 3) + a3), .ref 10]) rfl rfl rfl (cs_mono h (fun S1 v1 h => ?_))
    obtain ⟨r1, rfl, h⟩ := h
    obtain ⟨j2, hj2, ej2, h⟩ := h
    refine rn_iastore (j := j2) (S' := (us S1 10 j2 r1)) rfl rfl (Nat.le_of_ble_eq_true rfl) ej2 hj2 rfl ?_
    refine rn_iinc rfl rfl rfl ?_
    refine rn_goto rfl ?_
    exact h
def w_32_68 (xs : Nat × (Nat → Int32)) (d : Nat) (K : Sv → Option Value → Prop) (a2 a3 : Int32) (S : Sv) : Prop :=
  (2 ≤ a3 → (K (us S 8 4 ((S 8 4) + 1)) (some (.int a2)))) ∧ (¬ (2 ≤ a3) → (∃ j1 : Nat, j1 < 48 ∧ ((a2 * 2) + a3) = nI j1 ∧ (R_32_68 xs d K a2 (a3 + 1) (us S 11 j1 (-1)))))
set_option maxRecDepth 100000 in
set_option maxHeartbeats 4000000 in
theorem h_32_68 {xs : Nat × (Nat → Int32)} {d : Nat} {K : Sv → Option Value → Prop} {a2 a3 : Int32} {S : Sv} (h : w_32_68 xs d K a2 a3 S) : R_32_68 xs d K a2 a3 S := by
  unfold w_32_68 at h
  unfold R_32_68
  intro u1
  refine rn_iload_n rfl rfl ?_
  refine rn_iconst rfl ?_
  refine rn_icmp_ge rfl (fun hc => ?_) (fun hc => ?_)
  · replace h := h.1 hc
    refine rn_aload_n rfl rfl ?_
    refine rn_dup rfl rfl ?_
    refine rn_getfield rfl rfl rfl ?_
    refine rn_iconst rfl ?_
    refine rn_iadd rfl ?_
    refine rn_putfield (S' := (us S 8 4 ((S 8 4) + 1))) rfl rfl (Nat.le_of_ble_eq_true rfl) (Or.inl rfl) rfl ?_
    refine rn_iload_n rfl rfl ?_
    exact rn_ireturn rfl rfl rfl h
  · replace h := h.2 hc
    refine rn_aload_n rfl rfl ?_
    refine rn_getfield rfl rfl rfl ?_
    refine rn_iload_n rfl rfl ?_
    refine rn_iconst rfl ?_
    refine rn_imul rfl ?_
    refine rn_iload_n rfl rfl ?_
    refine rn_iadd rfl ?_
    refine rn_iconst rfl ?_
    obtain ⟨j1, hj1, ej1, h⟩ := h
    refine rn_iastore (j := j1) (S' := (us S 11 j1 (-1))) rfl rfl (Nat.le_of_ble_eq_true rfl) ej1 hj1 rfl ?_
    refine rn_iinc rfl rfl rfl ?_
    refine rn_goto rfl ?_
    exact h _
def w_32 (xs : Nat × (Nat → Int32)) (d : Nat) (K : Sv → Option Value → Prop) (a1 : Int32) (S : Sv) : Prop :=
  CS xs d 23 S [.ref 1, .int a1] (fun S1 v1 => ∃ r1 : Int32, v1 = some (.int r1) ∧ ((r1 = 0 → (K S1 (some (.int (-1))))) ∧ (¬ (r1 = 0) → (((S1 8 4) < 24 → (∃ j2 : Nat, j2 < 24 ∧ (S1 8 4) = nI j2 ∧ (R_32_36 xs d K a1 (S1 8 4) 0 (us S1 9 j2 a1)))) ∧ (¬ ((S1 8 4) < 24) → (K S1 (some (.int (-1)))))))))
set_option maxRecDepth 100000 in
set_option maxHeartbeats 4000000 in
theorem c_32 {xs : Nat × (Nat → Int32)} {d : Nat} {K : Sv → Option Value → Prop} {a1 : Int32} {S : Sv} (h : w_32 xs d K a1 S) : CS xs (d + 1) 32 S [.ref 8, .int a1] K := by
  unfold w_32 at h
  refine cs_in rfl rfl rfl rfl ?_
  refine rn_aload_n rfl rfl ?_
  refine rn_getfield rfl rfl rfl ?_
  refine rn_iload_n rfl rfl ?_
  refine rn_virtual rfl (Nat.le_of_ble_eq_true rfl) (Nat.le_of_ble_eq_true rfl) rfl rfl (as := [.ref 1, .int a1]) (rest := []) rfl rfl rfl (cs_mono h (fun S1 v1 h => ?_))
  obtain ⟨r1, rfl, h⟩ := h
  refine rn_if_eq rfl (fun hc => ?_) (fun hc => ?_)
  · replace h := h.1 hc
    refine rn_iconst rfl ?_
    exact rn_ireturn rfl rfl rfl h
  · replace h := h.2 hc
    refine rn_aload_n rfl rfl ?_
    refine rn_getfield rfl rfl rfl ?_
    refine rn_bipush rfl ?_
    refine rn_icmp_lt rfl (fun hc => ?_) (fun hc => ?_)
    · replace h := h.1 hc
      refine rn_aload_n rfl rfl ?_
      refine rn_getfield rfl rfl rfl ?_
      refine rn_istore_n rfl rfl ?_
      refine rn_aload_n rfl rfl ?_
      refine rn_getfield rfl rfl rfl ?_
      refine rn_iload_n rfl rfl ?_
      refine rn_iload_n rfl rfl ?_
      obtain ⟨j2, hj2, ej2, h⟩ := h
      refine rn_iastore (j := j2) (S' := (us S1 9 j2 a1)) rfl rfl (Nat.le_of_ble_eq_true rfl) ej2 hj2 rfl ?_
      refine rn_iconst rfl ?_
      refine rn_istore_n rfl rfl ?_
      exact h
    · replace h := h.2 hc
      refine rn_iconst rfl ?_
      exact rn_ireturn rfl rfl rfl h
-- ReplayedBeans$Beans.removeAll()V (number 33)
def w_33 (xs : Nat × (Nat → Int32)) (d : Nat) (K : Sv → Option Value → Prop) (S : Sv) : Prop :=
  K (us S 8 4 0) none
set_option maxRecDepth 100000 in
set_option maxHeartbeats 4000000 in
theorem c_33 {xs : Nat × (Nat → Int32)} {d : Nat} {K : Sv → Option Value → Prop} {S : Sv} (h : w_33 xs d K S) : CS xs (d + 1) 33 S [.ref 8] K := by
  unfold w_33 at h
  refine cs_in rfl rfl rfl rfl ?_
  refine rn_aload_n rfl rfl ?_
  refine rn_iconst rfl ?_
  refine rn_putfield (S' := (us S 8 4 0)) rfl rfl (Nat.le_of_ble_eq_true rfl) (Or.inl rfl) rfl ?_
  exact rn_return rfl rfl h
-- ReplayedBeans$Beans.kindOf(I)I (number 34)
def w_34 (xs : Nat × (Nat → Int32)) (d : Nat) (K : Sv → Option Value → Prop) (a1 : Int32) (S : Sv) : Prop :=
  CS xs d 31 S [.ref 8, .int a1] (fun S1 v1 => ∃ r1 : Int32, v1 = some (.int r1) ∧ ((r1 = 0 → (K S1 (some (.int (-1))))) ∧ (¬ (r1 = 0) → (∃ j2 : Nat, j2 < 24 ∧ a1 = nI j2 ∧ (K S1 (some (.int (S1 9 j2))))))))
set_option maxRecDepth 100000 in
set_option maxHeartbeats 4000000 in
theorem c_34 {xs : Nat × (Nat → Int32)} {d : Nat} {K : Sv → Option Value → Prop} {a1 : Int32} {S : Sv} (h : w_34 xs d K a1 S) : CS xs (d + 1) 34 S [.ref 8, .int a1] K := by
  unfold w_34 at h
  refine cs_in rfl rfl rfl rfl ?_
  refine rn_aload_n rfl rfl ?_
  refine rn_iload_n rfl rfl ?_
  refine rn_virtual rfl (Nat.le_of_ble_eq_true rfl) (Nat.le_of_ble_eq_true rfl) rfl rfl (as := [.ref 8, .int a1]) (rest := []) rfl rfl rfl (cs_mono h (fun S1 v1 h => ?_))
  obtain ⟨r1, rfl, h⟩ := h
  refine rn_if_eq rfl (fun hc => ?_) (fun hc => ?_)
  · replace h := h.1 hc
    refine rn_iconst rfl ?_
    exact rn_ireturn rfl rfl rfl h
  · replace h := h.2 hc
    refine rn_aload_n rfl rfl ?_
    refine rn_getfield rfl rfl rfl ?_
    refine rn_iload_n rfl rfl ?_
    obtain ⟨j2, hj2, ej2, h⟩ := h
    refine rn_iaload (j := j2) rfl rfl (Nat.le_of_ble_eq_true rfl) ej2 hj2 ?_
    refine rn_goto rfl ?_
    exact rn_ireturn rfl rfl rfl h
-- ReplayedBeans$Beans.putNumber(III)Z (number 35)
def w_35 (xs : Nat × (Nat → Int32)) (d : Nat) (K : Sv → Option Value → Prop) (a1 a2 a3 : Int32) (S : Sv) : Prop :=
  CS xs d 34 S [.ref 8, .int a1] (fun S1 v1 => ∃ r1 : Int32, v1 = some (.int r1) ∧ (CS xs d 29 S1 [.ref 1, .int r1, .int a2, .int a3] (fun S2 v2 => ∃ r2 : Int32, v2 = some (.int r2) ∧ ((¬ r2 = 0 → (∃ j3 : Nat, j3 < 72 ∧ ((a1 * 3) + a2) = nI j3 ∧ (K (us S2 10 j3 a3) (some (.int 1))))) ∧ (¬ (¬ r2 = 0) → (K S2 (some (.int 0))))))))
set_option maxRecDepth 100000 in
set_option maxHeartbeats 4000000 in
theorem c_35 {xs : Nat × (Nat → Int32)} {d : Nat} {K : Sv → Option Value → Prop} {a1 a2 a3 : Int32} {S : Sv} (h : w_35 xs d K a1 a2 a3 S) : CS xs (d + 1) 35 S [.ref 8, .int a1, .int a2, .int a3] K := by
  unfold w_35 at h
  refine cs_in rfl rfl rfl rfl ?_
  refine rn_aload_n rfl rfl ?_
  refine rn_getfield rfl rfl rfl ?_
  refine rn_aload_n rfl rfl ?_
  refine rn_iload_n rfl rfl ?_
  refine rn_virtual rfl (Nat.le_of_ble_eq_true rfl) (Nat.le_of_ble_eq_true rfl) rfl rfl (as := [.ref 8, .int a1]) (rest := [.ref 1]) rfl rfl rfl (cs_mono h (fun S1 v1 h => ?_))
  obtain ⟨r1, rfl, h⟩ := h
  refine rn_iload_n rfl rfl ?_
  refine rn_iload_n rfl rfl ?_
  refine rn_virtual rfl (Nat.le_of_ble_eq_true rfl) (Nat.le_of_ble_eq_true rfl) rfl rfl (as := [.ref 1, .int r1, .int a2, .int a3]) (rest := []) rfl rfl rfl (cs_mono h (fun S2 v2 h => ?_))
  obtain ⟨r2, rfl, h⟩ := h
  refine rn_if_ne rfl (fun hc => ?_) (fun hc => ?_)
  · replace h := h.1 hc
    refine rn_aload_n rfl rfl ?_
    refine rn_getfield rfl rfl rfl ?_
    refine rn_iload_n rfl rfl ?_
    refine rn_iconst rfl ?_
    refine rn_imul rfl ?_
    refine rn_iload_n rfl rfl ?_
    refine rn_iadd rfl ?_
    refine rn_iload_n rfl rfl ?_
    obtain ⟨j3, hj3, ej3, h⟩ := h
    refine rn_iastore (j := j3) (S' := (us S2 10 j3 a3)) rfl rfl (Nat.le_of_ble_eq_true rfl) ej3 hj3 rfl ?_
    refine rn_iconst rfl ?_
    exact rn_ireturn rfl rfl (by decide) h
  · replace h := h.2 hc
    refine rn_iconst rfl ?_
    exact rn_ireturn rfl rfl (by decide) h
-- ReplayedBeans$Beans.putLink(III)Z (number 36)
def R_36_33 (xs : Nat × (Nat → Int32)) (d : Nat) (K : Sv → Option Value → Prop) (a1 a2 a3 : Int32) (S : Sv) : Prop := RN xs d 36 K 33 [some (.ref 8), some (.int a1), some (.int a2), some (.int a3)] [] S
def w_36_33 (xs : Nat × (Nat → Int32)) (d : Nat) (K : Sv → Option Value → Prop) (a1 a2 a3 : Int32) (S : Sv) : Prop :=
  ∃ j1 : Nat, j1 < 48 ∧ ((a1 * 2) + a2) = nI j1 ∧ (K (us S 11 j1 a3) (some (.int 1)))
set_option maxRecDepth 100000 in
set_option maxHeartbeats 4000000 in
theorem h_36_33 {xs : Nat × (Nat → Int32)} {d : Nat} {K : Sv → Option Value → Prop} {a1 a2 a3 : Int32} {S : Sv} (h : w_36_33 xs d K a1 a2 a3 S) : R_36_33 xs d K a1 a2 a3 S := by
  unfold w_36_33 at h
  unfold R_36_33
  refine rn_aload_n rfl rfl ?_
  refine rn_getfield rfl rfl rfl ?_
  refine rn_iload_n rfl rfl ?_
  refine rn_iconst rfl ?_
  refine rn_imul rfl ?_
  refine rn_iload_n rfl rfl ?_
  refine rn_iadd rfl ?_
  refine rn_iload_n rfl rfl ?_
  obtain ⟨j1, hj1, ej1, h⟩ := h
  refine rn_iastore (j := j1) (S' := (us S 11 j1 a3)) rfl rfl (Nat.le_of_ble_eq_true rfl) ej1 hj1 rfl ?_
  refine rn_iconst rfl ?_
  exact rn_ireturn rfl rfl (by decide) h
def w_36 (xs : Nat × (Nat → Int32)) (d : Nat) (K : Sv → Option Value → Prop) (a1 a2 a3 : Int32) (S : Sv) : Prop :=
  CS xs d 34 S [.ref 8, .int a1] (fun S1 v1 => ∃ r1 : Int32, v1 = some (.int r1) ∧ (CS xs d 25 S1 [.ref 1, .int r1, .int a2] (fun S2 v2 => ∃ r2 : Int32, v2 = some (.int r2) ∧ ((¬ r2 = 0 → ((a3 = (-1) → (R_36_33 xs d K a1 a2 a3 S2)) ∧ (¬ (a3 = (-1)) → (CS xs d 31 S2 [.ref 8, .int a3] (fun S3 v3 => ∃ r3 : Int32, v3 = some (.int r3) ∧ ((¬ r3 = 0 → (R_36_33 xs d K a1 a2 a3 S3)) ∧ (¬ (¬ r3 = 0) → (K S3 (some (.int 0)))))))))) ∧ (¬ (¬ r2 = 0) → (K S2 (some (.int 0))))))))
set_option maxRecDepth 100000 in
set_option maxHeartbeats 4000000 in
theorem c_36 {xs : Nat × (Nat → Int32)} {d : Nat} {K : Sv → Option Value → Prop} {a1 a2 a3 : Int32} {S : Sv} (h : w_36 xs d K a1 a2 a3 S) : CS xs (d + 1) 36 S [.ref 8, .int a1, .int a2, .int a3] K := by
  unfold w_36 at h
  refine cs_in rfl rfl rfl rfl ?_
  refine rn_aload_n rfl rfl ?_
  refine rn_getfield rfl rfl rfl ?_
  refine rn_aload_n rfl rfl ?_
  refine rn_iload_n rfl rfl ?_
  refine rn_virtual rfl (Nat.le_of_ble_eq_true rfl) (Nat.le_of_ble_eq_true rfl) rfl rfl (as := [.ref 8, .int a1]) (rest := [.ref 1]) rfl rfl rfl (cs_mono h (fun S1 v1 h => ?_))
  obtain ⟨r1, rfl, h⟩ := h
  refine rn_iload_n rfl rfl ?_
  refine rn_virtual rfl (Nat.le_of_ble_eq_true rfl) (Nat.le_of_ble_eq_true rfl) rfl rfl (as := [.ref 1, .int r1, .int a2]) (rest := []) rfl rfl rfl (cs_mono h (fun S2 v2 h => ?_))
  obtain ⟨r2, rfl, h⟩ := h
  refine rn_if_ne rfl (fun hc => ?_) (fun hc => ?_)
  · replace h := h.1 hc
    refine rn_iload_n rfl rfl ?_
    refine rn_iconst rfl ?_
    refine rn_icmp_eq rfl (fun hc => ?_) (fun hc => ?_)
    · replace h := h.1 hc
      exact h
    · replace h := h.2 hc
      refine rn_aload_n rfl rfl ?_
      refine rn_iload_n rfl rfl ?_
      refine rn_virtual rfl (Nat.le_of_ble_eq_true rfl) (Nat.le_of_ble_eq_true rfl) rfl rfl (as := [.ref 8, .int a3]) (rest := []) rfl rfl rfl (cs_mono h (fun S3 v3 h => ?_))
      obtain ⟨r3, rfl, h⟩ := h
      refine rn_if_ne rfl (fun hc => ?_) (fun hc => ?_)
      · replace h := h.1 hc
        exact h
      · replace h := h.2 hc
        refine rn_iconst rfl ?_
        exact rn_ireturn rfl rfl (by decide) h
  · replace h := h.2 hc
    refine rn_iconst rfl ?_
    exact rn_ireturn rfl rfl (by decide) h
-- ReplayedBeans$Beans.numberOf(II)I (number 37)
def w_37 (xs : Nat × (Nat → Int32)) (d : Nat) (K : Sv → Option Value → Prop) (a1 a2 : Int32) (S : Sv) : Prop :=
  CS xs d 34 S [.ref 8, .int a1] (fun S1 v1 => ∃ r1 : Int32, v1 = some (.int r1) ∧ (CS xs d 24 S1 [.ref 1, .int r1, .int a2] (fun S2 v2 => ∃ r2 : Int32, v2 = some (.int r2) ∧ ((r2 = 0 → (K S2 (some (.int 0)))) ∧ (¬ (r2 = 0) → (∃ j3 : Nat, j3 < 72 ∧ ((a1 * 3) + a2) = nI j3 ∧ (K S2 (some (.int (S2 10 j3))))))))))
set_option maxRecDepth 100000 in
set_option maxHeartbeats 4000000 in
theorem c_37 {xs : Nat × (Nat → Int32)} {d : Nat} {K : Sv → Option Value → Prop} {a1 a2 : Int32} {S : Sv} (h : w_37 xs d K a1 a2 S) : CS xs (d + 1) 37 S [.ref 8, .int a1, .int a2] K := by
  unfold w_37 at h
  refine cs_in rfl rfl rfl rfl ?_
  refine rn_aload_n rfl rfl ?_
  refine rn_getfield rfl rfl rfl ?_
  refine rn_aload_n rfl rfl ?_
  refine rn_iload_n rfl rfl ?_
  refine rn_virtual rfl (Nat.le_of_ble_eq_true rfl) (Nat.le_of_ble_eq_true rfl) rfl rfl (as := [.ref 8, .int a1]) (rest := [.ref 1]) rfl rfl rfl (cs_mono h (fun S1 v1 h => ?_))
  obtain ⟨r1, rfl, h⟩ := h
  refine rn_iload_n rfl rfl ?_
  refine rn_virtual rfl (Nat.le_of_ble_eq_true rfl) (Nat.le_of_ble_eq_true rfl) rfl rfl (as := [.ref 1, .int r1, .int a2]) (rest := []) rfl rfl rfl (cs_mono h (fun S2 v2 h => ?_))
  obtain ⟨r2, rfl, h⟩ := h
  refine rn_if_eq rfl (fun hc => ?_) (fun hc => ?_)
  · replace h := h.1 hc
    refine rn_iconst rfl ?_
    exact rn_ireturn rfl rfl rfl h
  · replace h := h.2 hc
    refine rn_aload_n rfl rfl ?_
    refine rn_getfield rfl rfl rfl ?_
    refine rn_iload_n rfl rfl ?_
    refine rn_iconst rfl ?_
    refine rn_imul rfl ?_
    refine rn_iload_n rfl rfl ?_
    refine rn_iadd rfl ?_
    obtain ⟨j3, hj3, ej3, h⟩ := h
    refine rn_iaload (j := j3) rfl rfl (Nat.le_of_ble_eq_true rfl) ej3 hj3 ?_
    refine rn_goto rfl ?_
    exact rn_ireturn rfl rfl rfl h
-- ReplayedBeans$Beans.linkOf(II)I (number 38)
def w_38 (xs : Nat × (Nat → Int32)) (d : Nat) (K : Sv → Option Value → Prop) (a1 a2 : Int32) (S : Sv) : Prop :=
  CS xs d 34 S [.ref 8, .int a1] (fun S1 v1 => ∃ r1 : Int32, v1 = some (.int r1) ∧ (CS xs d 25 S1 [.ref 1, .int r1, .int a2] (fun S2 v2 => ∃ r2 : Int32, v2 = some (.int r2) ∧ ((r2 = 0 → (K S2 (some (.int (-1))))) ∧ (¬ (r2 = 0) → (∃ j3 : Nat, j3 < 48 ∧ ((a1 * 2) + a2) = nI j3 ∧ (K S2 (some (.int (S2 11 j3))))))))))
set_option maxRecDepth 100000 in
set_option maxHeartbeats 4000000 in
theorem c_38 {xs : Nat × (Nat → Int32)} {d : Nat} {K : Sv → Option Value → Prop} {a1 a2 : Int32} {S : Sv} (h : w_38 xs d K a1 a2 S) : CS xs (d + 1) 38 S [.ref 8, .int a1, .int a2] K := by
  unfold w_38 at h
  refine cs_in rfl rfl rfl rfl ?_
  refine rn_aload_n rfl rfl ?_
  refine rn_getfield rfl rfl rfl ?_
  refine rn_aload_n rfl rfl ?_
  refine rn_iload_n rfl rfl ?_
  refine rn_virtual rfl (Nat.le_of_ble_eq_true rfl) (Nat.le_of_ble_eq_true rfl) rfl rfl (as := [.ref 8, .int a1]) (rest := [.ref 1]) rfl rfl rfl (cs_mono h (fun S1 v1 h => ?_))
  obtain ⟨r1, rfl, h⟩ := h
  refine rn_iload_n rfl rfl ?_
  refine rn_virtual rfl (Nat.le_of_ble_eq_true rfl) (Nat.le_of_ble_eq_true rfl) rfl rfl (as := [.ref 1, .int r1, .int a2]) (rest := []) rfl rfl rfl (cs_mono h (fun S2 v2 h => ?_))
  obtain ⟨r2, rfl, h⟩ := h
  refine rn_if_eq rfl (fun hc => ?_) (fun hc => ?_)
  · replace h := h.1 hc
    refine rn_iconst rfl ?_
    exact rn_ireturn rfl rfl rfl h
  · replace h := h.2 hc
    refine rn_aload_n rfl rfl ?_
    refine rn_getfield rfl rfl rfl ?_
    refine rn_iload_n rfl rfl ?_
    refine rn_iconst rfl ?_
    refine rn_imul rfl ?_
    refine rn_iload_n rfl rfl ?_
    refine rn_iadd rfl ?_
    obtain ⟨j3, hj3, ej3, h⟩ := h
    refine rn_iaload (j := j3) rfl rfl (Nat.le_of_ble_eq_true rfl) ej3 hj3 ?_
    refine rn_goto rfl ?_
    exact rn_ireturn rfl rfl rfl h
-- ReplayedBeans$Beans.sameKindAndNumbers(II)Z (number 39)
def R_39_17 (xs : Nat × (Nat → Int32)) (d : Nat) (K : Sv → Option Value → Prop) (a1 a2 a3 : Int32) (S : Sv) : Prop := RN xs d 39 K 17 [some (.ref 8), some (.int a1), some (.int a2), some (.int a3)] [] S
def w_39_17 (xs : Nat × (Nat → Int32)) (d : Nat) (K : Sv → Option Value → Prop) (a1 a2 a3 : Int32) (S : Sv) : Prop :=
  (3 ≤ a3 → (K S (some (.int 1)))) ∧ (¬ (3 ≤ a3) → (CS xs d 37 S [.ref 8, .int a1, .int a3] (fun S1 v1 => ∃ r1 : Int32, v1 = some (.int r1) ∧ (CS xs d 37 S1 [.ref 8, .int a2, .int a3] (fun S2 v2 => ∃ r2 : Int32, v2 = some (.int r2) ∧ ((r1 = r2 → (R_39_17 xs d K a1 a2 (a3 + 1) S2)) ∧ (¬ (r1 = r2) → (K S2 (some (.int 0))))))))))
set_option maxRecDepth 100000 in
set_option maxHeartbeats 4000000 in
theorem h_39_17 {xs : Nat × (Nat → Int32)} {d : Nat} {K : Sv → Option Value → Prop} {a1 a2 a3 : Int32} {S : Sv} (h : w_39_17 xs d K a1 a2 a3 S) : R_39_17 xs d K a1 a2 a3 S := by
  unfold w_39_17 at h
  unfold R_39_17
  refine rn_iload_n rfl rfl ?_
  refine rn_iconst rfl ?_
  refine rn_icmp_ge rfl (fun hc => ?_) (fun hc => ?_)
  · replace h := h.1 hc
    refine rn_iconst rfl ?_
    exact rn_ireturn rfl rfl (by decide) h
  · replace h := h.2 hc
    refine rn_aload_n rfl rfl ?_
    refine rn_iload_n rfl rfl ?_
    refine rn_iload_n rfl rfl ?_
    refine rn_virtual rfl (Nat.le_of_ble_eq_true rfl) (Nat.le_of_ble_eq_true rfl) rfl rfl (as := [.ref 8, .int a1, .int a3]) (rest := []) rfl rfl rfl (cs_mono h (fun S1 v1 h => ?_))
    obtain ⟨r1, rfl, h⟩ := h
    refine rn_aload_n rfl rfl ?_
    refine rn_iload_n rfl rfl ?_
    refine rn_iload_n rfl rfl ?_
    refine rn_virtual rfl (Nat.le_of_ble_eq_true rfl) (Nat.le_of_ble_eq_true rfl) rfl rfl (as := [.ref 8, .int a2, .int a3]) (rest := [.int r1]) rfl rfl rfl (cs_mono h (fun S2 v2 h => ?_))
    obtain ⟨r2, rfl, h⟩ := h
    refine rn_icmp_eq rfl (fun hc => ?_) (fun hc => ?_)
    · replace h := h.1 hc
      refine rn_iinc rfl rfl rfl ?_
      refine rn_goto rfl ?_
      exact h
    · replace h := h.2 hc
      refine rn_iconst rfl ?_
      exact rn_ireturn rfl rfl (by decide) h
def w_39 (xs : Nat × (Nat → Int32)) (d : Nat) (K : Sv → Option Value → Prop) (a1 a2 : Int32) (S : Sv) : Prop :=
  CS xs d 34 S [.ref 8, .int a1] (fun S1 v1 => ∃ r1 : Int32, v1 = some (.int r1) ∧ (CS xs d 34 S1 [.ref 8, .int a2] (fun S2 v2 => ∃ r2 : Int32, v2 = some (.int r2) ∧ ((r1 = r2 → (R_39_17 xs d K a1 a2 0 S2)) ∧ (¬ (r1 = r2) → (K S2 (some (.int 0))))))))
set_option maxRecDepth 100000 in
set_option maxHeartbeats 4000000 in
theorem c_39 {xs : Nat × (Nat → Int32)} {d : Nat} {K : Sv → Option Value → Prop} {a1 a2 : Int32} {S : Sv} (h : w_39 xs d K a1 a2 S) : CS xs (d + 1) 39 S [.ref 8, .int a1, .int a2] K := by
  unfold w_39 at h
  refine cs_in rfl rfl rfl rfl ?_
  refine rn_aload_n rfl rfl ?_
  refine rn_iload_n rfl rfl ?_
  refine rn_virtual rfl (Nat.le_of_ble_eq_true rfl) (Nat.le_of_ble_eq_true rfl) rfl rfl (as := [.ref 8, .int a1]) (rest := []) rfl rfl rfl (cs_mono h (fun S1 v1 h => ?_))
  obtain ⟨r1, rfl, h⟩ := h
  refine rn_aload_n rfl rfl ?_
  refine rn_iload_n rfl rfl ?_
  refine rn_virtual rfl (Nat.le_of_ble_eq_true rfl) (Nat.le_of_ble_eq_true rfl) rfl rfl (as := [.ref 8, .int a2]) (rest := [.int r1]) rfl rfl rfl (cs_mono h (fun S2 v2 h => ?_))
  obtain ⟨r2, rfl, h⟩ := h
  refine rn_icmp_eq rfl (fun hc => ?_) (fun hc => ?_)
  · replace h := h.1 hc
    refine rn_iconst rfl ?_
    refine rn_istore_n rfl rfl ?_
    exact h
  · replace h := h.2 hc
    refine rn_iconst rfl ?_
    exact rn_ireturn rfl rfl (by decide) h
