-- ReplayedBeans$Reach.spreadFrom(I)V (number 41)
def R_41_2 (xs : Nat × (Nat → Int32)) (d : Nat) (K : Sv → Option Value → Prop) (a1 a2 : Int32) (S : Sv) : Prop := ∀ u3 : Option Value, RN xs d 41 K 2 [some (.ref 12), some (.int a1), some (.int a2), u3] [] S
def R_41_33 (xs : Nat × (Nat → Int32)) (d : Nat) (K : Sv → Option Value → Prop) (a2 : Int32) (S : Sv) : Prop := ∀ u1 u3 : Option Value, RN xs d 41 K 33 [some (.ref 12), u1, some (.int a2), u3] [] S
def R_41_49 (xs : Nat × (Nat → Int32)) (d : Nat) (K : Sv → Option Value → Prop) (a2 a3 : Int32) (S : Sv) : Prop := ∀ u1 : Option Value, RN xs d 41 K 49 [some (.ref 12), u1, some (.int a2), some (.int a3)] [] S
def w_41_2 (xs : Nat × (Nat → Int32)) (d : Nat) (K : Sv → Option Value → Prop) (a1 a2 : Int32) (S : Sv) : Prop :=
  (24 ≤ a2 → (CS xs d 42 (us S 12 3 0) [.ref 12, .int a1] (fun S1 v1 => v1 = none ∧ (R_41_33 xs d K 0 S1)))) ∧ (¬ (24 ≤ a2) → (∃ j2 : Nat, j2 < 24 ∧ a2 = nI j2 ∧ (R_41_2 xs d K a1 (a2 + 1) (us S 14 j2 0))))
set_option maxRecDepth 100000 in
set_option maxHeartbeats 4000000 in
theorem h_41_2 {xs : Nat × (Nat → Int32)} {d : Nat} {K : Sv → Option Value → Prop} {a1 a2 : Int32} {S : Sv} (h : w_41_2 xs d K a1 a2 S) : R_41_2 xs d K a1 a2 S := by
  unfold w_41_2 at h
  unfold R_41_2
  intro u3
  refine rn_iload_n rfl rfl ?_
  refine rn_bipush rfl ?_
  refine rn_icmp_ge rfl (fun hc => ?_) (fun hc => ?_)
  · replace h := h.1 hc
    refine rn_aload_n rfl rfl ?_
    refine rn_iconst rfl ?_
    refine rn_putfield (S' := (us S 12 3 0)) rfl rfl (Nat.le_of_ble_eq_true rfl) (Or.inl rfl) rfl ?_
    refine rn_aload_n rfl rfl ?_
    refine rn_iload_n rfl rfl ?_
    refine rn_virtual rfl (Nat.le_of_ble_eq_true rfl) (Nat.le_of_ble_eq_true rfl) rfl rfl (as := [.ref 12, .int a1]) (rest := []) rfl rfl rfl (cs_mono h (fun S1 v1 h => ?_))
    obtain ⟨rfl, h⟩ := h
    refine rn_iconst rfl ?_
    refine rn_istore_n rfl rfl ?_
    exact h _ _
  · replace h := h.2 hc
    refine rn_aload_n rfl rfl ?_
    refine rn_getfield rfl rfl rfl ?_
    refine rn_iload_n rfl rfl ?_
    refine rn_iconst rfl ?_
    obtain ⟨j2, hj2, ej2, h⟩ := h
    refine rn_bastore (j := j2) (S' := (us S 14 j2 0)) rfl rfl (Nat.le_of_ble_eq_true rfl) ej2 hj2 (by decide) rfl ?_
    refine rn_iinc rfl rfl rfl ?_
    refine rn_goto rfl ?_
    exact h _
def w_41_33 (xs : Nat × (Nat → Int32)) (d : Nat) (K : Sv → Option Value → Prop) (a2 : Int32) (S : Sv) : Prop :=
  (24 ≤ a2 → (K S none)) ∧ (¬ (24 ≤ a2) → (((S 12 3) ≤ a2 → (K S none)) ∧ (¬ ((S 12 3) ≤ a2) → (R_41_49 xs d K a2 0 S))))
set_option maxRecDepth 100000 in
set_option maxHeartbeats 4000000 in
theorem h_41_33 {xs : Nat × (Nat → Int32)} {d : Nat} {K : Sv → Option Value → Prop} {a2 : Int32} {S : Sv} (h : w_41_33 xs d K a2 S) : R_41_33 xs d K a2 S := by
  unfold w_41_33 at h
  unfold R_41_33
  intro u1 u3
  refine rn_iload_n rfl rfl ?_
  refine rn_bipush rfl ?_
  refine rn_icmp_ge rfl (fun hc => ?_) (fun hc => ?_)
  · replace h := h.1 hc
    exact rn_return rfl rfl h
  · replace h := h.2 hc
    refine rn_iload_n rfl rfl ?_
    refine rn_aload_n rfl rfl ?_
    refine rn_getfield rfl rfl rfl ?_
    refine rn_icmp_ge rfl (fun hc => ?_) (fun hc => ?_)
    · replace h := h.1 hc
      exact rn_return rfl rfl h
    · replace h := h.2 hc
      refine rn_iconst rfl ?_
      refine rn_istore_n rfl rfl ?_
      exact h _
def w_41_49 (xs : Nat × (Nat → Int32)) (d : Nat) (K : Sv → Option Value → Prop) (a2 a3 : Int32) (S : Sv) : Prop :=
  (2 ≤ a3 → (R_41_33 xs d K (a2 + 1) S)) ∧ (¬ (2 ≤ a3) → (∃ j1 : Nat, j1 < 24 ∧ a2 = nI j1 ∧ (CS xs d 38 S [.ref 8, .int (S 13 j1), .int a3] (fun S2 v2 => ∃ r2 : Int32, v2 = some (.int r2) ∧ (CS xs d 42 S2 [.ref 12, .int r2] (fun S3 v3 => v3 = none ∧ (R_41_49 xs d K a2 (a3 + 1) S3)))))))
set_option maxRecDepth 100000 in
set_option maxHeartbeats 4000000 in
theorem h_41_49 {xs : Nat × (Nat → Int32)} {d : Nat} {K : Sv → Option Value → Prop} {a2 a3 : Int32} {S : Sv} (h : w_41_49 xs d K a2 a3 S) : R_41_49 xs d K a2 a3 S := by
  unfold w_41_49 at h
  unfold R_41_49
  intro u1
  refine rn_iload_n rfl rfl ?_
  refine rn_iconst rfl ?_
  refine rn_icmp_ge rfl (fun hc => ?_) (fun hc => ?_)
  · replace h := h.1 hc
    refine rn_iinc rfl rfl rfl ?_
    refine rn_goto rfl ?_
    exact h _ _
  · replace h := h.2 hc
    refine rn_aload_n rfl rfl ?_
    refine rn_aload_n rfl rfl ?_
    refine rn_getfield rfl rfl rfl ?_
    refine rn_aload_n rfl rfl ?_
    refine rn_getfield rfl rfl rfl ?_
    refine rn_iload_n rfl rfl ?_
    obtain ⟨j1, hj1, ej1, h⟩ := h
    refine rn_iaload (j := j1) rfl rfl (Nat.le_of_ble_eq_true rfl) ej1 hj1 ?_
    refine rn_iload_n rfl rfl ?_
    refine rn_virtual rfl (Nat.le_of_ble_eq_true rfl) (Nat.le_of_ble_eq_true rfl) rfl rfl (as := [.ref 8, .int (S 13 j1), .int a3]) (rest := [.ref 12]) rfl rfl rfl (cs_mono h (fun S2 v2 h => ?_))
    obtain ⟨r2, rfl, h⟩ := h
    refine rn_virtual rfl (Nat.le_of_ble_eq_true rfl) (Nat.le_of_ble_eq_true rfl) rfl rfl (as := [.ref 12, .int r2]) (rest := []) rfl rfl rfl (cs_mono h (fun S3 v3 h => ?_))
    obtain ⟨rfl, h⟩ := h
    refine rn_iinc rfl rfl rfl ?_
    refine rn_goto rfl ?_
    exact h _
def w_41 (xs : Nat × (Nat → Int32)) (d : Nat) (K : Sv → Option Value → Prop) (a1 : Int32) (S : Sv) : Prop :=
  R_41_2 xs d K a1 0 S
set_option maxRecDepth 100000 in
set_option maxHeartbeats 4000000 in
theorem c_41 {xs : Nat × (Nat → Int32)} {d : Nat} {K : Sv → Option Value → Prop} {a1 : Int32} {S : Sv} (h : w_41 xs d K a1 S) : CS xs (d + 1) 41 S [.ref 12, .int a1] K := by
  unfold w_41 at h
  refine cs_in rfl rfl rfl rfl ?_
  refine rn_iconst rfl ?_
  refine rn_istore_n rfl rfl ?_
  exact h _
-- ReplayedBeans$Reach.visit(I)V (number 42)
def w_42 (xs : Nat × (Nat → Int32)) (d : Nat) (K : Sv → Option Value → Prop) (a1 : Int32) (S : Sv) : Prop :=
  CS xs d 31 S [.ref 8, .int a1] (fun S1 v1 => ∃ r1 : Int32, v1 = some (.int r1) ∧ ((r1 = 0 → (K S1 none)) ∧ (¬ (r1 = 0) → (∃ j2 : Nat, j2 < 24 ∧ a1 = nI j2 ∧ ((¬ (S1 14 j2) = 0 → (K S1 none)) ∧ (¬ (¬ (S1 14 j2) = 0) → (∃ j3 : Nat, j3 < 24 ∧ a1 = nI j3 ∧ (∃ j4 : Nat, j4 < 24 ∧ (S1 12 3) = nI j4 ∧ (K (us (us (us S1 14 j3 1) 13 j4 a1) 12 3 ((S1 12 3) + 1)) none)))))))))
set_option maxRecDepth 100000 in
set_option maxHeartbeats 4000000 in
theorem c_42 {xs : Nat × (Nat → Int32)} {d : Nat} {K : Sv → Option Value → Prop} {a1 : Int32} {S : Sv} (h : w_42 xs d K a1 S) : CS xs (d + 1) 42 S [.ref 12, .int a1] K := by
  unfold w_42 at h
  refine cs_in rfl rfl rfl rfl ?_
  refine rn_aload_n rfl rfl ?_
  refine rn_getfield rfl rfl rfl ?_
  refine rn_iload_n rfl rfl ?_
  refine rn_virtual rfl (Nat.le_of_ble_eq_true rfl) (Nat.le_of_ble_eq_true rfl) rfl rfl (as := [.ref 8, .int a1]) (rest := []) rfl rfl rfl (cs_mono h (fun S1 v1 h => ?_))
  obtain ⟨r1, rfl, h⟩ := h
  refine rn_if_eq rfl (fun hc => ?_) (fun hc => ?_)
  · replace h := h.1 hc
    exact rn_return rfl rfl h
  · replace h := h.2 hc
    refine rn_aload_n rfl rfl ?_
    refine rn_getfield rfl rfl rfl ?_
    refine rn_iload_n rfl rfl ?_
    obtain ⟨j2, hj2, ej2, h⟩ := h
    refine rn_baload (j := j2) rfl rfl (Nat.le_of_ble_eq_true rfl) ej2 hj2 ?_
    refine rn_if_ne rfl (fun hc => ?_) (fun hc => ?_)
    · replace h := h.1 hc
      exact rn_return rfl rfl h
    · replace h := h.2 hc
      refine rn_aload_n rfl rfl ?_
      refine rn_getfield rfl rfl rfl ?_
      refine rn_iload_n rfl rfl ?_
      refine rn_iconst rfl ?_
      obtain ⟨j3, hj3, ej3, h⟩ := h
      refine rn_bastore (j := j3) (S' := (us S1 14 j3 1)) rfl rfl (Nat.le_of_ble_eq_true rfl) ej3 hj3 (by decide) rfl ?_
      refine rn_aload_n rfl rfl ?_
      refine rn_getfield rfl rfl rfl ?_
      refine rn_aload_n rfl rfl ?_
      refine rn_getfield rfl rfl rfl ?_
      refine rn_iload_n rfl rfl ?_
      obtain ⟨j4, hj4, ej4, h⟩ := h
      refine rn_iastore (j := j4) (S' := (us (us S1 14 j3 1) 13 j4 a1)) rfl rfl (Nat.le_of_ble_eq_true rfl) ej4 hj4 rfl ?_
      refine rn_aload_n rfl rfl ?_
      refine rn_dup rfl rfl ?_
      refine rn_getfield rfl rfl rfl ?_
      refine rn_iconst rfl ?_
      refine rn_iadd rfl ?_
      refine rn_putfield (S' := (us (us (us S1 14 j3 1) 13 j4 a1) 12 3 ((S1 12 3) + 1))) rfl rfl (Nat.le_of_ble_eq_true rfl) (Or.inl rfl) rfl ?_
      exact rn_return rfl rfl h
