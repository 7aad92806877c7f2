-- java/util/Arrays.fill([II)V (number 0)
def R_0_6_5 (xs : Nat × (Nat → Int32)) (d : Nat) (K : Sv → Option Value → Prop) (a1 a2 a3 : Int32) (S : Sv) : Prop := RN xs d 0 K 5 [some (.ref 6), some (.int a1), some (.int a2), some (.int a3)] [] S
def w_0_6_5 (xs : Nat × (Nat → Int32)) (d : Nat) (K : Sv → Option Value → Prop) (a1 a2 a3 : Int32) (S : Sv) : Prop :=
  (a3 ≤ a2 → (K S none)) ∧ (¬ (a3 ≤ a2) → (∃ j1 : Nat, j1 < 12 ∧ a2 = nI j1 ∧ (R_0_6_5 xs d K a1 (a2 + 1) a3 (us S 6 j1 a1))))
set_option maxRecDepth 100000 in
set_option maxHeartbeats 4000000 in
theorem h_0_6_5 {xs : Nat × (Nat → Int32)} {d : Nat} {K : Sv → Option Value → Prop} {a1 a2 a3 : Int32} {S : Sv} (h : w_0_6_5 xs d K a1 a2 a3 S) : R_0_6_5 xs d K a1 a2 a3 S := by
  unfold w_0_6_5 at h
  unfold R_0_6_5
  refine rn_iload_n rfl rfl ?_
  refine rn_iload_n rfl rfl ?_
  refine rn_icmp_ge rfl (fun hc => ?_) (fun hc => ?_)
  · replace h := h.1 hc
    exact rn_return rfl rfl h
  · replace h := h.2 hc
    refine rn_aload_n rfl rfl ?_
    refine rn_iload_n rfl rfl ?_
    refine rn_iload_n rfl rfl ?_
    obtain ⟨j1, hj1, ej1, h⟩ := h
    refine rn_iastore (j := j1) (S' := (us S 6 j1 a1)) rfl rfl (Nat.le_of_ble_eq_true rfl) ej1 hj1 rfl ?_
    refine rn_iinc rfl rfl rfl ?_
    refine rn_goto rfl ?_
    exact h
def w_0_6 (xs : Nat × (Nat → Int32)) (d : Nat) (K : Sv → Option Value → Prop) (a1 : Int32) (S : Sv) : Prop :=
  R_0_6_5 xs d K a1 0 12 S
set_option maxRecDepth 100000 in
set_option maxHeartbeats 4000000 in
theorem c_0_6 {xs : Nat × (Nat → Int32)} {d : Nat} {K : Sv → Option Value → Prop} {a1 : Int32} {S : Sv} (h : w_0_6 xs d K a1 S) : CS xs (d + 1) 0 S [.ref 6, .int a1] K := by
  unfold w_0_6 at h
  refine cs_in rfl rfl rfl rfl ?_
  refine rn_iconst rfl ?_
  refine rn_istore_n rfl rfl ?_
  refine rn_aload_n rfl rfl ?_
  refine rn_arraylength rfl rfl (Or.inl rfl) ?_
  refine rn_istore_n rfl rfl ?_
  exact h
-- java/util/Arrays.fill([II)V (number 0)
def R_0_7_5 (xs : Nat × (Nat → Int32)) (d : Nat) (K : Sv → Option Value → Prop) (a1 a2 a3 : Int32) (S : Sv) : Prop := RN xs d 0 K 5 [some (.ref 7), some (.int a1), some (.int a2), some (.int a3)] [] S
def w_0_7_5 (xs : Nat × (Nat → Int32)) (d : Nat) (K : Sv → Option Value → Prop) (a1 a2 a3 : Int32) (S : Sv) : Prop :=
  (a3 ≤ a2 → (K S none)) ∧ (¬ (a3 ≤ a2) → (∃ j1 : Nat, j1 < 12 ∧ a2 = nI j1 ∧ (R_0_7_5 xs d K a1 (a2 + 1) a3 (us S 7 j1 a1))))
set_option maxRecDepth 100000 in
set_option maxHeartbeats 4000000 in
theorem h_0_7_5 {xs : Nat × (Nat → Int32)} {d : Nat} {K : Sv → Option Value → Prop} {a1 a2 a3 : Int32} {S : Sv} (h : w_0_7_5 xs d K a1 a2 a3 S) : R_0_7_5 xs d K a1 a2 a3 S := by
  unfold w_0_7_5 at h
  unfold R_0_7_5
  refine rn_iload_n rfl rfl ?_
  refine rn_iload_n rfl rfl ?_
  refine rn_icmp_ge rfl (fun hc => ?_) (fun hc => ?_)
  · replace h := h.1 hc
    exact rn_return rfl rfl h
  · replace h := h.2 hc
    refine rn_aload_n rfl rfl ?_
    refine rn_iload_n rfl rfl ?_
    refine rn_iload_n rfl rfl ?_
    obtain ⟨j1, hj1, ej1, h⟩ := h
    refine rn_iastore (j := j1) (S' := (us S 7 j1 a1)) rfl rfl (Nat.le_of_ble_eq_true rfl) ej1 hj1 rfl ?_
    refine rn_iinc rfl rfl rfl ?_
    refine rn_goto rfl ?_
    exact h
def w_0_7 (xs : Nat × (Nat → Int32)) (d : Nat) (K : Sv → Option Value → Prop) (a1 : Int32) (S : Sv) : Prop :=
  R_0_7_5 xs d K a1 0 12 S
set_option maxRecDepth 100000 in
set_option maxHeartbeats 4000000 in
theorem c_0_7 {xs : Nat × (Nat → Int32)} {d : Nat} {K : Sv → Option Value → Prop} {a1 : Int32} {S : Sv} (h : w_0_7 xs d K a1 S) : CS xs (d + 1) 0 S [.ref 7, .int a1] K := by
  unfold w_0_7 at h
  refine cs_in rfl rfl rfl rfl ?_
  refine rn_iconst rfl ?_
  refine rn_istore_n rfl rfl ?_
  refine rn_aload_n rfl rfl ?_
  refine rn_arraylength rfl rfl (Or.inl rfl) ?_
  refine rn_istore_n rfl rfl ?_
  exact h
-- java/util/Arrays.fill([II)V (number 0)
def R_0_17_5 (xs : Nat × (Nat → Int32)) (d : Nat) (K : Sv → Option Value → Prop) (a1 a2 a3 : Int32) (S : Sv) : Prop := RN xs d 0 K 5 [some (.ref 17), some (.int a1), some (.int a2), some (.int a3)] [] S
def w_0_17_5 (xs : Nat × (Nat → Int32)) (d : Nat) (K : Sv → Option Value → Prop) (a1 a2 a3 : Int32) (S : Sv) : Prop :=
  (a3 ≤ a2 → (K S none)) ∧ (¬ (a3 ≤ a2) → (∃ j1 : Nat, j1 < 24 ∧ a2 = nI j1 ∧ (R_0_17_5 xs d K a1 (a2 + 1) a3 (us S 17 j1 a1))))
set_option maxRecDepth 100000 in
set_option maxHeartbeats 4000000 in
theorem h_0_17_5 {xs : Nat × (Nat → Int32)} {d : Nat} {K : Sv → Option Value → Prop} {a1 a2 a3 : Int32} {S : Sv} (h : w_0_17_5 xs d K a1 a2 a3 S) : R_0_17_5 xs d K a1 a2 a3 S := by
  unfold w_0_17_5 at h
  unfold R_0_17_5
  refine rn_iload_n rfl rfl ?_
  refine rn_iload_n rfl rfl ?_
  refine rn_icmp_ge rfl (fun hc => ?_) (fun hc => ?_)
  · replace h := h.1 hc
    exact rn_return rfl rfl h
  · replace h := h.2 hc
    refine rn_aload_n rfl rfl ?_
    refine rn_iload_n rfl rfl ?_
    refine rn_iload_n rfl rfl ?_
    obtain ⟨j1, hj1, ej1, h⟩ := h
    refine rn_iastore (j := j1) (S' := (us S 17 j1 a1)) rfl rfl (Nat.le_of_ble_eq_true rfl) ej1 hj1 rfl ?_
    refine rn_iinc rfl rfl rfl ?_
    refine rn_goto rfl ?_
    exact h
def w_0_17 (xs : Nat × (Nat → Int32)) (d : Nat) (K : Sv → Option Value → Prop) (a1 : Int32) (S : Sv) : Prop :=
  R_0_17_5 xs d K a1 0 24 S
set_option maxRecDepth 100000 in
set_option maxHeartbeats 4000000 in
theorem c_0_17 {xs : Nat × (Nat → Int32)} {d : Nat} {K : Sv → Option Value → Prop} {a1 : Int32} {S : Sv} (h : w_0_17 xs d K a1 S) : CS xs (d + 1) 0 S [.ref 17, .int a1] K := by
  unfold w_0_17 at h
  refine cs_in rfl rfl rfl rfl ?_
  refine rn_iconst rfl ?_
  refine rn_istore_n rfl rfl ?_
  refine rn_aload_n rfl rfl ?_
  refine rn_arraylength rfl rfl (Or.inl rfl) ?_
  refine rn_istore_n rfl rfl ?_
  exact h
-- java/util/Arrays.fill([II)V (number 0)
def R_0_18_5 (xs : Nat × (Nat → Int32)) (d : Nat) (K : Sv → Option Value → Prop) (a1 a2 a3 : Int32) (S : Sv) : Prop := RN xs d 0 K 5 [some (.ref 18), some (.int a1), some (.int a2), some (.int a3)] [] S
def w_0_18_5 (xs : Nat × (Nat → Int32)) (d : Nat) (K : Sv → Option Value → Prop) (a1 a2 a3 : Int32) (S : Sv) : Prop :=
  (a3 ≤ a2 → (K S none)) ∧ (¬ (a3 ≤ a2) → (∃ j1 : Nat, j1 < 24 ∧ a2 = nI j1 ∧ (R_0_18_5 xs d K a1 (a2 + 1) a3 (us S 18 j1 a1))))
set_option maxRecDepth 100000 in
set_option maxHeartbeats 4000000 in
theorem h_0_18_5 {xs : Nat × (Nat → Int32)} {d : Nat} {K : Sv → Option Value → Prop} {a1 a2 a3 : Int32} {S : Sv} (h : w_0_18_5 xs d K a1 a2 a3 S) : R_0_18_5 xs d K a1 a2 a3 S := by
  unfold w_0_18_5 at h
  unfold R_0_18_5
  refine rn_iload_n rfl rfl ?_
  refine rn_iload_n rfl rfl ?_
  refine rn_icmp_ge rfl (fun hc => ?_) (fun hc => ?_)
  · replace h := h.1 hc
    exact rn_return rfl rfl h
  · replace h := h.2 hc
    refine rn_aload_n rfl rfl ?_
    refine rn_iload_n rfl rfl ?_
    refine rn_iload_n rfl rfl ?_
    obtain ⟨j1, hj1, ej1, h⟩ := h
    refine rn_iastore (j := j1) (S' := (us S 18 j1 a1)) rfl rfl (Nat.le_of_ble_eq_true rfl) ej1 hj1 rfl ?_
    refine rn_iinc rfl rfl rfl ?_
    refine rn_goto rfl ?_
    exact h
def w_0_18 (xs : Nat × (Nat → Int32)) (d : Nat) (K : Sv → Option Value → Prop) (a1 : Int32) (S : Sv) : Prop :=
  R_0_18_5 xs d K a1 0 24 S
set_option maxRecDepth 100000 in
set_option maxHeartbeats 4000000 in
theorem c_0_18 {xs : Nat × (Nat → Int32)} {d : Nat} {K : Sv → Option Value → Prop} {a1 : Int32} {S : Sv} (h : w_0_18 xs d K a1 S) : CS xs (d + 1) 0 S [.ref 18, .int a1] K := by
  unfold w_0_18 at h
  refine cs_in rfl rfl rfl rfl ?_
  refine rn_iconst rfl ?_
  refine rn_istore_n rfl rfl ?_
  refine rn_aload_n rfl rfl ?_
  refine rn_arraylength rfl rfl (Or.inl rfl) ?_
  refine rn_istore_n rfl rfl ?_
  exact h
-- java/util/Arrays.fill([II)V (number 0)
def R_0_24_5 (xs : Nat × (Nat → Int32)) (d : Nat) (K : Sv → Option Value → Prop) (a1 a2 a3 : Int32) (S : Sv) : Prop := RN xs d 0 K 5 [some (.ref 24), some (.int a1), some (.int a2), some (.int a3)] [] S
def w_0_24_5 (xs : Nat × (Nat → Int32)) (d : Nat) (K : Sv → Option Value → Prop) (a1 a2 a3 : Int32) (S : Sv) : Prop :=
  (a3 ≤ a2 → (K S none)) ∧ (¬ (a3 ≤ a2) → (∃ j1 : Nat, j1 < 24 ∧ a2 = nI j1 ∧ (R_0_24_5 xs d K a1 (a2 + 1) a3 (us S 24 j1 a1))))
set_option maxRecDepth 100000 in
set_option maxHeartbeats 4000000 in
theorem h_0_24_5 {xs : Nat × (Nat → Int32)} {d : Nat} {K : Sv → Option Value → Prop} {a1 a2 a3 : Int32} {S : Sv} (h : w_0_24_5 xs d K a1 a2 a3 S) : R_0_24_5 xs d K a1 a2 a3 S := by
  unfold w_0_24_5 at h
  unfold R_0_24_5
  refine rn_iload_n rfl rfl ?_
  refine rn_iload_n rfl rfl ?_
  refine rn_icmp_ge rfl (fun hc => ?_) (fun hc => ?_)
  · replace h := h.1 hc
    exact rn_return rfl rfl h
  · replace h := h.2 hc
    refine rn_aload_n rfl rfl ?_
    refine rn_iload_n rfl rfl ?_
    refine rn_iload_n rfl rfl ?_
    obtain ⟨j1, hj1, ej1, h⟩ := h
    refine rn_iastore (j := j1) (S' := (us S 24 j1 a1)) rfl rfl (Nat.le_of_ble_eq_true rfl) ej1 hj1 rfl ?_
    refine rn_iinc rfl rfl rfl ?_
    refine rn_goto rfl ?_
    exact h
def w_0_24 (xs : Nat × (Nat → Int32)) (d : Nat) (K : Sv → Option Value → Prop) (a1 : Int32) (S : Sv) : Prop :=
  R_0_24_5 xs d K a1 0 24 S
set_option maxRecDepth 100000 in
set_option maxHeartbeats 4000000 in
theorem c_0_24 {xs : Nat × (Nat → Int32)} {d : Nat} {K : Sv → Option Value → Prop} {a1 : Int32} {S : Sv} (h : w_0_24 xs d K a1 S) : CS xs (d + 1) 0 S [.ref 24, .int a1] K := by
  unfold w_0_24 at h
  refine cs_in rfl rfl rfl rfl ?_
  refine rn_iconst rfl ?_
  refine rn_istore_n rfl rfl ?_
  refine rn_aload_n rfl rfl ?_
  refine rn_arraylength rfl rfl (Or.inl rfl) ?_
  refine rn_istore_n rfl rfl ?_
  exact h
-- java/util/Arrays.fill([II)V (number 0)
def R_0_29_5 (xs : Nat × (Nat → Int32)) (d : Nat) (K : Sv → Option Value → Prop) (a1 a2 a3 : Int32) (S : Sv) : Prop := RN xs d 0 K 5 [some (.ref 29), some (.int a1), some (.int a2), some (.int a3)] [] S
def w_0_29_5 (xs : Nat × (Nat → Int32)) (d : Nat) (K : Sv → Option Value → Prop) (a1 a2 a3 : Int32) (S : Sv) : Prop :=
  (a3 ≤ a2 → (K S none)) ∧ (¬ (a3 ≤ a2) → (∃ j1 : Nat, j1 < 100 ∧ a2 = nI j1 ∧ (R_0_29_5 xs d K a1 (a2 + 1) a3 (us S 29 j1 a1))))
set_option maxRecDepth 100000 in
set_option maxHeartbeats 4000000 in
theorem h_0_29_5 {xs : Nat × (Nat → Int32)} {d : Nat} {K : Sv → Option Value → Prop} {a1 a2 a3 : Int32} {S : Sv} (h : w_0_29_5 xs d K a1 a2 a3 S) : R_0_29_5 xs d K a1 a2 a3 S := by
  unfold w_0_29_5 at h
  unfold R_0_29_5
  refine rn_iload_n rfl rfl ?_
  refine rn_iload_n rfl rfl ?_
  refine rn_icmp_ge rfl (fun hc => ?_) (fun hc => ?_)
  · replace h := h.1 hc
    exact rn_return rfl rfl h
  · replace h := h.2 hc
    refine rn_aload_n rfl rfl ?_
    refine rn_iload_n rfl rfl ?_
    refine rn_iload_n rfl rfl ?_
    obtain ⟨j1, hj1, ej1, h⟩ := h
    refine rn_iastore (j := j1) (S' := (us S 29 j1 a1)) rfl rfl (Nat.le_of_ble_eq_true rfl) ej1 hj1 rfl ?_
    refine rn_iinc rfl rfl rfl ?_
    refine rn_goto rfl ?_
    exact h
def w_0_29 (xs : Nat × (Nat → Int32)) (d : Nat) (K : Sv → Option Value → Prop) (a1 : Int32) (S : Sv) : Prop :=
  R_0_29_5 xs d K a1 0 100 S
set_option maxRecDepth 100000 in
set_option maxHeartbeats 4000000 in
theorem c_0_29 {xs : Nat × (Nat → Int32)} {d : Nat} {K : Sv → Option Value → Prop} {a1 : Int32} {S : Sv} (h : w_0_29 xs d K a1 S) : CS xs (d + 1) 0 S [.ref 29, .int a1] K := by
  unfold w_0_29 at h
  refine cs_in rfl rfl rfl rfl ?_
  refine rn_iconst rfl ?_
  refine rn_istore_n rfl rfl ?_
  refine rn_aload_n rfl rfl ?_
  refine rn_arraylength rfl rfl (Or.inl rfl) ?_
  refine rn_istore_n rfl rfl ?_
  exact h
