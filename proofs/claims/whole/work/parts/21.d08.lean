-- ReplayedBeans$Replay.run()I (number 74)
def w_74 (xs : Nat × (Nat → Int32)) (d : Nat) (K : Sv → Option Value → Prop) (S : Sv) : Prop :=
  CS xs d 0 S [.ref 29, .int (-1)] (fun S1 v1 => v1 = none ∧ (CS xs d 77 (us (us S1 28 4 0) 28 5 1) [.ref 28, .int 1] (fun S2 v2 => ∃ r2 : Int32, v2 = some (.int r2) ∧ (K S2 (some (.int r2))))))
set_option maxRecDepth 100000 in
set_option maxHeartbeats 4000000 in
theorem c_74 {xs : Nat × (Nat → Int32)} {d : Nat} {K : Sv → Option Value → Prop} {S : Sv} (h : w_74 xs d K S) : CS xs (d + 1) 74 S [.ref 28] K := by
  unfold w_74 at h
  refine cs_in rfl rfl rfl rfl ?_
  refine rn_aload_n rfl rfl ?_
  refine rn_getfield rfl rfl rfl ?_
  refine rn_iconst rfl ?_
  refine rn_static rfl (Nat.le_of_ble_eq_true rfl) (Nat.le_of_ble_eq_true rfl) rfl rfl (as := [.ref 29, .int (-1)]) (rest := []) rfl rfl (cs_mono h (fun S1 v1 h => ?_))
  obtain ⟨rfl, h⟩ := h
  refine rn_aload_n rfl rfl ?_
  refine rn_iconst rfl ?_
  refine rn_putfield (S' := (us S1 28 4 0)) rfl rfl (Nat.le_of_ble_eq_true rfl) (Or.inl rfl) rfl ?_
  refine rn_aload_n rfl rfl ?_
  refine rn_iconst rfl ?_
  refine rn_putfield (S' := (us (us S1 28 4 0) 28 5 1)) rfl rfl (Nat.le_of_ble_eq_true rfl) (Or.inl rfl) rfl ?_
  refine rn_aload_n rfl rfl ?_
  refine rn_iconst rfl ?_
  refine rn_virtual rfl (Nat.le_of_ble_eq_true rfl) (Nat.le_of_ble_eq_true rfl) rfl rfl (as := [.ref 28, .int 1]) (rest := []) rfl rfl rfl (cs_mono h (fun S2 v2 h => ?_))
  obtain ⟨r2, rfl, h⟩ := h
  exact rn_ireturn rfl rfl rfl h
-- ReplayedBeans$Replay.failedPlace(I)I (number 75)
def w_75 (xs : Nat × (Nat → Int32)) (d : Nat) (K : Sv → Option Value → Prop) (a1 : Int32) (S : Sv) : Prop :=
  (a1 < 0 → (K S (some (.int 0)))) ∧ (¬ (a1 < 0) → (((S 28 4) ≤ a1 → (K S (some (.int 0)))) ∧ (¬ ((S 28 4) ≤ a1) → (∃ j1 : Nat, j1 < 300 ∧ a1 = nI j1 ∧ (K S (some (.int (S 30 j1))))))))
set_option maxRecDepth 100000 in
set_option maxHeartbeats 4000000 in
theorem c_75 {xs : Nat × (Nat → Int32)} {d : Nat} {K : Sv → Option Value → Prop} {a1 : Int32} {S : Sv} (h : w_75 xs d K a1 S) : CS xs (d + 1) 75 S [.ref 28, .int a1] K := by
  unfold w_75 at h
  refine cs_in rfl rfl rfl rfl ?_
  refine rn_iload_n rfl rfl ?_
  refine rn_if_lt rfl (fun hc => ?_) (fun hc => ?_)
  · replace h := h.1 hc
    refine rn_iconst rfl ?_
    exact rn_ireturn rfl rfl rfl h
  · replace h := h.2 hc
    refine rn_iload_n rfl rfl ?_
    refine rn_aload_n rfl rfl ?_
    refine rn_getfield rfl rfl rfl ?_
    refine rn_icmp_ge rfl (fun hc => ?_) (fun hc => ?_)
    · replace h := h.1 hc
      refine rn_iconst rfl ?_
      exact rn_ireturn rfl rfl rfl h
    · replace h := h.2 hc
      refine rn_aload_n rfl rfl ?_
      refine rn_getfield rfl rfl rfl ?_
      refine rn_iload_n rfl rfl ?_
      obtain ⟨j1, hj1, ej1, h⟩ := h
      refine rn_iaload (j := j1) rfl rfl (Nat.le_of_ble_eq_true rfl) ej1 hj1 ?_
      refine rn_goto rfl ?_
      exact rn_ireturn rfl rfl rfl h
-- ReplayedBeans$Replay.fail(I)V (number 76)
def w_76 (xs : Nat × (Nat → Int32)) (d : Nat) (K : Sv → Option Value → Prop) (a1 : Int32) (S : Sv) : Prop :=
  (300 ≤ (S 28 4) → (K S none)) ∧ (¬ (300 ≤ (S 28 4)) → (∃ j1 : Nat, j1 < 300 ∧ (S 28 4) = nI j1 ∧ (K (us (us S 30 j1 a1) 28 4 ((S 28 4) + 1)) none)))
set_option maxRecDepth 100000 in
set_option maxHeartbeats 4000000 in
theorem c_76 {xs : Nat × (Nat → Int32)} {d : Nat} {K : Sv → Option Value → Prop} {a1 : Int32} {S : Sv} (h : w_76 xs d K a1 S) : CS xs (d + 1) 76 S [.ref 28, .int a1] K := by
  unfold w_76 at h
  refine cs_in rfl rfl rfl rfl ?_
  refine rn_aload_n rfl rfl ?_
  refine rn_getfield rfl rfl rfl ?_
  refine rn_sipush rfl ?_
  refine rn_icmp_ge rfl (fun hc => ?_) (fun hc => ?_)
  · replace h := h.1 hc
    exact rn_return rfl rfl h
  · replace h := h.2 hc
    refine rn_aload_n rfl rfl ?_
    refine rn_getfield rfl rfl rfl ?_
    refine rn_aload_n rfl rfl ?_
    refine rn_getfield rfl rfl rfl ?_
    refine rn_iload_n rfl rfl ?_
    obtain ⟨j1, hj1, ej1, h⟩ := h
    refine rn_iastore (j := j1) (S' := (us S 30 j1 a1)) rfl rfl (Nat.le_of_ble_eq_true rfl) ej1 hj1 rfl ?_
    refine rn_aload_n rfl rfl ?_
    refine rn_dup rfl rfl ?_
    refine rn_getfield rfl rfl rfl ?_
    refine rn_iconst rfl ?_
    refine rn_iadd rfl ?_
    refine rn_putfield (S' := (us (us S 30 j1 a1) 28 4 ((S 28 4) + 1))) rfl rfl (Nat.le_of_ble_eq_true rfl) (Or.inl rfl) rfl ?_
    exact rn_return rfl rfl h
-- ReplayedBeans$Replay.replayObject(I)I (number 77)
def R_77_45 (xs : Nat × (Nat → Int32)) (d : Nat) (K : Sv → Option Value → Prop) (a1 a2 : Int32) (S : Sv) : Prop := ∀ u3 : Option Value, RN xs d 77 K 45 [some (.ref 28), some (.int a1), some (.int a2), u3] [] S
def R_77_78 (xs : Nat × (Nat → Int32)) (d : Nat) (K : Sv → Option Value → Prop) (a1 a2 a3 : Int32) (S : Sv) : Prop := RN xs d 77 K 78 [some (.ref 28), some (.int a1), some (.int a2), some (.int a3)] [] S
def w_77_45 (xs : Nat × (Nat → Int32)) (d : Nat) (K : Sv → Option Value → Prop) (a1 a2 : Int32) (S : Sv) : Prop :=
  CS xs d 50 (us S 28 5 ((S 28 5) + 2)) [.ref 19, .int ((S 28 5) + 2)] (fun S1 v1 => ∃ r1 : Int32, v1 = some (.int r1) ∧ ((¬ r1 = 35 → (R_77_78 xs d K a1 a2 0 S1)) ∧ (¬ (¬ r1 = 35) → (CS xs d 78 S1 [.ref 28, .int a2] (fun S2 v2 => v2 = none ∧ (R_77_78 xs d K a1 a2 0 S2))))))
set_option maxRecDepth 100000 in
set_option maxHeartbeats 4000000 in
theorem h_77_45 {xs : Nat × (Nat → Int32)} {d : Nat} {K : Sv → Option Value → Prop} {a1 a2 : Int32} {S : Sv} (h : w_77_45 xs d K a1 a2 S) : R_77_45 xs d K a1 a2 S := by
  unfold w_77_45 at h
  unfold R_77_45
  intro u3
  refine rn_aload_n rfl rfl ?_
  refine rn_dup rfl rfl ?_
  refine rn_getfield rfl rfl rfl ?_
  refine rn_iconst rfl ?_
  refine rn_iadd rfl ?_
  refine rn_putfield (S' := (us S 28 5 ((S 28 5) + 2))) rfl rfl (Nat.le_of_ble_eq_true rfl) (Or.inl rfl) rfl ?_
  refine rn_aload_n rfl rfl ?_
  refine rn_getfield rfl rfl rfl ?_
  refine rn_aload_n rfl rfl ?_
  refine rn_getfield rfl rfl rfl ?_
  refine rn_virtual rfl (Nat.le_of_ble_eq_true rfl) (Nat.le_of_ble_eq_true rfl) rfl rfl (as := [.ref 19, .int ((S 28 5) + 2)]) (rest := []) rfl rfl rfl (cs_mono h (fun S1 v1 h => ?_))
  obtain ⟨r1, rfl, h⟩ := h
  refine rn_bipush rfl ?_
  refine rn_icmp_ne rfl (fun hc => ?_) (fun hc => ?_)
  · replace h := h.1 hc
    refine rn_iconst rfl ?_
    refine rn_istore_n rfl rfl ?_
    exact h
  · replace h := h.2 hc
    refine rn_aload_n rfl rfl ?_
    refine rn_iload_n rfl rfl ?_
    refine rn_virtual rfl (Nat.le_of_ble_eq_true rfl) (Nat.le_of_ble_eq_true rfl) rfl rfl (as := [.ref 28, .int a2]) (rest := []) rfl rfl rfl (cs_mono h (fun S2 v2 h => ?_))
    obtain ⟨rfl, h⟩ := h
    refine rn_iconst rfl ?_
    refine rn_istore_n rfl rfl ?_
    exact h
def w_77_78 (xs : Nat × (Nat → Int32)) (d : Nat) (K : Sv → Option Value → Prop) (a1 a2 a3 : Int32) (S : Sv) : Prop :=
  (300 ≤ a3 → (K (us S 28 5 ((S 28 5) + 1)) (some (.int a2)))) ∧ (¬ (300 ≤ a3) → (CS xs d 50 S [.ref 19, .int (S 28 5)] (fun S1 v1 => ∃ r1 : Int32, v1 = some (.int r1) ∧ (CS xs d 72 S1 [.int r1] (fun S2 v2 => ∃ r2 : Int32, v2 = some (.int r2) ∧ ((r2 = 0 → (K (us S2 28 5 ((S2 28 5) + 1)) (some (.int a2)))) ∧ (¬ (r2 = 0) → (CS xs d 79 S2 [.ref 28, .int a2, .int a1] (fun S3 v3 => v3 = none ∧ (R_77_78 xs d K a1 a2 (a3 + 1) S3))))))))))
set_option maxRecDepth 100000 in
set_option maxHeartbeats 4000000 in
theorem h_77_78 {xs : Nat × (Nat → Int32)} {d : Nat} {K : Sv → Option Value → Prop} {a1 a2 a3 : Int32} {S : Sv} (h : w_77_78 xs d K a1 a2 a3 S) : R_77_78 xs d K a1 a2 a3 S := by
  unfold w_77_78 at h
  unfold R_77_78
  refine rn_iload_n rfl rfl ?_
  refine rn_sipush rfl ?_
  refine rn_icmp_ge rfl (fun hc => ?_) (fun hc => ?_)
  · replace h := h.1 hc
    refine rn_aload_n rfl rfl ?_
    refine rn_dup rfl rfl ?_
    refine rn_getfield rfl rfl rfl ?_
    refine rn_iconst rfl ?_
    refine rn_iadd rfl ?_
    refine rn_putfield (S' := (us S 28 5 ((S 28 5) + 1))) rfl rfl (Nat.le_of_ble_eq_true rfl) (Or.inl rfl) rfl ?_
    refine rn_iload_n rfl rfl ?_
    exact rn_ireturn rfl rfl rfl h
  · replace h := h.2 hc
    refine rn_aload_n rfl rfl ?_
    refine rn_getfield rfl rfl rfl ?_
    refine rn_aload_n rfl rfl ?_
    refine rn_getfield rfl rfl rfl ?_
    refine rn_virtual rfl (Nat.le_of_ble_eq_true rfl) (Nat.le_of_ble_eq_true rfl) rfl rfl (as := [.ref 19, .int (S 28 5)]) (rest := []) rfl rfl rfl (cs_mono h (fun S1 v1 h => ?_))
    obtain ⟨r1, rfl, h⟩ := h
    refine rn_static rfl (Nat.le_of_ble_eq_true rfl) (Nat.le_of_ble_eq_true rfl) rfl rfl (as := [.int r1]) (rest := []) rfl rfl (cs_mono h (fun S2 v2 h => ?_))
    obtain ⟨r2, rfl, h⟩ := h
    refine rn_if_eq rfl (fun hc => ?_) (fun hc => ?_)
    · replace h := h.1 hc
      refine rn_aload_n rfl rfl ?_
      refine rn_dup rfl rfl ?_
      refine rn_getfield rfl rfl rfl ?_
      refine rn_iconst rfl ?_
      refine rn_iadd rfl ?_
      refine rn_putfield (S' := (us S2 28 5 ((S2 28 5) + 1))) rfl rfl (Nat.le_of_ble_eq_true rfl) (Or.inl rfl) rfl ?_
      refine rn_iload_n rfl rfl ?_
      exact rn_ireturn rfl rfl rfl h
    · replace h := h.2 hc
      refine rn_aload_n rfl rfl ?_
      refine rn_iload_n rfl rfl ?_
      refine rn_iload_n rfl rfl ?_
      refine rn_virtual rfl (Nat.le_of_ble_eq_true rfl) (Nat.le_of_ble_eq_true rfl) rfl rfl (as := [.ref 28, .int a2, .int a1]) (rest := []) rfl rfl rfl (cs_mono h (fun S3 v3 h => ?_))
      obtain ⟨rfl, h⟩ := h
      refine rn_iinc rfl rfl rfl ?_
      refine rn_goto rfl ?_
      exact h
def w_77 (xs : Nat × (Nat → Int32)) (d : Nat) (K : Sv → Option Value → Prop) (a1 : Int32) (S : Sv) : Prop :=
  (a1 ≤ 10 → (CS xs d 50 S [.ref 19, .int ((S 28 5) + 1)] (fun S1 v1 => ∃ r1 : Int32, v1 = some (.int r1) ∧ (CS xs d 32 S1 [.ref 8, .int (r1 - 97)] (fun S2 v2 => ∃ r2 : Int32, v2 = some (.int r2) ∧ ((¬ r2 = (-1) → (R_77_45 xs d K a1 r2 S2)) ∧ (¬ (¬ r2 = (-1)) → (CS xs d 76 S2 [.ref 28, .int (S2 28 5)] (fun S3 v3 => v3 = none ∧ (R_77_45 xs d K a1 r2 S3)))))))))) ∧ (¬ (a1 ≤ 10) → (K S (some (.int (-1)))))
set_option maxRecDepth 100000 in
set_option maxHeartbeats 4000000 in
theorem c_77 {xs : Nat × (Nat → Int32)} {d : Nat} {K : Sv → Option Value → Prop} {a1 : Int32} {S : Sv} (h : w_77 xs d K a1 S) : CS xs (d + 1) 77 S [.ref 28, .int a1] K := by
  unfold w_77 at h
  refine cs_in rfl rfl rfl rfl ?_
  refine rn_iload_n rfl rfl ?_
  refine rn_bipush rfl ?_
  refine rn_icmp_le rfl (fun hc => ?_) (fun hc => ?_)
  · replace h := h.1 hc
    refine rn_aload_n rfl rfl ?_
    refine rn_getfield rfl rfl rfl ?_
    refine rn_aload_n rfl rfl ?_
    refine rn_getfield rfl rfl rfl ?_
    refine rn_aload_n rfl rfl ?_
    refine rn_getfield rfl rfl rfl ?_
    refine rn_iconst rfl ?_
    refine rn_iadd rfl ?_
    refine rn_virtual rfl (Nat.le_of_ble_eq_true rfl) (Nat.le_of_ble_eq_true rfl) rfl rfl (as := [.ref 19, .int ((S 28 5) + 1)]) (rest := [.ref 8]) rfl rfl rfl (cs_mono h (fun S1 v1 h => ?_))
    obtain ⟨r1, rfl, h⟩ := h
    refine rn_bipush rfl ?_
    refine rn_isub rfl ?_
    refine rn_virtual rfl (Nat.le_of_ble_eq_true rfl) (Nat.le_of_ble_eq_true rfl) rfl rfl (as := [.ref 8, .int (r1 - 97)]) (rest := []) rfl rfl rfl (cs_mono h (fun S2 v2 h => ?_))
    obtain ⟨r2, rfl, h⟩ := h
    refine rn_istore_n rfl rfl ?_
    refine rn_iload_n rfl rfl ?_
    refine rn_iconst rfl ?_
    refine rn_icmp_ne rfl (fun hc => ?_) (fun hc => ?_)
    · replace h := h.1 hc
      exact h _
    · replace h := h.2 hc
      refine rn_aload_n rfl rfl ?_
      refine rn_aload_n rfl rfl ?_
      refine rn_getfield rfl rfl rfl ?_
      refine rn_virtual rfl (Nat.le_of_ble_eq_true rfl) (Nat.le_of_ble_eq_true rfl) rfl rfl (as := [.ref 28, .int (S2 28 5)]) (rest := []) rfl rfl rfl (cs_mono h (fun S3 v3 h => ?_))
      obtain ⟨rfl, h⟩ := h
      exact h _
  · replace h := h.2 hc
    refine rn_iconst rfl ?_
    exact rn_ireturn rfl rfl rfl h
-- ReplayedBeans$Replay.replayNaming(I)V (number 78)
def w_78 (xs : Nat × (Nat → Int32)) (d : Nat) (K : Sv → Option Value → Prop) (a1 : Int32) (S : Sv) : Prop :=
  CS xs d 83 (us S 28 5 ((S 28 5) + 1)) [.ref 28, .int 2] (fun S1 v1 => ∃ r1 : Int32, v1 = some (.int r1) ∧ ((a1 = (-1) → (CS xs d 76 S1 [.ref 28, .int (S 28 5)] (fun S2 v2 => v2 = none ∧ (K S2 none)))) ∧ (¬ (a1 = (-1)) → (∃ j3 : Nat, j3 < 100 ∧ r1 = nI j3 ∧ (((S1 29 j3) = (-1) → (∃ j4 : Nat, j4 < 100 ∧ r1 = nI j4 ∧ (K (us S1 29 j4 a1) none))) ∧ (¬ ((S1 29 j3) = (-1)) → (CS xs d 76 S1 [.ref 28, .int (S 28 5)] (fun S5 v5 => v5 = none ∧ (K S5 none)))))))))
set_option maxRecDepth 100000 in
set_option maxHeartbeats 4000000 in
theorem c_78 {xs : Nat × (Nat → Int32)} {d : Nat} {K : Sv → Option Value → Prop} {a1 : Int32} {S : Sv} (h : w_78 xs d K a1 S) : CS xs (d + 1) 78 S [.ref 28, .int a1] K := by
  unfold w_78 at h
  refine cs_in rfl rfl rfl rfl ?_
  refine rn_aload_n rfl rfl ?_
  refine rn_getfield rfl rfl rfl ?_
  refine rn_istore_n rfl rfl ?_
  refine rn_aload_n rfl rfl ?_
  refine rn_dup rfl rfl ?_
  refine rn_getfield rfl rfl rfl ?_
  refine rn_iconst rfl ?_
  refine rn_iadd rfl ?_
  refine rn_putfield (S' := (us S 28 5 ((S 28 5) + 1))) rfl rfl (Nat.le_of_ble_eq_true rfl) (Or.inl rfl) rfl ?_
  refine rn_aload_n rfl rfl ?_
  refine rn_iconst rfl ?_
  refine rn_virtual rfl (Nat.le_of_ble_eq_true rfl) (Nat.le_of_ble_eq_true rfl) rfl rfl (as := [.ref 28, .int 2]) (rest := []) rfl rfl rfl (cs_mono h (fun S1 v1 h => ?_))
  obtain ⟨r1, rfl, h⟩ := h
  refine rn_istore_n rfl rfl ?_
  refine rn_iload_n rfl rfl ?_
  refine rn_iconst rfl ?_
  refine rn_icmp_eq rfl (fun hc => ?_) (fun hc => ?_)
  · replace h := h.1 hc
    refine rn_aload_n rfl rfl ?_
    refine rn_iload_n rfl rfl ?_
    refine rn_virtual rfl (Nat.le_of_ble_eq_true rfl) (Nat.le_of_ble_eq_true rfl) rfl rfl (as := [.ref 28, .int (S 28 5)]) (rest := []) rfl rfl rfl (cs_mono h (fun S2 v2 h => ?_))
    obtain ⟨rfl, h⟩ := h
    refine rn_goto rfl ?_
    exact rn_return rfl rfl h
  · replace h := h.2 hc
    refine rn_aload_n rfl rfl ?_
    refine rn_getfield rfl rfl rfl ?_
    refine rn_iload_n rfl rfl ?_
    obtain ⟨j3, hj3, ej3, h⟩ := h
    refine rn_iaload (j := j3) rfl rfl (Nat.le_of_ble_eq_true rfl) ej3 hj3 ?_
    refine rn_iconst rfl ?_
    refine rn_icmp_eq rfl (fun hc => ?_) (fun hc => ?_)
    · replace h := h.1 hc
      refine rn_aload_n rfl rfl ?_
      refine rn_getfield rfl rfl rfl ?_
      refine rn_iload_n rfl rfl ?_
      refine rn_iload_n rfl rfl ?_
      obtain ⟨j4, hj4, ej4, h⟩ := h
      refine rn_iastore (j := j4) (S' := (us S1 29 j4 a1)) rfl rfl (Nat.le_of_ble_eq_true rfl) ej4 hj4 rfl ?_
      exact rn_return rfl rfl h
    · replace h := h.2 hc
      refine rn_aload_n rfl rfl ?_
      refine rn_iload_n rfl rfl ?_
      refine rn_virtual rfl (Nat.le_of_ble_eq_true rfl) (Nat.le_of_ble_eq_true rfl) rfl rfl (as := [.ref 28, .int (S 28 5)]) (rest := []) rfl rfl rfl (cs_mono h (fun S5 v5 h => ?_))
      obtain ⟨rfl, h⟩ := h
      refine rn_goto rfl ?_
      exact rn_return rfl rfl h
-- ReplayedBeans$Replay.replayStatement(II)V (number 79)
def w_79 (xs : Nat × (Nat → Int32)) (d : Nat) (K : Sv → Option Value → Prop) (a1 a2 : Int32) (S : Sv) : Prop :=
  CS xs d 50 S [.ref 19, .int (S 28 5)] (fun S1 v1 => ∃ r1 : Int32, v1 = some (.int r1) ∧ (CS xs d 71 (us S1 28 5 ((S1 28 5) + 2)) [.int r1] (fun S2 v2 => ∃ r2 : Int32, v2 = some (.int r2) ∧ ((r2 = 0 → (CS xs d 81 S2 [.ref 28, .int a2] (fun S3 v3 => ∃ r3 : Int32, v3 = some (.int r3) ∧ (CS xs d 36 S3 [.ref 8, .int a1, .int (r1 - 112), .int r3] (fun S4 v4 => ∃ r4 : Int32, v4 = some (.int r4) ∧ ((¬ r4 = 0 → (K S4 none)) ∧ (¬ (¬ r4 = 0) → (CS xs d 76 S4 [.ref 28, .int (S 28 5)] (fun S5 v5 => v5 = none ∧ (K S5 none)))))))))) ∧ (¬ (r2 = 0) → (CS xs d 80 S2 [.ref 28] (fun S6 v6 => ∃ r6 : Int32, v6 = some (.int r6) ∧ (CS xs d 35 S6 [.ref 8, .int a1, .int (r1 - 120), .int r6] (fun S7 v7 => ∃ r7 : Int32, v7 = some (.int r7) ∧ ((¬ r7 = 0 → (K S7 none)) ∧ (¬ (¬ r7 = 0) → (CS xs d 76 S7 [.ref 28, .int (S 28 5)] (fun S8 v8 => v8 = none ∧ (K S8 none))))))))))))))
set_option maxRecDepth 100000 in
set_option maxHeartbeats 4000000 in
theorem c_79 {xs : Nat × (Nat → Int32)} {d : Nat} {K : Sv → Option Value → Prop} {a1 a2 : Int32} {S : Sv} (h : w_79 xs d K a1 a2 S) : CS xs (d + 1) 79 S [.ref 28, .int a1, .int a2] K := by
  unfold w_79 at h
  refine cs_in rfl rfl rfl rfl ?_
  refine rn_aload_n rfl rfl ?_
  refine rn_getfield rfl rfl rfl ?_
  refine rn_istore_n rfl rfl ?_
  refine rn_aload_n rfl rfl ?_
  refine rn_getfield rfl rfl rfl ?_
  refine rn_aload_n rfl rfl ?_
  refine rn_getfield rfl rfl rfl ?_
  refine rn_virtual rfl (Nat.le_of_ble_eq_true rfl) (Nat.le_of_ble_eq_true rfl) rfl rfl (as := [.ref 19, .int (S 28 5)]) (rest := []) rfl rfl rfl (cs_mono h (fun S1 v1 h => ?_))
  obtain ⟨r1, rfl, h⟩ := h
  refine rn_istore rfl rfl ?_
  refine rn_aload_n rfl rfl ?_
  refine rn_dup rfl rfl ?_
  refine rn_getfield rfl rfl rfl ?_
  refine rn_iconst rfl ?_
  refine rn_iadd rfl ?_
  refine rn_putfield (S' := (us S1 28 5 ((S1 28 5) + 2))) rfl rfl (Nat.le_of_ble_eq_true rfl) (Or.inl rfl) rfl ?_
  refine rn_iload rfl rfl ?_
  refine rn_static rfl (Nat.le_of_ble_eq_true rfl) (Nat.le_of_ble_eq_true rfl) rfl rfl (as := [.int r1]) (rest := []) rfl rfl (cs_mono h (fun S2 v2 h => ?_))
  obtain ⟨r2, rfl, h⟩ := h
  refine rn_if_eq rfl (fun hc => ?_) (fun hc => ?_)
  · replace h := h.1 hc
    refine rn_aload_n rfl rfl ?_
    refine rn_getfield rfl rfl rfl ?_
    refine rn_iload_n rfl rfl ?_
    refine rn_iload rfl rfl ?_
    refine rn_bipush rfl ?_
    refine rn_isub rfl ?_
    refine rn_aload_n rfl rfl ?_
    refine rn_iload_n rfl rfl ?_
    refine rn_virtual rfl (Nat.le_of_ble_eq_true rfl) (Nat.le_of_ble_eq_true rfl) rfl rfl (as := [.ref 28, .int a2]) (rest := [.int (r1 - 112), .int a1, .ref 8]) rfl rfl rfl (cs_mono h (fun S3 v3 h => ?_))
    obtain ⟨r3, rfl, h⟩ := h
    refine rn_virtual rfl (Nat.le_of_ble_eq_true rfl) (Nat.le_of_ble_eq_true rfl) rfl rfl (as := [.ref 8, .int a1, .int (r1 - 112), .int r3]) (rest := []) rfl rfl rfl (cs_mono h (fun S4 v4 h => ?_))
    obtain ⟨r4, rfl, h⟩ := h
    refine rn_istore rfl rfl ?_
    refine rn_iload rfl rfl ?_
    refine rn_if_ne rfl (fun hc => ?_) (fun hc => ?_)
    · replace h := h.1 hc
      exact rn_return rfl rfl h
    · replace h := h.2 hc
      refine rn_aload_n rfl rfl ?_
      refine rn_iload_n rfl rfl ?_
      refine rn_virtual rfl (Nat.le_of_ble_eq_true rfl) (Nat.le_of_ble_eq_true rfl) rfl rfl (as := [.ref 28, .int (S 28 5)]) (rest := []) rfl rfl rfl (cs_mono h (fun S5 v5 h => ?_))
      obtain ⟨rfl, h⟩ := h
      exact rn_return rfl rfl h
  · replace h := h.2 hc
    refine rn_aload_n rfl rfl ?_
    refine rn_getfield rfl rfl rfl ?_
    refine rn_iload_n rfl rfl ?_
    refine rn_iload rfl rfl ?_
    refine rn_bipush rfl ?_
    refine rn_isub rfl ?_
    refine rn_aload_n rfl rfl ?_
    refine rn_virtual rfl (Nat.le_of_ble_eq_true rfl) (Nat.le_of_ble_eq_true rfl) rfl rfl (as := [.ref 28]) (rest := [.int (r1 - 120), .int a1, .ref 8]) rfl rfl rfl (cs_mono h (fun S6 v6 h => ?_))
    obtain ⟨r6, rfl, h⟩ := h
    refine rn_virtual rfl (Nat.le_of_ble_eq_true rfl) (Nat.le_of_ble_eq_true rfl) rfl rfl (as := [.ref 8, .int a1, .int (r1 - 120), .int r6]) (rest := []) rfl rfl rfl (cs_mono h (fun S7 v7 h => ?_))
    obtain ⟨r7, rfl, h⟩ := h
    refine rn_istore rfl rfl ?_
    refine rn_goto rfl ?_
    refine rn_iload rfl rfl ?_
    refine rn_if_ne rfl (fun hc => ?_) (fun hc => ?_)
    · replace h := h.1 hc
      exact rn_return rfl rfl h
    · replace h := h.2 hc
      refine rn_aload_n rfl rfl ?_
      refine rn_iload_n rfl rfl ?_
      refine rn_virtual rfl (Nat.le_of_ble_eq_true rfl) (Nat.le_of_ble_eq_true rfl) rfl rfl (as := [.ref 28, .int (S 28 5)]) (rest := []) rfl rfl rfl (cs_mono h (fun S8 v8 h => ?_))
      obtain ⟨rfl, h⟩ := h
      exact rn_return rfl rfl h
-- ReplayedBeans$Replay.replayNumber()I (number 80)
def R_80_36 (xs : Nat × (Nat → Int32)) (d : Nat) (K : Sv → Option Value → Prop) (a1 : Int32) (S : Sv) : Prop := ∀ u2 : Option Value, RN xs d 80 K 36 [some (.ref 28), some (.int a1), u2] [] S
def w_80_36 (xs : Nat × (Nat → Int32)) (d : Nat) (K : Sv → Option Value → Prop) (a1 : Int32) (S : Sv) : Prop :=
  CS xs d 83 S [.ref 28, .int 5] (fun S1 v1 => ∃ r1 : Int32, v1 = some (.int r1) ∧ ((a1 = 0 → (K S1 (some (.int r1)))) ∧ (¬ (a1 = 0) → (K S1 (some (.int (-r1)))))))
set_option maxRecDepth 100000 in
set_option maxHeartbeats 4000000 in
theorem h_80_36 {xs : Nat × (Nat → Int32)} {d : Nat} {K : Sv → Option Value → Prop} {a1 : Int32} {S : Sv} (h : w_80_36 xs d K a1 S) : R_80_36 xs d K a1 S := by
  unfold w_80_36 at h
  unfold R_80_36
  intro u2
  refine rn_aload_n rfl rfl ?_
  refine rn_iconst rfl ?_
  refine rn_virtual rfl (Nat.le_of_ble_eq_true rfl) (Nat.le_of_ble_eq_true rfl) rfl rfl (as := [.ref 28, .int 5]) (rest := []) rfl rfl rfl (cs_mono h (fun S1 v1 h => ?_))
  obtain ⟨r1, rfl, h⟩ := h
  refine rn_istore_n rfl rfl ?_
  refine rn_iload_n rfl rfl ?_
  refine rn_if_eq rfl (fun hc => ?_) (fun hc => ?_)
  · replace h := h.1 hc
    refine rn_iload_n rfl rfl ?_
    exact rn_ireturn rfl rfl rfl h
  · replace h := h.2 hc
    refine rn_iload_n rfl rfl ?_
    refine rn_ineg rfl ?_
    refine rn_goto rfl ?_
    exact rn_ireturn rfl rfl rfl h
def w_80 (xs : Nat × (Nat → Int32)) (d : Nat) (K : Sv → Option Value → Prop) (S : Sv) : Prop :=
  CS xs d 50 S [.ref 19, .int (S 28 5)] (fun S1 v1 => ∃ r1 : Int32, v1 = some (.int r1) ∧ ((¬ r1 = 45 → (R_80_36 xs d K 0 S1)) ∧ (¬ (¬ r1 = 45) → (R_80_36 xs d K 1 (us S1 28 5 ((S1 28 5) + 1))))))
set_option maxRecDepth 100000 in
set_option maxHeartbeats 4000000 in
theorem c_80 {xs : Nat × (Nat → Int32)} {d : Nat} {K : Sv → Option Value → Prop} {S : Sv} (h : w_80 xs d K S) : CS xs (d + 1) 80 S [.ref 28] K := by
  unfold w_80 at h
  refine cs_in rfl rfl rfl rfl ?_
  refine rn_aload_n rfl rfl ?_
  refine rn_getfield rfl rfl rfl ?_
  refine rn_aload_n rfl rfl ?_
  refine rn_getfield rfl rfl rfl ?_
  refine rn_virtual rfl (Nat.le_of_ble_eq_true rfl) (Nat.le_of_ble_eq_true rfl) rfl rfl (as := [.ref 19, .int (S 28 5)]) (rest := []) rfl rfl rfl (cs_mono h (fun S1 v1 h => ?_))
  obtain ⟨r1, rfl, h⟩ := h
  refine rn_bipush rfl ?_
  refine rn_icmp_ne rfl (fun hc => ?_) (fun hc => ?_)
  · replace h := h.1 hc
    refine rn_iconst rfl ?_
    refine rn_istore_n rfl rfl ?_
    refine rn_iload_n rfl rfl ?_
    refine rn_if_eq rfl (fun _ => ?_) (fun hc => absurd (by decide) hc)
    exact h _
  · replace h := h.2 hc
    refine rn_iconst rfl ?_
    refine rn_goto rfl ?_
    refine rn_istore_n rfl rfl ?_
    refine rn_iload_n rfl rfl ?_
    refine rn_if_eq rfl (fun hc => absurd hc (by decide)) (fun _ => ?_)
    refine rn_aload_n rfl rfl ?_
    refine rn_dup rfl rfl ?_
    refine rn_getfield rfl rfl rfl ?_
    refine rn_iconst rfl ?_
    refine rn_iadd rfl ?_
    refine rn_putfield (S' := (us S1 28 5 ((S1 28 5) + 1))) rfl rfl (Nat.le_of_ble_eq_true rfl) (Or.inl rfl) rfl ?_
    exact h _
-- ReplayedBeans$Replay.replayLinkValue(I)I (number 81)
def w_81 (xs : Nat × (Nat → Int32)) (d : Nat) (K : Sv → Option Value → Prop) (a1 : Int32) (S : Sv) : Prop :=
  CS xs d 50 S [.ref 19, .int (S 28 5)] (fun S1 v1 => ∃ r1 : Int32, v1 = some (.int r1) ∧ ((¬ r1 = 40 → ((¬ r1 = 64 → (K (us S1 28 5 ((S1 28 5) + 1)) (some (.int (-1))))) ∧ (¬ (¬ r1 = 64) → (CS xs d 83 (us S1 28 5 ((S1 28 5) + 1)) [.ref 28, .int 2] (fun S2 v2 => ∃ r2 : Int32, v2 = some (.int r2) ∧ (∃ j3 : Nat, j3 < 100 ∧ r2 = nI j3 ∧ (CS xs d 82 S2 [.ref 28, .int (S2 29 j3)] (fun S4 v4 => ∃ r4 : Int32, v4 = some (.int r4) ∧ (K S4 (some (.int r4))))))))))) ∧ (¬ (¬ r1 = 40) → (CS xs d 77 S1 [.ref 28, .int (a1 + 1)] (fun S5 v5 => ∃ r5 : Int32, v5 = some (.int r5) ∧ (CS xs d 82 S5 [.ref 28, .int r5] (fun S6 v6 => ∃ r6 : Int32, v6 = some (.int r6) ∧ (K S6 (some (.int r6))))))))))
set_option maxRecDepth 100000 in
set_option maxHeartbeats 4000000 in
theorem c_81 {xs : Nat × (Nat → Int32)} {d : Nat} {K : Sv → Option Value → Prop} {a1 : Int32} {S : Sv} (h : w_81 xs d K a1 S) : CS xs (d + 1) 81 S [.ref 28, .int a1] K := by
  unfold w_81 at h
  refine cs_in rfl rfl rfl rfl ?_
  refine rn_aload_n rfl rfl ?_
  refine rn_getfield rfl rfl rfl ?_
  refine rn_aload_n rfl rfl ?_
  refine rn_getfield rfl rfl rfl ?_
  refine rn_virtual rfl (Nat.le_of_ble_eq_true rfl) (Nat.le_of_ble_eq_true rfl) rfl rfl (as := [.ref 19, .int (S 28 5)]) (rest := []) rfl rfl rfl (cs_mono h (fun S1 v1 h => ?_))
  obtain ⟨r1, rfl, h⟩ := h
  refine rn_istore_n rfl rfl ?_
  refine rn_iload_n rfl rfl ?_
  refine rn_bipush rfl ?_
  refine rn_icmp_ne rfl (fun hc => ?_) (fun hc => ?_)
  · replace h := h.1 hc
    refine rn_aload_n rfl rfl ?_
    refine rn_dup rfl rfl ?_
    refine rn_getfield rfl rfl rfl ?_
    refine rn_iconst rfl ?_
    refine rn_iadd rfl ?_
    refine rn_putfield (S' := (us S1 28 5 ((S1 28 5) + 1))) rfl rfl (Nat.le_of_ble_eq_true rfl) (Or.inl rfl) rfl ?_
    refine rn_iload_n rfl rfl ?_
    refine rn_bipush rfl ?_
    refine rn_icmp_ne rfl (fun hc => ?_) (fun hc => ?_)
    · replace h := h.1 hc
      refine rn_iconst rfl ?_
      exact rn_ireturn rfl rfl rfl h
    · replace h := h.2 hc
      refine rn_aload_n rfl rfl ?_
      refine rn_aload_n rfl rfl ?_
      refine rn_getfield rfl rfl rfl ?_
      refine rn_aload_n rfl rfl ?_
      refine rn_iconst rfl ?_
      refine rn_virtual rfl (Nat.le_of_ble_eq_true rfl) (Nat.le_of_ble_eq_true rfl) rfl rfl (as := [.ref 28, .int 2]) (rest := [.ref 29, .ref 28]) rfl rfl rfl (cs_mono h (fun S2 v2 h => ?_))
      obtain ⟨r2, rfl, h⟩ := h
      obtain ⟨j3, hj3, ej3, h⟩ := h
      refine rn_iaload (j := j3) rfl rfl (Nat.le_of_ble_eq_true rfl) ej3 hj3 ?_
      refine rn_virtual rfl (Nat.le_of_ble_eq_true rfl) (Nat.le_of_ble_eq_true rfl) rfl rfl (as := [.ref 28, .int (S2 29 j3)]) (rest := []) rfl rfl rfl (cs_mono h (fun S4 v4 h => ?_))
      obtain ⟨r4, rfl, h⟩ := h
      exact rn_ireturn rfl rfl rfl h
  · replace h := h.2 hc
    refine rn_aload_n rfl rfl ?_
    refine rn_aload_n rfl rfl ?_
    refine rn_iload_n rfl rfl ?_
    refine rn_iconst rfl ?_
    refine rn_iadd rfl ?_
    refine rn_virtual rfl (Nat.le_of_ble_eq_true rfl) (Nat.le_of_ble_eq_true rfl) rfl rfl (as := [.ref 28, .int (a1 + 1)]) (rest := [.ref 28]) rfl rfl rfl (cs_mono h (fun S5 v5 h => ?_))
    obtain ⟨r5, rfl, h⟩ := h
    refine rn_virtual rfl (Nat.le_of_ble_eq_true rfl) (Nat.le_of_ble_eq_true rfl) rfl rfl (as := [.ref 28, .int r5]) (rest := []) rfl rfl rfl (cs_mono h (fun S6 v6 h => ?_))
    obtain ⟨r6, rfl, h⟩ := h
    exact rn_ireturn rfl rfl rfl h
-- ReplayedBeans$Replay.orFailed(I)I (number 82)
def w_82 (xs : Nat × (Nat → Int32)) (d : Nat) (K : Sv → Option Value → Prop) (a1 : Int32) (S : Sv) : Prop :=
  (¬ a1 = (-1) → (K S (some (.int a1)))) ∧ (¬ (¬ a1 = (-1)) → (K S (some (.int (-2)))))
set_option maxRecDepth 100000 in
set_option maxHeartbeats 4000000 in
theorem c_82 {xs : Nat × (Nat → Int32)} {d : Nat} {K : Sv → Option Value → Prop} {a1 : Int32} {S : Sv} (h : w_82 xs d K a1 S) : CS xs (d + 1) 82 S [.ref 28, .int a1] K := by
  unfold w_82 at h
  refine cs_in rfl rfl rfl rfl ?_
  refine rn_iload_n rfl rfl ?_
  refine rn_iconst rfl ?_
  refine rn_icmp_ne rfl (fun hc => ?_) (fun hc => ?_)
  · replace h := h.1 hc
    refine rn_iload_n rfl rfl ?_
    exact rn_ireturn rfl rfl rfl h
  · replace h := h.2 hc
    refine rn_bipush rfl ?_
    refine rn_goto rfl ?_
    exact rn_ireturn rfl rfl rfl h
-- ReplayedBeans$Replay.replayDigits(I)I (number 83)
def R_83_4 (xs : Nat × (Nat → Int32)) (d : Nat) (K : Sv → Option Value → Prop) (a1 a2 a3 : Int32) (S : Sv) : Prop := RN xs d 83 K 4 [some (.ref 28), some (.int a1), some (.int a2), some (.int a3)] [] S
def w_83_4 (xs : Nat × (Nat → Int32)) (d : Nat) (K : Sv → Option Value → Prop) (a1 a2 a3 : Int32) (S : Sv) : Prop :=
  (a1 ≤ a3 → (K S (some (.int a2)))) ∧ (¬ (a1 ≤ a3) → (CS xs d 50 S [.ref 19, .int (S 28 5)] (fun S1 v1 => ∃ r1 : Int32, v1 = some (.int r1) ∧ (CS xs d 70 S1 [.int r1] (fun S2 v2 => ∃ r2 : Int32, v2 = some (.int r2) ∧ ((r2 = 0 → (K S2 (some (.int a2)))) ∧ (¬ (r2 = 0) → (CS xs d 50 S2 [.ref 19, .int (S2 28 5)] (fun S3 v3 => ∃ r3 : Int32, v3 = some (.int r3) ∧ (R_83_4 xs d K a1 (((a2 * 10) + r3) - 48) (a3 + 1) (us S3 28 5 ((S3 28 5) + 1))))))))))))
set_option maxRecDepth 100000 in
set_option maxHeartbeats 4000000 in
theorem h_83_4 {xs : Nat × (Nat → Int32)} {d : Nat} {K : Sv → Option Value → Prop} {a1 a2 a3 : Int32} {S : Sv} (h : w_83_4 xs d K a1 a2 a3 S) : R_83_4 xs d K a1 a2 a3 S := by
  unfold w_83_4 at h
  unfold R_83_4
  refine rn_iload_n rfl rfl ?_
  refine rn_iload_n rfl rfl ?_
  refine rn_icmp_ge rfl (fun hc => ?_) (fun hc => ?_)
  · replace h := h.1 hc
    refine rn_iload_n rfl rfl ?_
    exact rn_ireturn rfl rfl rfl h
  · replace h := h.2 hc
    refine rn_aload_n rfl rfl ?_
    refine rn_getfield rfl rfl rfl ?_
    refine rn_aload_n rfl rfl ?_
    refine rn_getfield rfl rfl rfl ?_
    refine rn_virtual rfl (Nat.le_of_ble_eq_true rfl) (Nat.le_of_ble_eq_true rfl) rfl rfl (as := [.ref 19, .int (S 28 5)]) (rest := []) rfl rfl rfl (cs_mono h (fun S1 v1 h => ?_))
    obtain ⟨r1, rfl, h⟩ := h
    refine rn_static rfl (Nat.le_of_ble_eq_true rfl) (Nat.le_of_ble_eq_true rfl) rfl rfl (as := [.int r1]) (rest := []) rfl rfl (cs_mono h (fun S2 v2 h => ?_))
    obtain ⟨r2, rfl, h⟩ := h
    refine rn_if_eq rfl (fun hc => ?_) (fun hc => ?_)
    · replace h := h.1 hc
      refine rn_iload_n rfl rfl ?_
      exact rn_ireturn rfl rfl rfl h
    · replace h := h.2 hc
      refine rn_iload_n rfl rfl ?_
      refine rn_bipush rfl ?_
      refine rn_imul rfl ?_
      refine rn_aload_n rfl rfl ?_
      refine rn_getfield rfl rfl rfl ?_
      refine rn_aload_n rfl rfl ?_
      refine rn_getfield rfl rfl rfl ?_
      refine rn_virtual rfl (Nat.le_of_ble_eq_true rfl) (Nat.le_of_ble_eq_true rfl) rfl rfl (as := [.ref 19, .int (S2 28 5)]) (rest := [.int (a2 * 10)]) rfl rfl rfl (cs_mono h (fun S3 v3 h => ?_))
      obtain ⟨r3, rfl, h⟩ := h
      refine rn_iadd rfl ?_
      refine rn_bipush rfl ?_
      refine rn_isub rfl ?_
      refine rn_istore_n rfl rfl ?_
      refine rn_aload_n rfl rfl ?_
      refine rn_dup rfl rfl ?_
      refine rn_getfield rfl rfl rfl ?_
      refine rn_iconst rfl ?_
      refine rn_iadd rfl ?_
      refine rn_putfield (S' := (us S3 28 5 ((S3 28 5) + 1))) rfl rfl (Nat.le_of_ble_eq_true rfl) (Or.inl rfl) rfl ?_
      refine rn_iinc rfl rfl rfl ?_
      refine rn_goto rfl ?_
      exact h
def w_83 (xs : Nat × (Nat → Int32)) (d : Nat) (K : Sv → Option Value → Prop) (a1 : Int32) (S : Sv) : Prop :=
  R_83_4 xs d K a1 0 0 S
set_option maxRecDepth 100000 in
set_option maxHeartbeats 4000000 in
theorem c_83 {xs : Nat × (Nat → Int32)} {d : Nat} {K : Sv → Option Value → Prop} {a1 : Int32} {S : Sv} (h : w_83 xs d K a1 S) : CS xs (d + 1) 83 S [.ref 28, .int a1] K := by
  unfold w_83 at h
  refine cs_in rfl rfl rfl rfl ?_
  refine rn_iconst rfl ?_
  refine rn_istore_n rfl rfl ?_
  refine rn_iconst rfl ?_
  refine rn_istore_n rfl rfl ?_
  exact h
