-- ReplayedBeans$Text.add(C)Z (number 49)
def w_49_19 (xs : Nat × (Nat → Int32)) (d : Nat) (K : Sv → Option Value → Prop) (a1 : Int32) (S : Sv) : Prop :=
  (a1 < 32 → (K S (some (.int 0)))) ∧ (¬ (a1 < 32) → ((126 < a1 → (K S (some (.int 0)))) ∧ (¬ (126 < a1) → (((S 19 1) < 300 → (∃ j1 : Nat, j1 < 300 ∧ (S 19 1) = nI j1 ∧ (K (us (us S 20 j1 (vp_nar .char a1)) 19 1 ((S 19 1) + 1)) (some (.int 1))))) ∧ (¬ ((S 19 1) < 300) → (K S (some (.int 0))))))))
set_option maxRecDepth 100000 in
set_option maxHeartbeats 4000000 in
theorem c_49_19 {xs : Nat × (Nat → Int32)} {d : Nat} {K : Sv → Option Value → Prop} {a1 : Int32} {S : Sv} (h : w_49_19 xs d K a1 S) : CS xs (d + 1) 49 S [.ref 19, .int a1] K := by
  unfold w_49_19 at h
  refine cs_in rfl rfl rfl rfl ?_
  refine rn_iload_n rfl rfl ?_
  refine rn_bipush rfl ?_
  refine rn_icmp_lt rfl (fun hc => ?_) (fun hc => ?_)
  · replace h := h.1 hc
    refine rn_iconst rfl ?_
    exact rn_ireturn rfl rfl (by decide) h
  · replace h := h.2 hc
    refine rn_iload_n rfl rfl ?_
    refine rn_bipush rfl ?_
    refine rn_icmp_gt rfl (fun hc => ?_) (fun hc => ?_)
    · replace h := h.1 hc
      refine rn_iconst rfl ?_
      exact rn_ireturn rfl rfl (by decide) h
    · replace h := h.2 hc
      refine rn_aload_n rfl rfl ?_
      refine rn_getfield rfl rfl rfl ?_
      refine rn_sipush rfl ?_
      refine rn_icmp_lt rfl (fun hc => ?_) (fun hc => ?_)
      · replace h := h.1 hc
        refine rn_aload_n rfl rfl ?_
        refine rn_getfield rfl rfl rfl ?_
        refine rn_aload_n rfl rfl ?_
        refine rn_getfield rfl rfl rfl ?_
        refine rn_iload_n rfl rfl ?_
        obtain ⟨j1, hj1, ej1, h⟩ := h
        refine rn_castore (j := j1) (S' := (us S 20 j1 (vp_nar .char a1))) rfl rfl (Nat.le_of_ble_eq_true rfl) ej1 hj1 rfl rfl ?_
        refine rn_aload_n rfl rfl ?_
        refine rn_dup rfl rfl ?_
        refine rn_getfield rfl rfl rfl ?_
        refine rn_iconst rfl ?_
        refine rn_iadd rfl ?_
        refine rn_putfield (S' := (us (us S 20 j1 (vp_nar .char a1)) 19 1 ((S 19 1) + 1))) rfl rfl (Nat.le_of_ble_eq_true rfl) (Or.inl rfl) rfl ?_
        refine rn_iconst rfl ?_
        exact rn_ireturn rfl rfl (by decide) h
      · replace h := h.2 hc
        refine rn_iconst rfl ?_
        exact rn_ireturn rfl rfl (by decide) h
-- ReplayedBeans$Text.add(C)Z (number 49)
def w_49_22 (xs : Nat × (Nat → Int32)) (d : Nat) (K : Sv → Option Value → Prop) (a1 : Int32) (S : Sv) : Prop :=
  (a1 < 32 → (K S (some (.int 0)))) ∧ (¬ (a1 < 32) → ((126 < a1 → (K S (some (.int 0)))) ∧ (¬ (126 < a1) → (((S 22 1) < 300 → (∃ j1 : Nat, j1 < 300 ∧ (S 22 1) = nI j1 ∧ (K (us (us S 23 j1 (vp_nar .char a1)) 22 1 ((S 22 1) + 1)) (some (.int 1))))) ∧ (¬ ((S 22 1) < 300) → (K S (some (.int 0))))))))
set_option maxRecDepth 100000 in
set_option maxHeartbeats 4000000 in
theorem c_49_22 {xs : Nat × (Nat → Int32)} {d : Nat} {K : Sv → Option Value → Prop} {a1 : Int32} {S : Sv} (h : w_49_22 xs d K a1 S) : CS xs (d + 1) 49 S [.ref 22, .int a1] K := by
  unfold w_49_22 at h
  refine cs_in rfl rfl rfl rfl ?_
  refine rn_iload_n rfl rfl ?_
  refine rn_bipush rfl ?_
  refine rn_icmp_lt rfl (fun hc => ?_) (fun hc => ?_)
  · replace h := h.1 hc
    refine rn_iconst rfl ?_
    exact rn_ireturn rfl rfl (by decide) h
  · replace h := h.2 hc
    refine rn_iload_n rfl rfl ?_
    refine rn_bipush rfl ?_
    refine rn_icmp_gt rfl (fun hc => ?_) (fun hc => ?_)
    · replace h := h.1 hc
      refine rn_iconst rfl ?_
      exact rn_ireturn rfl rfl (by decide) h
    · replace h := h.2 hc
      refine rn_aload_n rfl rfl ?_
      refine rn_getfield rfl rfl rfl ?_
      refine rn_sipush rfl ?_
      refine rn_icmp_lt rfl (fun hc => ?_) (fun hc => ?_)
      · replace h := h.1 hc
        refine rn_aload_n rfl rfl ?_
        refine rn_getfield rfl rfl rfl ?_
        refine rn_aload_n rfl rfl ?_
        refine rn_getfield rfl rfl rfl ?_
        refine rn_iload_n rfl rfl ?_
        obtain ⟨j1, hj1, ej1, h⟩ := h
        refine rn_castore (j := j1) (S' := (us S 23 j1 (vp_nar .char a1))) rfl rfl (Nat.le_of_ble_eq_true rfl) ej1 hj1 rfl rfl ?_
        refine rn_aload_n rfl rfl ?_
        refine rn_dup rfl rfl ?_
        refine rn_getfield rfl rfl rfl ?_
        refine rn_iconst rfl ?_
        refine rn_iadd rfl ?_
        refine rn_putfield (S' := (us (us S 23 j1 (vp_nar .char a1)) 22 1 ((S 22 1) + 1))) rfl rfl (Nat.le_of_ble_eq_true rfl) (Or.inl rfl) rfl ?_
        refine rn_iconst rfl ?_
        exact rn_ireturn rfl rfl (by decide) h
      · replace h := h.2 hc
        refine rn_iconst rfl ?_
        exact rn_ireturn rfl rfl (by decide) h
-- ReplayedBeans$Text.codeAt(I)I (number 50)
def w_50_19 (xs : Nat × (Nat → Int32)) (d : Nat) (K : Sv → Option Value → Prop) (a1 : Int32) (S : Sv) : Prop :=
  (a1 < 1 → (K S (some (.int (-1))))) ∧ (¬ (a1 < 1) → (((S 19 1) < a1 → (K S (some (.int (-1))))) ∧ (¬ ((S 19 1) < a1) → (∃ j1 : Nat, j1 < 300 ∧ (a1 - 1) = nI j1 ∧ (K S (some (.int (S 20 j1))))))))
set_option maxRecDepth 100000 in
set_option maxHeartbeats 4000000 in
theorem c_50_19 {xs : Nat × (Nat → Int32)} {d : Nat} {K : Sv → Option Value → Prop} {a1 : Int32} {S : Sv} (h : w_50_19 xs d K a1 S) : CS xs (d + 1) 50 S [.ref 19, .int a1] K := by
  unfold w_50_19 at h
  refine cs_in rfl rfl rfl rfl ?_
  refine rn_iload_n rfl rfl ?_
  refine rn_iconst rfl ?_
  refine rn_icmp_lt rfl (fun hc => ?_) (fun hc => ?_)
  · replace h := h.1 hc
    refine rn_iconst rfl ?_
    exact rn_ireturn rfl rfl rfl h
  · replace h := h.2 hc
    refine rn_iload_n rfl rfl ?_
    refine rn_aload_n rfl rfl ?_
    refine rn_getfield rfl rfl rfl ?_
    refine rn_icmp_gt rfl (fun hc => ?_) (fun hc => ?_)
    · replace h := h.1 hc
      refine rn_iconst rfl ?_
      exact rn_ireturn rfl rfl rfl h
    · replace h := h.2 hc
      refine rn_aload_n rfl rfl ?_
      refine rn_getfield rfl rfl rfl ?_
      refine rn_iload_n rfl rfl ?_
      refine rn_iconst rfl ?_
      refine rn_isub rfl ?_
      obtain ⟨j1, hj1, ej1, h⟩ := h
      refine rn_caload (j := j1) rfl rfl (Nat.le_of_ble_eq_true rfl) ej1 hj1 ?_
      refine rn_goto rfl ?_
      exact rn_ireturn rfl rfl rfl h
-- ReplayedBeans$Text.codeAt(I)I (number 50)
def w_50_22 (xs : Nat × (Nat → Int32)) (d : Nat) (K : Sv → Option Value → Prop) (a1 : Int32) (S : Sv) : Prop :=
  (a1 < 1 → (K S (some (.int (-1))))) ∧ (¬ (a1 < 1) → (((S 22 1) < a1 → (K S (some (.int (-1))))) ∧ (¬ ((S 22 1) < a1) → (∃ j1 : Nat, j1 < 300 ∧ (a1 - 1) = nI j1 ∧ (K S (some (.int (S 23 j1))))))))
set_option maxRecDepth 100000 in
set_option maxHeartbeats 4000000 in
theorem c_50_22 {xs : Nat × (Nat → Int32)} {d : Nat} {K : Sv → Option Value → Prop} {a1 : Int32} {S : Sv} (h : w_50_22 xs d K a1 S) : CS xs (d + 1) 50 S [.ref 22, .int a1] K := by
  unfold w_50_22 at h
  refine cs_in rfl rfl rfl rfl ?_
  refine rn_iload_n rfl rfl ?_
  refine rn_iconst rfl ?_
  refine rn_icmp_lt rfl (fun hc => ?_) (fun hc => ?_)
  · replace h := h.1 hc
    refine rn_iconst rfl ?_
    exact rn_ireturn rfl rfl rfl h
  · replace h := h.2 hc
    refine rn_iload_n rfl rfl ?_
    refine rn_aload_n rfl rfl ?_
    refine rn_getfield rfl rfl rfl ?_
    refine rn_icmp_gt rfl (fun hc => ?_) (fun hc => ?_)
    · replace h := h.1 hc
      refine rn_iconst rfl ?_
      exact rn_ireturn rfl rfl rfl h
    · replace h := h.2 hc
      refine rn_aload_n rfl rfl ?_
      refine rn_getfield rfl rfl rfl ?_
      refine rn_iload_n rfl rfl ?_
      refine rn_iconst rfl ?_
      refine rn_isub rfl ?_
      obtain ⟨j1, hj1, ej1, h⟩ := h
      refine rn_caload (j := j1) rfl rfl (Nat.le_of_ble_eq_true rfl) ej1 hj1 ?_
      refine rn_goto rfl ?_
      exact rn_ireturn rfl rfl rfl h
-- ReplayedBeans$Text.copyFrom(LReplayedBeans$Text;)V (number 51)
def w_51_19 (xs : Nat × (Nat → Int32)) (d : Nat) (K : Sv → Option Value → Prop) (S : Sv) : Prop :=
  ∃ j1 : Nat, (S 22 1) = nI j1 ∧ j1 ≤ 300 ∧ (∀ i, i < j1 → fits .char (.int (S 23 i)) = true) ∧ (K (us (uf S 20 (va_cpy (S 23) (S 20) 0 0 j1)) 19 1 ((uf S 20 (va_cpy (S 23) (S 20) 0 0 j1)) 22 1)) none)
set_option maxRecDepth 100000 in
set_option maxHeartbeats 4000000 in
theorem c_51_19 {xs : Nat × (Nat → Int32)} {d : Nat} {K : Sv → Option Value → Prop} {S : Sv} (h : w_51_19 xs d K S) : CS xs (d + 1) 51 S [.ref 19, .ref 22] K := by
  unfold w_51_19 at h
  refine cs_in rfl rfl rfl rfl ?_
  refine rn_aload_n rfl rfl ?_
  refine rn_getfield rfl rfl rfl ?_
  refine rn_iconst rfl ?_
  refine rn_aload_n rfl rfl ?_
  refine rn_getfield rfl rfl rfl ?_
  refine rn_iconst rfl ?_
  refine rn_aload_n rfl rfl ?_
  refine rn_getfield rfl rfl rfl ?_
  obtain ⟨j1, ej1, hj1, hf, h⟩ := h
  refine rn_copy (nn := j1) (S' := (uf S 20 (va_cpy (S 23) (S 20) 0 0 j1))) rfl rfl rfl (Or.inr (Or.inr rfl)) rfl rfl ej1 hj1 hj1 (Nat.le_of_ble_eq_true rfl) hf (Nat.le_of_ble_eq_true rfl) rfl ?_
  refine rn_aload_n rfl rfl ?_
  refine rn_aload_n rfl rfl ?_
  refine rn_getfield rfl rfl rfl ?_
  refine rn_putfield (S' := (us (uf S 20 (va_cpy (S 23) (S 20) 0 0 j1)) 19 1 ((uf S 20 (va_cpy (S 23) (S 20) 0 0 j1)) 22 1))) rfl rfl (Nat.le_of_ble_eq_true rfl) (Or.inl rfl) rfl ?_
  exact rn_return rfl rfl h
