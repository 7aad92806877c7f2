-- ReplayedBeans$Kinds.isDefined(I)Z (number 23)
def w_23 (xs : Nat × (Nat → Int32)) (d : Nat) (K : Sv → Option Value → Prop) (a1 : Int32) (S : Sv) : Prop :=
  (a1 < 0 → (K S (some (.int 0)))) ∧ (¬ (a1 < 0) → ((4 ≤ a1 → (K S (some (.int 0)))) ∧ (¬ (4 ≤ a1) → (∃ j1 : Nat, j1 < 4 ∧ a1 = nI j1 ∧ (((S 2 j1) = 0 → (K S (some (.int 0)))) ∧ (¬ ((S 2 j1) = 0) → (K S (some (.int 1)))))))))
set_option maxRecDepth 100000 in
set_option maxHeartbeats 4000000 in
theorem c_23 {xs : Nat × (Nat → Int32)} {d : Nat} {K : Sv → Option Value → Prop} {a1 : Int32} {S : Sv} (h : w_23 xs d K a1 S) : CS xs (d + 1) 23 S [.ref 1, .int a1] K := by
  unfold w_23 at h
  refine cs_in rfl rfl rfl rfl ?_
  refine rn_iload_n rfl rfl ?_
  refine rn_if_lt rfl (fun hc => ?_) (fun hc => ?_)
  · replace h := h.1 hc
    refine rn_iconst rfl ?_
    exact rn_ireturn rfl rfl (by decide) h
  · replace h := h.2 hc
    refine rn_iload_n rfl rfl ?_
    refine rn_iconst rfl ?_
    refine rn_icmp_ge rfl (fun hc => ?_) (fun hc => ?_)
    · replace h := h.1 hc
      refine rn_iconst rfl ?_
      exact rn_ireturn rfl rfl (by decide) h
    · replace h := h.2 hc
      refine rn_aload_n rfl rfl ?_
      refine rn_getfield rfl rfl rfl ?_
      refine rn_iload_n rfl rfl ?_
      obtain ⟨j1, hj1, ej1, h⟩ := h
      refine rn_baload (j := j1) rfl rfl (Nat.le_of_ble_eq_true rfl) ej1 hj1 ?_
      refine rn_if_eq rfl (fun hc => ?_) (fun hc => ?_)
      · replace h := h.1 hc
        refine rn_iconst rfl ?_
        exact rn_ireturn rfl rfl (by decide) h
      · replace h := h.2 hc
        refine rn_iconst rfl ?_
        refine rn_goto rfl ?_
        exact rn_ireturn rfl rfl (by decide) h
-- ReplayedBeans$Kinds.hasNumber(II)Z (number 24)
def w_24 (xs : Nat × (Nat → Int32)) (d : Nat) (K : Sv → Option Value → Prop) (a1 a2 : Int32) (S : Sv) : Prop :=
  (a1 < 0 → (K S (some (.int 0)))) ∧ (¬ (a1 < 0) → ((4 ≤ a1 → (K S (some (.int 0)))) ∧ (¬ (4 ≤ a1) → ((a2 < 0 → (K S (some (.int 0)))) ∧ (¬ (a2 < 0) → (∃ j1 : Nat, j1 < 4 ∧ a1 = nI j1 ∧ (((S 3 j1) ≤ a2 → (K S (some (.int 0)))) ∧ (¬ ((S 3 j1) ≤ a2) → (K S (some (.int 1)))))))))))
set_option maxRecDepth 100000 in
set_option maxHeartbeats 4000000 in
theorem c_24 {xs : Nat × (Nat → Int32)} {d : Nat} {K : Sv → Option Value → Prop} {a1 a2 : Int32} {S : Sv} (h : w_24 xs d K a1 a2 S) : CS xs (d + 1) 24 S [.ref 1, .int a1, .int a2] K := by
  unfold w_24 at h
  refine cs_in rfl rfl rfl rfl ?_
  refine rn_iload_n rfl rfl ?_
  refine rn_if_lt rfl (fun hc => ?_) (fun hc => ?_)
  · replace h := h.1 hc
    refine rn_iconst rfl ?_
    exact rn_ireturn rfl rfl (by decide) h
  · replace h := h.2 hc
    refine rn_iload_n rfl rfl ?_
    refine rn_iconst rfl ?_
    refine rn_icmp_ge rfl (fun hc => ?_) (fun hc => ?_)
    · replace h := h.1 hc
      refine rn_iconst rfl ?_
      exact rn_ireturn rfl rfl (by decide) h
    · replace h := h.2 hc
      refine rn_iload_n rfl rfl ?_
      refine rn_if_lt rfl (fun hc => ?_) (fun hc => ?_)
      · replace h := h.1 hc
        refine rn_iconst rfl ?_
        exact rn_ireturn rfl rfl (by decide) h
      · replace h := h.2 hc
        refine rn_iload_n rfl rfl ?_
        refine rn_aload_n rfl rfl ?_
        refine rn_getfield rfl rfl rfl ?_
        refine rn_iload_n rfl rfl ?_
        obtain ⟨j1, hj1, ej1, h⟩ := h
        refine rn_iaload (j := j1) rfl rfl (Nat.le_of_ble_eq_true rfl) ej1 hj1 ?_
        refine rn_icmp_ge rfl (fun hc => ?_) (fun hc => ?_)
        · replace h := h.1 hc
          refine rn_iconst rfl ?_
          exact rn_ireturn rfl rfl (by decide) h
        · replace h := h.2 hc
          refine rn_iconst rfl ?_
          refine rn_goto rfl ?_
          exact rn_ireturn rfl rfl (by decide) h
-- ReplayedBeans$Kinds.hasLink(II)Z (number 25)
def w_25 (xs : Nat × (Nat → Int32)) (d : Nat) (K : Sv → Option Value → Prop) (a1 a2 : Int32) (S : Sv) : Prop :=
  (a1 < 0 → (K S (some (.int 0)))) ∧ (¬ (a1 < 0) → ((4 ≤ a1 → (K S (some (.int 0)))) ∧ (¬ (4 ≤ a1) → ((a2 < 0 → (K S (some (.int 0)))) ∧ (¬ (a2 < 0) → (∃ j1 : Nat, j1 < 4 ∧ a1 = nI j1 ∧ (((S 4 j1) ≤ a2 → (K S (some (.int 0)))) ∧ (¬ ((S 4 j1) ≤ a2) → (K S (some (.int 1)))))))))))
set_option maxRecDepth 100000 in
set_option maxHeartbeats 4000000 in
theorem c_25 {xs : Nat × (Nat → Int32)} {d : Nat} {K : Sv → Option Value → Prop} {a1 a2 : Int32} {S : Sv} (h : w_25 xs d K a1 a2 S) : CS xs (d + 1) 25 S [.ref 1, .int a1, .int a2] K := by
  unfold w_25 at h
  refine cs_in rfl rfl rfl rfl ?_
  refine rn_iload_n rfl rfl ?_
  refine rn_if_lt rfl (fun hc => ?_) (fun hc => ?_)
  · replace h := h.1 hc
    refine rn_iconst rfl ?_
    exact rn_ireturn rfl rfl (by decide) h
  · replace h := h.2 hc
    refine rn_iload_n rfl rfl ?_
    refine rn_iconst rfl ?_
    refine rn_icmp_ge rfl (fun hc => ?_) (fun hc => ?_)
    · replace h := h.1 hc
      refine rn_iconst rfl ?_
      exact rn_ireturn rfl rfl (by decide) h
    · replace h := h.2 hc
      refine rn_iload_n rfl rfl ?_
      refine rn_if_lt rfl (fun hc => ?_) (fun hc => ?_)
      · replace h := h.1 hc
        refine rn_iconst rfl ?_
        exact rn_ireturn rfl rfl (by decide) h
      · replace h := h.2 hc
        refine rn_iload_n rfl rfl ?_
        refine rn_aload_n rfl rfl ?_
        refine rn_getfield rfl rfl rfl ?_
        refine rn_iload_n rfl rfl ?_
        obtain ⟨j1, hj1, ej1, h⟩ := h
        refine rn_iaload (j := j1) rfl rfl (Nat.le_of_ble_eq_true rfl) ej1 hj1 ?_
        refine rn_icmp_ge rfl (fun hc => ?_) (fun hc => ?_)
        · replace h := h.1 hc
          refine rn_iconst rfl ?_
          exact rn_ireturn rfl rfl (by decide) h
        · replace h := h.2 hc
          refine rn_iconst rfl ?_
          refine rn_goto rfl ?_
          exact rn_ireturn rfl rfl (by decide) h
-- ReplayedBeans$Kinds.introduce(III)Z (number 26)
def w_26 (xs : Nat × (Nat → Int32)) (d : Nat) (K : Sv → Option Value → Prop) (a1 a2 a3 : Int32) (S : Sv) : Prop :=
  (a1 < 0 → (K S (some (.int 0)))) ∧ (¬ (a1 < 0) → ((4 ≤ a1 → (K S (some (.int 0)))) ∧ (¬ (4 ≤ a1) → (∃ j1 : Nat, j1 < 4 ∧ a1 = nI j1 ∧ (((S 2 j1) = 0 → ((a2 < 0 → (K S (some (.int 0)))) ∧ (¬ (a2 < 0) → ((a2 ≤ 3 → ((a3 < 0 → (K S (some (.int 0)))) ∧ (¬ (a3 < 0) → ((a3 ≤ 2 → (∃ j2 : Nat, j2 < 4 ∧ a1 = nI j2 ∧ (∃ j3 : Nat, j3 < 4 ∧ a1 = nI j3 ∧ (∃ j4 : Nat, j4 < 4 ∧ a1 = nI j4 ∧ (K (us (us (us S 2 j2 1) 3 j3 a2) 4 j4 a3) (some (.int 1))))))) ∧ (¬ (a3 ≤ 2) → (K S (some (.int 0)))))))) ∧ (¬ (a2 ≤ 3) → (K S (some (.int 0)))))))) ∧ (¬ ((S 2 j1) = 0) → (K S (some (.int 0)))))))))
set_option maxRecDepth 100000 in
set_option maxHeartbeats 4000000 in
theorem c_26 {xs : Nat × (Nat → Int32)} {d : Nat} {K : Sv → Option Value → Prop} {a1 a2 a3 : Int32} {S : Sv} (h : w_26 xs d K a1 a2 a3 S) : CS xs (d + 1) 26 S [.ref 1, .int a1, .int a2, .int a3] K := by
  unfold w_26 at h
  refine cs_in rfl rfl rfl rfl ?_
  refine rn_iload_n rfl rfl ?_
  refine rn_if_lt rfl (fun hc => ?_) (fun hc => ?_)
  · replace h := h.1 hc
    refine rn_iconst rfl ?_
    exact rn_ireturn rfl rfl (by decide) h
  · replace h := h.2 hc
    refine rn_iload_n rfl rfl ?_
    refine rn_iconst rfl ?_
    refine rn_icmp_ge rfl (fun hc => ?_) (fun hc => ?_)
    · replace h := h.1 hc
      refine rn_iconst rfl ?_
      exact rn_ireturn rfl rfl (by decide) h
    · replace h := h.2 hc
      refine rn_aload_n rfl rfl ?_
      refine rn_getfield rfl rfl rfl ?_
      refine rn_iload_n rfl rfl ?_
      obtain ⟨j1, hj1, ej1, h⟩ := h
      refine rn_baload (j := j1) rfl rfl (Nat.le_of_ble_eq_true rfl) ej1 hj1 ?_
      refine rn_if_eq rfl (fun hc => ?_) (fun hc => ?_)
      · replace h := h.1 hc
        refine rn_iload_n rfl rfl ?_
        refine rn_if_lt rfl (fun hc => ?_) (fun hc => ?_)
        · replace h := h.1 hc
          refine rn_iconst rfl ?_
          exact rn_ireturn rfl rfl (by decide) h
        · replace h := h.2 hc
          refine rn_iload_n rfl rfl ?_
          refine rn_iconst rfl ?_
          refine rn_icmp_le rfl (fun hc => ?_) (fun hc => ?_)
          · replace h := h.1 hc
            refine rn_iload_n rfl rfl ?_
            refine rn_if_lt rfl (fun hc => ?_) (fun hc => ?_)
            · replace h := h.1 hc
              refine rn_iconst rfl ?_
              exact rn_ireturn rfl rfl (by decide) h
            · replace h := h.2 hc
              refine rn_iload_n rfl rfl ?_
              refine rn_iconst rfl ?_
              refine rn_icmp_le rfl (fun hc => ?_) (fun hc => ?_)
              · replace h := h.1 hc
                refine rn_aload_n rfl rfl ?_
                refine rn_getfield rfl rfl rfl ?_
                refine rn_iload_n rfl rfl ?_
                refine rn_iconst rfl ?_
                obtain ⟨j2, hj2, ej2, h⟩ := h
                refine rn_bastore (j := j2) (S' := (us S 2 j2 1)) rfl rfl (Nat.le_of_ble_eq_true rfl) ej2 hj2 (by decide) rfl ?_
                refine rn_aload_n rfl rfl ?_
                refine rn_getfield rfl rfl rfl ?_
                refine rn_iload_n rfl rfl ?_
                refine rn_iload_n rfl rfl ?_
                obtain ⟨j3, hj3, ej3, h⟩ := h
                refine rn_iastore (j := j3) (S' := (us (us S 2 j2 1) 3 j3 a2)) rfl rfl (Nat.le_of_ble_eq_true rfl) ej3 hj3 rfl ?_
                refine rn_aload_n rfl rfl ?_
                refine rn_getfield rfl rfl rfl ?_
                refine rn_iload_n rfl rfl ?_
                refine rn_iload_n rfl rfl ?_
                obtain ⟨j4, hj4, ej4, h⟩ := h
                refine rn_iastore (j := j4) (S' := (us (us (us S 2 j2 1) 3 j3 a2) 4 j4 a3)) rfl rfl (Nat.le_of_ble_eq_true rfl) ej4 hj4 rfl ?_
                refine rn_iconst rfl ?_
                exact rn_ireturn rfl rfl (by decide) h
              · replace h := h.2 hc
                refine rn_iconst rfl ?_
                exact rn_ireturn rfl rfl (by decide) h
          · replace h := h.2 hc
            refine rn_iconst rfl ?_
            exact rn_ireturn rfl rfl (by decide) h
      · replace h := h.2 hc
        refine rn_iconst rfl ?_
        exact rn_ireturn rfl rfl (by decide) h
-- ReplayedBeans$Kinds.bound(IIIII)Z (number 27)
def w_27 (xs : Nat × (Nat → Int32)) (d : Nat) (K : Sv → Option Value → Prop) (a1 a2 a3 a4 a5 : Int32) (S : Sv) : Prop :=
  CS xs d 24 S [.ref 1, .int a1, .int a2] (fun S1 v1 => ∃ r1 : Int32, v1 = some (.int r1) ∧ ((¬ r1 = 0 → ((a4 < (-99999) → (K S1 (some (.int 0)))) ∧ (¬ (a4 < (-99999)) → ((a5 ≤ 99999 → ((a3 < a4 → (K S1 (some (.int 0)))) ∧ (¬ (a3 < a4) → ((a3 ≤ a5 → (∃ j2 : Nat, j2 < 12 ∧ ((a1 * 3) + a2) = nI j2 ∧ (∃ j3 : Nat, j3 < 12 ∧ ((a1 * 3) + a2) = nI j3 ∧ (∃ j4 : Nat, j4 < 12 ∧ ((a1 * 3) + a2) = nI j4 ∧ (K (us (us (us S1 5 j2 a3) 6 j3 a4) 7 j4 a5) (some (.int 1))))))) ∧ (¬ (a3 ≤ a5) → (K S1 (some (.int 0)))))))) ∧ (¬ (a5 ≤ 99999) → (K S1 (some (.int 0)))))))) ∧ (¬ (¬ r1 = 0) → (K S1 (some (.int 0))))))
set_option maxRecDepth 100000 in
set_option maxHeartbeats 4000000 in
theorem c_27 {xs : Nat × (Nat → Int32)} {d : Nat} {K : Sv → Option Value → Prop} {a1 a2 a3 a4 a5 : Int32} {S : Sv} (h : w_27 xs d K a1 a2 a3 a4 a5 S) : CS xs (d + 1) 27 S [.ref 1, .int a1, .int a2, .int a3, .int a4, .int a5] K := by
  unfold w_27 at h
  refine cs_in rfl rfl rfl rfl ?_
  refine rn_aload_n rfl rfl ?_
  refine rn_iload_n rfl rfl ?_
  refine rn_iload_n rfl rfl ?_
  refine rn_virtual rfl (Nat.le_of_ble_eq_true rfl) (Nat.le_of_ble_eq_true rfl) rfl rfl (as := [.ref 1, .int a1, .int a2]) (rest := []) rfl rfl rfl (cs_mono h (fun S1 v1 h => ?_))
  obtain ⟨r1, rfl, h⟩ := h
  refine rn_if_ne rfl (fun hc => ?_) (fun hc => ?_)
  · replace h := h.1 hc
    refine rn_iload rfl rfl ?_
    refine rn_ldc rfl ?_
    refine rn_icmp_lt rfl (fun hc => ?_) (fun hc => ?_)
    · replace h := h.1 hc
      refine rn_iconst rfl ?_
      exact rn_ireturn rfl rfl (by decide) h
    · replace h := h.2 hc
      refine rn_iload rfl rfl ?_
      refine rn_ldc rfl ?_
      refine rn_icmp_le rfl (fun hc => ?_) (fun hc => ?_)
      · replace h := h.1 hc
        refine rn_iload_n rfl rfl ?_
        refine rn_iload rfl rfl ?_
        refine rn_icmp_lt rfl (fun hc => ?_) (fun hc => ?_)
        · replace h := h.1 hc
          refine rn_iconst rfl ?_
          exact rn_ireturn rfl rfl (by decide) h
        · replace h := h.2 hc
          refine rn_iload_n rfl rfl ?_
          refine rn_iload rfl rfl ?_
          refine rn_icmp_le rfl (fun hc => ?_) (fun hc => ?_)
          · replace h := h.1 hc
            refine rn_iload_n rfl rfl ?_
            refine rn_iconst rfl ?_
            refine rn_imul rfl ?_
            refine rn_iload_n rfl rfl ?_
            refine rn_iadd rfl ?_
            refine rn_istore rfl rfl ?_
            refine rn_aload_n rfl rfl ?_
            refine rn_getfield rfl rfl rfl ?_
            refine rn_iload rfl rfl ?_
            refine rn_iload_n rfl rfl ?_
            obtain ⟨j2, hj2, ej2, h⟩ := h
            refine rn_iastore (j := j2) (S' := (us S1 5 j2 a3)) rfl rfl (Nat.le_of_ble_eq_true rfl) ej2 hj2 rfl ?_
            refine rn_aload_n rfl rfl ?_
            refine rn_getfield rfl rfl rfl ?_
            refine rn_iload rfl rfl ?_
            refine rn_iload rfl rfl ?_
            obtain ⟨j3, hj3, ej3, h⟩ := h
            refine rn_iastore (j := j3) (S' := (us (us S1 5 j2 a3) 6 j3 a4)) rfl rfl (Nat.le_of_ble_eq_true rfl) ej3 hj3 rfl ?_
            refine rn_aload_n rfl rfl ?_
            refine rn_getfield rfl rfl rfl ?_
            refine rn_iload rfl rfl ?_
            refine rn_iload rfl rfl ?_
            obtain ⟨j4, hj4, ej4, h⟩ := h
            refine rn_iastore (j := j4) (S' := (us (us (us S1 5 j2 a3) 6 j3 a4) 7 j4 a5)) rfl rfl (Nat.le_of_ble_eq_true rfl) ej4 hj4 rfl ?_
            refine rn_iconst rfl ?_
            exact rn_ireturn rfl rfl (by decide) h
          · replace h := h.2 hc
            refine rn_iconst rfl ?_
            exact rn_ireturn rfl rfl (by decide) h
      · replace h := h.2 hc
        refine rn_iconst rfl ?_
        exact rn_ireturn rfl rfl (by decide) h
  · replace h := h.2 hc
    refine rn_iconst rfl ?_
    exact rn_ireturn rfl rfl (by decide) h
-- ReplayedBeans$Kinds.defaultOf(II)I (number 28)
def w_28 (xs : Nat × (Nat → Int32)) (d : Nat) (K : Sv → Option Value → Prop) (a1 a2 : Int32) (S : Sv) : Prop :=
  CS xs d 24 S [.ref 1, .int a1, .int a2] (fun S1 v1 => ∃ r1 : Int32, v1 = some (.int r1) ∧ ((r1 = 0 → (K S1 (some (.int 0)))) ∧ (¬ (r1 = 0) → (∃ j2 : Nat, j2 < 12 ∧ ((a1 * 3) + a2) = nI j2 ∧ (K S1 (some (.int (S1 5 j2))))))))
set_option maxRecDepth 100000 in
set_option maxHeartbeats 4000000 in
theorem c_28 {xs : Nat × (Nat → Int32)} {d : Nat} {K : Sv → Option Value → Prop} {a1 a2 : Int32} {S : Sv} (h : w_28 xs d K a1 a2 S) : CS xs (d + 1) 28 S [.ref 1, .int a1, .int a2] K := by
  unfold w_28 at h
  refine cs_in rfl rfl rfl rfl ?_
  refine rn_aload_n rfl rfl ?_
  refine rn_iload_n rfl rfl ?_
  refine rn_iload_n rfl rfl ?_
  refine rn_virtual rfl (Nat.le_of_ble_eq_true rfl) (Nat.le_of_ble_eq_true rfl) rfl rfl (as := [.ref 1, .int a1, .int a2]) (rest := []) rfl rfl rfl (cs_mono h (fun S1 v1 h => ?_))
  obtain ⟨r1, rfl, h⟩ := h
  refine rn_if_eq rfl (fun hc => ?_) (fun hc => ?_)
  · replace h := h.1 hc
    refine rn_iconst rfl ?_
    exact rn_ireturn rfl rfl rfl h
  · replace h := h.2 hc
    refine rn_aload_n rfl rfl ?_
    refine rn_getfield rfl rfl rfl ?_
    refine rn_iload_n rfl rfl ?_
    refine rn_iconst rfl ?_
    refine rn_imul rfl ?_
    refine rn_iload_n rfl rfl ?_
    refine rn_iadd rfl ?_
    obtain ⟨j2, hj2, ej2, h⟩ := h
    refine rn_iaload (j := j2) rfl rfl (Nat.le_of_ble_eq_true rfl) ej2 hj2 ?_
    refine rn_goto rfl ?_
    exact rn_ireturn rfl rfl rfl h
-- ReplayedBeans$Kinds.allows(III)Z (number 29)
def w_29 (xs : Nat × (Nat → Int32)) (d : Nat) (K : Sv → Option Value → Prop) (a1 a2 a3 : Int32) (S : Sv) : Prop :=
  CS xs d 24 S [.ref 1, .int a1, .int a2] (fun S1 v1 => ∃ r1 : Int32, v1 = some (.int r1) ∧ ((¬ r1 = 0 → (∃ j2 : Nat, j2 < 12 ∧ ((a1 * 3) + a2) = nI j2 ∧ ((a3 < (S1 6 j2) → (K S1 (some (.int 0)))) ∧ (¬ (a3 < (S1 6 j2)) → (∃ j3 : Nat, j3 < 12 ∧ ((a1 * 3) + a2) = nI j3 ∧ (((S1 7 j3) < a3 → (K S1 (some (.int 0)))) ∧ (¬ ((S1 7 j3) < a3) → (K S1 (some (.int 1)))))))))) ∧ (¬ (¬ r1 = 0) → (K S1 (some (.int 0))))))
set_option maxRecDepth 100000 in
set_option maxHeartbeats 4000000 in
theorem c_29 {xs : Nat × (Nat → Int32)} {d : Nat} {K : Sv → Option Value → Prop} {a1 a2 a3 : Int32} {S : Sv} (h : w_29 xs d K a1 a2 a3 S) : CS xs (d + 1) 29 S [.ref 1, .int a1, .int a2, .int a3] K := by
  unfold w_29 at h
  refine cs_in rfl rfl rfl rfl ?_
  refine rn_aload_n rfl rfl ?_
  refine rn_iload_n rfl rfl ?_
  refine rn_iload_n rfl rfl ?_
  refine rn_virtual rfl (Nat.le_of_ble_eq_true rfl) (Nat.le_of_ble_eq_true rfl) rfl rfl (as := [.ref 1, .int a1, .int a2]) (rest := []) rfl rfl rfl (cs_mono h (fun S1 v1 h => ?_))
  obtain ⟨r1, rfl, h⟩ := h
  refine rn_if_ne rfl (fun hc => ?_) (fun hc => ?_)
  · replace h := h.1 hc
    refine rn_iload_n rfl rfl ?_
    refine rn_iconst rfl ?_
    refine rn_imul rfl ?_
    refine rn_iload_n rfl rfl ?_
    refine rn_iadd rfl ?_
    refine rn_istore rfl rfl ?_
    refine rn_iload_n rfl rfl ?_
    refine rn_aload_n rfl rfl ?_
    refine rn_getfield rfl rfl rfl ?_
    refine rn_iload rfl rfl ?_
    obtain ⟨j2, hj2, ej2, h⟩ := h
    refine rn_iaload (j := j2) rfl rfl (Nat.le_of_ble_eq_true rfl) ej2 hj2 ?_
    refine rn_icmp_lt rfl (fun hc => ?_) (fun hc => ?_)
    · replace h := h.1 hc
      refine rn_iconst rfl ?_
      exact rn_ireturn rfl rfl (by decide) h
    · replace h := h.2 hc
      refine rn_iload_n rfl rfl ?_
      refine rn_aload_n rfl rfl ?_
      refine rn_getfield rfl rfl rfl ?_
      refine rn_iload rfl rfl ?_
      obtain ⟨j3, hj3, ej3, h⟩ := h
      refine rn_iaload (j := j3) rfl rfl (Nat.le_of_ble_eq_true rfl) ej3 hj3 ?_
      refine rn_icmp_gt rfl (fun hc => ?_) (fun hc => ?_)
      · replace h := h.1 hc
        refine rn_iconst rfl ?_
        exact rn_ireturn rfl rfl (by decide) h
      · replace h := h.2 hc
        refine rn_iconst rfl ?_
        refine rn_goto rfl ?_
        exact rn_ireturn rfl rfl (by decide) h
  · replace h := h.2 hc
    refine rn_iconst rfl ?_
    exact rn_ireturn rfl rfl (by decide) h
