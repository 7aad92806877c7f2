-- ReplayedBeansModel.isKind(I)Z (number 85)
def w_85 (xs : Nat × (Nat → Int32)) (d : Nat) (K : Sv → Option Value → Prop) (a1 : Int32) (S : Sv) : Prop :=
  (a1 < 0 → (K S (some (.int 0)))) ∧ (¬ (a1 < 0) → ((3 < a1 → (K S (some (.int 0)))) ∧ (¬ (3 < a1) → (∃ j1 : Nat, j1 < 4 ∧ a1 = nI j1 ∧ (((S 32 j1) = 0 → (K S (some (.int 0)))) ∧ (¬ ((S 32 j1) = 0) → (K S (some (.int 1)))))))))
set_option maxRecDepth 100000 in
set_option maxHeartbeats 4000000 in
theorem c_85 {xs : Nat × (Nat → Int32)} {d : Nat} {K : Sv → Option Value → Prop} {a1 : Int32} {S : Sv} (h : w_85 xs d K a1 S) : CS xs (d + 1) 85 S [.ref 31, .int a1] K := by
  unfold w_85 at h
  refine cs_in rfl rfl rfl rfl ?_
  refine rn_iload_n rfl rfl ?_
  refine rn_if_lt rfl (fun hc => ?_) (fun hc => ?_)
  · replace h := h.1 hc
    refine rn_iconst rfl ?_
    exact rn_ireturn rfl rfl (by decide) h
  · replace h := h.2 hc
    refine rn_iload_n rfl rfl ?_
    refine rn_iconst rfl ?_
    refine rn_icmp_gt rfl (fun hc => ?_) (fun hc => ?_)
    · replace h := h.1 hc
      refine rn_iconst rfl ?_
      exact rn_ireturn rfl rfl (by decide) h
    · replace h := h.2 hc
      refine rn_aload_n rfl rfl ?_
      refine rn_getfield rfl rfl rfl ?_
      refine rn_iload_n rfl rfl ?_
      obtain ⟨j1, hj1, ej1, h⟩ := h
      refine rn_baload (j := j1) rfl rfl (Nat.le_of_ble_eq_true rfl) ej1 hj1 ?_
      refine rn_if_eq rfl (fun hc => ?_) (fun hc => ?_)
      · replace h := h.1 hc
        refine rn_iconst rfl ?_
        exact rn_ireturn rfl rfl (by decide) h
      · replace h := h.2 hc
        refine rn_iconst rfl ?_
        refine rn_goto rfl ?_
        exact rn_ireturn rfl rfl (by decide) h
-- ReplayedBeansModel.define(III)Z (number 86)
def R_86_64 (xs : Nat × (Nat → Int32)) (d : Nat) (K : Sv → Option Value → Prop) (a1 a4 : Int32) (S : Sv) : Prop := ∀ u2 u3 : Option Value, RN xs d 86 K 64 [some (.ref 31), some (.int a1), u2, u3, some (.int a4)] [] S
def w_86_64 (xs : Nat × (Nat → Int32)) (d : Nat) (K : Sv → Option Value → Prop) (a1 a4 : Int32) (S : Sv) : Prop :=
  (((3 * a1) + 3) ≤ a4 → (K S (some (.int 1)))) ∧ (¬ (((3 * a1) + 3) ≤ a4) → (∃ j1 : Nat, j1 < 12 ∧ a4 = nI j1 ∧ (∃ j2 : Nat, j2 < 12 ∧ a4 = nI j2 ∧ (∃ j3 : Nat, j3 < 12 ∧ a4 = nI j3 ∧ (R_86_64 xs d K a1 (a4 + 1) (us (us (us S 35 j1 0) 36 j2 (-1000)) 37 j3 1000))))))
set_option maxRecDepth 100000 in
set_option maxHeartbeats 4000000 in
theorem h_86_64 {xs : Nat × (Nat → Int32)} {d : Nat} {K : Sv → Option Value → Prop} {a1 a4 : Int32} {S : Sv} (h : w_86_64 xs d K a1 a4 S) : R_86_64 xs d K a1 a4 S := by
  unfold w_86_64 at h
  unfold R_86_64
  intro u2 u3
  refine rn_iload rfl rfl ?_
  refine rn_iconst rfl ?_
  refine rn_iload_n rfl rfl ?_
  refine rn_imul rfl ?_
  refine rn_iconst rfl ?_
  refine rn_iadd rfl ?_
  refine rn_icmp_ge rfl (fun hc => ?_) (fun hc => ?_)
  · replace h := h.1 hc
    refine rn_iconst rfl ?_
    exact rn_ireturn rfl rfl (by decide) h
  · replace h := h.2 hc
    refine rn_aload_n rfl rfl ?_
    refine rn_getfield rfl rfl rfl ?_
    refine rn_iload rfl rfl ?_
    refine rn_iconst rfl ?_
    obtain ⟨j1, hj1, ej1, h⟩ := h
    refine rn_iastore (j := j1) (S' := (us S 35 j1 0)) rfl rfl (Nat.le_of_ble_eq_true rfl) ej1 hj1 rfl ?_
    refine rn_aload_n rfl rfl ?_
    refine rn_getfield rfl rfl rfl ?_
    refine rn_iload rfl rfl ?_
    refine rn_sipush rfl ?_
    obtain ⟨j2, hj2, ej2, h⟩ := h
    refine rn_iastore (j := j2) (S' := (us (us S 35 j1 0) 36 j2 (-1000))) rfl rfl (Nat.le_of_ble_eq_true rfl) ej2 hj2 rfl ?_
    refine rn_aload_n rfl rfl ?_
    refine rn_getfield rfl rfl rfl ?_
    refine rn_iload rfl rfl ?_
    refine rn_sipush rfl ?_
    obtain ⟨j3, hj3, ej3, h⟩ := h
    refine rn_iastore (j := j3) (S' := (us (us (us S 35 j1 0) 36 j2 (-1000)) 37 j3 1000)) rfl rfl (Nat.le_of_ble_eq_true rfl) ej3 hj3 rfl ?_
    refine rn_iinc rfl rfl rfl ?_
    refine rn_goto rfl ?_
    exact h _ _
def w_86 (xs : Nat × (Nat → Int32)) (d : Nat) (K : Sv → Option Value → Prop) (a1 a2 a3 : Int32) (S : Sv) : Prop :=
  (a1 < 0 → (K S (some (.int 0)))) ∧ (¬ (a1 < 0) → ((3 < a1 → (K S (some (.int 0)))) ∧ (¬ (3 < a1) → (∃ j1 : Nat, j1 < 4 ∧ a1 = nI j1 ∧ ((¬ (S 32 j1) = 0 → (K S (some (.int 0)))) ∧ (¬ (¬ (S 32 j1) = 0) → ((a2 < 0 → (K S (some (.int 0)))) ∧ (¬ (a2 < 0) → ((3 < a2 → (K S (some (.int 0)))) ∧ (¬ (3 < a2) → ((a3 < 0 → (K S (some (.int 0)))) ∧ (¬ (a3 < 0) → ((a3 ≤ 2 → (∃ j2 : Nat, j2 < 4 ∧ a1 = nI j2 ∧ (∃ j3 : Nat, j3 < 4 ∧ a1 = nI j3 ∧ (∃ j4 : Nat, j4 < 4 ∧ a1 = nI j4 ∧ (R_86_64 xs d K a1 (3 * a1) (us (us (us S 32 j2 1) 33 j3 a2) 34 j4 a3)))))) ∧ (¬ (a3 ≤ 2) → (K S (some (.int 0)))))))))))))))))
set_option maxRecDepth 100000 in
set_option maxHeartbeats 4000000 in
theorem c_86 {xs : Nat × (Nat → Int32)} {d : Nat} {K : Sv → Option Value → Prop} {a1 a2 a3 : Int32} {S : Sv} (h : w_86 xs d K a1 a2 a3 S) : CS xs (d + 1) 86 S [.ref 31, .int a1, .int a2, .int a3] K := by
  unfold w_86 at h
  refine cs_in rfl rfl rfl rfl ?_
  refine rn_iload_n rfl rfl ?_
  refine rn_if_lt rfl (fun hc => ?_) (fun hc => ?_)
  · replace h := h.1 hc
    refine rn_iconst rfl ?_
    exact rn_ireturn rfl rfl (by decide) h
  · replace h := h.2 hc
    refine rn_iload_n rfl rfl ?_
    refine rn_iconst rfl ?_
    refine rn_icmp_gt rfl (fun hc => ?_) (fun hc => ?_)
    · replace h := h.1 hc
      refine rn_iconst rfl ?_
      exact rn_ireturn rfl rfl (by decide) h
    · replace h := h.2 hc
      refine rn_aload_n rfl rfl ?_
      refine rn_getfield rfl rfl rfl ?_
      refine rn_iload_n rfl rfl ?_
      obtain ⟨j1, hj1, ej1, h⟩ := h
      refine rn_baload (j := j1) rfl rfl (Nat.le_of_ble_eq_true rfl) ej1 hj1 ?_
      refine rn_if_ne rfl (fun hc => ?_) (fun hc => ?_)
      · replace h := h.1 hc
        refine rn_iconst rfl ?_
        exact rn_ireturn rfl rfl (by decide) h
      · replace h := h.2 hc
        refine rn_iload_n rfl rfl ?_
        refine rn_if_lt rfl (fun hc => ?_) (fun hc => ?_)
        · replace h := h.1 hc
          refine rn_iconst rfl ?_
          exact rn_ireturn rfl rfl (by decide) h
        · replace h := h.2 hc
          refine rn_iload_n rfl rfl ?_
          refine rn_iconst rfl ?_
          refine rn_icmp_gt rfl (fun hc => ?_) (fun hc => ?_)
          · replace h := h.1 hc
            refine rn_iconst rfl ?_
            exact rn_ireturn rfl rfl (by decide) h
          · replace h := h.2 hc
            refine rn_iload_n rfl rfl ?_
            refine rn_if_lt rfl (fun hc => ?_) (fun hc => ?_)
            · replace h := h.1 hc
              refine rn_iconst rfl ?_
              exact rn_ireturn rfl rfl (by decide) h
            · replace h := h.2 hc
              refine rn_iload_n rfl rfl ?_
              refine rn_iconst rfl ?_
              refine rn_icmp_le rfl (fun hc => ?_) (fun hc => ?_)
              · replace h := h.1 hc
                refine rn_aload_n rfl rfl ?_
                refine rn_getfield rfl rfl rfl ?_
                refine rn_iload_n rfl rfl ?_
                refine rn_iconst rfl ?_
                obtain ⟨j2, hj2, ej2, h⟩ := h
                refine rn_bastore (j := j2) (S' := (us S 32 j2 1)) rfl rfl (Nat.le_of_ble_eq_true rfl) ej2 hj2 (by decide) rfl ?_
                refine rn_aload_n rfl rfl ?_
                refine rn_getfield rfl rfl rfl ?_
                refine rn_iload_n rfl rfl ?_
                refine rn_iload_n rfl rfl ?_
                obtain ⟨j3, hj3, ej3, h⟩ := h
                refine rn_iastore (j := j3) (S' := (us (us S 32 j2 1) 33 j3 a2)) rfl rfl (Nat.le_of_ble_eq_true rfl) ej3 hj3 rfl ?_
                refine rn_aload_n rfl rfl ?_
                refine rn_getfield rfl rfl rfl ?_
                refine rn_iload_n rfl rfl ?_
                refine rn_iload_n rfl rfl ?_
                obtain ⟨j4, hj4, ej4, h⟩ := h
                refine rn_iastore (j := j4) (S' := (us (us (us S 32 j2 1) 33 j3 a2) 34 j4 a3)) rfl rfl (Nat.le_of_ble_eq_true rfl) ej4 hj4 rfl ?_
                refine rn_iconst rfl ?_
                refine rn_iload_n rfl rfl ?_
                refine rn_imul rfl ?_
                refine rn_istore rfl rfl ?_
                exact h _ _
              · replace h := h.2 hc
                refine rn_iconst rfl ?_
                exact rn_ireturn rfl rfl (by decide) h
-- ReplayedBeansModel.values(IIIII)Z (number 87)
def w_87 (xs : Nat × (Nat → Int32)) (d : Nat) (K : Sv → Option Value → Prop) (a1 a2 a3 a4 a5 : Int32) (S : Sv) : Prop :=
  CS xs d 85 S [.ref 31, .int a1] (fun S1 v1 => ∃ r1 : Int32, v1 = some (.int r1) ∧ ((r1 = 0 → (K S1 (some (.int 0)))) ∧ (¬ (r1 = 0) → ((a2 < 0 → (K S1 (some (.int 0)))) ∧ (¬ (a2 < 0) → (∃ j2 : Nat, j2 < 4 ∧ a1 = nI j2 ∧ (((S1 33 j2) ≤ a2 → (K S1 (some (.int 0)))) ∧ (¬ ((S1 33 j2) ≤ a2) → ((a4 < (-99999) → (K S1 (some (.int 0)))) ∧ (¬ (a4 < (-99999)) → ((99999 < a5 → (K S1 (some (.int 0)))) ∧ (¬ (99999 < a5) → ((a3 < a4 → (K S1 (some (.int 0)))) ∧ (¬ (a3 < a4) → ((a3 ≤ a5 → (∃ j3 : Nat, j3 < 12 ∧ ((3 * a1) + a2) = nI j3 ∧ (∃ j4 : Nat, j4 < 12 ∧ ((3 * a1) + a2) = nI j4 ∧ (∃ j5 : Nat, j5 < 12 ∧ ((3 * a1) + a2) = nI j5 ∧ (K (us (us (us S1 35 j3 a3) 36 j4 a4) 37 j5 a5) (some (.int 1))))))) ∧ (¬ (a3 ≤ a5) → (K S1 (some (.int 0)))))))))))))))))))
set_option maxRecDepth 100000 in
set_option maxHeartbeats 4000000 in
theorem c_87 {xs : Nat × (Nat → Int32)} {d : Nat} {K : Sv → Option Value → Prop} {a1 a2 a3 a4 a5 : Int32} {S : Sv} (h : w_87 xs d K a1 a2 a3 a4 a5 S) : CS xs (d + 1) 87 S [.ref 31, .int a1, .int a2, .int a3, .int a4, .int a5] K := by
  unfold w_87 at h
  refine cs_in rfl rfl rfl rfl ?_
  refine rn_aload_n rfl rfl ?_
  refine rn_iload_n rfl rfl ?_
  refine rn_virtual rfl (Nat.le_of_ble_eq_true rfl) (Nat.le_of_ble_eq_true rfl) rfl rfl (as := [.ref 31, .int a1]) (rest := []) rfl rfl rfl (cs_mono h (fun S1 v1 h => ?_))
  obtain ⟨r1, rfl, h⟩ := h
  refine rn_if_eq rfl (fun hc => ?_) (fun hc => ?_)
  · replace h := h.1 hc
    refine rn_iconst rfl ?_
    exact rn_ireturn rfl rfl (by decide) h
  · replace h := h.2 hc
    refine rn_iload_n rfl rfl ?_
    refine rn_if_lt rfl (fun hc => ?_) (fun hc => ?_)
    · replace h := h.1 hc
      refine rn_iconst rfl ?_
      exact rn_ireturn rfl rfl (by decide) h
    · replace h := h.2 hc
      refine rn_iload_n rfl rfl ?_
      refine rn_aload_n rfl rfl ?_
      refine rn_getfield rfl rfl rfl ?_
      refine rn_iload_n rfl rfl ?_
      obtain ⟨j2, hj2, ej2, h⟩ := h
      refine rn_iaload (j := j2) rfl rfl (Nat.le_of_ble_eq_true rfl) ej2 hj2 ?_
      refine rn_icmp_ge rfl (fun hc => ?_) (fun hc => ?_)
      · replace h := h.1 hc
        refine rn_iconst rfl ?_
        exact rn_ireturn rfl rfl (by decide) h
      · replace h := h.2 hc
        refine rn_iload rfl rfl ?_
        refine rn_ldc rfl ?_
        refine rn_icmp_lt rfl (fun hc => ?_) (fun hc => ?_)
        · replace h := h.1 hc
          refine rn_iconst rfl ?_
          exact rn_ireturn rfl rfl (by decide) h
        · replace h := h.2 hc
          refine rn_iload rfl rfl ?_
          refine rn_ldc rfl ?_
          refine rn_icmp_gt rfl (fun hc => ?_) (fun hc => ?_)
          · replace h := h.1 hc
            refine rn_iconst rfl ?_
            exact rn_ireturn rfl rfl (by decide) h
          · replace h := h.2 hc
            refine rn_iload rfl rfl ?_
            refine rn_iload_n rfl rfl ?_
            refine rn_icmp_gt rfl (fun hc => ?_) (fun hc => ?_)
            · replace h := h.1 hc
              refine rn_iconst rfl ?_
              exact rn_ireturn rfl rfl (by decide) h
            · replace h := h.2 hc
              refine rn_iload_n rfl rfl ?_
              refine rn_iload rfl rfl ?_
              refine rn_icmp_le rfl (fun hc => ?_) (fun hc => ?_)
              · replace h := h.1 hc
                refine rn_aload_n rfl rfl ?_
                refine rn_getfield rfl rfl rfl ?_
                refine rn_iconst rfl ?_
                refine rn_iload_n rfl rfl ?_
                refine rn_imul rfl ?_
                refine rn_iload_n rfl rfl ?_
                refine rn_iadd rfl ?_
                refine rn_iload_n rfl rfl ?_
                obtain ⟨j3, hj3, ej3, h⟩ := h
                refine rn_iastore (j := j3) (S' := (us S1 35 j3 a3)) rfl rfl (Nat.le_of_ble_eq_true rfl) ej3 hj3 rfl ?_
                refine rn_aload_n rfl rfl ?_
                refine rn_getfield rfl rfl rfl ?_
                refine rn_iconst rfl ?_
                refine rn_iload_n rfl rfl ?_
                refine rn_imul rfl ?_
                refine rn_iload_n rfl rfl ?_
                refine rn_iadd rfl ?_
                refine rn_iload rfl rfl ?_
                obtain ⟨j4, hj4, ej4, h⟩ := h
                refine rn_iastore (j := j4) (S' := (us (us S1 35 j3 a3) 36 j4 a4)) rfl rfl (Nat.le_of_ble_eq_true rfl) ej4 hj4 rfl ?_
                refine rn_aload_n rfl rfl ?_
                refine rn_getfield rfl rfl rfl ?_
                refine rn_iconst rfl ?_
                refine rn_iload_n rfl rfl ?_
                refine rn_imul rfl ?_
                refine rn_iload_n rfl rfl ?_
                refine rn_iadd rfl ?_
                refine rn_iload rfl rfl ?_
                obtain ⟨j5, hj5, ej5, h⟩ := h
                refine rn_iastore (j := j5) (S' := (us (us (us S1 35 j3 a3) 36 j4 a4) 37 j5 a5)) rfl rfl (Nat.le_of_ble_eq_true rfl) ej5 hj5 rfl ?_
                refine rn_iconst rfl ?_
                exact rn_ireturn rfl rfl (by decide) h
              · replace h := h.2 hc
                refine rn_iconst rfl ?_
                exact rn_ireturn rfl rfl (by decide) h
-- ReplayedBeansModel.isObject(I)Z (number 88)
def w_88 (xs : Nat × (Nat → Int32)) (d : Nat) (K : Sv → Option Value → Prop) (a1 : Int32) (S : Sv) : Prop :=
  (a1 < 0 → (K S (some (.int 0)))) ∧ (¬ (a1 < 0) → (((S 31 6) ≤ a1 → (K S (some (.int 0)))) ∧ (¬ ((S 31 6) ≤ a1) → (K S (some (.int 1))))))
set_option maxRecDepth 100000 in
set_option maxHeartbeats 4000000 in
theorem c_88 {xs : Nat × (Nat → Int32)} {d : Nat} {K : Sv → Option Value → Prop} {a1 : Int32} {S : Sv} (h : w_88 xs d K a1 S) : CS xs (d + 1) 88 S [.ref 31, .int a1] K := by
  unfold w_88 at h
  refine cs_in rfl rfl rfl rfl ?_
  refine rn_iload_n rfl rfl ?_
  refine rn_if_lt rfl (fun hc => ?_) (fun hc => ?_)
  · replace h := h.1 hc
    refine rn_iconst rfl ?_
    exact rn_ireturn rfl rfl (by decide) h
  · replace h := h.2 hc
    refine rn_iload_n rfl rfl ?_
    refine rn_aload_n rfl rfl ?_
    refine rn_getfield rfl rfl rfl ?_
    refine rn_icmp_ge rfl (fun hc => ?_) (fun hc => ?_)
    · replace h := h.1 hc
      refine rn_iconst rfl ?_
      exact rn_ireturn rfl rfl (by decide) h
    · replace h := h.2 hc
      refine rn_iconst rfl ?_
      refine rn_goto rfl ?_
      exact rn_ireturn rfl rfl (by decide) h
-- ReplayedBeansModel.hasNumber(II)Z (number 89)
def w_89 (xs : Nat × (Nat → Int32)) (d : Nat) (K : Sv → Option Value → Prop) (a1 a2 : Int32) (S : Sv) : Prop :=
  CS xs d 88 S [.ref 31, .int a1] (fun S1 v1 => ∃ r1 : Int32, v1 = some (.int r1) ∧ ((r1 = 0 → (K S1 (some (.int 0)))) ∧ (¬ (r1 = 0) → ((a2 < 0 → (K S1 (some (.int 0)))) ∧ (¬ (a2 < 0) → (∃ j2 : Nat, j2 < 24 ∧ a1 = nI j2 ∧ (∃ j3 : Nat, j3 < 4 ∧ (S1 38 j2) = nI j3 ∧ (((S1 33 j3) ≤ a2 → (K S1 (some (.int 0)))) ∧ (¬ ((S1 33 j3) ≤ a2) → (K S1 (some (.int 1))))))))))))
set_option maxRecDepth 100000 in
set_option maxHeartbeats 4000000 in
theorem c_89 {xs : Nat × (Nat → Int32)} {d : Nat} {K : Sv → Option Value → Prop} {a1 a2 : Int32} {S : Sv} (h : w_89 xs d K a1 a2 S) : CS xs (d + 1) 89 S [.ref 31, .int a1, .int a2] K := by
  unfold w_89 at h
  refine cs_in rfl rfl rfl rfl ?_
  refine rn_aload_n rfl rfl ?_
  refine rn_iload_n rfl rfl ?_
  refine rn_virtual rfl (Nat.le_of_ble_eq_true rfl) (Nat.le_of_ble_eq_true rfl) rfl rfl (as := [.ref 31, .int a1]) (rest := []) rfl rfl rfl (cs_mono h (fun S1 v1 h => ?_))
  obtain ⟨r1, rfl, h⟩ := h
  refine rn_if_eq rfl (fun hc => ?_) (fun hc => ?_)
  · replace h := h.1 hc
    refine rn_iconst rfl ?_
    exact rn_ireturn rfl rfl (by decide) h
  · replace h := h.2 hc
    refine rn_iload_n rfl rfl ?_
    refine rn_if_lt rfl (fun hc => ?_) (fun hc => ?_)
    · replace h := h.1 hc
      refine rn_iconst rfl ?_
      exact rn_ireturn rfl rfl (by decide) h
    · replace h := h.2 hc
      refine rn_iload_n rfl rfl ?_
      refine rn_aload_n rfl rfl ?_
      refine rn_getfield rfl rfl rfl ?_
      refine rn_aload_n rfl rfl ?_
      refine rn_getfield rfl rfl rfl ?_
      refine rn_iload_n rfl rfl ?_
      obtain ⟨j2, hj2, ej2, h⟩ := h
      refine rn_iaload (j := j2) rfl rfl (Nat.le_of_ble_eq_true rfl) ej2 hj2 ?_
      obtain ⟨j3, hj3, ej3, h⟩ := h
      refine rn_iaload (j := j3) rfl rfl (Nat.le_of_ble_eq_true rfl) ej3 hj3 ?_
      refine rn_icmp_ge rfl (fun hc => ?_) (fun hc => ?_)
      · replace h := h.1 hc
        refine rn_iconst rfl ?_
        exact rn_ireturn rfl rfl (by decide) h
      · replace h := h.2 hc
        refine rn_iconst rfl ?_
        refine rn_goto rfl ?_
        exact rn_ireturn rfl rfl (by decide) h
-- ReplayedBeansModel.hasLink(II)Z (number 90)
def w_90 (xs : Nat × (Nat → Int32)) (d : Nat) (K : Sv → Option Value → Prop) (a1 a2 : Int32) (S : Sv) : Prop :=
  CS xs d 88 S [.ref 31, .int a1] (fun S1 v1 => ∃ r1 : Int32, v1 = some (.int r1) ∧ ((r1 = 0 → (K S1 (some (.int 0)))) ∧ (¬ (r1 = 0) → ((a2 < 0 → (K S1 (some (.int 0)))) ∧ (¬ (a2 < 0) → (∃ j2 : Nat, j2 < 24 ∧ a1 = nI j2 ∧ (∃ j3 : Nat, j3 < 4 ∧ (S1 38 j2) = nI j3 ∧ (((S1 34 j3) ≤ a2 → (K S1 (some (.int 0)))) ∧ (¬ ((S1 34 j3) ≤ a2) → (K S1 (some (.int 1))))))))))))
set_option maxRecDepth 100000 in
set_option maxHeartbeats 4000000 in
theorem c_90 {xs : Nat × (Nat → Int32)} {d : Nat} {K : Sv → Option Value → Prop} {a1 a2 : Int32} {S : Sv} (h : w_90 xs d K a1 a2 S) : CS xs (d + 1) 90 S [.ref 31, .int a1, .int a2] K := by
  unfold w_90 at h
  refine cs_in rfl rfl rfl rfl ?_
  refine rn_aload_n rfl rfl ?_
  refine rn_iload_n rfl rfl ?_
  refine rn_virtual rfl (Nat.le_of_ble_eq_true rfl) (Nat.le_of_ble_eq_true rfl) rfl rfl (as := [.ref 31, .int a1]) (rest := []) rfl rfl rfl (cs_mono h (fun S1 v1 h => ?_))
  obtain ⟨r1, rfl, h⟩ := h
  refine rn_if_eq rfl (fun hc => ?_) (fun hc => ?_)
  · replace h := h.1 hc
    refine rn_iconst rfl ?_
    exact rn_ireturn rfl rfl (by decide) h
  · replace h := h.2 hc
    refine rn_iload_n rfl rfl ?_
    refine rn_if_lt rfl (fun hc => ?_) (fun hc => ?_)
    · replace h := h.1 hc
      refine rn_iconst rfl ?_
      exact rn_ireturn rfl rfl (by decide) h
    · replace h := h.2 hc
      refine rn_iload_n rfl rfl ?_
      refine rn_aload_n rfl rfl ?_
      refine rn_getfield rfl rfl rfl ?_
      refine rn_aload_n rfl rfl ?_
      refine rn_getfield rfl rfl rfl ?_
      refine rn_iload_n rfl rfl ?_
      obtain ⟨j2, hj2, ej2, h⟩ := h
      refine rn_iaload (j := j2) rfl rfl (Nat.le_of_ble_eq_true rfl) ej2 hj2 ?_
      obtain ⟨j3, hj3, ej3, h⟩ := h
      refine rn_iaload (j := j3) rfl rfl (Nat.le_of_ble_eq_true rfl) ej3 hj3 ?_
      refine rn_icmp_ge rfl (fun hc => ?_) (fun hc => ?_)
      · replace h := h.1 hc
        refine rn_iconst rfl ?_
        exact rn_ireturn rfl rfl (by decide) h
      · replace h := h.2 hc
        refine rn_iconst rfl ?_
        refine rn_goto rfl ?_
        exact rn_ireturn rfl rfl (by decide) h
-- ReplayedBeansModel.make(I)I (number 91)
def R_91_31 (xs : Nat × (Nat → Int32)) (d : Nat) (K : Sv → Option Value → Prop) (a1 a2 : Int32) (S : Sv) : Prop := RN xs d 91 K 31 [some (.ref 31), some (.int a1), some (.int a2)] [] S
def w_91_31 (xs : Nat × (Nat → Int32)) (d : Nat) (K : Sv → Option Value → Prop) (a1 a2 : Int32) (S : Sv) : Prop :=
  (3 ≤ a2 → (∃ j1 : Nat, j1 < 48 ∧ (2 * (S 31 6)) = nI j1 ∧ (∃ j2 : Nat, j2 < 48 ∧ ((2 * (S 31 6)) + 1) = nI j2 ∧ (K (us (us (us S 40 j1 (-1)) 40 j2 (-1)) 31 6 ((S 31 6) + 1)) (some (.int (((S 31 6) + 1) - 1))))))) ∧ (¬ (3 ≤ a2) → (∃ j3 : Nat, j3 < 12 ∧ ((3 * a1) + a2) = nI j3 ∧ (∃ j4 : Nat, j4 < 72 ∧ ((3 * (S 31 6)) + a2) = nI j4 ∧ (R_91_31 xs d K a1 (a2 + 1) (us S 39 j4 (S 35 j3))))))
set_option maxRecDepth 100000 in
set_option maxHeartbeats 4000000 in
theorem h_91_31 {xs : Nat × (Nat → Int32)} {d : Nat} {K : Sv → Option Value → Prop} {a1 a2 : Int32} {S : Sv} (h : w_91_31 xs d K a1 a2 S) : R_91_31 xs d K a1 a2 S := by
  unfold w_91_31 at h
  unfold R_91_31
  refine rn_iload_n rfl rfl ?_
  refine rn_iconst rfl ?_
  refine rn_icmp_ge rfl (fun hc => ?_) (fun hc => ?_)
  · replace h := h.1 hc
    refine rn_aload_n rfl rfl ?_
    refine rn_getfield rfl rfl rfl ?_
    refine rn_iconst rfl ?_
    refine rn_aload_n rfl rfl ?_
    refine rn_getfield rfl rfl rfl ?_
    refine rn_imul rfl ?_
    refine rn_iconst rfl ?_
    obtain ⟨j1, hj1, ej1, h⟩ := h
    refine rn_iastore (j := j1) (S' := (us S 40 j1 (-1))) rfl rfl (Nat.le_of_ble_eq_true rfl) ej1 hj1 rfl ?_
    refine rn_aload_n rfl rfl ?_
    refine rn_getfield rfl rfl rfl ?_
    refine rn_iconst rfl ?_
    refine rn_aload_n rfl rfl ?_
    refine rn_getfield rfl rfl rfl ?_
    refine rn_imul rfl ?_
    refine rn_iconst rfl ?_
    refine rn_iadd rfl ?_
    refine rn_iconst rfl ?_
    obtain ⟨j2, hj2, ej2, h⟩ := h
    refine rn_iastore (j := j2) (S' := (us (us S 40 j1 (-1)) 40 j2 (-1))) rfl rfl (Nat.le_of_ble_eq_true rfl) ej2 hj2 rfl ?_
    refine rn_aload_n rfl rfl ?_
    refine rn_dup rfl rfl ?_
    refine rn_getfield rfl rfl rfl ?_
    refine rn_iconst rfl ?_
    refine rn_iadd rfl ?_
    refine rn_putfield (S' := (us (us (us S 40 j1 (-1)) 40 j2 (-1)) 31 6 ((S 31 6) + 1))) rfl rfl (Nat.le_of_ble_eq_true rfl) (Or.inl rfl) rfl ?_
    refine rn_aload_n rfl rfl ?_
    refine rn_getfield rfl rfl rfl ?_
    refine rn_iconst rfl ?_
    refine rn_isub rfl ?_
    exact rn_ireturn rfl rfl rfl h
  · replace h := h.2 hc
    refine rn_aload_n rfl rfl ?_
    refine rn_getfield rfl rfl rfl ?_
    refine rn_iconst rfl ?_
    refine rn_aload_n rfl rfl ?_
    refine rn_getfield rfl rfl rfl ?_
    refine rn_imul rfl ?_
    refine rn_iload_n rfl rfl ?_
    refine rn_iadd rfl ?_
    refine rn_aload_n rfl rfl ?_
    refine rn_getfield rfl rfl rfl ?_
    refine rn_iconst rfl ?_
    refine rn_iload_n rfl rfl ?_
    refine rn_imul rfl ?_
    refine rn_iload_n rfl rfl ?_
    refine rn_iadd rfl ?_
    obtain ⟨j3, hj3, ej3, h⟩ := h
    refine rn_iaload (j := j3) rfl rfl (Nat.le_of_ble_eq_true rfl) ej3 hj3 ?_
    obtain ⟨j4, hj4, ej4, h⟩ := h
    refine rn_iastore (j := j4) (S' := (us S 39 j4 (S 35 j3))) rfl rfl (Nat.le_of_ble_eq_true rfl) ej4 hj4 rfl ?_
    refine rn_iinc rfl rfl rfl ?_
    refine rn_goto rfl ?_
    exact h
def w_91 (xs : Nat × (Nat → Int32)) (d : Nat) (K : Sv → Option Value → Prop) (a1 : Int32) (S : Sv) : Prop :=
  CS xs d 85 S [.ref 31, .int a1] (fun S1 v1 => ∃ r1 : Int32, v1 = some (.int r1) ∧ ((r1 = 0 → (K S1 (some (.int (-1))))) ∧ (¬ (r1 = 0) → ((¬ (S1 31 6) = 24 → (∃ j2 : Nat, j2 < 24 ∧ (S1 31 6) = nI j2 ∧ (R_91_31 xs d K a1 0 (us S1 38 j2 a1)))) ∧ (¬ (¬ (S1 31 6) = 24) → (K S1 (some (.int (-1)))))))))
set_option maxRecDepth 100000 in
set_option maxHeartbeats 4000000 in
theorem c_91 {xs : Nat × (Nat → Int32)} {d : Nat} {K : Sv → Option Value → Prop} {a1 : Int32} {S : Sv} (h : w_91 xs d K a1 S) : CS xs (d + 1) 91 S [.ref 31, .int a1] K := by
  unfold w_91 at h
  refine cs_in rfl rfl rfl rfl ?_
  refine rn_aload_n rfl rfl ?_
  refine rn_iload_n rfl rfl ?_
  refine rn_virtual rfl (Nat.le_of_ble_eq_true rfl) (Nat.le_of_ble_eq_true rfl) rfl rfl (as := [.ref 31, .int a1]) (rest := []) rfl rfl rfl (cs_mono h (fun S1 v1 h => ?_))
  obtain ⟨r1, rfl, h⟩ := h
  refine rn_if_eq rfl (fun hc => ?_) (fun hc => ?_)
  · replace h := h.1 hc
    refine rn_iconst rfl ?_
    exact rn_ireturn rfl rfl rfl h
  · replace h := h.2 hc
    refine rn_aload_n rfl rfl ?_
    refine rn_getfield rfl rfl rfl ?_
    refine rn_bipush rfl ?_
    refine rn_icmp_ne rfl (fun hc => ?_) (fun hc => ?_)
    · replace h := h.1 hc
      refine rn_aload_n rfl rfl ?_
      refine rn_getfield rfl rfl rfl ?_
      refine rn_aload_n rfl rfl ?_
      refine rn_getfield rfl rfl rfl ?_
      refine rn_iload_n rfl rfl ?_
      obtain ⟨j2, hj2, ej2, h⟩ := h
      refine rn_iastore (j := j2) (S' := (us S1 38 j2 a1)) rfl rfl (Nat.le_of_ble_eq_true rfl) ej2 hj2 rfl ?_
      refine rn_iconst rfl ?_
      refine rn_istore_n rfl rfl ?_
      exact h
    · replace h := h.2 hc
      refine rn_iconst rfl ?_
      exact rn_ireturn rfl rfl rfl h
-- ReplayedBeansModel.clear()V (number 92)
def w_92 (xs : Nat × (Nat → Int32)) (d : Nat) (K : Sv → Option Value → Prop) (S : Sv) : Prop :=
  K (us S 31 6 0) none
set_option maxRecDepth 100000 in
set_option maxHeartbeats 4000000 in
theorem c_92 {xs : Nat × (Nat → Int32)} {d : Nat} {K : Sv → Option Value → Prop} {S : Sv} (h : w_92 xs d K S) : CS xs (d + 1) 92 S [.ref 31] K := by
  unfold w_92 at h
  refine cs_in rfl rfl rfl rfl ?_
  refine rn_aload_n rfl rfl ?_
  refine rn_iconst rfl ?_
  refine rn_putfield (S' := (us S 31 6 0)) rfl rfl (Nat.le_of_ble_eq_true rfl) (Or.inl rfl) rfl ?_
  exact rn_return rfl rfl h
-- ReplayedBeansModel.count()I (number 93)
def w_93 (xs : Nat × (Nat → Int32)) (d : Nat) (K : Sv → Option Value → Prop) (S : Sv) : Prop :=
  K S (some (.int (S 31 6)))
set_option maxRecDepth 100000 in
set_option maxHeartbeats 4000000 in
theorem c_93 {xs : Nat × (Nat → Int32)} {d : Nat} {K : Sv → Option Value → Prop} {S : Sv} (h : w_93 xs d K S) : CS xs (d + 1) 93 S [.ref 31] K := by
  unfold w_93 at h
  refine cs_in rfl rfl rfl rfl ?_
  refine rn_aload_n rfl rfl ?_
  refine rn_getfield rfl rfl rfl ?_
  exact rn_ireturn rfl rfl rfl h
-- ReplayedBeansModel.kind(I)I (number 94)
def w_94 (xs : Nat × (Nat → Int32)) (d : Nat) (K : Sv → Option Value → Prop) (a1 : Int32) (S : Sv) : Prop :=
  CS xs d 88 S [.ref 31, .int a1] (fun S1 v1 => ∃ r1 : Int32, v1 = some (.int r1) ∧ ((r1 = 0 → (K S1 (some (.int (-1))))) ∧ (¬ (r1 = 0) → (∃ j2 : Nat, j2 < 24 ∧ a1 = nI j2 ∧ (K S1 (some (.int (S1 38 j2))))))))
set_option maxRecDepth 100000 in
set_option maxHeartbeats 4000000 in
theorem c_94 {xs : Nat × (Nat → Int32)} {d : Nat} {K : Sv → Option Value → Prop} {a1 : Int32} {S : Sv} (h : w_94 xs d K a1 S) : CS xs (d + 1) 94 S [.ref 31, .int a1] K := by
  unfold w_94 at h
  refine cs_in rfl rfl rfl rfl ?_
  refine rn_aload_n rfl rfl ?_
  refine rn_iload_n rfl rfl ?_
  refine rn_virtual rfl (Nat.le_of_ble_eq_true rfl) (Nat.le_of_ble_eq_true rfl) rfl rfl (as := [.ref 31, .int a1]) (rest := []) rfl rfl rfl (cs_mono h (fun S1 v1 h => ?_))
  obtain ⟨r1, rfl, h⟩ := h
  refine rn_if_eq rfl (fun hc => ?_) (fun hc => ?_)
  · replace h := h.1 hc
    refine rn_iconst rfl ?_
    exact rn_ireturn rfl rfl rfl h
  · replace h := h.2 hc
    refine rn_aload_n rfl rfl ?_
    refine rn_getfield rfl rfl rfl ?_
    refine rn_iload_n rfl rfl ?_
    obtain ⟨j2, hj2, ej2, h⟩ := h
    refine rn_iaload (j := j2) rfl rfl (Nat.le_of_ble_eq_true rfl) ej2 hj2 ?_
    refine rn_goto rfl ?_
    exact rn_ireturn rfl rfl rfl h
-- ReplayedBeansModel.inRange(III)Z (number 95)
def w_95 (xs : Nat × (Nat → Int32)) (d : Nat) (K : Sv → Option Value → Prop) (a1 a2 a3 : Int32) (S : Sv) : Prop :=
  ∃ j1 : Nat, j1 < 24 ∧ a1 = nI j1 ∧ (∃ j2 : Nat, j2 < 12 ∧ ((3 * (S 38 j1)) + a2) = nI j2 ∧ ((a3 < (S 36 j2) → (K S (some (.int 0)))) ∧ (¬ (a3 < (S 36 j2)) → (∃ j3 : Nat, j3 < 12 ∧ ((3 * (S 38 j1)) + a2) = nI j3 ∧ (((S 37 j3) < a3 → (K S (some (.int 0)))) ∧ (¬ ((S 37 j3) < a3) → (K S (some (.int 1)))))))))
set_option maxRecDepth 100000 in
set_option maxHeartbeats 4000000 in
theorem c_95 {xs : Nat × (Nat → Int32)} {d : Nat} {K : Sv → Option Value → Prop} {a1 a2 a3 : Int32} {S : Sv} (h : w_95 xs d K a1 a2 a3 S) : CS xs (d + 1) 95 S [.ref 31, .int a1, .int a2, .int a3] K := by
  unfold w_95 at h
  refine cs_in rfl rfl rfl rfl ?_
  refine rn_iconst rfl ?_
  refine rn_aload_n rfl rfl ?_
  refine rn_getfield rfl rfl rfl ?_
  refine rn_iload_n rfl rfl ?_
  obtain ⟨j1, hj1, ej1, h⟩ := h
  refine rn_iaload (j := j1) rfl rfl (Nat.le_of_ble_eq_true rfl) ej1 hj1 ?_
  refine rn_imul rfl ?_
  refine rn_iload_n rfl rfl ?_
  refine rn_iadd rfl ?_
  refine rn_istore rfl rfl ?_
  refine rn_iload_n rfl rfl ?_
  refine rn_aload_n rfl rfl ?_
  refine rn_getfield rfl rfl rfl ?_
  refine rn_iload rfl rfl ?_
  obtain ⟨j2, hj2, ej2, h⟩ := h
  refine rn_iaload (j := j2) rfl rfl (Nat.le_of_ble_eq_true rfl) ej2 hj2 ?_
  refine rn_icmp_lt rfl (fun hc => ?_) (fun hc => ?_)
  · replace h := h.1 hc
    refine rn_iconst rfl ?_
    exact rn_ireturn rfl rfl (by decide) h
  · replace h := h.2 hc
    refine rn_iload_n rfl rfl ?_
    refine rn_aload_n rfl rfl ?_
    refine rn_getfield rfl rfl rfl ?_
    refine rn_iload rfl rfl ?_
    obtain ⟨j3, hj3, ej3, h⟩ := h
    refine rn_iaload (j := j3) rfl rfl (Nat.le_of_ble_eq_true rfl) ej3 hj3 ?_
    refine rn_icmp_gt rfl (fun hc => ?_) (fun hc => ?_)
    · replace h := h.1 hc
      refine rn_iconst rfl ?_
      exact rn_ireturn rfl rfl (by decide) h
    · replace h := h.2 hc
      refine rn_iconst rfl ?_
      refine rn_goto rfl ?_
      exact rn_ireturn rfl rfl (by decide) h
-- ReplayedBeansModel.setNumber(III)Z (number 96)
def w_96 (xs : Nat × (Nat → Int32)) (d : Nat) (K : Sv → Option Value → Prop) (a1 a2 a3 : Int32) (S : Sv) : Prop :=
  CS xs d 89 S [.ref 31, .int a1, .int a2] (fun S1 v1 => ∃ r1 : Int32, v1 = some (.int r1) ∧ ((r1 = 0 → (K S1 (some (.int 0)))) ∧ (¬ (r1 = 0) → (CS xs d 95 S1 [.ref 31, .int a1, .int a2, .int a3] (fun S2 v2 => ∃ r2 : Int32, v2 = some (.int r2) ∧ ((¬ r2 = 0 → (∃ j3 : Nat, j3 < 72 ∧ ((3 * a1) + a2) = nI j3 ∧ (K (us S2 39 j3 a3) (some (.int 1))))) ∧ (¬ (¬ r2 = 0) → (K S2 (some (.int 0))))))))))
set_option maxRecDepth 100000 in
set_option maxHeartbeats 4000000 in
theorem c_96 {xs : Nat × (Nat → Int32)} {d : Nat} {K : Sv → Option Value → Prop} {a1 a2 a3 : Int32} {S : Sv} (h : w_96 xs d K a1 a2 a3 S) : CS xs (d + 1) 96 S [.ref 31, .int a1, .int a2, .int a3] K := by
  unfold w_96 at h
  refine cs_in rfl rfl rfl rfl ?_
  refine rn_aload_n rfl rfl ?_
  refine rn_iload_n rfl rfl ?_
  refine rn_iload_n rfl rfl ?_
  refine rn_virtual rfl (Nat.le_of_ble_eq_true rfl) (Nat.le_of_ble_eq_true rfl) rfl rfl (as := [.ref 31, .int a1, .int a2]) (rest := []) rfl rfl rfl (cs_mono h (fun S1 v1 h => ?_))
  obtain ⟨r1, rfl, h⟩ := h
  refine rn_if_eq rfl (fun hc => ?_) (fun hc => ?_)
  · replace h := h.1 hc
    refine rn_iconst rfl ?_
    exact rn_ireturn rfl rfl (by decide) h
  · replace h := h.2 hc
    refine rn_aload_n rfl rfl ?_
    refine rn_iload_n rfl rfl ?_
    refine rn_iload_n rfl rfl ?_
    refine rn_iload_n rfl rfl ?_
    refine rn_virtual rfl (Nat.le_of_ble_eq_true rfl) (Nat.le_of_ble_eq_true rfl) rfl rfl (as := [.ref 31, .int a1, .int a2, .int a3]) (rest := []) rfl rfl rfl (cs_mono h (fun S2 v2 h => ?_))
    obtain ⟨r2, rfl, h⟩ := h
    refine rn_if_ne rfl (fun hc => ?_) (fun hc => ?_)
    · replace h := h.1 hc
      refine rn_aload_n rfl rfl ?_
      refine rn_getfield rfl rfl rfl ?_
      refine rn_iconst rfl ?_
      refine rn_iload_n rfl rfl ?_
      refine rn_imul rfl ?_
      refine rn_iload_n rfl rfl ?_
      refine rn_iadd rfl ?_
      refine rn_iload_n rfl rfl ?_
      obtain ⟨j3, hj3, ej3, h⟩ := h
      refine rn_iastore (j := j3) (S' := (us S2 39 j3 a3)) rfl rfl (Nat.le_of_ble_eq_true rfl) ej3 hj3 rfl ?_
      refine rn_iconst rfl ?_
      exact rn_ireturn rfl rfl (by decide) h
    · replace h := h.2 hc
      refine rn_iconst rfl ?_
      exact rn_ireturn rfl rfl (by decide) h
-- ReplayedBeansModel.setLink(III)Z (number 97)
def R_97_24 (xs : Nat × (Nat → Int32)) (d : Nat) (K : Sv → Option Value → Prop) (a1 a2 a3 : Int32) (S : Sv) : Prop := RN xs d 97 K 24 [some (.ref 31), some (.int a1), some (.int a2), some (.int a3)] [] S
def w_97_24 (xs : Nat × (Nat → Int32)) (d : Nat) (K : Sv → Option Value → Prop) (a1 a2 a3 : Int32) (S : Sv) : Prop :=
  ∃ j1 : Nat, j1 < 48 ∧ ((2 * a1) + a2) = nI j1 ∧ (K (us S 40 j1 a3) (some (.int 1)))
set_option maxRecDepth 100000 in
set_option maxHeartbeats 4000000 in
theorem h_97_24 {xs : Nat × (Nat → Int32)} {d : Nat} {K : Sv → Option Value → Prop} {a1 a2 a3 : Int32} {S : Sv} (h : w_97_24 xs d K a1 a2 a3 S) : R_97_24 xs d K a1 a2 a3 S := by
  unfold w_97_24 at h
  unfold R_97_24
  refine rn_aload_n rfl rfl ?_
  refine rn_getfield rfl rfl rfl ?_
  refine rn_iconst rfl ?_
  refine rn_iload_n rfl rfl ?_
  refine rn_imul rfl ?_
  refine rn_iload_n rfl rfl ?_
  refine rn_iadd rfl ?_
  refine rn_iload_n rfl rfl ?_
  obtain ⟨j1, hj1, ej1, h⟩ := h
  refine rn_iastore (j := j1) (S' := (us S 40 j1 a3)) rfl rfl (Nat.le_of_ble_eq_true rfl) ej1 hj1 rfl ?_
  refine rn_iconst rfl ?_
  exact rn_ireturn rfl rfl (by decide) h
def w_97 (xs : Nat × (Nat → Int32)) (d : Nat) (K : Sv → Option Value → Prop) (a1 a2 a3 : Int32) (S : Sv) : Prop :=
  CS xs d 90 S [.ref 31, .int a1, .int a2] (fun S1 v1 => ∃ r1 : Int32, v1 = some (.int r1) ∧ ((r1 = 0 → (K S1 (some (.int 0)))) ∧ (¬ (r1 = 0) → ((a3 = (-1) → (R_97_24 xs d K a1 a2 a3 S1)) ∧ (¬ (a3 = (-1)) → (CS xs d 88 S1 [.ref 31, .int a3] (fun S2 v2 => ∃ r2 : Int32, v2 = some (.int r2) ∧ ((¬ r2 = 0 → (R_97_24 xs d K a1 a2 a3 S2)) ∧ (¬ (¬ r2 = 0) → (K S2 (some (.int 0))))))))))))
set_option maxRecDepth 100000 in
set_option maxHeartbeats 4000000 in
theorem c_97 {xs : Nat × (Nat → Int32)} {d : Nat} {K : Sv → Option Value → Prop} {a1 a2 a3 : Int32} {S : Sv} (h : w_97 xs d K a1 a2 a3 S) : CS xs (d + 1) 97 S [.ref 31, .int a1, .int a2, .int a3] K := by
  unfold w_97 at h
  refine cs_in rfl rfl rfl rfl ?_
  refine rn_aload_n rfl rfl ?_
  refine rn_iload_n rfl rfl ?_
  refine rn_iload_n rfl rfl ?_
  refine rn_virtual rfl (Nat.le_of_ble_eq_true rfl) (Nat.le_of_ble_eq_true rfl) rfl rfl (as := [.ref 31, .int a1, .int a2]) (rest := []) rfl rfl rfl (cs_mono h (fun S1 v1 h => ?_))
  obtain ⟨r1, rfl, h⟩ := h
  refine rn_if_eq rfl (fun hc => ?_) (fun hc => ?_)
  · replace h := h.1 hc
    refine rn_iconst rfl ?_
    exact rn_ireturn rfl rfl (by decide) h
  · replace h := h.2 hc
    refine rn_iload_n rfl rfl ?_
    refine rn_iconst rfl ?_
    refine rn_icmp_eq rfl (fun hc => ?_) (fun hc => ?_)
    · replace h := h.1 hc
      exact h
    · replace h := h.2 hc
      refine rn_aload_n rfl rfl ?_
      refine rn_iload_n rfl rfl ?_
      refine rn_virtual rfl (Nat.le_of_ble_eq_true rfl) (Nat.le_of_ble_eq_true rfl) rfl rfl (as := [.ref 31, .int a3]) (rest := []) rfl rfl rfl (cs_mono h (fun S2 v2 h => ?_))
      obtain ⟨r2, rfl, h⟩ := h
      refine rn_if_ne rfl (fun hc => ?_) (fun hc => ?_)
      · replace h := h.1 hc
        exact h
      · replace h := h.2 hc
        refine rn_iconst rfl ?_
        exact rn_ireturn rfl rfl (by decide) h
-- ReplayedBeansModel.number(II)I (number 98)
def w_98 (xs : Nat × (Nat → Int32)) (d : Nat) (K : Sv → Option Value → Prop) (a1 a2 : Int32) (S : Sv) : Prop :=
  CS xs d 89 S [.ref 31, .int a1, .int a2] (fun S1 v1 => ∃ r1 : Int32, v1 = some (.int r1) ∧ ((r1 = 0 → (K S1 (some (.int 0)))) ∧ (¬ (r1 = 0) → (∃ j2 : Nat, j2 < 72 ∧ ((3 * a1) + a2) = nI j2 ∧ (K S1 (some (.int (S1 39 j2))))))))
set_option maxRecDepth 100000 in
set_option maxHeartbeats 4000000 in
theorem c_98 {xs : Nat × (Nat → Int32)} {d : Nat} {K : Sv → Option Value → Prop} {a1 a2 : Int32} {S : Sv} (h : w_98 xs d K a1 a2 S) : CS xs (d + 1) 98 S [.ref 31, .int a1, .int a2] K := by
  unfold w_98 at h
  refine cs_in rfl rfl rfl rfl ?_
  refine rn_aload_n rfl rfl ?_
  refine rn_iload_n rfl rfl ?_
  refine rn_iload_n rfl rfl ?_
  refine rn_virtual rfl (Nat.le_of_ble_eq_true rfl) (Nat.le_of_ble_eq_true rfl) rfl rfl (as := [.ref 31, .int a1, .int a2]) (rest := []) rfl rfl rfl (cs_mono h (fun S1 v1 h => ?_))
  obtain ⟨r1, rfl, h⟩ := h
  refine rn_if_eq rfl (fun hc => ?_) (fun hc => ?_)
  · replace h := h.1 hc
    refine rn_iconst rfl ?_
    exact rn_ireturn rfl rfl rfl h
  · replace h := h.2 hc
    refine rn_aload_n rfl rfl ?_
    refine rn_getfield rfl rfl rfl ?_
    refine rn_iconst rfl ?_
    refine rn_iload_n rfl rfl ?_
    refine rn_imul rfl ?_
    refine rn_iload_n rfl rfl ?_
    refine rn_iadd rfl ?_
    obtain ⟨j2, hj2, ej2, h⟩ := h
    refine rn_iaload (j := j2) rfl rfl (Nat.le_of_ble_eq_true rfl) ej2 hj2 ?_
    refine rn_goto rfl ?_
    exact rn_ireturn rfl rfl rfl h
-- ReplayedBeansModel.link(II)I (number 99)
def w_99 (xs : Nat × (Nat → Int32)) (d : Nat) (K : Sv → Option Value → Prop) (a1 a2 : Int32) (S : Sv) : Prop :=
  CS xs d 90 S [.ref 31, .int a1, .int a2] (fun S1 v1 => ∃ r1 : Int32, v1 = some (.int r1) ∧ ((r1 = 0 → (K S1 (some (.int (-1))))) ∧ (¬ (r1 = 0) → (∃ j2 : Nat, j2 < 48 ∧ ((2 * a1) + a2) = nI j2 ∧ (K S1 (some (.int (S1 40 j2))))))))
set_option maxRecDepth 100000 in
set_option maxHeartbeats 4000000 in
theorem c_99 {xs : Nat × (Nat → Int32)} {d : Nat} {K : Sv → Option Value → Prop} {a1 a2 : Int32} {S : Sv} (h : w_99 xs d K a1 a2 S) : CS xs (d + 1) 99 S [.ref 31, .int a1, .int a2] K := by
  unfold w_99 at h
  refine cs_in rfl rfl rfl rfl ?_
  refine rn_aload_n rfl rfl ?_
  refine rn_iload_n rfl rfl ?_
  refine rn_iload_n rfl rfl ?_
  refine rn_virtual rfl (Nat.le_of_ble_eq_true rfl) (Nat.le_of_ble_eq_true rfl) rfl rfl (as := [.ref 31, .int a1, .int a2]) (rest := []) rfl rfl rfl (cs_mono h (fun S1 v1 h => ?_))
  obtain ⟨r1, rfl, h⟩ := h
  refine rn_if_eq rfl (fun hc => ?_) (fun hc => ?_)
  · replace h := h.1 hc
    refine rn_iconst rfl ?_
    exact rn_ireturn rfl rfl rfl h
  · replace h := h.2 hc
    refine rn_aload_n rfl rfl ?_
    refine rn_getfield rfl rfl rfl ?_
    refine rn_iconst rfl ?_
    refine rn_iload_n rfl rfl ?_
    refine rn_imul rfl ?_
    refine rn_iload_n rfl rfl ?_
    refine rn_iadd rfl ?_
    obtain ⟨j2, hj2, ej2, h⟩ := h
    refine rn_iaload (j := j2) rfl rfl (Nat.le_of_ble_eq_true rfl) ej2 hj2 ?_
    refine rn_goto rfl ?_
    exact rn_ireturn rfl rfl rfl h
-- ReplayedBeansModel.spread(I)I (number 100)
def R_100_2 (xs : Nat × (Nat → Int32)) (d : Nat) (K : Sv → Option Value → Prop) (a1 a2 : Int32) (S : Sv) : Prop := ∀ u3 u4 u5 u6 : Option Value, RN xs d 100 K 2 [some (.ref 31), some (.int a1), some (.int a2), u3, u4, u5, u6] [] S
def R_100_34 (xs : Nat × (Nat → Int32)) (d : Nat) (K : Sv → Option Value → Prop) (a2 a3 : Int32) (S : Sv) : Prop := ∀ u1 u4 u5 u6 : Option Value, RN xs d 100 K 34 [some (.ref 31), u1, some (.int a2), some (.int a3), u4, u5, u6] [] S
def R_100_43 (xs : Nat × (Nat → Int32)) (d : Nat) (K : Sv → Option Value → Prop) (a2 a3 a4 : Int32) (S : Sv) : Prop := ∀ u1 u5 u6 : Option Value, RN xs d 100 K 43 [some (.ref 31), u1, some (.int a2), some (.int a3), some (.int a4), u5, u6] [] S
def R_100_55 (xs : Nat × (Nat → Int32)) (d : Nat) (K : Sv → Option Value → Prop) (a2 a3 a4 a5 : Int32) (S : Sv) : Prop := ∀ u1 u6 : Option Value, RN xs d 100 K 55 [some (.ref 31), u1, some (.int a2), some (.int a3), some (.int a4), some (.int a5), u6] [] S
def w_100_2 (xs : Nat × (Nat → Int32)) (d : Nat) (K : Sv → Option Value → Prop) (a1 a2 : Int32) (S : Sv) : Prop :=
  (24 ≤ a2 → (R_100_34 xs d K 1 0 S)) ∧ (¬ (24 ≤ a2) → ((¬ a2 = a1 → (∃ j1 : Nat, j1 < 24 ∧ a2 = nI j1 ∧ (R_100_2 xs d K a1 (a2 + 1) (us S 43 j1 0)))) ∧ (¬ (¬ a2 = a1) → (∃ j2 : Nat, j2 < 24 ∧ a2 = nI j2 ∧ (R_100_2 xs d K a1 (a2 + 1) (us S 43 j2 1))))))
set_option maxRecDepth 100000 in
set_option maxHeartbeats 4000000 in
theorem h_100_2 {xs : Nat × (Nat → Int32)} {d : Nat} {K : Sv → Option Value → Prop} {a1 a2 : Int32} {S : Sv} (h : w_100_2 xs d K a1 a2 S) : R_100_2 xs d K a1 a2 S := by
  unfold w_100_2 at h
  unfold R_100_2
  intro u3 u4 u5 u6
  refine rn_iload_n rfl rfl ?_
  refine rn_bipush rfl ?_
  refine rn_icmp_ge rfl (fun hc => ?_) (fun hc => ?_)
  · replace h := h.1 hc
    refine rn_iconst rfl ?_
    refine rn_istore_n rfl rfl ?_
    refine rn_iconst rfl ?_
    refine rn_istore_n rfl rfl ?_
    exact h _ _ _ _
  · replace h := h.2 hc
    refine rn_aload_n rfl rfl ?_
    refine rn_getfield rfl rfl rfl ?_
    refine rn_iload_n rfl rfl ?_
    refine rn_iload_n rfl rfl ?_
    refine rn_iload_n rfl rfl ?_
    refine rn_icmp_ne rfl (fun hc => ?_) (fun hc => ?_)
    · replace h := h.1 hc
      refine rn_iconst rfl ?_
      obtain ⟨j1, hj1, ej1, h⟩ := h
      refine rn_bastore (j := j1) (S' := (us S 43 j1 0)) rfl rfl (Nat.le_of_ble_eq_true rfl) ej1 hj1 (by decide) rfl ?_
      refine rn_iinc rfl rfl rfl ?_
      refine rn_goto rfl ?_
      exact h _ _ _ _
    · replace h := h.2 hc
      refine rn_iconst rfl ?_
      refine rn_goto rfl ?_
      obtain ⟨j2, hj2, ej2, h⟩ := h
      refine rn_bastore (j := j2) (S' := (us S 43 j2 1)) rfl rfl (Nat.le_of_ble_eq_true rfl) ej2 hj2 (by decide) rfl ?_
      refine rn_iinc rfl rfl rfl ?_
      refine rn_goto rfl ?_
      exact h _ _ _ _
def w_100_34 (xs : Nat × (Nat → Int32)) (d : Nat) (K : Sv → Option Value → Prop) (a2 a3 : Int32) (S : Sv) : Prop :=
  (24 ≤ a3 → (K S (some (.int a2)))) ∧ (¬ (24 ≤ a3) → (R_100_43 xs d K a2 a3 0 S))
set_option maxRecDepth 100000 in
set_option maxHeartbeats 4000000 in
theorem h_100_34 {xs : Nat × (Nat → Int32)} {d : Nat} {K : Sv → Option Value → Prop} {a2 a3 : Int32} {S : Sv} (h : w_100_34 xs d K a2 a3 S) : R_100_34 xs d K a2 a3 S := by
  unfold w_100_34 at h
  unfold R_100_34
  intro u1 u4 u5 u6
  refine rn_iload_n rfl rfl ?_
  refine rn_bipush rfl ?_
  refine rn_icmp_ge rfl (fun hc => ?_) (fun hc => ?_)
  · replace h := h.1 hc
    refine rn_iload_n rfl rfl ?_
    exact rn_ireturn rfl rfl rfl h
  · replace h := h.2 hc
    refine rn_iconst rfl ?_
    refine rn_istore rfl rfl ?_
    exact h _ _ _
def w_100_43 (xs : Nat × (Nat → Int32)) (d : Nat) (K : Sv → Option Value → Prop) (a2 a3 a4 : Int32) (S : Sv) : Prop :=
  ((S 31 6) ≤ a4 → (R_100_34 xs d K a2 (a3 + 1) S)) ∧ (¬ ((S 31 6) ≤ a4) → (R_100_55 xs d K a2 a3 a4 0 S))
set_option maxRecDepth 100000 in
set_option maxHeartbeats 4000000 in
theorem h_100_43 {xs : Nat × (Nat → Int32)} {d : Nat} {K : Sv → Option Value → Prop} {a2 a3 a4 : Int32} {S : Sv} (h : w_100_43 xs d K a2 a3 a4 S) : R_100_43 xs d K a2 a3 a4 S := by
  unfold w_100_43 at h
  unfold R_100_43
  intro u1 u5 u6
  refine rn_iload rfl rfl ?_
  refine rn_aload_n rfl rfl ?_
  refine rn_getfield rfl rfl rfl ?_
  refine rn_icmp_ge rfl (fun hc => ?_) (fun hc => ?_)
  · replace h := h.1 hc
    refine rn_iinc rfl rfl rfl ?_
    refine rn_goto rfl ?_
    exact h _ _ _ _
  · replace h := h.2 hc
    refine rn_iconst rfl ?_
    refine rn_istore rfl rfl ?_
    exact h _ _
def w_100_55 (xs : Nat × (Nat → Int32)) (d : Nat) (K : Sv → Option Value → Prop) (a2 a3 a4 a5 : Int32) (S : Sv) : Prop :=
  (2 ≤ a5 → (R_100_43 xs d K a2 a3 (a4 + 1) S)) ∧ (¬ (2 ≤ a5) → (∃ j1 : Nat, j1 < 24 ∧ a4 = nI j1 ∧ (((S 43 j1) = 0 → (R_100_55 xs d K a2 a3 a4 (a5 + 1) S)) ∧ (¬ ((S 43 j1) = 0) → (CS xs d 99 S [.ref 31, .int a4, .int a5] (fun S2 v2 => ∃ r2 : Int32, v2 = some (.int r2) ∧ ((r2 = (-1) → (R_100_55 xs d K a2 a3 a4 (a5 + 1) S2)) ∧ (¬ (r2 = (-1)) → (∃ j3 : Nat, j3 < 24 ∧ r2 = nI j3 ∧ ((¬ (S2 43 j3) = 0 → (R_100_55 xs d K a2 a3 a4 (a5 + 1) S2)) ∧ (¬ (¬ (S2 43 j3) = 0) → (∃ j4 : Nat, j4 < 24 ∧ r2 = nI j4 ∧ (R_100_55 xs d K (a2 + 1) a3 a4 (a5 + 1) (us S2 43 j4 1))))))))))))))
set_option maxRecDepth 100000 in
set_option maxHeartbeats 4000000 in
theorem h_100_55 {xs : Nat × (Nat → Int32)} {d : Nat} {K : Sv → Option Value → Prop} {a2 a3 a4 a5 : Int32} {S : Sv} (h : w_100_55 xs d K a2 a3 a4 a5 S) : R_100_55 xs d K a2 a3 a4 a5 S := by
  unfold w_100_55 at h
  unfold R_100_55
  intro u1 u6
  refine rn_iload rfl rfl ?_
  refine rn_iconst rfl ?_
  refine rn_icmp_ge rfl (fun hc => ?_) (fun hc => ?_)
  · replace h := h.1 hc
    refine rn_iinc rfl rfl rfl ?_
    refine rn_goto rfl ?_
    exact h _ _ _
  · replace h := h.2 hc
    refine rn_aload_n rfl rfl ?_
    refine rn_getfield rfl rfl rfl ?_
    refine rn_iload rfl rfl ?_
    obtain ⟨j1, hj1, ej1, h⟩ := h
    refine rn_baload (j := j1) rfl rfl (Nat.le_of_ble_eq_true rfl) ej1 hj1 ?_
    refine rn_if_eq rfl (fun hc => ?_) (fun hc => ?_)
    · replace h := h.1 hc
      refine rn_iconst rfl ?_
      refine rn_istore rfl rfl ?_
      refine rn_iload rfl rfl ?_
      refine rn_iconst rfl ?_
      refine rn_icmp_eq rfl (fun _ => ?_) (fun hc => absurd (by decide) hc)
      refine rn_iinc rfl rfl rfl ?_
      refine rn_goto rfl ?_
      exact h _ _
    · replace h := h.2 hc
      refine rn_aload_n rfl rfl ?_
      refine rn_iload rfl rfl ?_
      refine rn_iload rfl rfl ?_
      refine rn_virtual rfl (Nat.le_of_ble_eq_true rfl) (Nat.le_of_ble_eq_true rfl) rfl rfl (as := [.ref 31, .int a4, .int a5]) (rest := []) rfl rfl rfl (cs_mono h (fun S2 v2 h => ?_))
      obtain ⟨r2, rfl, h⟩ := h
      refine rn_goto rfl ?_
      refine rn_istore rfl rfl ?_
      refine rn_iload rfl rfl ?_
      refine rn_iconst rfl ?_
      refine rn_icmp_eq rfl (fun hc => ?_) (fun hc => ?_)
      · replace h := h.1 hc
        refine rn_iinc rfl rfl rfl ?_
        refine rn_goto rfl ?_
        exact h _ _
      · replace h := h.2 hc
        refine rn_aload_n rfl rfl ?_
        refine rn_getfield rfl rfl rfl ?_
        refine rn_iload rfl rfl ?_
        obtain ⟨j3, hj3, ej3, h⟩ := h
        refine rn_baload (j := j3) rfl rfl (Nat.le_of_ble_eq_true rfl) ej3 hj3 ?_
        refine rn_if_ne rfl (fun hc => ?_) (fun hc => ?_)
        · replace h := h.1 hc
          refine rn_iinc rfl rfl rfl ?_
          refine rn_goto rfl ?_
          exact h _ _
        · replace h := h.2 hc
          refine rn_aload_n rfl rfl ?_
          refine rn_getfield rfl rfl rfl ?_
          refine rn_iload rfl rfl ?_
          refine rn_iconst rfl ?_
          obtain ⟨j4, hj4, ej4, h⟩ := h
          refine rn_bastore (j := j4) (S' := (us S2 43 j4 1)) rfl rfl (Nat.le_of_ble_eq_true rfl) ej4 hj4 (by decide) rfl ?_
          refine rn_iinc rfl rfl rfl ?_
          refine rn_iinc rfl rfl rfl ?_
          refine rn_goto rfl ?_
          exact h _ _
def w_100 (xs : Nat × (Nat → Int32)) (d : Nat) (K : Sv → Option Value → Prop) (a1 : Int32) (S : Sv) : Prop :=
  R_100_2 xs d K a1 0 S
set_option maxRecDepth 100000 in
set_option maxHeartbeats 4000000 in
theorem c_100 {xs : Nat × (Nat → Int32)} {d : Nat} {K : Sv → Option Value → Prop} {a1 : Int32} {S : Sv} (h : w_100 xs d K a1 S) : CS xs (d + 1) 100 S [.ref 31, .int a1] K := by
  unfold w_100 at h
  refine cs_in rfl rfl rfl rfl ?_
  refine rn_iconst rfl ?_
  refine rn_istore_n rfl rfl ?_
  exact h _ _ _ _
-- ReplayedBeansModel.reachable(I)I (number 101)
def w_101 (xs : Nat × (Nat → Int32)) (d : Nat) (K : Sv → Option Value → Prop) (a1 : Int32) (S : Sv) : Prop :=
  CS xs d 88 S [.ref 31, .int a1] (fun S1 v1 => ∃ r1 : Int32, v1 = some (.int r1) ∧ ((r1 = 0 → (K S1 (some (.int 0)))) ∧ (¬ (r1 = 0) → (CS xs d 100 S1 [.ref 31, .int a1] (fun S2 v2 => ∃ r2 : Int32, v2 = some (.int r2) ∧ (K S2 (some (.int r2))))))))
set_option maxRecDepth 100000 in
set_option maxHeartbeats 4000000 in
theorem c_101 {xs : Nat × (Nat → Int32)} {d : Nat} {K : Sv → Option Value → Prop} {a1 : Int32} {S : Sv} (h : w_101 xs d K a1 S) : CS xs (d + 1) 101 S [.ref 31, .int a1] K := by
  unfold w_101 at h
  refine cs_in rfl rfl rfl rfl ?_
  refine rn_aload_n rfl rfl ?_
  refine rn_iload_n rfl rfl ?_
  refine rn_virtual rfl (Nat.le_of_ble_eq_true rfl) (Nat.le_of_ble_eq_true rfl) rfl rfl (as := [.ref 31, .int a1]) (rest := []) rfl rfl rfl (cs_mono h (fun S1 v1 h => ?_))
  obtain ⟨r1, rfl, h⟩ := h
  refine rn_if_eq rfl (fun hc => ?_) (fun hc => ?_)
  · replace h := h.1 hc
    refine rn_iconst rfl ?_
    exact rn_ireturn rfl rfl rfl h
  · replace h := h.2 hc
    refine rn_aload_n rfl rfl ?_
    refine rn_iload_n rfl rfl ?_
    refine rn_virtual rfl (Nat.le_of_ble_eq_true rfl) (Nat.le_of_ble_eq_true rfl) rfl rfl (as := [.ref 31, .int a1]) (rest := []) rfl rfl rfl (cs_mono h (fun S2 v2 h => ?_))
    obtain ⟨r2, rfl, h⟩ := h
    refine rn_goto rfl ?_
    exact rn_ireturn rfl rfl rfl h
-- ReplayedBeansModel.join(II)Z (number 102)
def R_102_41 (xs : Nat × (Nat → Int32)) (d : Nat) (K : Sv → Option Value → Prop) (a1 a2 : Int32) (S : Sv) : Prop := RN xs d 102 K 41 [some (.ref 31), some (.int a1), some (.int a2)] [] S
def w_102_41 (xs : Nat × (Nat → Int32)) (d : Nat) (K : Sv → Option Value → Prop) (a1 a2 : Int32) (S : Sv) : Prop :=
  ∃ j1 : Nat, j1 < 24 ∧ a1 = nI j1 ∧ ((¬ (S 44 j1) = a2 → (K S (some (.int 0)))) ∧ (¬ (¬ (S 44 j1) = a2) → (∃ j2 : Nat, j2 < 24 ∧ a2 = nI j2 ∧ ((¬ (S 45 j2) = a1 → (K S (some (.int 0)))) ∧ (¬ (¬ (S 45 j2) = a1) → (K S (some (.int 1))))))))
set_option maxRecDepth 100000 in
set_option maxHeartbeats 4000000 in
theorem h_102_41 {xs : Nat × (Nat → Int32)} {d : Nat} {K : Sv → Option Value → Prop} {a1 a2 : Int32} {S : Sv} (h : w_102_41 xs d K a1 a2 S) : R_102_41 xs d K a1 a2 S := by
  unfold w_102_41 at h
  unfold R_102_41
  refine rn_aload_n rfl rfl ?_
  refine rn_getfield rfl rfl rfl ?_
  refine rn_iload_n rfl rfl ?_
  obtain ⟨j1, hj1, ej1, h⟩ := h
  refine rn_iaload (j := j1) rfl rfl (Nat.le_of_ble_eq_true rfl) ej1 hj1 ?_
  refine rn_iload_n rfl rfl ?_
  refine rn_icmp_ne rfl (fun hc => ?_) (fun hc => ?_)
  · replace h := h.1 hc
    refine rn_iconst rfl ?_
    exact rn_ireturn rfl rfl (by decide) h
  · replace h := h.2 hc
    refine rn_aload_n rfl rfl ?_
    refine rn_getfield rfl rfl rfl ?_
    refine rn_iload_n rfl rfl ?_
    obtain ⟨j2, hj2, ej2, h⟩ := h
    refine rn_iaload (j := j2) rfl rfl (Nat.le_of_ble_eq_true rfl) ej2 hj2 ?_
    refine rn_iload_n rfl rfl ?_
    refine rn_icmp_ne rfl (fun hc => ?_) (fun hc => ?_)
    · replace h := h.1 hc
      refine rn_iconst rfl ?_
      exact rn_ireturn rfl rfl (by decide) h
    · replace h := h.2 hc
      refine rn_iconst rfl ?_
      refine rn_goto rfl ?_
      exact rn_ireturn rfl rfl (by decide) h
def w_102 (xs : Nat × (Nat → Int32)) (d : Nat) (K : Sv → Option Value → Prop) (a1 a2 : Int32) (S : Sv) : Prop :=
  (a1 = (-1) → ((¬ a1 = a2 → (K S (some (.int 0)))) ∧ (¬ (¬ a1 = a2) → (K S (some (.int 1)))))) ∧ (¬ (a1 = (-1)) → ((¬ a2 = (-1) → (∃ j1 : Nat, j1 < 24 ∧ a1 = nI j1 ∧ ((¬ (S 44 j1) = (-1) → (R_102_41 xs d K a1 a2 S)) ∧ (¬ (¬ (S 44 j1) = (-1)) → (∃ j2 : Nat, j2 < 24 ∧ a2 = nI j2 ∧ (((S 45 j2) = (-1) → (∃ j3 : Nat, j3 < 24 ∧ a1 = nI j3 ∧ (∃ j4 : Nat, j4 < 24 ∧ a2 = nI j4 ∧ (K (us (us S 44 j3 a2) 45 j4 a1) (some (.int 1)))))) ∧ (¬ ((S 45 j2) = (-1)) → (R_102_41 xs d K a1 a2 S)))))))) ∧ (¬ (¬ a2 = (-1)) → ((¬ a1 = a2 → (K S (some (.int 0)))) ∧ (¬ (¬ a1 = a2) → (K S (some (.int 1))))))))
set_option maxRecDepth 100000 in
set_option maxHeartbeats 4000000 in
theorem c_102 {xs : Nat × (Nat → Int32)} {d : Nat} {K : Sv → Option Value → Prop} {a1 a2 : Int32} {S : Sv} (h : w_102 xs d K a1 a2 S) : CS xs (d + 1) 102 S [.ref 31, .int a1, .int a2] K := by
  unfold w_102 at h
  refine cs_in rfl rfl rfl rfl ?_
  refine rn_iload_n rfl rfl ?_
  refine rn_iconst rfl ?_
  refine rn_icmp_eq rfl (fun hc => ?_) (fun hc => ?_)
  · replace h := h.1 hc
    refine rn_iload_n rfl rfl ?_
    refine rn_iload_n rfl rfl ?_
    refine rn_icmp_ne rfl (fun hc => ?_) (fun hc => ?_)
    · replace h := h.1 hc
      refine rn_iconst rfl ?_
      exact rn_ireturn rfl rfl (by decide) h
    · replace h := h.2 hc
      refine rn_iconst rfl ?_
      refine rn_goto rfl ?_
      exact rn_ireturn rfl rfl (by decide) h
  · replace h := h.2 hc
    refine rn_iload_n rfl rfl ?_
    refine rn_iconst rfl ?_
    refine rn_icmp_ne rfl (fun hc => ?_) (fun hc => ?_)
    · replace h := h.1 hc
      refine rn_aload_n rfl rfl ?_
      refine rn_getfield rfl rfl rfl ?_
      refine rn_iload_n rfl rfl ?_
      obtain ⟨j1, hj1, ej1, h⟩ := h
      refine rn_iaload (j := j1) rfl rfl (Nat.le_of_ble_eq_true rfl) ej1 hj1 ?_
      refine rn_iconst rfl ?_
      refine rn_icmp_ne rfl (fun hc => ?_) (fun hc => ?_)
      · replace h := h.1 hc
        exact h
      · replace h := h.2 hc
        refine rn_aload_n rfl rfl ?_
        refine rn_getfield rfl rfl rfl ?_
        refine rn_iload_n rfl rfl ?_
        obtain ⟨j2, hj2, ej2, h⟩ := h
        refine rn_iaload (j := j2) rfl rfl (Nat.le_of_ble_eq_true rfl) ej2 hj2 ?_
        refine rn_iconst rfl ?_
        refine rn_icmp_eq rfl (fun hc => ?_) (fun hc => ?_)
        · replace h := h.1 hc
          refine rn_aload_n rfl rfl ?_
          refine rn_getfield rfl rfl rfl ?_
          refine rn_iload_n rfl rfl ?_
          refine rn_iload_n rfl rfl ?_
          obtain ⟨j3, hj3, ej3, h⟩ := h
          refine rn_iastore (j := j3) (S' := (us S 44 j3 a2)) rfl rfl (Nat.le_of_ble_eq_true rfl) ej3 hj3 rfl ?_
          refine rn_aload_n rfl rfl ?_
          refine rn_getfield rfl rfl rfl ?_
          refine rn_iload_n rfl rfl ?_
          refine rn_iload_n rfl rfl ?_
          obtain ⟨j4, hj4, ej4, h⟩ := h
          refine rn_iastore (j := j4) (S' := (us (us S 44 j3 a2) 45 j4 a1)) rfl rfl (Nat.le_of_ble_eq_true rfl) ej4 hj4 rfl ?_
          refine rn_iconst rfl ?_
          exact rn_ireturn rfl rfl (by decide) h
        · replace h := h.2 hc
          exact h
    · replace h := h.2 hc
      refine rn_iload_n rfl rfl ?_
      refine rn_iload_n rfl rfl ?_
      refine rn_icmp_ne rfl (fun hc => ?_) (fun hc => ?_)
      · replace h := h.1 hc
        refine rn_iconst rfl ?_
        exact rn_ireturn rfl rfl (by decide) h
      · replace h := h.2 hc
        refine rn_iconst rfl ?_
        refine rn_goto rfl ?_
        exact rn_ireturn rfl rfl (by decide) h
-- ReplayedBeansModel.sameNumbers(II)Z (number 103)
def R_103_24 (xs : Nat × (Nat → Int32)) (d : Nat) (K : Sv → Option Value → Prop) (a1 a2 a3 a4 : Int32) (S : Sv) : Prop := RN xs d 103 K 24 [some (.ref 31), some (.int a1), some (.int a2), some (.int a3), some (.int a4)] [] S
def w_103_24 (xs : Nat × (Nat → Int32)) (d : Nat) (K : Sv → Option Value → Prop) (a1 a2 a3 a4 : Int32) (S : Sv) : Prop :=
  (3 ≤ a4 → ((a3 = 0 ∨ a3 = 1) ∧ K S (some (.int a3)))) ∧ (¬ (3 ≤ a4) → ((a3 = 0 → (R_103_24 xs d K a1 a2 0 (a4 + 1) S)) ∧ (¬ (a3 = 0) → (CS xs d 98 S [.ref 31, .int a1, .int a4] (fun S1 v1 => ∃ r1 : Int32, v1 = some (.int r1) ∧ (CS xs d 98 S1 [.ref 31, .int a2, .int a4] (fun S2 v2 => ∃ r2 : Int32, v2 = some (.int r2) ∧ ((¬ r1 = r2 → (R_103_24 xs d K a1 a2 0 (a4 + 1) S2)) ∧ (¬ (¬ r1 = r2) → (R_103_24 xs d K a1 a2 1 (a4 + 1) S2))))))))))
set_option maxRecDepth 100000 in
set_option maxHeartbeats 4000000 in
theorem h_103_24 {xs : Nat × (Nat → Int32)} {d : Nat} {K : Sv → Option Value → Prop} {a1 a2 a3 a4 : Int32} {S : Sv} (h : w_103_24 xs d K a1 a2 a3 a4 S) : R_103_24 xs d K a1 a2 a3 a4 S := by
  unfold w_103_24 at h
  unfold R_103_24
  refine rn_iload rfl rfl ?_
  refine rn_iconst rfl ?_
  refine rn_icmp_ge rfl (fun hc => ?_) (fun hc => ?_)
  · replace h := h.1 hc
    refine rn_iload_n rfl rfl ?_
    exact rn_ireturn rfl rfl (nar_z h.1) h.2
  · replace h := h.2 hc
    refine rn_iload_n rfl rfl ?_
    refine rn_if_eq rfl (fun hc => ?_) (fun hc => ?_)
    · replace h := h.1 hc
      refine rn_iconst rfl ?_
      refine rn_istore_n rfl rfl ?_
      refine rn_iinc rfl rfl rfl ?_
      refine rn_goto rfl ?_
      exact h
    · replace h := h.2 hc
      refine rn_aload_n rfl rfl ?_
      refine rn_iload_n rfl rfl ?_
      refine rn_iload rfl rfl ?_
      refine rn_virtual rfl (Nat.le_of_ble_eq_true rfl) (Nat.le_of_ble_eq_true rfl) rfl rfl (as := [.ref 31, .int a1, .int a4]) (rest := []) rfl rfl rfl (cs_mono h (fun S1 v1 h => ?_))
      obtain ⟨r1, rfl, h⟩ := h
      refine rn_aload_n rfl rfl ?_
      refine rn_iload_n rfl rfl ?_
      refine rn_iload rfl rfl ?_
      refine rn_virtual rfl (Nat.le_of_ble_eq_true rfl) (Nat.le_of_ble_eq_true rfl) rfl rfl (as := [.ref 31, .int a2, .int a4]) (rest := [.int r1]) rfl rfl rfl (cs_mono h (fun S2 v2 h => ?_))
      obtain ⟨r2, rfl, h⟩ := h
      refine rn_icmp_ne rfl (fun hc => ?_) (fun hc => ?_)
      · replace h := h.1 hc
        refine rn_iconst rfl ?_
        refine rn_istore_n rfl rfl ?_
        refine rn_iinc rfl rfl rfl ?_
        refine rn_goto rfl ?_
        exact h
      · replace h := h.2 hc
        refine rn_iconst rfl ?_
        refine rn_goto rfl ?_
        refine rn_istore_n rfl rfl ?_
        refine rn_iinc rfl rfl rfl ?_
        refine rn_goto rfl ?_
        exact h
def w_103 (xs : Nat × (Nat → Int32)) (d : Nat) (K : Sv → Option Value → Prop) (a1 a2 : Int32) (S : Sv) : Prop :=
  ∃ j1 : Nat, j1 < 24 ∧ a1 = nI j1 ∧ (∃ j2 : Nat, j2 < 24 ∧ a2 = nI j2 ∧ ((¬ (S 38 j1) = (S 38 j2) → (R_103_24 xs d K a1 a2 0 0 S)) ∧ (¬ (¬ (S 38 j1) = (S 38 j2)) → (R_103_24 xs d K a1 a2 1 0 S))))
set_option maxRecDepth 100000 in
set_option maxHeartbeats 4000000 in
theorem c_103 {xs : Nat × (Nat → Int32)} {d : Nat} {K : Sv → Option Value → Prop} {a1 a2 : Int32} {S : Sv} (h : w_103 xs d K a1 a2 S) : CS xs (d + 1) 103 S [.ref 31, .int a1, .int a2] K := by
  unfold w_103 at h
  refine cs_in rfl rfl rfl rfl ?_
  refine rn_aload_n rfl rfl ?_
  refine rn_getfield rfl rfl rfl ?_
  refine rn_iload_n rfl rfl ?_
  obtain ⟨j1, hj1, ej1, h⟩ := h
  refine rn_iaload (j := j1) rfl rfl (Nat.le_of_ble_eq_true rfl) ej1 hj1 ?_
  refine rn_aload_n rfl rfl ?_
  refine rn_getfield rfl rfl rfl ?_
  refine rn_iload_n rfl rfl ?_
  obtain ⟨j2, hj2, ej2, h⟩ := h
  refine rn_iaload (j := j2) rfl rfl (Nat.le_of_ble_eq_true rfl) ej2 hj2 ?_
  refine rn_icmp_ne rfl (fun hc => ?_) (fun hc => ?_)
  · replace h := h.1 hc
    refine rn_iconst rfl ?_
    refine rn_istore_n rfl rfl ?_
    refine rn_iconst rfl ?_
    refine rn_istore rfl rfl ?_
    exact h
  · replace h := h.2 hc
    refine rn_iconst rfl ?_
    refine rn_goto rfl ?_
    refine rn_istore_n rfl rfl ?_
    refine rn_iconst rfl ?_
    refine rn_istore rfl rfl ?_
    exact h
-- ReplayedBeansModel.alike(II)Z (number 104)
def R_104_20 (xs : Nat × (Nat → Int32)) (d : Nat) (K : Sv → Option Value → Prop) (a1 a2 a3 : Int32) (S : Sv) : Prop := ∀ u4 u5 u6 : Option Value, RN xs d 104 K 20 [some (.ref 31), some (.int a1), some (.int a2), some (.int a3), u4, u5, u6] [] S
def R_104_56 (xs : Nat × (Nat → Int32)) (d : Nat) (K : Sv → Option Value → Prop) (a3 a4 : Int32) (S : Sv) : Prop := ∀ u1 u2 u5 u6 : Option Value, RN xs d 104 K 56 [some (.ref 31), u1, u2, some (.int a3), some (.int a4), u5, u6] [] S
def R_104_70 (xs : Nat × (Nat → Int32)) (d : Nat) (K : Sv → Option Value → Prop) (a3 a4 a5 : Int32) (S : Sv) : Prop := ∀ u1 u2 u6 : Option Value, RN xs d 104 K 70 [some (.ref 31), u1, u2, some (.int a3), some (.int a4), some (.int a5), u6] [] S
def R_104_114 (xs : Nat × (Nat → Int32)) (d : Nat) (K : Sv → Option Value → Prop) (a3 a4 a5 a6 : Int32) (S : Sv) : Prop := ∀ u1 u2 : Option Value, RN xs d 104 K 114 [some (.ref 31), u1, u2, some (.int a3), some (.int a4), some (.int a5), some (.int a6)] [] S
def w_104_20 (xs : Nat × (Nat → Int32)) (d : Nat) (K : Sv → Option Value → Prop) (a1 a2 a3 : Int32) (S : Sv) : Prop :=
  (24 ≤ a3 → (CS xs d 102 S [.ref 31, .int a1, .int a2] (fun S1 v1 => ∃ r1 : Int32, v1 = some (.int r1) ∧ (R_104_56 xs d K r1 0 S1)))) ∧ (¬ (24 ≤ a3) → (∃ j2 : Nat, j2 < 24 ∧ a3 = nI j2 ∧ (∃ j3 : Nat, j3 < 24 ∧ a3 = nI j3 ∧ (R_104_20 xs d K a1 a2 (a3 + 1) (us (us S 44 j2 (-1)) 45 j3 (-1))))))
set_option maxRecDepth 100000 in
set_option maxHeartbeats 4000000 in
theorem h_104_20 {xs : Nat × (Nat → Int32)} {d : Nat} {K : Sv → Option Value → Prop} {a1 a2 a3 : Int32} {S : Sv} (h : w_104_20 xs d K a1 a2 a3 S) : R_104_20 xs d K a1 a2 a3 S := by
  unfold w_104_20 at h
  unfold R_104_20
  intro u4 u5 u6
  refine rn_iload_n rfl rfl ?_
  refine rn_bipush rfl ?_
  refine rn_icmp_ge rfl (fun hc => ?_) (fun hc => ?_)
  · replace h := h.1 hc
    refine rn_aload_n rfl rfl ?_
    refine rn_iload_n rfl rfl ?_
    refine rn_iload_n rfl rfl ?_
    refine rn_virtual rfl (Nat.le_of_ble_eq_true rfl) (Nat.le_of_ble_eq_true rfl) rfl rfl (as := [.ref 31, .int a1, .int a2]) (rest := []) rfl rfl rfl (cs_mono h (fun S1 v1 h => ?_))
    obtain ⟨r1, rfl, h⟩ := h
    refine rn_istore_n rfl rfl ?_
    refine rn_iconst rfl ?_
    refine rn_istore rfl rfl ?_
    exact h _ _ _ _
  · replace h := h.2 hc
    refine rn_aload_n rfl rfl ?_
    refine rn_getfield rfl rfl rfl ?_
    refine rn_iload_n rfl rfl ?_
    refine rn_iconst rfl ?_
    obtain ⟨j2, hj2, ej2, h⟩ := h
    refine rn_iastore (j := j2) (S' := (us S 44 j2 (-1))) rfl rfl (Nat.le_of_ble_eq_true rfl) ej2 hj2 rfl ?_
    refine rn_aload_n rfl rfl ?_
    refine rn_getfield rfl rfl rfl ?_
    refine rn_iload_n rfl rfl ?_
    refine rn_iconst rfl ?_
    obtain ⟨j3, hj3, ej3, h⟩ := h
    refine rn_iastore (j := j3) (S' := (us (us S 44 j2 (-1)) 45 j3 (-1))) rfl rfl (Nat.le_of_ble_eq_true rfl) ej3 hj3 rfl ?_
    refine rn_iinc rfl rfl rfl ?_
    refine rn_goto rfl ?_
    exact h _ _ _
def w_104_56 (xs : Nat × (Nat → Int32)) (d : Nat) (K : Sv → Option Value → Prop) (a3 a4 : Int32) (S : Sv) : Prop :=
  (24 ≤ a4 → ((a3 = 0 ∨ a3 = 1) ∧ K S (some (.int a3)))) ∧ (¬ (24 ≤ a4) → ((a3 = 0 → ((a3 = 0 ∨ a3 = 1) ∧ K S (some (.int a3)))) ∧ (¬ (a3 = 0) → (R_104_70 xs d K a3 a4 0 S))))
set_option maxRecDepth 100000 in
set_option maxHeartbeats 4000000 in
theorem h_104_56 {xs : Nat × (Nat → Int32)} {d : Nat} {K : Sv → Option Value → Prop} {a3 a4 : Int32} {S : Sv} (h : w_104_56 xs d K a3 a4 S) : R_104_56 xs d K a3 a4 S := by
  unfold w_104_56 at h
  unfold R_104_56
  intro u1 u2 u5 u6
  refine rn_iload rfl rfl ?_
  refine rn_bipush rfl ?_
  refine rn_icmp_ge rfl (fun hc => ?_) (fun hc => ?_)
  · replace h := h.1 hc
    refine rn_iload_n rfl rfl ?_
    exact rn_ireturn rfl rfl (nar_z h.1) h.2
  · replace h := h.2 hc
    refine rn_iload_n rfl rfl ?_
    refine rn_if_eq rfl (fun hc => ?_) (fun hc => ?_)
    · replace h := h.1 hc
      refine rn_iload_n rfl rfl ?_
      exact rn_ireturn rfl rfl (nar_z h.1) h.2
    · replace h := h.2 hc
      refine rn_iconst rfl ?_
      refine rn_istore rfl rfl ?_
      exact h _ _ _
def w_104_70 (xs : Nat × (Nat → Int32)) (d : Nat) (K : Sv → Option Value → Prop) (a3 a4 a5 : Int32) (S : Sv) : Prop :=
  ((S 31 6) ≤ a5 → (R_104_56 xs d K a3 (a4 + 1) S)) ∧ (¬ ((S 31 6) ≤ a5) → (∃ j1 : Nat, j1 < 24 ∧ a5 = nI j1 ∧ (((S 44 j1) = (-1) → (R_104_70 xs d K a3 a4 (a5 + 1) S)) ∧ (¬ ((S 44 j1) = (-1)) → ((¬ a3 = 0 → (∃ j2 : Nat, j2 < 24 ∧ a5 = nI j2 ∧ (CS xs d 103 S [.ref 31, .int a5, .int (S 44 j2)] (fun S3 v3 => ∃ r3 : Int32, v3 = some (.int r3) ∧ (R_104_114 xs d K r3 a4 a5 0 S3))))) ∧ (¬ (¬ a3 = 0) → (R_104_70 xs d K a3 a4 (a5 + 1) S)))))))
set_option maxRecDepth 100000 in
set_option maxHeartbeats 4000000 in
theorem h_104_70 {xs : Nat × (Nat → Int32)} {d : Nat} {K : Sv → Option Value → Prop} {a3 a4 a5 : Int32} {S : Sv} (h : w_104_70 xs d K a3 a4 a5 S) : R_104_70 xs d K a3 a4 a5 S := by
  unfold w_104_70 at h
  unfold R_104_70
  intro u1 u2 u6
  refine rn_iload rfl rfl ?_
  refine rn_aload_n rfl rfl ?_
  refine rn_getfield rfl rfl rfl ?_
  refine rn_icmp_ge rfl (fun hc => ?_) (fun hc => ?_)
  · replace h := h.1 hc
    refine rn_iinc rfl rfl rfl ?_
    refine rn_goto rfl ?_
    exact h _ _ _ _
  · replace h := h.2 hc
    refine rn_aload_n rfl rfl ?_
    refine rn_getfield rfl rfl rfl ?_
    refine rn_iload rfl rfl ?_
    obtain ⟨j1, hj1, ej1, h⟩ := h
    refine rn_iaload (j := j1) rfl rfl (Nat.le_of_ble_eq_true rfl) ej1 hj1 ?_
    refine rn_iconst rfl ?_
    refine rn_icmp_eq rfl (fun hc => ?_) (fun hc => ?_)
    · replace h := h.1 hc
      refine rn_iinc rfl rfl rfl ?_
      refine rn_goto rfl ?_
      exact h _ _ _
    · replace h := h.2 hc
      refine rn_iload_n rfl rfl ?_
      refine rn_if_ne rfl (fun hc => ?_) (fun hc => ?_)
      · replace h := h.1 hc
        refine rn_aload_n rfl rfl ?_
        refine rn_iload rfl rfl ?_
        refine rn_aload_n rfl rfl ?_
        refine rn_getfield rfl rfl rfl ?_
        refine rn_iload rfl rfl ?_
        obtain ⟨j2, hj2, ej2, h⟩ := h
        refine rn_iaload (j := j2) rfl rfl (Nat.le_of_ble_eq_true rfl) ej2 hj2 ?_
        refine rn_virtual rfl (Nat.le_of_ble_eq_true rfl) (Nat.le_of_ble_eq_true rfl) rfl rfl (as := [.ref 31, .int a5, .int (S 44 j2)]) (rest := []) rfl rfl rfl (cs_mono h (fun S3 v3 h => ?_))
        obtain ⟨r3, rfl, h⟩ := h
        refine rn_istore_n rfl rfl ?_
        refine rn_iconst rfl ?_
        refine rn_istore rfl rfl ?_
        exact h _ _
      · replace h := h.2 hc
        refine rn_goto rfl ?_
        refine rn_iinc rfl rfl rfl ?_
        refine rn_goto rfl ?_
        exact h _ _ _
def w_104_114 (xs : Nat × (Nat → Int32)) (d : Nat) (K : Sv → Option Value → Prop) (a3 a4 a5 a6 : Int32) (S : Sv) : Prop :=
  (2 ≤ a6 → (R_104_70 xs d K a3 a4 (a5 + 1) S)) ∧ (¬ (2 ≤ a6) → ((a3 = 0 → (R_104_70 xs d K a3 a4 (a5 + 1) S)) ∧ (¬ (a3 = 0) → (CS xs d 99 S [.ref 31, .int a5, .int a6] (fun S1 v1 => ∃ r1 : Int32, v1 = some (.int r1) ∧ (∃ j2 : Nat, j2 < 24 ∧ a5 = nI j2 ∧ (CS xs d 99 S1 [.ref 31, .int (S1 44 j2), .int a6] (fun S3 v3 => ∃ r3 : Int32, v3 = some (.int r3) ∧ (CS xs d 102 S3 [.ref 31, .int r1, .int r3] (fun S4 v4 => ∃ r4 : Int32, v4 = some (.int r4) ∧ (R_104_114 xs d K r4 a4 a5 (a6 + 1) S4)))))))))))
set_option maxRecDepth 100000 in
set_option maxHeartbeats 4000000 in
theorem h_104_114 {xs : Nat × (Nat → Int32)} {d : Nat} {K : Sv → Option Value → Prop} {a3 a4 a5 a6 : Int32} {S : Sv} (h : w_104_114 xs d K a3 a4 a5 a6 S) : R_104_114 xs d K a3 a4 a5 a6 S := by
  unfold w_104_114 at h
  unfold R_104_114
  intro u1 u2
  refine rn_iload rfl rfl ?_
  refine rn_iconst rfl ?_
  refine rn_icmp_ge rfl (fun hc => ?_) (fun hc => ?_)
  · replace h := h.1 hc
    refine rn_iinc rfl rfl rfl ?_
    refine rn_goto rfl ?_
    exact h _ _ _
  · replace h := h.2 hc
    refine rn_iload_n rfl rfl ?_
    refine rn_if_eq rfl (fun hc => ?_) (fun hc => ?_)
    · replace h := h.1 hc
      refine rn_iinc rfl rfl rfl ?_
      refine rn_goto rfl ?_
      exact h _ _ _
    · replace h := h.2 hc
      refine rn_aload_n rfl rfl ?_
      refine rn_aload_n rfl rfl ?_
      refine rn_iload rfl rfl ?_
      refine rn_iload rfl rfl ?_
      refine rn_virtual rfl (Nat.le_of_ble_eq_true rfl) (Nat.le_of_ble_eq_true rfl) rfl rfl (as := [.ref 31, .int a5, .int a6]) (rest := [.ref 31]) rfl rfl rfl (cs_mono h (fun S1 v1 h => ?_))
      obtain ⟨r1, rfl, h⟩ := h
      refine rn_aload_n rfl rfl ?_
      refine rn_aload_n rfl rfl ?_
      refine rn_getfield rfl rfl rfl ?_
      refine rn_iload rfl rfl ?_
      obtain ⟨j2, hj2, ej2, h⟩ := h
      refine rn_iaload (j := j2) rfl rfl (Nat.le_of_ble_eq_true rfl) ej2 hj2 ?_
      refine rn_iload rfl rfl ?_
      refine rn_virtual rfl (Nat.le_of_ble_eq_true rfl) (Nat.le_of_ble_eq_true rfl) rfl rfl (as := [.ref 31, .int (S1 44 j2), .int a6]) (rest := [.int r1, .ref 31]) rfl rfl rfl (cs_mono h (fun S3 v3 h => ?_))
      obtain ⟨r3, rfl, h⟩ := h
      refine rn_virtual rfl (Nat.le_of_ble_eq_true rfl) (Nat.le_of_ble_eq_true rfl) rfl rfl (as := [.ref 31, .int r1, .int r3]) (rest := []) rfl rfl rfl (cs_mono h (fun S4 v4 h => ?_))
      obtain ⟨r4, rfl, h⟩ := h
      refine rn_istore_n rfl rfl ?_
      refine rn_iinc rfl rfl rfl ?_
      refine rn_goto rfl ?_
      exact h _ _
def w_104 (xs : Nat × (Nat → Int32)) (d : Nat) (K : Sv → Option Value → Prop) (a1 a2 : Int32) (S : Sv) : Prop :=
  CS xs d 88 S [.ref 31, .int a1] (fun S1 v1 => ∃ r1 : Int32, v1 = some (.int r1) ∧ ((r1 = 0 → (K S1 (some (.int 0)))) ∧ (¬ (r1 = 0) → (CS xs d 88 S1 [.ref 31, .int a2] (fun S2 v2 => ∃ r2 : Int32, v2 = some (.int r2) ∧ ((¬ r2 = 0 → (R_104_20 xs d K a1 a2 0 S2)) ∧ (¬ (¬ r2 = 0) → (K S2 (some (.int 0))))))))))
set_option maxRecDepth 100000 in
set_option maxHeartbeats 4000000 in
theorem c_104 {xs : Nat × (Nat → Int32)} {d : Nat} {K : Sv → Option Value → Prop} {a1 a2 : Int32} {S : Sv} (h : w_104 xs d K a1 a2 S) : CS xs (d + 1) 104 S [.ref 31, .int a1, .int a2] K := by
  unfold w_104 at h
  refine cs_in rfl rfl rfl rfl ?_
  refine rn_aload_n rfl rfl ?_
  refine rn_iload_n rfl rfl ?_
  refine rn_virtual rfl (Nat.le_of_ble_eq_true rfl) (Nat.le_of_ble_eq_true rfl) rfl rfl (as := [.ref 31, .int a1]) (rest := []) rfl rfl rfl (cs_mono h (fun S1 v1 h => ?_))
  obtain ⟨r1, rfl, h⟩ := h
  refine rn_if_eq rfl (fun hc => ?_) (fun hc => ?_)
  · replace h := h.1 hc
    refine rn_iconst rfl ?_
    exact rn_ireturn rfl rfl (by decide) h
  · replace h := h.2 hc
    refine rn_aload_n rfl rfl ?_
    refine rn_iload_n rfl rfl ?_
    refine rn_virtual rfl (Nat.le_of_ble_eq_true rfl) (Nat.le_of_ble_eq_true rfl) rfl rfl (as := [.ref 31, .int a2]) (rest := []) rfl rfl rfl (cs_mono h (fun S2 v2 h => ?_))
    obtain ⟨r2, rfl, h⟩ := h
    refine rn_if_ne rfl (fun hc => ?_) (fun hc => ?_)
    · replace h := h.1 hc
      refine rn_iconst rfl ?_
      refine rn_istore_n rfl rfl ?_
      exact h _ _ _
    · replace h := h.2 hc
      refine rn_iconst rfl ?_
      exact rn_ireturn rfl rfl (by decide) h
-- ReplayedBeansModel.put(I)V (number 105)
def w_105 (xs : Nat × (Nat → Int32)) (d : Nat) (K : Sv → Option Value → Prop) (a1 : Int32) (S : Sv) : Prop :=
  (300 ≤ (S 31 13) → (K (us S 31 13 ((S 31 13) + 1)) none)) ∧ (¬ (300 ≤ (S 31 13)) → (∃ j1 : Nat, j1 < 300 ∧ (S 31 13) = nI j1 ∧ (K (us (us S 42 j1 a1) 31 13 ((S 31 13) + 1)) none)))
set_option maxRecDepth 100000 in
set_option maxHeartbeats 4000000 in
theorem c_105 {xs : Nat × (Nat → Int32)} {d : Nat} {K : Sv → Option Value → Prop} {a1 : Int32} {S : Sv} (h : w_105 xs d K a1 S) : CS xs (d + 1) 105 S [.ref 31, .int a1] K := by
  unfold w_105 at h
  refine cs_in rfl rfl rfl rfl ?_
  refine rn_aload_n rfl rfl ?_
  refine rn_getfield rfl rfl rfl ?_
  refine rn_sipush rfl ?_
  refine rn_icmp_ge rfl (fun hc => ?_) (fun hc => ?_)
  · replace h := h.1 hc
    refine rn_aload_n rfl rfl ?_
    refine rn_dup rfl rfl ?_
    refine rn_getfield rfl rfl rfl ?_
    refine rn_iconst rfl ?_
    refine rn_iadd rfl ?_
    refine rn_putfield (S' := (us S 31 13 ((S 31 13) + 1))) rfl rfl (Nat.le_of_ble_eq_true rfl) (Or.inl rfl) rfl ?_
    exact rn_return rfl rfl h
  · replace h := h.2 hc
    refine rn_aload_n rfl rfl ?_
    refine rn_getfield rfl rfl rfl ?_
    refine rn_aload_n rfl rfl ?_
    refine rn_getfield rfl rfl rfl ?_
    refine rn_iload_n rfl rfl ?_
    obtain ⟨j1, hj1, ej1, h⟩ := h
    refine rn_iastore (j := j1) (S' := (us S 42 j1 a1)) rfl rfl (Nat.le_of_ble_eq_true rfl) ej1 hj1 rfl ?_
    refine rn_aload_n rfl rfl ?_
    refine rn_dup rfl rfl ?_
    refine rn_getfield rfl rfl rfl ?_
    refine rn_iconst rfl ?_
    refine rn_iadd rfl ?_
    refine rn_putfield (S' := (us (us S 42 j1 a1) 31 13 ((S 31 13) + 1))) rfl rfl (Nat.le_of_ble_eq_true rfl) (Or.inl rfl) rfl ?_
    exact rn_return rfl rfl h
-- ReplayedBeansModel.putNumber(I)V (number 106)
def R_106_21 (xs : Nat × (Nat → Int32)) (d : Nat) (K : Sv → Option Value → Prop) (a2 : Int32) (S : Sv) : Prop := ∀ u1 u3 : Option Value, RN xs d 106 K 21 [some (.ref 31), u1, some (.int a2), u3] [] S
def R_106_71 (xs : Nat × (Nat → Int32)) (d : Nat) (K : Sv → Option Value → Prop) (a2 a3 : Int32) (S : Sv) : Prop := ∀ u1 : Option Value, RN xs d 106 K 71 [some (.ref 31), u1, some (.int a2), some (.int a3)] [] S
def w_106_21 (xs : Nat × (Nat → Int32)) (d : Nat) (K : Sv → Option Value → Prop) (a2 : Int32) (S : Sv) : Prop :=
  (a2 ≤ 9999 → ((a2 ≤ 999 → ((a2 ≤ 99 → ((a2 ≤ 9 → (R_106_71 xs d K a2 1 S)) ∧ (¬ (a2 ≤ 9) → (R_106_71 xs d K a2 10 S)))) ∧ (¬ (a2 ≤ 99) → (R_106_71 xs d K a2 100 S)))) ∧ (¬ (a2 ≤ 999) → (R_106_71 xs d K a2 1000 S)))) ∧ (¬ (a2 ≤ 9999) → (R_106_71 xs d K a2 10000 S))
set_option maxRecDepth 100000 in
set_option maxHeartbeats 4000000 in
theorem h_106_21 {xs : Nat × (Nat → Int32)} {d : Nat} {K : Sv → Option Value → Prop} {a2 : Int32} {S : Sv} (h : w_106_21 xs d K a2 S) : R_106_21 xs d K a2 S := by
  unfold w_106_21 at h
  unfold R_106_21
  intro u1 u3
  refine rn_iload_n rfl rfl ?_
  refine rn_sipush rfl ?_
  refine rn_icmp_le rfl (fun hc => ?_) (fun hc => ?_)
  · replace h := h.1 hc
    refine rn_iload_n rfl rfl ?_
    refine rn_sipush rfl ?_
    refine rn_icmp_le rfl (fun hc => ?_) (fun hc => ?_)
    · replace h := h.1 hc
      refine rn_iload_n rfl rfl ?_
      refine rn_bipush rfl ?_
      refine rn_icmp_le rfl (fun hc => ?_) (fun hc => ?_)
      · replace h := h.1 hc
        refine rn_iload_n rfl rfl ?_
        refine rn_bipush rfl ?_
        refine rn_icmp_le rfl (fun hc => ?_) (fun hc => ?_)
        · replace h := h.1 hc
          refine rn_iconst rfl ?_
          refine rn_istore_n rfl rfl ?_
          exact h _
        · replace h := h.2 hc
          refine rn_bipush rfl ?_
          refine rn_goto rfl ?_
          refine rn_istore_n rfl rfl ?_
          exact h _
      · replace h := h.2 hc
        refine rn_bipush rfl ?_
        refine rn_goto rfl ?_
        refine rn_istore_n rfl rfl ?_
        exact h _
    · replace h := h.2 hc
      refine rn_sipush rfl ?_
      refine rn_goto rfl ?_
      refine rn_istore_n rfl rfl ?_
      exact h _
  · replace h := h.2 hc
    refine rn_sipush rfl ?_
    refine rn_goto rfl ?_
    refine rn_istore_n rfl rfl ?_
    exact h _
def w_106_71 (xs : Nat × (Nat → Int32)) (d : Nat) (K : Sv → Option Value → Prop) (a2 a3 : Int32) (S : Sv) : Prop :=
  (a3 ≤ 0 → (K S none)) ∧ (¬ (a3 ≤ 0) → (¬ a3 = 0 ∧ (CS xs d 105 S [.ref 31, .int (48 + ((a2 / a3) - (a2 / a3) / 10 * 10))] (fun S1 v1 => v1 = none ∧ (R_106_71 xs d K a2 (a3 / 10) S1)))))
set_option maxRecDepth 100000 in
set_option maxHeartbeats 4000000 in
theorem h_106_71 {xs : Nat × (Nat → Int32)} {d : Nat} {K : Sv → Option Value → Prop} {a2 a3 : Int32} {S : Sv} (h : w_106_71 xs d K a2 a3 S) : R_106_71 xs d K a2 a3 S := by
  unfold w_106_71 at h
  unfold R_106_71
  intro u1
  refine rn_iload_n rfl rfl ?_
  refine rn_if_le rfl (fun hc => ?_) (fun hc => ?_)
  · replace h := h.1 hc
    exact rn_return rfl rfl h
  · replace h := h.2 hc
    refine rn_aload_n rfl rfl ?_
    refine rn_bipush rfl ?_
    refine rn_iload_n rfl rfl ?_
    refine rn_iload_n rfl rfl ?_
    obtain ⟨hy, h⟩ := h
    refine rn_idiv rfl hy ?_
    refine rn_bipush rfl ?_
    refine rn_irem rfl (by decide) ?_
    refine rn_iadd rfl ?_
    refine rn_virtual rfl (Nat.le_of_ble_eq_true rfl) (Nat.le_of_ble_eq_true rfl) rfl rfl (as := [.ref 31, .int (48 + ((a2 / a3) - (a2 / a3) / 10 * 10))]) (rest := []) rfl rfl rfl (cs_mono h (fun S1 v1 h => ?_))
    obtain ⟨rfl, h⟩ := h
    refine rn_iload_n rfl rfl ?_
    refine rn_bipush rfl ?_
    refine rn_idiv rfl (by decide) ?_
    refine rn_istore_n rfl rfl ?_
    refine rn_goto rfl ?_
    exact h _
def w_106 (xs : Nat × (Nat → Int32)) (d : Nat) (K : Sv → Option Value → Prop) (a1 : Int32) (S : Sv) : Prop :=
  (0 ≤ a1 → ((0 ≤ a1 → (R_106_21 xs d K a1 S)) ∧ (¬ (0 ≤ a1) → (CS xs d 105 S [.ref 31, .int 45] (fun S1 v1 => v1 = none ∧ (R_106_21 xs d K a1 S1)))))) ∧ (¬ (0 ≤ a1) → ((0 ≤ a1 → (R_106_21 xs d K (-a1) S)) ∧ (¬ (0 ≤ a1) → (CS xs d 105 S [.ref 31, .int 45] (fun S2 v2 => v2 = none ∧ (R_106_21 xs d K (-a1) S2))))))
set_option maxRecDepth 100000 in
set_option maxHeartbeats 4000000 in
theorem c_106 {xs : Nat × (Nat → Int32)} {d : Nat} {K : Sv → Option Value → Prop} {a1 : Int32} {S : Sv} (h : w_106 xs d K a1 S) : CS xs (d + 1) 106 S [.ref 31, .int a1] K := by
  unfold w_106 at h
  refine cs_in rfl rfl rfl rfl ?_
  refine rn_iload_n rfl rfl ?_
  refine rn_if_ge rfl (fun hc => ?_) (fun hc => ?_)
  · replace h := h.1 hc
    refine rn_iload_n rfl rfl ?_
    refine rn_istore_n rfl rfl ?_
    refine rn_iload_n rfl rfl ?_
    refine rn_if_ge rfl (fun hc => ?_) (fun hc => ?_)
    · replace h := h.1 hc
      exact h _ _
    · replace h := h.2 hc
      refine rn_aload_n rfl rfl ?_
      refine rn_bipush rfl ?_
      refine rn_virtual rfl (Nat.le_of_ble_eq_true rfl) (Nat.le_of_ble_eq_true rfl) rfl rfl (as := [.ref 31, .int 45]) (rest := []) rfl rfl rfl (cs_mono h (fun S1 v1 h => ?_))
      obtain ⟨rfl, h⟩ := h
      exact h _ _
  · replace h := h.2 hc
    refine rn_iload_n rfl rfl ?_
    refine rn_ineg rfl ?_
    refine rn_goto rfl ?_
    refine rn_istore_n rfl rfl ?_
    refine rn_iload_n rfl rfl ?_
    refine rn_if_ge rfl (fun hc => ?_) (fun hc => ?_)
    · replace h := h.1 hc
      exact h _ _
    · replace h := h.2 hc
      refine rn_aload_n rfl rfl ?_
      refine rn_bipush rfl ?_
      refine rn_virtual rfl (Nat.le_of_ble_eq_true rfl) (Nat.le_of_ble_eq_true rfl) rfl rfl (as := [.ref 31, .int 45]) (rest := []) rfl rfl rfl (cs_mono h (fun S2 v2 h => ?_))
      obtain ⟨rfl, h⟩ := h
      exact h _ _
-- ReplayedBeansModel.leading(I)I (number 107)
def R_107_4 (xs : Nat × (Nat → Int32)) (d : Nat) (K : Sv → Option Value → Prop) (a1 a2 a3 : Int32) (S : Sv) : Prop := ∀ u4 : Option Value, RN xs d 107 K 4 [some (.ref 31), some (.int a1), some (.int a2), some (.int a3), u4] [] S
def R_107_15 (xs : Nat × (Nat → Int32)) (d : Nat) (K : Sv → Option Value → Prop) (a1 a2 a3 a4 : Int32) (S : Sv) : Prop := RN xs d 107 K 15 [some (.ref 31), some (.int a1), some (.int a2), some (.int a3), some (.int a4)] [] S
def w_107_4 (xs : Nat × (Nat → Int32)) (d : Nat) (K : Sv → Option Value → Prop) (a1 a2 a3 : Int32) (S : Sv) : Prop :=
  ((S 31 6) ≤ a3 → (K S (some (.int a2)))) ∧ (¬ ((S 31 6) ≤ a3) → (R_107_15 xs d K a1 a2 a3 0 S))
set_option maxRecDepth 100000 in
set_option maxHeartbeats 4000000 in
theorem h_107_4 {xs : Nat × (Nat → Int32)} {d : Nat} {K : Sv → Option Value → Prop} {a1 a2 a3 : Int32} {S : Sv} (h : w_107_4 xs d K a1 a2 a3 S) : R_107_4 xs d K a1 a2 a3 S := by
  unfold w_107_4 at h
  unfold R_107_4
  intro u4
  refine rn_iload_n rfl rfl ?_
  refine rn_aload_n rfl rfl ?_
  refine rn_getfield rfl rfl rfl ?_
  refine rn_icmp_ge rfl (fun hc => ?_) (fun hc => ?_)
  · replace h := h.1 hc
    refine rn_iload_n rfl rfl ?_
    exact rn_ireturn rfl rfl rfl h
  · replace h := h.2 hc
    refine rn_iconst rfl ?_
    refine rn_istore rfl rfl ?_
    exact h
def w_107_15 (xs : Nat × (Nat → Int32)) (d : Nat) (K : Sv → Option Value → Prop) (a1 a2 a3 a4 : Int32) (S : Sv) : Prop :=
  (2 ≤ a4 → (R_107_4 xs d K a1 a2 (a3 + 1) S)) ∧ (¬ (2 ≤ a4) → (∃ j1 : Nat, j1 < 24 ∧ a3 = nI j1 ∧ (((S 43 j1) = 0 → (R_107_15 xs d K a1 (a2 + 0) a3 (a4 + 1) S)) ∧ (¬ ((S 43 j1) = 0) → (CS xs d 99 S [.ref 31, .int a3, .int a4] (fun S2 v2 => ∃ r2 : Int32, v2 = some (.int r2) ∧ ((¬ r2 = a1 → (R_107_15 xs d K a1 (a2 + 0) a3 (a4 + 1) S2)) ∧ (¬ (¬ r2 = a1) → (R_107_15 xs d K a1 (a2 + 1) a3 (a4 + 1) S2)))))))))
set_option maxRecDepth 100000 in
set_option maxHeartbeats 4000000 in
theorem h_107_15 {xs : Nat × (Nat → Int32)} {d : Nat} {K : Sv → Option Value → Prop} {a1 a2 a3 a4 : Int32} {S : Sv} (h : w_107_15 xs d K a1 a2 a3 a4 S) : R_107_15 xs d K a1 a2 a3 a4 S := by
  unfold w_107_15 at h
  unfold R_107_15
  refine rn_iload rfl rfl ?_
  refine rn_iconst rfl ?_
  refine rn_icmp_ge rfl (fun hc => ?_) (fun hc => ?_)
  · replace h := h.1 hc
    refine rn_iinc rfl rfl rfl ?_
    refine rn_goto rfl ?_
    exact h _
  · replace h := h.2 hc
    refine rn_iload_n rfl rfl ?_
    refine rn_aload_n rfl rfl ?_
    refine rn_getfield rfl rfl rfl ?_
    refine rn_iload_n rfl rfl ?_
    obtain ⟨j1, hj1, ej1, h⟩ := h
    refine rn_baload (j := j1) rfl rfl (Nat.le_of_ble_eq_true rfl) ej1 hj1 ?_
    refine rn_if_eq rfl (fun hc => ?_) (fun hc => ?_)
    · replace h := h.1 hc
      refine rn_iconst rfl ?_
      refine rn_iadd rfl ?_
      refine rn_istore_n rfl rfl ?_
      refine rn_iinc rfl rfl rfl ?_
      refine rn_goto rfl ?_
      exact h
    · replace h := h.2 hc
      refine rn_aload_n rfl rfl ?_
      refine rn_iload_n rfl rfl ?_
      refine rn_iload rfl rfl ?_
      refine rn_virtual rfl (Nat.le_of_ble_eq_true rfl) (Nat.le_of_ble_eq_true rfl) rfl rfl (as := [.ref 31, .int a3, .int a4]) (rest := [.int a2]) rfl rfl rfl (cs_mono h (fun S2 v2 h => ?_))
      obtain ⟨r2, rfl, h⟩ := h
      refine rn_iload_n rfl rfl ?_
      refine rn_icmp_ne rfl (fun hc => ?_) (fun hc => ?_)
      · replace h := h.1 hc
        refine rn_iconst rfl ?_
        refine rn_iadd rfl ?_
        refine rn_istore_n rfl rfl ?_
        refine rn_iinc rfl rfl rfl ?_
        refine rn_goto rfl ?_
        exact h
      · replace h := h.2 hc
        refine rn_iconst rfl ?_
        refine rn_goto rfl ?_
        refine rn_iadd rfl ?_
        refine rn_istore_n rfl rfl ?_
        refine rn_iinc rfl rfl rfl ?_
        refine rn_goto rfl ?_
        exact h
def w_107 (xs : Nat × (Nat → Int32)) (d : Nat) (K : Sv → Option Value → Prop) (a1 : Int32) (S : Sv) : Prop :=
  R_107_4 xs d K a1 0 0 S
set_option maxRecDepth 100000 in
set_option maxHeartbeats 4000000 in
theorem c_107 {xs : Nat × (Nat → Int32)} {d : Nat} {K : Sv → Option Value → Prop} {a1 : Int32} {S : Sv} (h : w_107 xs d K a1 S) : CS xs (d + 1) 107 S [.ref 31, .int a1] K := by
  unfold w_107 at h
  refine cs_in rfl rfl rfl rfl ?_
  refine rn_iconst rfl ?_
  refine rn_istore_n rfl rfl ?_
  refine rn_iconst rfl ?_
  refine rn_istore_n rfl rfl ?_
  exact h _
-- ReplayedBeansModel.beginObject(II)V (number 108)
def R_108_112 (xs : Nat × (Nat → Int32)) (d : Nat) (K : Sv → Option Value → Prop) (a1 a3 : Int32) (S : Sv) : Prop := ∀ u2 : Option Value, RN xs d 108 K 112 [some (.ref 31), some (.int a1), u2, some (.int a3)] [] S
def w_108_112 (xs : Nat × (Nat → Int32)) (d : Nat) (K : Sv → Option Value → Prop) (a1 a3 : Int32) (S : Sv) : Prop :=
  ∃ j1 : Nat, j1 < 24 ∧ a1 = nI j1 ∧ (∃ j2 : Nat, j2 < 4 ∧ (S 38 j1) = nI j2 ∧ (((S 33 j2) ≤ a3 → (K S none)) ∧ (¬ ((S 33 j2) ≤ a3) → (∃ j3 : Nat, j3 < 72 ∧ ((3 * a1) + a3) = nI j3 ∧ (∃ j4 : Nat, j4 < 24 ∧ a1 = nI j4 ∧ (∃ j5 : Nat, j5 < 12 ∧ ((3 * (S 38 j4)) + a3) = nI j5 ∧ (((S 39 j3) = (S 35 j5) → (R_108_112 xs d K a1 (a3 + 1) S)) ∧ (¬ ((S 39 j3) = (S 35 j5)) → (CS xs d 105 S [.ref 31, .int (120 + a3)] (fun S6 v6 => v6 = none ∧ (CS xs d 105 S6 [.ref 31, .int 61] (fun S7 v7 => v7 = none ∧ (∃ j8 : Nat, j8 < 72 ∧ ((3 * a1) + a3) = nI j8 ∧ (CS xs d 106 S7 [.ref 31, .int (S7 39 j8)] (fun S9 v9 => v9 = none ∧ (R_108_112 xs d K a1 (a3 + 1) S9))))))))))))))))
set_option maxRecDepth 100000 in
set_option maxHeartbeats 4000000 in
theorem h_108_112 {xs : Nat × (Nat → Int32)} {d : Nat} {K : Sv → Option Value → Prop} {a1 a3 : Int32} {S : Sv} (h : w_108_112 xs d K a1 a3 S) : R_108_112 xs d K a1 a3 S := by
  unfold w_108_112 at h
  unfold R_108_112
  intro u2
  refine rn_iload_n rfl rfl ?_
  refine rn_aload_n rfl rfl ?_
  refine rn_getfield rfl rfl rfl ?_
  refine rn_aload_n rfl rfl ?_
  refine rn_getfield rfl rfl rfl ?_
  refine rn_iload_n rfl rfl ?_
  obtain ⟨j1, hj1, ej1, h⟩ := h
  refine rn_iaload (j := j1) rfl rfl (Nat.le_of_ble_eq_true rfl) ej1 hj1 ?_
  obtain ⟨j2, hj2, ej2, h⟩ := h
  refine rn_iaload (j := j2) rfl rfl (Nat.le_of_ble_eq_true rfl) ej2 hj2 ?_
  refine rn_icmp_ge rfl (fun hc => ?_) (fun hc => ?_)
  · replace h := h.1 hc
    exact rn_return rfl rfl h
  · replace h := h.2 hc
    refine rn_aload_n rfl rfl ?_
    refine rn_getfield rfl rfl rfl ?_
    refine rn_iconst rfl ?_
    refine rn_iload_n rfl rfl ?_
    refine rn_imul rfl ?_
    refine rn_iload_n rfl rfl ?_
    refine rn_iadd rfl ?_
    obtain ⟨j3, hj3, ej3, h⟩ := h
    refine rn_iaload (j := j3) rfl rfl (Nat.le_of_ble_eq_true rfl) ej3 hj3 ?_
    refine rn_aload_n rfl rfl ?_
    refine rn_getfield rfl rfl rfl ?_
    refine rn_iconst rfl ?_
    refine rn_aload_n rfl rfl ?_
    refine rn_getfield rfl rfl rfl ?_
    refine rn_iload_n rfl rfl ?_
    obtain ⟨j4, hj4, ej4, h⟩ := h
    refine rn_iaload (j := j4) rfl rfl (Nat.le_of_ble_eq_true rfl) ej4 hj4 ?_
    refine rn_imul rfl ?_
    refine rn_iload_n rfl rfl ?_
    refine rn_iadd rfl ?_
    obtain ⟨j5, hj5, ej5, h⟩ := h
    refine rn_iaload (j := j5) rfl rfl (Nat.le_of_ble_eq_true rfl) ej5 hj5 ?_
    refine rn_icmp_eq rfl (fun hc => ?_) (fun hc => ?_)
    · replace h := h.1 hc
      refine rn_iinc rfl rfl rfl ?_
      refine rn_goto rfl ?_
      exact h _
    · replace h := h.2 hc
      refine rn_aload_n rfl rfl ?_
      refine rn_bipush rfl ?_
      refine rn_iload_n rfl rfl ?_
      refine rn_iadd rfl ?_
      refine rn_virtual rfl (Nat.le_of_ble_eq_true rfl) (Nat.le_of_ble_eq_true rfl) rfl rfl (as := [.ref 31, .int (120 + a3)]) (rest := []) rfl rfl rfl (cs_mono h (fun S6 v6 h => ?_))
      obtain ⟨rfl, h⟩ := h
      refine rn_aload_n rfl rfl ?_
      refine rn_bipush rfl ?_
      refine rn_virtual rfl (Nat.le_of_ble_eq_true rfl) (Nat.le_of_ble_eq_true rfl) rfl rfl (as := [.ref 31, .int 61]) (rest := []) rfl rfl rfl (cs_mono h (fun S7 v7 h => ?_))
      obtain ⟨rfl, h⟩ := h
      refine rn_aload_n rfl rfl ?_
      refine rn_aload_n rfl rfl ?_
      refine rn_getfield rfl rfl rfl ?_
      refine rn_iconst rfl ?_
      refine rn_iload_n rfl rfl ?_
      refine rn_imul rfl ?_
      refine rn_iload_n rfl rfl ?_
      refine rn_iadd rfl ?_
      obtain ⟨j8, hj8, ej8, h⟩ := h
      refine rn_iaload (j := j8) rfl rfl (Nat.le_of_ble_eq_true rfl) ej8 hj8 ?_
      refine rn_virtual rfl (Nat.le_of_ble_eq_true rfl) (Nat.le_of_ble_eq_true rfl) rfl rfl (as := [.ref 31, .int (S7 39 j8)]) (rest := []) rfl rfl rfl (cs_mono h (fun S9 v9 h => ?_))
      obtain ⟨rfl, h⟩ := h
      refine rn_iinc rfl rfl rfl ?_
      refine rn_goto rfl ?_
      exact h _
def w_108 (xs : Nat × (Nat → Int32)) (d : Nat) (K : Sv → Option Value → Prop) (a1 a2 : Int32) (S : Sv) : Prop :=
  ∃ j1 : Nat, j1 < 25 ∧ (S 31 20) = nI j1 ∧ (∃ j2 : Nat, j2 < 25 ∧ (S 31 20) = nI j2 ∧ (∃ j3 : Nat, j3 < 24 ∧ a1 = nI j3 ∧ (CS xs d 105 (us (us (us (us S 48 j1 a1) 49 j2 0) 31 20 ((S 31 20) + 1)) 47 j3 1) [.ref 31, .int 40] (fun S4 v4 => v4 = none ∧ (∃ j5 : Nat, j5 < 24 ∧ a1 = nI j5 ∧ (CS xs d 105 S4 [.ref 31, .int (97 + (S4 38 j5))] (fun S6 v6 => v6 = none ∧ (CS xs d 107 S6 [.ref 31, .int a1] (fun S7 v7 => ∃ r7 : Int32, v7 = some (.int r7) ∧ ((¬ a1 = a2 → ((r7 < 2 → (R_108_112 xs d K a1 0 S7)) ∧ (¬ (r7 < 2) → (∃ j8 : Nat, j8 < 24 ∧ a1 = nI j8 ∧ (CS xs d 105 (us (us S7 31 19 ((S7 31 19) + 1)) 46 j8 ((S7 31 19) + 1)) [.ref 31, .int 35] (fun S9 v9 => v9 = none ∧ (CS xs d 106 S9 [.ref 31, .int ((S9 31 19) - 1)] (fun S10 v10 => v10 = none ∧ (R_108_112 xs d K a1 0 S10))))))))) ∧ (¬ (¬ a1 = a2) → ((r7 < 1 → (R_108_112 xs d K a1 0 S7)) ∧ (¬ (r7 < 1) → (∃ j11 : Nat, j11 < 24 ∧ a1 = nI j11 ∧ (CS xs d 105 (us (us S7 31 19 ((S7 31 19) + 1)) 46 j11 ((S7 31 19) + 1)) [.ref 31, .int 35] (fun S12 v12 => v12 = none ∧ (CS xs d 106 S12 [.ref 31, .int ((S12 31 19) - 1)] (fun S13 v13 => v13 = none ∧ (R_108_112 xs d K a1 0 S13)))))))))))))))))))
set_option maxRecDepth 100000 in
set_option maxHeartbeats 4000000 in
theorem c_108 {xs : Nat × (Nat → Int32)} {d : Nat} {K : Sv → Option Value → Prop} {a1 a2 : Int32} {S : Sv} (h : w_108 xs d K a1 a2 S) : CS xs (d + 1) 108 S [.ref 31, .int a1, .int a2] K := by
  unfold w_108 at h
  refine cs_in rfl rfl rfl rfl ?_
  refine rn_aload_n rfl rfl ?_
  refine rn_getfield rfl rfl rfl ?_
  refine rn_aload_n rfl rfl ?_
  refine rn_getfield rfl rfl rfl ?_
  refine rn_iload_n rfl rfl ?_
  obtain ⟨j1, hj1, ej1, h⟩ := h
  refine rn_iastore (j := j1) (S' := (us S 48 j1 a1)) rfl rfl (Nat.le_of_ble_eq_true rfl) ej1 hj1 rfl ?_
  refine rn_aload_n rfl rfl ?_
  refine rn_getfield rfl rfl rfl ?_
  refine rn_aload_n rfl rfl ?_
  refine rn_getfield rfl rfl rfl ?_
  refine rn_iconst rfl ?_
  obtain ⟨j2, hj2, ej2, h⟩ := h
  refine rn_iastore (j := j2) (S' := (us (us S 48 j1 a1) 49 j2 0)) rfl rfl (Nat.le_of_ble_eq_true rfl) ej2 hj2 rfl ?_
  refine rn_aload_n rfl rfl ?_
  refine rn_dup rfl rfl ?_
  refine rn_getfield rfl rfl rfl ?_
  refine rn_iconst rfl ?_
  refine rn_iadd rfl ?_
  refine rn_putfield (S' := (us (us (us S 48 j1 a1) 49 j2 0) 31 20 ((S 31 20) + 1))) rfl rfl (Nat.le_of_ble_eq_true rfl) (Or.inl rfl) rfl ?_
  refine rn_aload_n rfl rfl ?_
  refine rn_getfield rfl rfl rfl ?_
  refine rn_iload_n rfl rfl ?_
  refine rn_iconst rfl ?_
  obtain ⟨j3, hj3, ej3, h⟩ := h
  refine rn_bastore (j := j3) (S' := (us (us (us (us S 48 j1 a1) 49 j2 0) 31 20 ((S 31 20) + 1)) 47 j3 1)) rfl rfl (Nat.le_of_ble_eq_true rfl) ej3 hj3 (by decide) rfl ?_
  refine rn_aload_n rfl rfl ?_
  refine rn_bipush rfl ?_
  refine rn_virtual rfl (Nat.le_of_ble_eq_true rfl) (Nat.le_of_ble_eq_true rfl) rfl rfl (as := [.ref 31, .int 40]) (rest := []) rfl rfl rfl (cs_mono h (fun S4 v4 h => ?_))
  obtain ⟨rfl, h⟩ := h
  refine rn_aload_n rfl rfl ?_
  refine rn_bipush rfl ?_
  refine rn_aload_n rfl rfl ?_
  refine rn_getfield rfl rfl rfl ?_
  refine rn_iload_n rfl rfl ?_
  obtain ⟨j5, hj5, ej5, h⟩ := h
  refine rn_iaload (j := j5) rfl rfl (Nat.le_of_ble_eq_true rfl) ej5 hj5 ?_
  refine rn_iadd rfl ?_
  refine rn_virtual rfl (Nat.le_of_ble_eq_true rfl) (Nat.le_of_ble_eq_true rfl) rfl rfl (as := [.ref 31, .int (97 + (S4 38 j5))]) (rest := []) rfl rfl rfl (cs_mono h (fun S6 v6 h => ?_))
  obtain ⟨rfl, h⟩ := h
  refine rn_aload_n rfl rfl ?_
  refine rn_iload_n rfl rfl ?_
  refine rn_virtual rfl (Nat.le_of_ble_eq_true rfl) (Nat.le_of_ble_eq_true rfl) rfl rfl (as := [.ref 31, .int a1]) (rest := []) rfl rfl rfl (cs_mono h (fun S7 v7 h => ?_))
  obtain ⟨r7, rfl, h⟩ := h
  refine rn_iload_n rfl rfl ?_
  refine rn_iload_n rfl rfl ?_
  refine rn_icmp_ne rfl (fun hc => ?_) (fun hc => ?_)
  · replace h := h.1 hc
    refine rn_iconst rfl ?_
    refine rn_icmp_lt rfl (fun hc => ?_) (fun hc => ?_)
    · replace h := h.1 hc
      refine rn_iconst rfl ?_
      refine rn_istore_n rfl rfl ?_
      exact h _
    · replace h := h.2 hc
      refine rn_aload_n rfl rfl ?_
      refine rn_dup rfl rfl ?_
      refine rn_getfield rfl rfl rfl ?_
      refine rn_iconst rfl ?_
      refine rn_iadd rfl ?_
      refine rn_putfield (S' := (us S7 31 19 ((S7 31 19) + 1))) rfl rfl (Nat.le_of_ble_eq_true rfl) (Or.inl rfl) rfl ?_
      refine rn_aload_n rfl rfl ?_
      refine rn_getfield rfl rfl rfl ?_
      refine rn_iload_n rfl rfl ?_
      refine rn_aload_n rfl rfl ?_
      refine rn_getfield rfl rfl rfl ?_
      obtain ⟨j8, hj8, ej8, h⟩ := h
      refine rn_iastore (j := j8) (S' := (us (us S7 31 19 ((S7 31 19) + 1)) 46 j8 ((S7 31 19) + 1))) rfl rfl (Nat.le_of_ble_eq_true rfl) ej8 hj8 rfl ?_
      refine rn_aload_n rfl rfl ?_
      refine rn_bipush rfl ?_
      refine rn_virtual rfl (Nat.le_of_ble_eq_true rfl) (Nat.le_of_ble_eq_true rfl) rfl rfl (as := [.ref 31, .int 35]) (rest := []) rfl rfl rfl (cs_mono h (fun S9 v9 h => ?_))
      obtain ⟨rfl, h⟩ := h
      refine rn_aload_n rfl rfl ?_
      refine rn_aload_n rfl rfl ?_
      refine rn_getfield rfl rfl rfl ?_
      refine rn_iconst rfl ?_
      refine rn_isub rfl ?_
      refine rn_virtual rfl (Nat.le_of_ble_eq_true rfl) (Nat.le_of_ble_eq_true rfl) rfl rfl (as := [.ref 31, .int ((S9 31 19) - 1)]) (rest := []) rfl rfl rfl (cs_mono h (fun S10 v10 h => ?_))
      obtain ⟨rfl, h⟩ := h
      refine rn_iconst rfl ?_
      refine rn_istore_n rfl rfl ?_
      exact h _
  · replace h := h.2 hc
    refine rn_iconst rfl ?_
    refine rn_goto rfl ?_
    refine rn_icmp_lt rfl (fun hc => ?_) (fun hc => ?_)
    · replace h := h.1 hc
      refine rn_iconst rfl ?_
      refine rn_istore_n rfl rfl ?_
      exact h _
    · replace h := h.2 hc
      refine rn_aload_n rfl rfl ?_
      refine rn_dup rfl rfl ?_
      refine rn_getfield rfl rfl rfl ?_
      refine rn_iconst rfl ?_
      refine rn_iadd rfl ?_
      refine rn_putfield (S' := (us S7 31 19 ((S7 31 19) + 1))) rfl rfl (Nat.le_of_ble_eq_true rfl) (Or.inl rfl) rfl ?_
      refine rn_aload_n rfl rfl ?_
      refine rn_getfield rfl rfl rfl ?_
      refine rn_iload_n rfl rfl ?_
      refine rn_aload_n rfl rfl ?_
      refine rn_getfield rfl rfl rfl ?_
      obtain ⟨j11, hj11, ej11, h⟩ := h
      refine rn_iastore (j := j11) (S' := (us (us S7 31 19 ((S7 31 19) + 1)) 46 j11 ((S7 31 19) + 1))) rfl rfl (Nat.le_of_ble_eq_true rfl) ej11 hj11 rfl ?_
      refine rn_aload_n rfl rfl ?_
      refine rn_bipush rfl ?_
      refine rn_virtual rfl (Nat.le_of_ble_eq_true rfl) (Nat.le_of_ble_eq_true rfl) rfl rfl (as := [.ref 31, .int 35]) (rest := []) rfl rfl rfl (cs_mono h (fun S12 v12 h => ?_))
      obtain ⟨rfl, h⟩ := h
      refine rn_aload_n rfl rfl ?_
      refine rn_aload_n rfl rfl ?_
      refine rn_getfield rfl rfl rfl ?_
      refine rn_iconst rfl ?_
      refine rn_isub rfl ?_
      refine rn_virtual rfl (Nat.le_of_ble_eq_true rfl) (Nat.le_of_ble_eq_true rfl) rfl rfl (as := [.ref 31, .int ((S12 31 19) - 1)]) (rest := []) rfl rfl rfl (cs_mono h (fun S13 v13 h => ?_))
      obtain ⟨rfl, h⟩ := h
      refine rn_iconst rfl ?_
      refine rn_istore_n rfl rfl ?_
      exact h _
-- ReplayedBeansModel.write(I)I (number 109)
def R_109_18 (xs : Nat × (Nat → Int32)) (d : Nat) (K : Sv → Option Value → Prop) (a1 a2 : Int32) (S : Sv) : Prop := ∀ u3 u4 u5 : Option Value, RN xs d 109 K 18 [some (.ref 31), some (.int a1), some (.int a2), u3, u4, u5] [] S
def R_109_67 (xs : Nat × (Nat → Int32)) (d : Nat) (K : Sv → Option Value → Prop) (a1 a2 : Int32) (S : Sv) : Prop := ∀ u3 u4 u5 : Option Value, RN xs d 109 K 67 [some (.ref 31), some (.int a1), some (.int a2), u3, u4, u5] [] S
def R_109_262 (xs : Nat × (Nat → Int32)) (d : Nat) (K : Sv → Option Value → Prop) (a3 : Int32) (S : Sv) : Prop := ∀ u1 u2 u4 u5 : Option Value, RN xs d 109 K 262 [some (.ref 31), u1, u2, some (.int a3), u4, u5] [] S
def w_109_18 (xs : Nat × (Nat → Int32)) (d : Nat) (K : Sv → Option Value → Prop) (a1 a2 : Int32) (S : Sv) : Prop :=
  (24 ≤ a2 → (CS xs d 108 (us (us (us S 31 19 0) 31 13 0) 31 20 0) [.ref 31, .int a1, .int a1] (fun S1 v1 => v1 = none ∧ (R_109_67 xs d K a1 0 S1)))) ∧ (¬ (24 ≤ a2) → (∃ j2 : Nat, j2 < 24 ∧ a2 = nI j2 ∧ (∃ j3 : Nat, j3 < 24 ∧ a2 = nI j3 ∧ (R_109_18 xs d K a1 (a2 + 1) (us (us S 46 j2 0) 47 j3 0)))))
set_option maxRecDepth 100000 in
set_option maxHeartbeats 4000000 in
theorem h_109_18 {xs : Nat × (Nat → Int32)} {d : Nat} {K : Sv → Option Value → Prop} {a1 a2 : Int32} {S : Sv} (h : w_109_18 xs d K a1 a2 S) : R_109_18 xs d K a1 a2 S := by
  unfold w_109_18 at h
  unfold R_109_18
  intro u3 u4 u5
  refine rn_iload_n rfl rfl ?_
  refine rn_bipush rfl ?_
  refine rn_icmp_ge rfl (fun hc => ?_) (fun hc => ?_)
  · replace h := h.1 hc
    refine rn_aload_n rfl rfl ?_
    refine rn_iconst rfl ?_
    refine rn_putfield (S' := (us S 31 19 0)) rfl rfl (Nat.le_of_ble_eq_true rfl) (Or.inl rfl) rfl ?_
    refine rn_aload_n rfl rfl ?_
    refine rn_iconst rfl ?_
    refine rn_putfield (S' := (us (us S 31 19 0) 31 13 0)) rfl rfl (Nat.le_of_ble_eq_true rfl) (Or.inl rfl) rfl ?_
    refine rn_aload_n rfl rfl ?_
    refine rn_iconst rfl ?_
    refine rn_putfield (S' := (us (us (us S 31 19 0) 31 13 0) 31 20 0)) rfl rfl (Nat.le_of_ble_eq_true rfl) (Or.inl rfl) rfl ?_
    refine rn_iconst rfl ?_
    refine rn_istore_n rfl rfl ?_
    refine rn_aload_n rfl rfl ?_
    refine rn_iload_n rfl rfl ?_
    refine rn_iload_n rfl rfl ?_
    refine rn_virtual rfl (Nat.le_of_ble_eq_true rfl) (Nat.le_of_ble_eq_true rfl) rfl rfl (as := [.ref 31, .int a1, .int a1]) (rest := []) rfl rfl rfl (cs_mono h (fun S1 v1 h => ?_))
    obtain ⟨rfl, h⟩ := h
    exact h _ _ _
  · replace h := h.2 hc
    refine rn_aload_n rfl rfl ?_
    refine rn_getfield rfl rfl rfl ?_
    refine rn_iload_n rfl rfl ?_
    refine rn_iconst rfl ?_
    obtain ⟨j2, hj2, ej2, h⟩ := h
    refine rn_iastore (j := j2) (S' := (us S 46 j2 0)) rfl rfl (Nat.le_of_ble_eq_true rfl) ej2 hj2 rfl ?_
    refine rn_aload_n rfl rfl ?_
    refine rn_getfield rfl rfl rfl ?_
    refine rn_iload_n rfl rfl ?_
    refine rn_iconst rfl ?_
    obtain ⟨j3, hj3, ej3, h⟩ := h
    refine rn_bastore (j := j3) (S' := (us (us S 46 j2 0) 47 j3 0)) rfl rfl (Nat.le_of_ble_eq_true rfl) ej3 hj3 (by decide) rfl ?_
    refine rn_iinc rfl rfl rfl ?_
    refine rn_goto rfl ?_
    exact h _ _ _
def w_109_67 (xs : Nat × (Nat → Int32)) (d : Nat) (K : Sv → Option Value → Prop) (a1 a2 : Int32) (S : Sv) : Prop :=
  ((S 31 20) ≤ 0 → ((a2 = 0 → (((S 31 13) ≤ 300 → (R_109_262 xs d K 0 S)) ∧ (¬ ((S 31 13) ≤ 300) → (K S (some (.int (-3))))))) ∧ (¬ (a2 = 0) → (K S (some (.int (-2))))))) ∧ (¬ ((S 31 20) ≤ 0) → (∃ j1 : Nat, j1 < 25 ∧ ((S 31 20) - 1) = nI j1 ∧ (∃ j2 : Nat, j2 < 25 ∧ ((S 31 20) - 1) = nI j2 ∧ (∃ j3 : Nat, j3 < 25 ∧ ((S 31 20) - 1) = nI j3 ∧ (∃ j4 : Nat, j4 < 25 ∧ ((S 31 20) - 1) = nI j4 ∧ ((2 ≤ (S 49 j2) → (((S 49 j2) < 2 → (R_109_67 xs d K a1 a2 (us S 49 j4 ((S 49 j3) + 1)))) ∧ (¬ ((S 49 j2) < 2) → (CS xs d 105 (us S 49 j4 ((S 49 j3) + 1)) [.ref 31, .int 41] (fun S5 v5 => v5 = none ∧ (R_109_67 xs d K a1 a2 (us S5 31 20 ((S5 31 20) - 1)))))))) ∧ (¬ (2 ≤ (S 49 j2)) → (CS xs d 99 (us S 49 j4 ((S 49 j3) + 1)) [.ref 31, .int (S 48 j1), .int (S 49 j2)] (fun S6 v6 => ∃ r6 : Int32, v6 = some (.int r6) ∧ (((S 49 j2) < 2 → ((r6 = (-1) → (R_109_67 xs d K a1 a2 S6)) ∧ (¬ (r6 = (-1)) → (CS xs d 105 S6 [.ref 31, .int (112 + (S 49 j2))] (fun S7 v7 => v7 = none ∧ (CS xs d 105 S7 [.ref 31, .int 61] (fun S8 v8 => v8 = none ∧ (∃ j9 : Nat, j9 < 24 ∧ r6 = nI j9 ∧ (((S8 47 j9) = 0 → (CS xs d 108 S8 [.ref 31, .int r6, .int a1] (fun S10 v10 => v10 = none ∧ ((¬ a2 = 0 → (R_109_67 xs d K a1 1 S10)) ∧ (¬ (¬ a2 = 0) → (((S10 31 20) ≤ 10 → (R_109_67 xs d K a1 0 S10)) ∧ (¬ ((S10 31 20) ≤ 10) → (R_109_67 xs d K a1 1 S10)))))))) ∧ (¬ ((S8 47 j9) = 0) → (CS xs d 105 S8 [.ref 31, .int 64] (fun S11 v11 => v11 = none ∧ (∃ j12 : Nat, j12 < 24 ∧ r6 = nI j12 ∧ (CS xs d 106 S11 [.ref 31, .int ((S11 46 j12) - 1)] (fun S13 v13 => v13 = none ∧ (R_109_67 xs d K a1 a2 S13)))))))))))))))) ∧ (¬ ((S 49 j2) < 2) → (CS xs d 105 S6 [.ref 31, .int 41] (fun S14 v14 => v14 = none ∧ (R_109_67 xs d K a1 a2 (us S14 31 20 ((S14 31 20) - 1))))))))))))))))
set_option maxRecDepth 100000 in
set_option maxHeartbeats 4000000 in
theorem h_109_67 {xs : Nat × (Nat → Int32)} {d : Nat} {K : Sv → Option Value → Prop} {a1 a2 : Int32} {S : Sv} (h : w_109_67 xs d K a1 a2 S) : R_109_67 xs d K a1 a2 S := by
  unfold w_109_67 at h
  unfold R_109_67
  intro u3 u4 u5
  refine rn_aload_n rfl rfl ?_
  refine rn_getfield rfl rfl rfl ?_
  refine rn_if_le rfl (fun hc => ?_) (fun hc => ?_)
  · replace h := h.1 hc
    refine rn_iload_n rfl rfl ?_
    refine rn_if_eq rfl (fun hc => ?_) (fun hc => ?_)
    · replace h := h.1 hc
      refine rn_aload_n rfl rfl ?_
      refine rn_getfield rfl rfl rfl ?_
      refine rn_sipush rfl ?_
      refine rn_icmp_le rfl (fun hc => ?_) (fun hc => ?_)
      · replace h := h.1 hc
        refine rn_iconst rfl ?_
        refine rn_istore_n rfl rfl ?_
        exact h _ _ _ _
      · replace h := h.2 hc
        refine rn_bipush rfl ?_
        exact rn_ireturn rfl rfl rfl h
    · replace h := h.2 hc
      refine rn_bipush rfl ?_
      exact rn_ireturn rfl rfl rfl h
  · replace h := h.2 hc
    refine rn_aload_n rfl rfl ?_
    refine rn_getfield rfl rfl rfl ?_
    refine rn_aload_n rfl rfl ?_
    refine rn_getfield rfl rfl rfl ?_
    refine rn_iconst rfl ?_
    refine rn_isub rfl ?_
    obtain ⟨j1, hj1, ej1, h⟩ := h
    refine rn_iaload (j := j1) rfl rfl (Nat.le_of_ble_eq_true rfl) ej1 hj1 ?_
    refine rn_istore_n rfl rfl ?_
    refine rn_aload_n rfl rfl ?_
    refine rn_getfield rfl rfl rfl ?_
    refine rn_aload_n rfl rfl ?_
    refine rn_getfield rfl rfl rfl ?_
    refine rn_iconst rfl ?_
    refine rn_isub rfl ?_
    obtain ⟨j2, hj2, ej2, h⟩ := h
    refine rn_iaload (j := j2) rfl rfl (Nat.le_of_ble_eq_true rfl) ej2 hj2 ?_
    refine rn_istore rfl rfl ?_
    refine rn_aload_n rfl rfl ?_
    refine rn_getfield rfl rfl rfl ?_
    refine rn_aload_n rfl rfl ?_
    refine rn_getfield rfl rfl rfl ?_
    refine rn_iconst rfl ?_
    refine rn_isub rfl ?_
    refine rn_dup2 rfl rfl rfl ?_
    obtain ⟨j3, hj3, ej3, h⟩ := h
    refine rn_iaload (j := j3) rfl rfl (Nat.le_of_ble_eq_true rfl) ej3 hj3 ?_
    refine rn_iconst rfl ?_
    refine rn_iadd rfl ?_
    obtain ⟨j4, hj4, ej4, h⟩ := h
    refine rn_iastore (j := j4) (S' := (us S 49 j4 ((S 49 j3) + 1))) rfl rfl (Nat.le_of_ble_eq_true rfl) ej4 hj4 rfl ?_
    refine rn_iload rfl rfl ?_
    refine rn_iconst rfl ?_
    refine rn_icmp_ge rfl (fun hc => ?_) (fun hc => ?_)
    · replace h := h.1 hc
      refine rn_iconst rfl ?_
      refine rn_istore rfl rfl ?_
      refine rn_iload rfl rfl ?_
      refine rn_iconst rfl ?_
      refine rn_icmp_lt rfl (fun hc => ?_) (fun hc => ?_)
      · replace h := h.1 hc
        refine rn_iload rfl rfl ?_
        refine rn_iconst rfl ?_
        refine rn_icmp_eq rfl (fun _ => ?_) (fun hc => absurd (by decide) hc)
        refine rn_goto rfl ?_
        exact h _ _ _
      · replace h := h.2 hc
        refine rn_aload_n rfl rfl ?_
        refine rn_bipush rfl ?_
        refine rn_virtual rfl (Nat.le_of_ble_eq_true rfl) (Nat.le_of_ble_eq_true rfl) rfl rfl (as := [.ref 31, .int 41]) (rest := []) rfl rfl rfl (cs_mono h (fun S5 v5 h => ?_))
        obtain ⟨rfl, h⟩ := h
        refine rn_aload_n rfl rfl ?_
        refine rn_dup rfl rfl ?_
        refine rn_getfield rfl rfl rfl ?_
        refine rn_iconst rfl ?_
        refine rn_isub rfl ?_
        refine rn_putfield (S' := (us S5 31 20 ((S5 31 20) - 1))) rfl rfl (Nat.le_of_ble_eq_true rfl) (Or.inl rfl) rfl ?_
        refine rn_goto rfl ?_
        refine rn_goto rfl ?_
        exact h _ _ _
    · replace h := h.2 hc
      refine rn_aload_n rfl rfl ?_
      refine rn_iload_n rfl rfl ?_
      refine rn_iload rfl rfl ?_
      refine rn_virtual rfl (Nat.le_of_ble_eq_true rfl) (Nat.le_of_ble_eq_true rfl) rfl rfl (as := [.ref 31, .int (S 48 j1), .int (S 49 j2)]) (rest := []) rfl rfl rfl (cs_mono h (fun S6 v6 h => ?_))
      obtain ⟨r6, rfl, h⟩ := h
      refine rn_goto rfl ?_
      refine rn_istore rfl rfl ?_
      refine rn_iload rfl rfl ?_
      refine rn_iconst rfl ?_
      refine rn_icmp_lt rfl (fun hc => ?_) (fun hc => ?_)
      · replace h := h.1 hc
        refine rn_iload rfl rfl ?_
        refine rn_iconst rfl ?_
        refine rn_icmp_eq rfl (fun hc => ?_) (fun hc => ?_)
        · replace h := h.1 hc
          refine rn_goto rfl ?_
          exact h _ _ _
        · replace h := h.2 hc
          refine rn_aload_n rfl rfl ?_
          refine rn_bipush rfl ?_
          refine rn_iload rfl rfl ?_
          refine rn_iadd rfl ?_
          refine rn_virtual rfl (Nat.le_of_ble_eq_true rfl) (Nat.le_of_ble_eq_true rfl) rfl rfl (as := [.ref 31, .int (112 + (S 49 j2))]) (rest := []) rfl rfl rfl (cs_mono h (fun S7 v7 h => ?_))
          obtain ⟨rfl, h⟩ := h
          refine rn_aload_n rfl rfl ?_
          refine rn_bipush rfl ?_
          refine rn_virtual rfl (Nat.le_of_ble_eq_true rfl) (Nat.le_of_ble_eq_true rfl) rfl rfl (as := [.ref 31, .int 61]) (rest := []) rfl rfl rfl (cs_mono h (fun S8 v8 h => ?_))
          obtain ⟨rfl, h⟩ := h
          refine rn_aload_n rfl rfl ?_
          refine rn_getfield rfl rfl rfl ?_
          refine rn_iload rfl rfl ?_
          obtain ⟨j9, hj9, ej9, h⟩ := h
          refine rn_baload (j := j9) rfl rfl (Nat.le_of_ble_eq_true rfl) ej9 hj9 ?_
          refine rn_if_eq rfl (fun hc => ?_) (fun hc => ?_)
          · replace h := h.1 hc
            refine rn_aload_n rfl rfl ?_
            refine rn_iload rfl rfl ?_
            refine rn_iload_n rfl rfl ?_
            refine rn_virtual rfl (Nat.le_of_ble_eq_true rfl) (Nat.le_of_ble_eq_true rfl) rfl rfl (as := [.ref 31, .int r6, .int a1]) (rest := []) rfl rfl rfl (cs_mono h (fun S10 v10 h => ?_))
            obtain ⟨rfl, h⟩ := h
            refine rn_iload_n rfl rfl ?_
            refine rn_if_ne rfl (fun hc => ?_) (fun hc => ?_)
            · replace h := h.1 hc
              refine rn_iconst rfl ?_
              refine rn_goto rfl ?_
              refine rn_istore_n rfl rfl ?_
              refine rn_goto rfl ?_
              exact h _ _ _
            · replace h := h.2 hc
              refine rn_aload_n rfl rfl ?_
              refine rn_getfield rfl rfl rfl ?_
              refine rn_bipush rfl ?_
              refine rn_icmp_le rfl (fun hc => ?_) (fun hc => ?_)
              · replace h := h.1 hc
                refine rn_iconst rfl ?_
                refine rn_istore_n rfl rfl ?_
                refine rn_goto rfl ?_
                exact h _ _ _
              · replace h := h.2 hc
                refine rn_iconst rfl ?_
                refine rn_goto rfl ?_
                refine rn_istore_n rfl rfl ?_
                refine rn_goto rfl ?_
                exact h _ _ _
          · replace h := h.2 hc
            refine rn_aload_n rfl rfl ?_
            refine rn_bipush rfl ?_
            refine rn_virtual rfl (Nat.le_of_ble_eq_true rfl) (Nat.le_of_ble_eq_true rfl) rfl rfl (as := [.ref 31, .int 64]) (rest := []) rfl rfl rfl (cs_mono h (fun S11 v11 h => ?_))
            obtain ⟨rfl, h⟩ := h
            refine rn_aload_n rfl rfl ?_
            refine rn_aload_n rfl rfl ?_
            refine rn_getfield rfl rfl rfl ?_
            refine rn_iload rfl rfl ?_
            obtain ⟨j12, hj12, ej12, h⟩ := h
            refine rn_iaload (j := j12) rfl rfl (Nat.le_of_ble_eq_true rfl) ej12 hj12 ?_
            refine rn_iconst rfl ?_
            refine rn_isub rfl ?_
            refine rn_virtual rfl (Nat.le_of_ble_eq_true rfl) (Nat.le_of_ble_eq_true rfl) rfl rfl (as := [.ref 31, .int ((S11 46 j12) - 1)]) (rest := []) rfl rfl rfl (cs_mono h (fun S13 v13 h => ?_))
            obtain ⟨rfl, h⟩ := h
            refine rn_goto rfl ?_
            refine rn_goto rfl ?_
            exact h _ _ _
      · replace h := h.2 hc
        refine rn_aload_n rfl rfl ?_
        refine rn_bipush rfl ?_
        refine rn_virtual rfl (Nat.le_of_ble_eq_true rfl) (Nat.le_of_ble_eq_true rfl) rfl rfl (as := [.ref 31, .int 41]) (rest := []) rfl rfl rfl (cs_mono h (fun S14 v14 h => ?_))
        obtain ⟨rfl, h⟩ := h
        refine rn_aload_n rfl rfl ?_
        refine rn_dup rfl rfl ?_
        refine rn_getfield rfl rfl rfl ?_
        refine rn_iconst rfl ?_
        refine rn_isub rfl ?_
        refine rn_putfield (S' := (us S14 31 20 ((S14 31 20) - 1))) rfl rfl (Nat.le_of_ble_eq_true rfl) (Or.inl rfl) rfl ?_
        refine rn_goto rfl ?_
        refine rn_goto rfl ?_
        exact h _ _ _
def w_109_262 (xs : Nat × (Nat → Int32)) (d : Nat) (K : Sv → Option Value → Prop) (a3 : Int32) (S : Sv) : Prop :=
  ((S 31 13) ≤ a3 → (K (us S 31 11 (S 31 13)) (some (.int (S 31 13))))) ∧ (¬ ((S 31 13) ≤ a3) → (∃ j1 : Nat, j1 < 300 ∧ a3 = nI j1 ∧ (∃ j2 : Nat, j2 < 300 ∧ a3 = nI j2 ∧ (R_109_262 xs d K (a3 + 1) (us S 41 j2 (S 42 j1))))))
set_option maxRecDepth 100000 in
set_option maxHeartbeats 4000000 in
theorem h_109_262 {xs : Nat × (Nat → Int32)} {d : Nat} {K : Sv → Option Value → Prop} {a3 : Int32} {S : Sv} (h : w_109_262 xs d K a3 S) : R_109_262 xs d K a3 S := by
  unfold w_109_262 at h
  unfold R_109_262
  intro u1 u2 u4 u5
  refine rn_iload_n rfl rfl ?_
  refine rn_aload_n rfl rfl ?_
  refine rn_getfield rfl rfl rfl ?_
  refine rn_icmp_ge rfl (fun hc => ?_) (fun hc => ?_)
  · replace h := h.1 hc
    refine rn_aload_n rfl rfl ?_
    refine rn_aload_n rfl rfl ?_
    refine rn_getfield rfl rfl rfl ?_
    refine rn_putfield (S' := (us S 31 11 (S 31 13))) rfl rfl (Nat.le_of_ble_eq_true rfl) (Or.inl rfl) rfl ?_
    refine rn_aload_n rfl rfl ?_
    refine rn_getfield rfl rfl rfl ?_
    exact rn_ireturn rfl rfl rfl h
  · replace h := h.2 hc
    refine rn_aload_n rfl rfl ?_
    refine rn_getfield rfl rfl rfl ?_
    refine rn_iload_n rfl rfl ?_
    refine rn_aload_n rfl rfl ?_
    refine rn_getfield rfl rfl rfl ?_
    refine rn_iload_n rfl rfl ?_
    obtain ⟨j1, hj1, ej1, h⟩ := h
    refine rn_iaload (j := j1) rfl rfl (Nat.le_of_ble_eq_true rfl) ej1 hj1 ?_
    obtain ⟨j2, hj2, ej2, h⟩ := h
    refine rn_iastore (j := j2) (S' := (us S 41 j2 (S 42 j1))) rfl rfl (Nat.le_of_ble_eq_true rfl) ej2 hj2 rfl ?_
    refine rn_iinc rfl rfl rfl ?_
    refine rn_goto rfl ?_
    exact h _ _ _ _
def w_109 (xs : Nat × (Nat → Int32)) (d : Nat) (K : Sv → Option Value → Prop) (a1 : Int32) (S : Sv) : Prop :=
  CS xs d 88 S [.ref 31, .int a1] (fun S1 v1 => ∃ r1 : Int32, v1 = some (.int r1) ∧ ((¬ r1 = 0 → (CS xs d 100 S1 [.ref 31, .int a1] (fun S2 v2 => ∃ r2 : Int32, v2 = some (.int r2) ∧ (R_109_18 xs d K a1 0 S2)))) ∧ (¬ (¬ r1 = 0) → (K S1 (some (.int (-1)))))))
set_option maxRecDepth 100000 in
set_option maxHeartbeats 4000000 in
theorem c_109 {xs : Nat × (Nat → Int32)} {d : Nat} {K : Sv → Option Value → Prop} {a1 : Int32} {S : Sv} (h : w_109 xs d K a1 S) : CS xs (d + 1) 109 S [.ref 31, .int a1] K := by
  unfold w_109 at h
  refine cs_in rfl rfl rfl rfl ?_
  refine rn_aload_n rfl rfl ?_
  refine rn_iload_n rfl rfl ?_
  refine rn_virtual rfl (Nat.le_of_ble_eq_true rfl) (Nat.le_of_ble_eq_true rfl) rfl rfl (as := [.ref 31, .int a1]) (rest := []) rfl rfl rfl (cs_mono h (fun S1 v1 h => ?_))
  obtain ⟨r1, rfl, h⟩ := h
  refine rn_if_ne rfl (fun hc => ?_) (fun hc => ?_)
  · replace h := h.1 hc
    refine rn_aload_n rfl rfl ?_
    refine rn_iload_n rfl rfl ?_
    refine rn_virtual rfl (Nat.le_of_ble_eq_true rfl) (Nat.le_of_ble_eq_true rfl) rfl rfl (as := [.ref 31, .int a1]) (rest := []) rfl rfl rfl (cs_mono h (fun S2 v2 h => ?_))
    obtain ⟨r2, rfl, h⟩ := h
    refine rn_pop rfl rfl ?_
    refine rn_iconst rfl ?_
    refine rn_istore_n rfl rfl ?_
    exact h _ _ _
  · replace h := h.2 hc
    refine rn_iconst rfl ?_
    exact rn_ireturn rfl rfl rfl h
-- ReplayedBeansModel.type(C)Z (number 110)
def w_110 (xs : Nat × (Nat → Int32)) (d : Nat) (K : Sv → Option Value → Prop) (a1 : Int32) (S : Sv) : Prop :=
  (a1 < 32 → (K S (some (.int 0)))) ∧ (¬ (a1 < 32) → ((126 < a1 → (K S (some (.int 0)))) ∧ (¬ (126 < a1) → ((¬ (S 31 11) = 300 → (∃ j1 : Nat, j1 < 300 ∧ (S 31 11) = nI j1 ∧ (K (us (us S 41 j1 a1) 31 11 ((S 31 11) + 1)) (some (.int 1))))) ∧ (¬ (¬ (S 31 11) = 300) → (K S (some (.int 0))))))))
set_option maxRecDepth 100000 in
set_option maxHeartbeats 4000000 in
theorem c_110 {xs : Nat × (Nat → Int32)} {d : Nat} {K : Sv → Option Value → Prop} {a1 : Int32} {S : Sv} (h : w_110 xs d K a1 S) : CS xs (d + 1) 110 S [.ref 31, .int a1] K := by
  unfold w_110 at h
  refine cs_in rfl rfl rfl rfl ?_
  refine rn_iload_n rfl rfl ?_
  refine rn_bipush rfl ?_
  refine rn_icmp_lt rfl (fun hc => ?_) (fun hc => ?_)
  · replace h := h.1 hc
    refine rn_iconst rfl ?_
    exact rn_ireturn rfl rfl (by decide) h
  · replace h := h.2 hc
    refine rn_iload_n rfl rfl ?_
    refine rn_bipush rfl ?_
    refine rn_icmp_gt rfl (fun hc => ?_) (fun hc => ?_)
    · replace h := h.1 hc
      refine rn_iconst rfl ?_
      exact rn_ireturn rfl rfl (by decide) h
    · replace h := h.2 hc
      refine rn_aload_n rfl rfl ?_
      refine rn_getfield rfl rfl rfl ?_
      refine rn_sipush rfl ?_
      refine rn_icmp_ne rfl (fun hc => ?_) (fun hc => ?_)
      · replace h := h.1 hc
        refine rn_aload_n rfl rfl ?_
        refine rn_getfield rfl rfl rfl ?_
        refine rn_aload_n rfl rfl ?_
        refine rn_getfield rfl rfl rfl ?_
        refine rn_iload_n rfl rfl ?_
        obtain ⟨j1, hj1, ej1, h⟩ := h
        refine rn_iastore (j := j1) (S' := (us S 41 j1 a1)) rfl rfl (Nat.le_of_ble_eq_true rfl) ej1 hj1 rfl ?_
        refine rn_aload_n rfl rfl ?_
        refine rn_dup rfl rfl ?_
        refine rn_getfield rfl rfl rfl ?_
        refine rn_iconst rfl ?_
        refine rn_iadd rfl ?_
        refine rn_putfield (S' := (us (us S 41 j1 a1) 31 11 ((S 31 11) + 1))) rfl rfl (Nat.le_of_ble_eq_true rfl) (Or.inl rfl) rfl ?_
        refine rn_iconst rfl ?_
        exact rn_ireturn rfl rfl (by decide) h
      · replace h := h.2 hc
        refine rn_iconst rfl ?_
        exact rn_ireturn rfl rfl (by decide) h
-- ReplayedBeansModel.wipe()V (number 111)
def w_111 (xs : Nat × (Nat → Int32)) (d : Nat) (K : Sv → Option Value → Prop) (S : Sv) : Prop :=
  K (us S 31 11 0) none
set_option maxRecDepth 100000 in
set_option maxHeartbeats 4000000 in
theorem c_111 {xs : Nat × (Nat → Int32)} {d : Nat} {K : Sv → Option Value → Prop} {S : Sv} (h : w_111 xs d K S) : CS xs (d + 1) 111 S [.ref 31] K := by
  unfold w_111 at h
  refine cs_in rfl rfl rfl rfl ?_
  refine rn_aload_n rfl rfl ?_
  refine rn_iconst rfl ?_
  refine rn_putfield (S' := (us S 31 11 0)) rfl rfl (Nat.le_of_ble_eq_true rfl) (Or.inl rfl) rfl ?_
  exact rn_return rfl rfl h
-- ReplayedBeansModel.length()I (number 112)
def w_112 (xs : Nat × (Nat → Int32)) (d : Nat) (K : Sv → Option Value → Prop) (S : Sv) : Prop :=
  K S (some (.int (S 31 11)))
set_option maxRecDepth 100000 in
set_option maxHeartbeats 4000000 in
theorem c_112 {xs : Nat × (Nat → Int32)} {d : Nat} {K : Sv → Option Value → Prop} {S : Sv} (h : w_112 xs d K S) : CS xs (d + 1) 112 S [.ref 31] K := by
  unfold w_112 at h
  refine cs_in rfl rfl rfl rfl ?_
  refine rn_aload_n rfl rfl ?_
  refine rn_getfield rfl rfl rfl ?_
  exact rn_ireturn rfl rfl rfl h
-- ReplayedBeansModel.at(I)I (number 113)
def w_113 (xs : Nat × (Nat → Int32)) (d : Nat) (K : Sv → Option Value → Prop) (a1 : Int32) (S : Sv) : Prop :=
  (a1 < 1 → (K S (some (.int (-1))))) ∧ (¬ (a1 < 1) → ((a1 ≤ (S 31 11) → (∃ j1 : Nat, j1 < 300 ∧ (a1 - 1) = nI j1 ∧ (K S (some (.int (S 41 j1)))))) ∧ (¬ (a1 ≤ (S 31 11)) → (K S (some (.int (-1)))))))
set_option maxRecDepth 100000 in
set_option maxHeartbeats 4000000 in
theorem c_113 {xs : Nat × (Nat → Int32)} {d : Nat} {K : Sv → Option Value → Prop} {a1 : Int32} {S : Sv} (h : w_113 xs d K a1 S) : CS xs (d + 1) 113 S [.ref 31, .int a1] K := by
  unfold w_113 at h
  refine cs_in rfl rfl rfl rfl ?_
  refine rn_iload_n rfl rfl ?_
  refine rn_iconst rfl ?_
  refine rn_icmp_lt rfl (fun hc => ?_) (fun hc => ?_)
  · replace h := h.1 hc
    refine rn_iconst rfl ?_
    refine rn_goto rfl ?_
    exact rn_ireturn rfl rfl rfl h
  · replace h := h.2 hc
    refine rn_iload_n rfl rfl ?_
    refine rn_aload_n rfl rfl ?_
    refine rn_getfield rfl rfl rfl ?_
    refine rn_icmp_le rfl (fun hc => ?_) (fun hc => ?_)
    · replace h := h.1 hc
      refine rn_aload_n rfl rfl ?_
      refine rn_getfield rfl rfl rfl ?_
      refine rn_iload_n rfl rfl ?_
      refine rn_iconst rfl ?_
      refine rn_isub rfl ?_
      obtain ⟨j1, hj1, ej1, h⟩ := h
      refine rn_iaload (j := j1) rfl rfl (Nat.le_of_ble_eq_true rfl) ej1 hj1 ?_
      exact rn_ireturn rfl rfl rfl h
    · replace h := h.2 hc
      refine rn_iconst rfl ?_
      refine rn_goto rfl ?_
      exact rn_ireturn rfl rfl rfl h
-- ReplayedBeansModel.figure(I)Z (number 114)
def w_114 (xs : Nat × (Nat → Int32)) (d : Nat) (K : Sv → Option Value → Prop) (a0 : Int32) (S : Sv) : Prop :=
  (a0 < 48 → (K S (some (.int 0)))) ∧ (¬ (a0 < 48) → ((57 < a0 → (K S (some (.int 0)))) ∧ (¬ (57 < a0) → (K S (some (.int 1))))))
set_option maxRecDepth 100000 in
set_option maxHeartbeats 4000000 in
theorem c_114 {xs : Nat × (Nat → Int32)} {d : Nat} {K : Sv → Option Value → Prop} {a0 : Int32} {S : Sv} (h : w_114 xs d K a0 S) : CS xs (d + 1) 114 S [.int a0] K := by
  unfold w_114 at h
  refine cs_in rfl rfl rfl rfl ?_
  refine rn_iload_n rfl rfl ?_
  refine rn_bipush rfl ?_
  refine rn_icmp_lt rfl (fun hc => ?_) (fun hc => ?_)
  · replace h := h.1 hc
    refine rn_iconst rfl ?_
    exact rn_ireturn rfl rfl (by decide) h
  · replace h := h.2 hc
    refine rn_iload_n rfl rfl ?_
    refine rn_bipush rfl ?_
    refine rn_icmp_gt rfl (fun hc => ?_) (fun hc => ?_)
    · replace h := h.1 hc
      refine rn_iconst rfl ?_
      exact rn_ireturn rfl rfl (by decide) h
    · replace h := h.2 hc
      refine rn_iconst rfl ?_
      refine rn_goto rfl ?_
      exact rn_ireturn rfl rfl (by decide) h
-- ReplayedBeansModel.after(IZ)I (number 115)
def R_115_273 (xs : Nat × (Nat → Int32)) (d : Nat) (K : Sv → Option Value → Prop) (a1 : Int32) (S : Sv) : Prop := ∀ u0 u2 : Option Value, RN xs d 115 K 273 [u0, some (.int a1), u2] [] S
def w_115_273 (xs : Nat × (Nat → Int32)) (d : Nat) (K : Sv → Option Value → Prop) (a1 : Int32) (S : Sv) : Prop :=
  (¬ a1 = 64 → ((¬ a1 = 126 → (K S (some (.int (-1))))) ∧ (¬ (¬ a1 = 126) → (K S (some (.int 13)))))) ∧ (¬ (¬ a1 = 64) → (K S (some (.int 11))))
set_option maxRecDepth 100000 in
set_option maxHeartbeats 4000000 in
theorem h_115_273 {xs : Nat × (Nat → Int32)} {d : Nat} {K : Sv → Option Value → Prop} {a1 : Int32} {S : Sv} (h : w_115_273 xs d K a1 S) : R_115_273 xs d K a1 S := by
  unfold w_115_273 at h
  unfold R_115_273
  intro u0 u2
  refine rn_iload_n rfl rfl ?_
  refine rn_bipush rfl ?_
  refine rn_icmp_ne rfl (fun hc => ?_) (fun hc => ?_)
  · replace h := h.1 hc
    refine rn_iload_n rfl rfl ?_
    refine rn_bipush rfl ?_
    refine rn_icmp_ne rfl (fun hc => ?_) (fun hc => ?_)
    · replace h := h.1 hc
      refine rn_iconst rfl ?_
      exact rn_ireturn rfl rfl rfl h
    · replace h := h.2 hc
      refine rn_bipush rfl ?_
      refine rn_goto rfl ?_
      exact rn_ireturn rfl rfl rfl h
  · replace h := h.2 hc
    refine rn_bipush rfl ?_
    refine rn_goto rfl ?_
    exact rn_ireturn rfl rfl rfl h
def w_115 (xs : Nat × (Nat → Int32)) (d : Nat) (K : Sv → Option Value → Prop) (a1 a2 : Int32) (S : Sv) : Prop :=
  ((S 31 24) = 0 → ((¬ a1 = 40 → (K S (some (.int (-1))))) ∧ (¬ (¬ a1 = 40) → (K S (some (.int 1)))))) ∧ ((S 31 24) = 1 → ((a1 < 97 → (K S (some (.int (-1))))) ∧ (¬ (a1 < 97) → ((100 < a1 → (K S (some (.int (-1))))) ∧ (¬ (100 < a1) → (K S (some (.int 2)))))))) ∧ ((S 31 24) = 2 → ((¬ a1 = 35 → (CS xs d 116 S [.ref 31, .int a1, .int a2] (fun S1 v1 => ∃ r1 : Int32, v1 = some (.int r1) ∧ (K S1 (some (.int r1)))))) ∧ (¬ (¬ a1 = 35) → (K S (some (.int 3)))))) ∧ ((S 31 24) = 3 → (CS xs d 114 S [.int a1] (fun S2 v2 => ∃ r2 : Int32, v2 = some (.int r2) ∧ ((r2 = 0 → (K S2 (some (.int (-1))))) ∧ (¬ (r2 = 0) → (K S2 (some (.int 4)))))))) ∧ ((S 31 24) = 4 → (CS xs d 114 S [.int a1] (fun S3 v3 => ∃ r3 : Int32, v3 = some (.int r3) ∧ ((r3 = 0 → (CS xs d 116 S3 [.ref 31, .int a1, .int a2] (fun S4 v4 => ∃ r4 : Int32, v4 = some (.int r4) ∧ (K S4 (some (.int r4)))))) ∧ (¬ (r3 = 0) → ((2 ≤ (S3 31 25) → (CS xs d 116 S3 [.ref 31, .int a1, .int a2] (fun S5 v5 => ∃ r5 : Int32, v5 = some (.int r5) ∧ (K S5 (some (.int r5)))))) ∧ (¬ (2 ≤ (S3 31 25)) → (K S3 (some (.int 4)))))))))) ∧ ((S 31 24) = 5 → ((¬ a1 = 61 → (K S (some (.int (-1))))) ∧ (¬ (¬ a1 = 61) → (K S (some (.int 7)))))) ∧ ((S 31 24) = 6 → ((¬ a1 = 61 → (K S (some (.int (-1))))) ∧ (¬ (¬ a1 = 61) → (K S (some (.int 10)))))) ∧ ((S 31 24) = 7 → ((¬ a1 = 45 → (CS xs d 114 S [.int a1] (fun S6 v6 => ∃ r6 : Int32, v6 = some (.int r6) ∧ ((r6 = 0 → (K S6 (some (.int (-1))))) ∧ (¬ (r6 = 0) → (K S6 (some (.int 9)))))))) ∧ (¬ (¬ a1 = 45) → (K S (some (.int 8)))))) ∧ ((S 31 24) = 8 → (CS xs d 114 S [.int a1] (fun S7 v7 => ∃ r7 : Int32, v7 = some (.int r7) ∧ ((r7 = 0 → (K S7 (some (.int (-1))))) ∧ (¬ (r7 = 0) → (K S7 (some (.int 9)))))))) ∧ ((S 31 24) = 9 → (CS xs d 114 S [.int a1] (fun S8 v8 => ∃ r8 : Int32, v8 = some (.int r8) ∧ ((r8 = 0 → (CS xs d 116 S8 [.ref 31, .int a1, .int a2] (fun S9 v9 => ∃ r9 : Int32, v9 = some (.int r9) ∧ (K S9 (some (.int r9)))))) ∧ (¬ (r8 = 0) → ((5 ≤ (S8 31 25) → (CS xs d 116 S8 [.ref 31, .int a1, .int a2] (fun S10 v10 => ∃ r10 : Int32, v10 = some (.int r10) ∧ (K S10 (some (.int r10)))))) ∧ (¬ (5 ≤ (S8 31 25)) → (K S8 (some (.int 9)))))))))) ∧ ((S 31 24) = 10 → ((¬ a1 = 40 → (R_115_273 xs d K a1 S)) ∧ (¬ (¬ a1 = 40) → ((10 ≤ (S 31 20) → (R_115_273 xs d K a1 S)) ∧ (¬ (10 ≤ (S 31 20)) → (K S (some (.int 1)))))))) ∧ ((S 31 24) = 11 → (CS xs d 114 S [.int a1] (fun S11 v11 => ∃ r11 : Int32, v11 = some (.int r11) ∧ ((r11 = 0 → (K S11 (some (.int (-1))))) ∧ (¬ (r11 = 0) → (K S11 (some (.int 12)))))))) ∧ ((S 31 24) = 12 → (CS xs d 114 S [.int a1] (fun S12 v12 => ∃ r12 : Int32, v12 = some (.int r12) ∧ ((r12 = 0 → (CS xs d 116 S12 [.ref 31, .int a1, .int a2] (fun S13 v13 => ∃ r13 : Int32, v13 = some (.int r13) ∧ (K S13 (some (.int r13)))))) ∧ (¬ (r12 = 0) → ((2 ≤ (S12 31 25) → (CS xs d 116 S12 [.ref 31, .int a1, .int a2] (fun S14 v14 => ∃ r14 : Int32, v14 = some (.int r14) ∧ (K S14 (some (.int r14)))))) ∧ (¬ (2 ≤ (S12 31 25)) → (K S12 (some (.int 12)))))))))) ∧ ((S 31 24) = 13 → (CS xs d 116 S [.ref 31, .int a1, .int a2] (fun S15 v15 => ∃ r15 : Int32, v15 = some (.int r15) ∧ (K S15 (some (.int r15)))))) ∧ (((S 31 24).toInt < 0 ∨ 13 < (S 31 24).toInt) → (K S (some (.int (-1)))))
set_option maxRecDepth 100000 in
set_option maxHeartbeats 4000000 in
theorem c_115 {xs : Nat × (Nat → Int32)} {d : Nat} {K : Sv → Option Value → Prop} {a1 a2 : Int32} {S : Sv} (h : w_115 xs d K a1 a2 S) : CS xs (d + 1) 115 S [.ref 31, .int a1, .int a2] K := by
  unfold w_115 at h
  refine cs_in rfl rfl rfl rfl ?_
  refine rn_aload_n rfl rfl ?_
  refine rn_getfield rfl rfl rfl ?_
  by_cases hc0 : (S 31 24) = 0
  · replace h := h.1 hc0
    rw [hc0]
    refine rn_tableIn 76 rfl (by decide) (by decide) rfl rfl ?_
    refine rn_iload_n rfl rfl ?_
    refine rn_bipush rfl ?_
    refine rn_icmp_ne rfl (fun hc => ?_) (fun hc => ?_)
    · replace h := h.1 hc
      refine rn_iconst rfl ?_
      exact rn_ireturn rfl rfl rfl h
    · replace h := h.2 hc
      refine rn_iconst rfl ?_
      refine rn_goto rfl ?_
      exact rn_ireturn rfl rfl rfl h
  by_cases hc1 : (S 31 24) = 1
  · replace h := h.2.1 hc1
    rw [hc1]
    refine rn_tableIn 88 rfl (by decide) (by decide) rfl rfl ?_
    refine rn_iload_n rfl rfl ?_
    refine rn_bipush rfl ?_
    refine rn_icmp_lt rfl (fun hc => ?_) (fun hc => ?_)
    · replace h := h.1 hc
      refine rn_iconst rfl ?_
      exact rn_ireturn rfl rfl rfl h
    · replace h := h.2 hc
      refine rn_iload_n rfl rfl ?_
      refine rn_bipush rfl ?_
      refine rn_icmp_gt rfl (fun hc => ?_) (fun hc => ?_)
      · replace h := h.1 hc
        refine rn_iconst rfl ?_
        exact rn_ireturn rfl rfl rfl h
      · replace h := h.2 hc
        refine rn_iconst rfl ?_
        refine rn_goto rfl ?_
        exact rn_ireturn rfl rfl rfl h
  by_cases hc2 : (S 31 24) = 2
  · replace h := h.2.2.1 hc2
    rw [hc2]
    refine rn_tableIn 106 rfl (by decide) (by decide) rfl rfl ?_
    refine rn_iload_n rfl rfl ?_
    refine rn_bipush rfl ?_
    refine rn_icmp_ne rfl (fun hc => ?_) (fun hc => ?_)
    · replace h := h.1 hc
      refine rn_aload_n rfl rfl ?_
      refine rn_iload_n rfl rfl ?_
      refine rn_iload_n rfl rfl ?_
      refine rn_virtual rfl (Nat.le_of_ble_eq_true rfl) (Nat.le_of_ble_eq_true rfl) rfl rfl (as := [.ref 31, .int a1, .int a2]) (rest := []) rfl rfl rfl (cs_mono h (fun S1 v1 h => ?_))
      obtain ⟨r1, rfl, h⟩ := h
      exact rn_ireturn rfl rfl rfl h
    · replace h := h.2 hc
      refine rn_iconst rfl ?_
      refine rn_goto rfl ?_
      exact rn_ireturn rfl rfl rfl h
  by_cases hc3 : (S 31 24) = 3
  · replace h := h.2.2.2.1 hc3
    rw [hc3]
    refine rn_tableIn 123 rfl (by decide) (by decide) rfl rfl ?_
    refine rn_iload_n rfl rfl ?_
    refine rn_static rfl (Nat.le_of_ble_eq_true rfl) (Nat.le_of_ble_eq_true rfl) rfl rfl (as := [.int a1]) (rest := []) rfl rfl (cs_mono h (fun S2 v2 h => ?_))
    obtain ⟨r2, rfl, h⟩ := h
    refine rn_if_eq rfl (fun hc => ?_) (fun hc => ?_)
    · replace h := h.1 hc
      refine rn_iconst rfl ?_
      exact rn_ireturn rfl rfl rfl h
    · replace h := h.2 hc
      refine rn_iconst rfl ?_
      refine rn_goto rfl ?_
      exact rn_ireturn rfl rfl rfl h
  by_cases hc4 : (S 31 24) = 4
  · replace h := h.2.2.2.2.1 hc4
    rw [hc4]
    refine rn_tableIn 136 rfl (by decide) (by decide) rfl rfl ?_
    refine rn_iload_n rfl rfl ?_
    refine rn_static rfl (Nat.le_of_ble_eq_true rfl) (Nat.le_of_ble_eq_true rfl) rfl rfl (as := [.int a1]) (rest := []) rfl rfl (cs_mono h (fun S3 v3 h => ?_))
    obtain ⟨r3, rfl, h⟩ := h
    refine rn_if_eq rfl (fun hc => ?_) (fun hc => ?_)
    · replace h := h.1 hc
      refine rn_aload_n rfl rfl ?_
      refine rn_iload_n rfl rfl ?_
      refine rn_iload_n rfl rfl ?_
      refine rn_virtual rfl (Nat.le_of_ble_eq_true rfl) (Nat.le_of_ble_eq_true rfl) rfl rfl (as := [.ref 31, .int a1, .int a2]) (rest := []) rfl rfl rfl (cs_mono h (fun S4 v4 h => ?_))
      obtain ⟨r4, rfl, h⟩ := h
      exact rn_ireturn rfl rfl rfl h
    · replace h := h.2 hc
      refine rn_aload_n rfl rfl ?_
      refine rn_getfield rfl rfl rfl ?_
      refine rn_iconst rfl ?_
      refine rn_icmp_ge rfl (fun hc => ?_) (fun hc => ?_)
      · replace h := h.1 hc
        refine rn_aload_n rfl rfl ?_
        refine rn_iload_n rfl rfl ?_
        refine rn_iload_n rfl rfl ?_
        refine rn_virtual rfl (Nat.le_of_ble_eq_true rfl) (Nat.le_of_ble_eq_true rfl) rfl rfl (as := [.ref 31, .int a1, .int a2]) (rest := []) rfl rfl rfl (cs_mono h (fun S5 v5 h => ?_))
        obtain ⟨r5, rfl, h⟩ := h
        exact rn_ireturn rfl rfl rfl h
      · replace h := h.2 hc
        refine rn_iconst rfl ?_
        refine rn_goto rfl ?_
        exact rn_ireturn rfl rfl rfl h
  by_cases hc5 : (S 31 24) = 5
  · replace h := h.2.2.2.2.2.1 hc5
    rw [hc5]
    refine rn_tableIn 162 rfl (by decide) (by decide) rfl rfl ?_
    refine rn_iload_n rfl rfl ?_
    refine rn_bipush rfl ?_
    refine rn_icmp_ne rfl (fun hc => ?_) (fun hc => ?_)
    · replace h := h.1 hc
      refine rn_iconst rfl ?_
      exact rn_ireturn rfl rfl rfl h
    · replace h := h.2 hc
      refine rn_bipush rfl ?_
      refine rn_goto rfl ?_
      exact rn_ireturn rfl rfl rfl h
  by_cases hc6 : (S 31 24) = 6
  · replace h := h.2.2.2.2.2.2.1 hc6
    rw [hc6]
    refine rn_tableIn 175 rfl (by decide) (by decide) rfl rfl ?_
    refine rn_iload_n rfl rfl ?_
    refine rn_bipush rfl ?_
    refine rn_icmp_ne rfl (fun hc => ?_) (fun hc => ?_)
    · replace h := h.1 hc
      refine rn_iconst rfl ?_
      exact rn_ireturn rfl rfl rfl h
    · replace h := h.2 hc
      refine rn_bipush rfl ?_
      refine rn_goto rfl ?_
      exact rn_ireturn rfl rfl rfl h
  by_cases hc7 : (S 31 24) = 7
  · replace h := h.2.2.2.2.2.2.2.1 hc7
    rw [hc7]
    refine rn_tableIn 188 rfl (by decide) (by decide) rfl rfl ?_
    refine rn_iload_n rfl rfl ?_
    refine rn_bipush rfl ?_
    refine rn_icmp_ne rfl (fun hc => ?_) (fun hc => ?_)
    · replace h := h.1 hc
      refine rn_iload_n rfl rfl ?_
      refine rn_static rfl (Nat.le_of_ble_eq_true rfl) (Nat.le_of_ble_eq_true rfl) rfl rfl (as := [.int a1]) (rest := []) rfl rfl (cs_mono h (fun S6 v6 h => ?_))
      obtain ⟨r6, rfl, h⟩ := h
      refine rn_if_eq rfl (fun hc => ?_) (fun hc => ?_)
      · replace h := h.1 hc
        refine rn_iconst rfl ?_
        exact rn_ireturn rfl rfl rfl h
      · replace h := h.2 hc
        refine rn_bipush rfl ?_
        refine rn_goto rfl ?_
        exact rn_ireturn rfl rfl rfl h
    · replace h := h.2 hc
      refine rn_bipush rfl ?_
      refine rn_goto rfl ?_
      exact rn_ireturn rfl rfl rfl h
  by_cases hc8 : (S 31 24) = 8
  · replace h := h.2.2.2.2.2.2.2.2.1 hc8
    rw [hc8]
    refine rn_tableIn 213 rfl (by decide) (by decide) rfl rfl ?_
    refine rn_iload_n rfl rfl ?_
    refine rn_static rfl (Nat.le_of_ble_eq_true rfl) (Nat.le_of_ble_eq_true rfl) rfl rfl (as := [.int a1]) (rest := []) rfl rfl (cs_mono h (fun S7 v7 h => ?_))
    obtain ⟨r7, rfl, h⟩ := h
    refine rn_if_eq rfl (fun hc => ?_) (fun hc => ?_)
    · replace h := h.1 hc
      refine rn_iconst rfl ?_
      exact rn_ireturn rfl rfl rfl h
    · replace h := h.2 hc
      refine rn_bipush rfl ?_
      refine rn_goto rfl ?_
      exact rn_ireturn rfl rfl rfl h
  by_cases hc9 : (S 31 24) = 9
  · replace h := h.2.2.2.2.2.2.2.2.2.1 hc9
    rw [hc9]
    refine rn_tableIn 227 rfl (by decide) (by decide) rfl rfl ?_
    refine rn_iload_n rfl rfl ?_
    refine rn_static rfl (Nat.le_of_ble_eq_true rfl) (Nat.le_of_ble_eq_true rfl) rfl rfl (as := [.int a1]) (rest := []) rfl rfl (cs_mono h (fun S8 v8 h => ?_))
    obtain ⟨r8, rfl, h⟩ := h
    refine rn_if_eq rfl (fun hc => ?_) (fun hc => ?_)
    · replace h := h.1 hc
      refine rn_aload_n rfl rfl ?_
      refine rn_iload_n rfl rfl ?_
      refine rn_iload_n rfl rfl ?_
      refine rn_virtual rfl (Nat.le_of_ble_eq_true rfl) (Nat.le_of_ble_eq_true rfl) rfl rfl (as := [.ref 31, .int a1, .int a2]) (rest := []) rfl rfl rfl (cs_mono h (fun S9 v9 h => ?_))
      obtain ⟨r9, rfl, h⟩ := h
      exact rn_ireturn rfl rfl rfl h
    · replace h := h.2 hc
      refine rn_aload_n rfl rfl ?_
      refine rn_getfield rfl rfl rfl ?_
      refine rn_iconst rfl ?_
      refine rn_icmp_ge rfl (fun hc => ?_) (fun hc => ?_)
      · replace h := h.1 hc
        refine rn_aload_n rfl rfl ?_
        refine rn_iload_n rfl rfl ?_
        refine rn_iload_n rfl rfl ?_
        refine rn_virtual rfl (Nat.le_of_ble_eq_true rfl) (Nat.le_of_ble_eq_true rfl) rfl rfl (as := [.ref 31, .int a1, .int a2]) (rest := []) rfl rfl rfl (cs_mono h (fun S10 v10 h => ?_))
        obtain ⟨r10, rfl, h⟩ := h
        exact rn_ireturn rfl rfl rfl h
      · replace h := h.2 hc
        refine rn_bipush rfl ?_
        refine rn_goto rfl ?_
        exact rn_ireturn rfl rfl rfl h
  by_cases hc10 : (S 31 24) = 10
  · replace h := h.2.2.2.2.2.2.2.2.2.2.1 hc10
    rw [hc10]
    refine rn_tableIn 254 rfl (by decide) (by decide) rfl rfl ?_
    refine rn_iload_n rfl rfl ?_
    refine rn_bipush rfl ?_
    refine rn_icmp_ne rfl (fun hc => ?_) (fun hc => ?_)
    · replace h := h.1 hc
      exact h _ _
    · replace h := h.2 hc
      refine rn_aload_n rfl rfl ?_
      refine rn_getfield rfl rfl rfl ?_
      refine rn_bipush rfl ?_
      refine rn_icmp_ge rfl (fun hc => ?_) (fun hc => ?_)
      · replace h := h.1 hc
        exact h _ _
      · replace h := h.2 hc
        refine rn_iconst rfl ?_
        refine rn_goto rfl ?_
        exact rn_ireturn rfl rfl rfl h
  by_cases hc11 : (S 31 24) = 11
  · replace h := h.2.2.2.2.2.2.2.2.2.2.2.1 hc11
    rw [hc11]
    refine rn_tableIn 297 rfl (by decide) (by decide) rfl rfl ?_
    refine rn_iload_n rfl rfl ?_
    refine rn_static rfl (Nat.le_of_ble_eq_true rfl) (Nat.le_of_ble_eq_true rfl) rfl rfl (as := [.int a1]) (rest := []) rfl rfl (cs_mono h (fun S11 v11 h => ?_))
    obtain ⟨r11, rfl, h⟩ := h
    refine rn_if_eq rfl (fun hc => ?_) (fun hc => ?_)
    · replace h := h.1 hc
      refine rn_iconst rfl ?_
      exact rn_ireturn rfl rfl rfl h
    · replace h := h.2 hc
      refine rn_bipush rfl ?_
      refine rn_goto rfl ?_
      exact rn_ireturn rfl rfl rfl h
  by_cases hc12 : (S 31 24) = 12
  · replace h := h.2.2.2.2.2.2.2.2.2.2.2.2.1 hc12
    rw [hc12]
    refine rn_tableIn 311 rfl (by decide) (by decide) rfl rfl ?_
    refine rn_iload_n rfl rfl ?_
    refine rn_static rfl (Nat.le_of_ble_eq_true rfl) (Nat.le_of_ble_eq_true rfl) rfl rfl (as := [.int a1]) (rest := []) rfl rfl (cs_mono h (fun S12 v12 h => ?_))
    obtain ⟨r12, rfl, h⟩ := h
    refine rn_if_eq rfl (fun hc => ?_) (fun hc => ?_)
    · replace h := h.1 hc
      refine rn_aload_n rfl rfl ?_
      refine rn_iload_n rfl rfl ?_
      refine rn_iload_n rfl rfl ?_
      refine rn_virtual rfl (Nat.le_of_ble_eq_true rfl) (Nat.le_of_ble_eq_true rfl) rfl rfl (as := [.ref 31, .int a1, .int a2]) (rest := []) rfl rfl rfl (cs_mono h (fun S13 v13 h => ?_))
      obtain ⟨r13, rfl, h⟩ := h
      exact rn_ireturn rfl rfl rfl h
    · replace h := h.2 hc
      refine rn_aload_n rfl rfl ?_
      refine rn_getfield rfl rfl rfl ?_
      refine rn_iconst rfl ?_
      refine rn_icmp_ge rfl (fun hc => ?_) (fun hc => ?_)
      · replace h := h.1 hc
        refine rn_aload_n rfl rfl ?_
        refine rn_iload_n rfl rfl ?_
        refine rn_iload_n rfl rfl ?_
        refine rn_virtual rfl (Nat.le_of_ble_eq_true rfl) (Nat.le_of_ble_eq_true rfl) rfl rfl (as := [.ref 31, .int a1, .int a2]) (rest := []) rfl rfl rfl (cs_mono h (fun S14 v14 h => ?_))
        obtain ⟨r14, rfl, h⟩ := h
        exact rn_ireturn rfl rfl rfl h
      · replace h := h.2 hc
        refine rn_bipush rfl ?_
        refine rn_goto rfl ?_
        exact rn_ireturn rfl rfl rfl h
  by_cases hc13 : (S 31 24) = 13
  · replace h := h.2.2.2.2.2.2.2.2.2.2.2.2.2.1 hc13
    rw [hc13]
    refine rn_tableIn 338 rfl (by decide) (by decide) rfl rfl ?_
    refine rn_aload_n rfl rfl ?_
    refine rn_iload_n rfl rfl ?_
    refine rn_iload_n rfl rfl ?_
    refine rn_virtual rfl (Nat.le_of_ble_eq_true rfl) (Nat.le_of_ble_eq_true rfl) rfl rfl (as := [.ref 31, .int a1, .int a2]) (rest := []) rfl rfl rfl (cs_mono h (fun S15 v15 h => ?_))
    obtain ⟨r15, rfl, h⟩ := h
    exact rn_ireturn rfl rfl rfl h
  have hout : (S 31 24).toInt < 0 ∨ 13 < (S 31 24).toInt := by
    rcases Int.lt_or_le (S 31 24).toInt 0 with hz | hz
    · exact Or.inl hz
    · rcases Int.lt_or_le 13 (S 31 24).toInt with hz2 | hz2
      · exact Or.inr hz2
      · exfalso
        have hq0 : ¬ (S 31 24).toInt = 0 := fun e => hc0 (Int32.toInt_inj.mp (e.trans (by decide)))
        have hq1 : ¬ (S 31 24).toInt = 1 := fun e => hc1 (Int32.toInt_inj.mp (e.trans (by decide)))
        have hq2 : ¬ (S 31 24).toInt = 2 := fun e => hc2 (Int32.toInt_inj.mp (e.trans (by decide)))
        have hq3 : ¬ (S 31 24).toInt = 3 := fun e => hc3 (Int32.toInt_inj.mp (e.trans (by decide)))
        have hq4 : ¬ (S 31 24).toInt = 4 := fun e => hc4 (Int32.toInt_inj.mp (e.trans (by decide)))
        have hq5 : ¬ (S 31 24).toInt = 5 := fun e => hc5 (Int32.toInt_inj.mp (e.trans (by decide)))
        have hq6 : ¬ (S 31 24).toInt = 6 := fun e => hc6 (Int32.toInt_inj.mp (e.trans (by decide)))
        have hq7 : ¬ (S 31 24).toInt = 7 := fun e => hc7 (Int32.toInt_inj.mp (e.trans (by decide)))
        have hq8 : ¬ (S 31 24).toInt = 8 := fun e => hc8 (Int32.toInt_inj.mp (e.trans (by decide)))
        have hq9 : ¬ (S 31 24).toInt = 9 := fun e => hc9 (Int32.toInt_inj.mp (e.trans (by decide)))
        have hq10 : ¬ (S 31 24).toInt = 10 := fun e => hc10 (Int32.toInt_inj.mp (e.trans (by decide)))
        have hq11 : ¬ (S 31 24).toInt = 11 := fun e => hc11 (Int32.toInt_inj.mp (e.trans (by decide)))
        have hq12 : ¬ (S 31 24).toInt = 12 := fun e => hc12 (Int32.toInt_inj.mp (e.trans (by decide)))
        have hq13 : ¬ (S 31 24).toInt = 13 := fun e => hc13 (Int32.toInt_inj.mp (e.trans (by decide)))
        omega
  replace h := h.2.2.2.2.2.2.2.2.2.2.2.2.2.2 hout
  refine rn_tableOut 345 rfl hout rfl ?_
  refine rn_iconst rfl ?_
  exact rn_ireturn rfl rfl rfl h
-- ReplayedBeansModel.inside(IZ)I (number 116)
def R_116_16 (xs : Nat × (Nat → Int32)) (d : Nat) (K : Sv → Option Value → Prop) (a1 a2 : Int32) (S : Sv) : Prop := ∀ u3 u4 : Option Value, RN xs d 116 K 16 [some (.ref 31), some (.int a1), some (.int a2), u3, u4] [] S
def R_116_30 (xs : Nat × (Nat → Int32)) (d : Nat) (K : Sv → Option Value → Prop) (a1 a2 a3 : Int32) (S : Sv) : Prop := ∀ u4 : Option Value, RN xs d 116 K 30 [some (.ref 31), some (.int a1), some (.int a2), some (.int a3), u4] [] S
def R_116_56 (xs : Nat × (Nat → Int32)) (d : Nat) (K : Sv → Option Value → Prop) (a1 a3 a4 : Int32) (S : Sv) : Prop := ∀ u2 : Option Value, RN xs d 116 K 56 [some (.ref 31), some (.int a1), u2, some (.int a3), some (.int a4)] [] S
def R_116_60 (xs : Nat × (Nat → Int32)) (d : Nat) (K : Sv → Option Value → Prop) (a1 a3 a4 : Int32) (S : Sv) : Prop := ∀ u2 : Option Value, RN xs d 116 K 60 [some (.ref 31), some (.int a1), u2, some (.int a3), some (.int a4)] [] S
def w_116_16 (xs : Nat × (Nat → Int32)) (d : Nat) (K : Sv → Option Value → Prop) (a1 a2 : Int32) (S : Sv) : Prop :=
  (a1 = 112 → (R_116_30 xs d K a1 a2 0 S)) ∧ (¬ (a1 = 112) → ((¬ a1 = 113 → ((a2 = 0 → (R_116_60 xs d K a1 0 0 S)) ∧ (¬ (a2 = 0) → ((¬ a1 = 41 → (R_116_60 xs d K a1 0 0 S)) ∧ (¬ (¬ a1 = 41) → (R_116_56 xs d K a1 0 0 S)))))) ∧ (¬ (¬ a1 = 113) → (R_116_30 xs d K a1 a2 0 S))))
set_option maxRecDepth 100000 in
set_option maxHeartbeats 4000000 in
theorem h_116_16 {xs : Nat × (Nat → Int32)} {d : Nat} {K : Sv → Option Value → Prop} {a1 a2 : Int32} {S : Sv} (h : w_116_16 xs d K a1 a2 S) : R_116_16 xs d K a1 a2 S := by
  unfold w_116_16 at h
  unfold R_116_16
  intro u3 u4
  refine rn_iconst rfl ?_
  refine rn_istore_n rfl rfl ?_
  refine rn_iload_n rfl rfl ?_
  refine rn_bipush rfl ?_
  refine rn_icmp_eq rfl (fun hc => ?_) (fun hc => ?_)
  · replace h := h.1 hc
    exact h _
  · replace h := h.2 hc
    refine rn_iload_n rfl rfl ?_
    refine rn_bipush rfl ?_
    refine rn_icmp_ne rfl (fun hc => ?_) (fun hc => ?_)
    · replace h := h.1 hc
      refine rn_iconst rfl ?_
      refine rn_istore rfl rfl ?_
      refine rn_iload_n rfl rfl ?_
      refine rn_if_eq rfl (fun hc => ?_) (fun hc => ?_)
      · replace h := h.1 hc
        exact h _
      · replace h := h.2 hc
        refine rn_iload_n rfl rfl ?_
        refine rn_if_ne rfl (fun hc => absurd hc (by decide)) (fun _ => ?_)
        refine rn_iload rfl rfl ?_
        refine rn_if_ne rfl (fun hc => absurd hc (by decide)) (fun _ => ?_)
        refine rn_iload_n rfl rfl ?_
        refine rn_bipush rfl ?_
        refine rn_icmp_ne rfl (fun hc => ?_) (fun hc => ?_)
        · replace h := h.1 hc
          exact h _
        · replace h := h.2 hc
          exact h _
    · replace h := h.2 hc
      exact h _
def w_116_30 (xs : Nat × (Nat → Int32)) (d : Nat) (K : Sv → Option Value → Prop) (a1 a2 a3 : Int32) (S : Sv) : Prop :=
  (a2 = 0 → (R_116_60 xs d K a1 a3 1 S)) ∧ (¬ (a2 = 0) → ((¬ a3 = 0 → (R_116_56 xs d K a1 a3 1 S)) ∧ (¬ (¬ a3 = 0) → (R_116_56 xs d K a1 a3 1 S))))
set_option maxRecDepth 100000 in
set_option maxHeartbeats 4000000 in
theorem h_116_30 {xs : Nat × (Nat → Int32)} {d : Nat} {K : Sv → Option Value → Prop} {a1 a2 a3 : Int32} {S : Sv} (h : w_116_30 xs d K a1 a2 a3 S) : R_116_30 xs d K a1 a2 a3 S := by
  unfold w_116_30 at h
  unfold R_116_30
  intro u4
  refine rn_iconst rfl ?_
  refine rn_goto rfl ?_
  refine rn_istore rfl rfl ?_
  refine rn_iload_n rfl rfl ?_
  refine rn_if_eq rfl (fun hc => ?_) (fun hc => ?_)
  · replace h := h.1 hc
    exact h _
  · replace h := h.2 hc
    refine rn_iload_n rfl rfl ?_
    refine rn_if_ne rfl (fun hc => ?_) (fun hc => ?_)
    · replace h := h.1 hc
      exact h _
    · replace h := h.2 hc
      refine rn_iload rfl rfl ?_
      refine rn_if_ne rfl (fun _ => ?_) (fun hc => absurd (by decide) hc)
      exact h _
def w_116_56 (xs : Nat × (Nat → Int32)) (d : Nat) (K : Sv → Option Value → Prop) (a1 a3 a4 : Int32) (S : Sv) : Prop :=
  CS xs d 117 S [.ref 31] (fun S1 v1 => v1 = none ∧ (R_116_60 xs d K a1 a3 a4 S1))
set_option maxRecDepth 100000 in
set_option maxHeartbeats 4000000 in
theorem h_116_56 {xs : Nat × (Nat → Int32)} {d : Nat} {K : Sv → Option Value → Prop} {a1 a3 a4 : Int32} {S : Sv} (h : w_116_56 xs d K a1 a3 a4 S) : R_116_56 xs d K a1 a3 a4 S := by
  unfold w_116_56 at h
  unfold R_116_56
  intro u2
  refine rn_aload_n rfl rfl ?_
  refine rn_virtual rfl (Nat.le_of_ble_eq_true rfl) (Nat.le_of_ble_eq_true rfl) rfl rfl (as := [.ref 31]) (rest := []) rfl rfl rfl (cs_mono h (fun S1 v1 h => ?_))
  obtain ⟨rfl, h⟩ := h
  exact h _
def w_116_60 (xs : Nat × (Nat → Int32)) (d : Nat) (K : Sv → Option Value → Prop) (a1 a3 a4 : Int32) (S : Sv) : Prop :=
  (a3 = 0 → ((a4 = 0 → ((¬ a1 = 41 → (K S (some (.int (-1))))) ∧ (¬ (¬ a1 = 41) → ((¬ (S 31 20) = 1 → (K S (some (.int 13)))) ∧ (¬ (¬ (S 31 20) = 1) → (K S (some (.int 14)))))))) ∧ (¬ (a4 = 0) → (K S (some (.int 6)))))) ∧ (¬ (a3 = 0) → (K S (some (.int 5))))
set_option maxRecDepth 100000 in
set_option maxHeartbeats 4000000 in
theorem h_116_60 {xs : Nat × (Nat → Int32)} {d : Nat} {K : Sv → Option Value → Prop} {a1 a3 a4 : Int32} {S : Sv} (h : w_116_60 xs d K a1 a3 a4 S) : R_116_60 xs d K a1 a3 a4 S := by
  unfold w_116_60 at h
  unfold R_116_60
  intro u2
  refine rn_iload_n rfl rfl ?_
  refine rn_if_eq rfl (fun hc => ?_) (fun hc => ?_)
  · replace h := h.1 hc
    refine rn_iload rfl rfl ?_
    refine rn_if_eq rfl (fun hc => ?_) (fun hc => ?_)
    · replace h := h.1 hc
      refine rn_iload_n rfl rfl ?_
      refine rn_bipush rfl ?_
      refine rn_icmp_ne rfl (fun hc => ?_) (fun hc => ?_)
      · replace h := h.1 hc
        refine rn_iconst rfl ?_
        exact rn_ireturn rfl rfl rfl h
      · replace h := h.2 hc
        refine rn_aload_n rfl rfl ?_
        refine rn_getfield rfl rfl rfl ?_
        refine rn_iconst rfl ?_
        refine rn_icmp_ne rfl (fun hc => ?_) (fun hc => ?_)
        · replace h := h.1 hc
          refine rn_bipush rfl ?_
          refine rn_goto rfl ?_
          exact rn_ireturn rfl rfl rfl h
        · replace h := h.2 hc
          refine rn_bipush rfl ?_
          refine rn_goto rfl ?_
          exact rn_ireturn rfl rfl rfl h
    · replace h := h.2 hc
      refine rn_bipush rfl ?_
      refine rn_goto rfl ?_
      exact rn_ireturn rfl rfl rfl h
  · replace h := h.2 hc
    refine rn_iconst rfl ?_
    refine rn_goto rfl ?_
    exact rn_ireturn rfl rfl rfl h
def w_116 (xs : Nat × (Nat → Int32)) (d : Nat) (K : Sv → Option Value → Prop) (a1 a2 : Int32) (S : Sv) : Prop :=
  (a1 < 120 → (R_116_16 xs d K a1 a2 S)) ∧ (¬ (a1 < 120) → ((122 < a1 → (R_116_16 xs d K a1 a2 S)) ∧ (¬ (122 < a1) → ((a1 = 112 → (R_116_30 xs d K a1 a2 1 S)) ∧ (¬ (a1 = 112) → ((¬ a1 = 113 → ((a2 = 0 → (R_116_60 xs d K a1 1 0 S)) ∧ (¬ (a2 = 0) → (R_116_56 xs d K a1 1 0 S)))) ∧ (¬ (¬ a1 = 113) → (R_116_30 xs d K a1 a2 1 S))))))))
set_option maxRecDepth 100000 in
set_option maxHeartbeats 4000000 in
theorem c_116 {xs : Nat × (Nat → Int32)} {d : Nat} {K : Sv → Option Value → Prop} {a1 a2 : Int32} {S : Sv} (h : w_116 xs d K a1 a2 S) : CS xs (d + 1) 116 S [.ref 31, .int a1, .int a2] K := by
  unfold w_116 at h
  refine cs_in rfl rfl rfl rfl ?_
  refine rn_iload_n rfl rfl ?_
  refine rn_bipush rfl ?_
  refine rn_icmp_lt rfl (fun hc => ?_) (fun hc => ?_)
  · replace h := h.1 hc
    exact h _ _
  · replace h := h.2 hc
    refine rn_iload_n rfl rfl ?_
    refine rn_bipush rfl ?_
    refine rn_icmp_gt rfl (fun hc => ?_) (fun hc => ?_)
    · replace h := h.1 hc
      exact h _ _
    · replace h := h.2 hc
      refine rn_iconst rfl ?_
      refine rn_goto rfl ?_
      refine rn_istore_n rfl rfl ?_
      refine rn_iload_n rfl rfl ?_
      refine rn_bipush rfl ?_
      refine rn_icmp_eq rfl (fun hc => ?_) (fun hc => ?_)
      · replace h := h.1 hc
        exact h _
      · replace h := h.2 hc
        refine rn_iload_n rfl rfl ?_
        refine rn_bipush rfl ?_
        refine rn_icmp_ne rfl (fun hc => ?_) (fun hc => ?_)
        · replace h := h.1 hc
          refine rn_iconst rfl ?_
          refine rn_istore rfl rfl ?_
          refine rn_iload_n rfl rfl ?_
          refine rn_if_eq rfl (fun hc => ?_) (fun hc => ?_)
          · replace h := h.1 hc
            exact h _
          · replace h := h.2 hc
            refine rn_iload_n rfl rfl ?_
            refine rn_if_ne rfl (fun _ => ?_) (fun hc => absurd (by decide) hc)
            exact h _
        · replace h := h.2 hc
          exact h _
-- ReplayedBeansModel.settle()V (number 117)
def R_117_12 (xs : Nat × (Nat → Int32)) (d : Nat) (K : Sv → Option Value → Prop) (S : Sv) : Prop := RN xs d 117 K 12 [some (.ref 31)] [] S
def R_117_25 (xs : Nat × (Nat → Int32)) (d : Nat) (K : Sv → Option Value → Prop) (S : Sv) : Prop := RN xs d 117 K 25 [some (.ref 31)] [] S
def w_117_12 (xs : Nat × (Nat → Int32)) (d : Nat) (K : Sv → Option Value → Prop) (S : Sv) : Prop :=
  (¬ (S 31 24) = 9 → (R_117_25 xs d K S)) ∧ (¬ (¬ (S 31 24) = 9) → (CS xs d 120 S [.ref 31] (fun S1 v1 => v1 = none ∧ (R_117_25 xs d K S1))))
set_option maxRecDepth 100000 in
set_option maxHeartbeats 4000000 in
theorem h_117_12 {xs : Nat × (Nat → Int32)} {d : Nat} {K : Sv → Option Value → Prop} {S : Sv} (h : w_117_12 xs d K S) : R_117_12 xs d K S := by
  unfold w_117_12 at h
  unfold R_117_12
  refine rn_aload_n rfl rfl ?_
  refine rn_getfield rfl rfl rfl ?_
  refine rn_bipush rfl ?_
  refine rn_icmp_ne rfl (fun hc => ?_) (fun hc => ?_)
  · replace h := h.1 hc
    exact h
  · replace h := h.2 hc
    refine rn_aload_n rfl rfl ?_
    refine rn_virtual rfl (Nat.le_of_ble_eq_true rfl) (Nat.le_of_ble_eq_true rfl) rfl rfl (as := [.ref 31]) (rest := []) rfl rfl rfl (cs_mono h (fun S1 v1 h => ?_))
    obtain ⟨rfl, h⟩ := h
    exact h
def w_117_25 (xs : Nat × (Nat → Int32)) (d : Nat) (K : Sv → Option Value → Prop) (S : Sv) : Prop :=
  (¬ (S 31 24) = 12 → (K S none)) ∧ (¬ (¬ (S 31 24) = 12) → (∃ j1 : Nat, j1 < 100 ∧ (S 31 26) = nI j1 ∧ (∃ j2 : Nat, j2 < 100 ∧ (S 31 26) = nI j2 ∧ (((S 51 j2) = (-1) → (CS xs d 121 S [.ref 31, .int (S 51 j1), .int 0] (fun S3 v3 => v3 = none ∧ (K S3 none)))) ∧ (¬ ((S 51 j2) = (-1)) → (CS xs d 121 S [.ref 31, .int (S 51 j1), .int 1] (fun S4 v4 => v4 = none ∧ (K S4 none))))))))
set_option maxRecDepth 100000 in
set_option maxHeartbeats 4000000 in
theorem h_117_25 {xs : Nat × (Nat → Int32)} {d : Nat} {K : Sv → Option Value → Prop} {S : Sv} (h : w_117_25 xs d K S) : R_117_25 xs d K S := by
  unfold w_117_25 at h
  unfold R_117_25
  refine rn_aload_n rfl rfl ?_
  refine rn_getfield rfl rfl rfl ?_
  refine rn_bipush rfl ?_
  refine rn_icmp_ne rfl (fun hc => ?_) (fun hc => ?_)
  · replace h := h.1 hc
    exact rn_return rfl rfl h
  · replace h := h.2 hc
    refine rn_aload_n rfl rfl ?_
    refine rn_aload_n rfl rfl ?_
    refine rn_getfield rfl rfl rfl ?_
    refine rn_aload_n rfl rfl ?_
    refine rn_getfield rfl rfl rfl ?_
    obtain ⟨j1, hj1, ej1, h⟩ := h
    refine rn_iaload (j := j1) rfl rfl (Nat.le_of_ble_eq_true rfl) ej1 hj1 ?_
    refine rn_aload_n rfl rfl ?_
    refine rn_getfield rfl rfl rfl ?_
    refine rn_aload_n rfl rfl ?_
    refine rn_getfield rfl rfl rfl ?_
    obtain ⟨j2, hj2, ej2, h⟩ := h
    refine rn_iaload (j := j2) rfl rfl (Nat.le_of_ble_eq_true rfl) ej2 hj2 ?_
    refine rn_iconst rfl ?_
    refine rn_icmp_eq rfl (fun hc => ?_) (fun hc => ?_)
    · replace h := h.1 hc
      refine rn_iconst rfl ?_
      refine rn_virtual rfl (Nat.le_of_ble_eq_true rfl) (Nat.le_of_ble_eq_true rfl) rfl rfl (as := [.ref 31, .int (S 51 j1), .int 0]) (rest := []) rfl rfl rfl (cs_mono h (fun S3 v3 h => ?_))
      obtain ⟨rfl, h⟩ := h
      exact rn_return rfl rfl h
    · replace h := h.2 hc
      refine rn_iconst rfl ?_
      refine rn_goto rfl ?_
      refine rn_virtual rfl (Nat.le_of_ble_eq_true rfl) (Nat.le_of_ble_eq_true rfl) rfl rfl (as := [.ref 31, .int (S 51 j1), .int 1]) (rest := []) rfl rfl rfl (cs_mono h (fun S4 v4 h => ?_))
      obtain ⟨rfl, h⟩ := h
      exact rn_return rfl rfl h
def w_117 (xs : Nat × (Nat → Int32)) (d : Nat) (K : Sv → Option Value → Prop) (S : Sv) : Prop :=
  (¬ (S 31 24) = 4 → (R_117_12 xs d K S)) ∧ (¬ (¬ (S 31 24) = 4) → (CS xs d 119 S [.ref 31] (fun S1 v1 => v1 = none ∧ (R_117_12 xs d K S1))))
set_option maxRecDepth 100000 in
set_option maxHeartbeats 4000000 in
theorem c_117 {xs : Nat × (Nat → Int32)} {d : Nat} {K : Sv → Option Value → Prop} {S : Sv} (h : w_117 xs d K S) : CS xs (d + 1) 117 S [.ref 31] K := by
  unfold w_117 at h
  refine cs_in rfl rfl rfl rfl ?_
  refine rn_aload_n rfl rfl ?_
  refine rn_getfield rfl rfl rfl ?_
  refine rn_iconst rfl ?_
  refine rn_icmp_ne rfl (fun hc => ?_) (fun hc => ?_)
  · replace h := h.1 hc
    exact h
  · replace h := h.2 hc
    refine rn_aload_n rfl rfl ?_
    refine rn_virtual rfl (Nat.le_of_ble_eq_true rfl) (Nat.le_of_ble_eq_true rfl) rfl rfl (as := [.ref 31]) (rest := []) rfl rfl rfl (cs_mono h (fun S1 v1 h => ?_))
    obtain ⟨rfl, h⟩ := h
    exact h
-- ReplayedBeansModel.fail(I)V (number 118)
def w_118 (xs : Nat × (Nat → Int32)) (d : Nat) (K : Sv → Option Value → Prop) (a1 : Int32) (S : Sv) : Prop :=
  ∃ j1 : Nat, j1 < 300 ∧ (S 31 34) = nI j1 ∧ (K (us (us S 52 j1 a1) 31 34 ((S 31 34) + 1)) none)
set_option maxRecDepth 100000 in
set_option maxHeartbeats 4000000 in
theorem c_118 {xs : Nat × (Nat → Int32)} {d : Nat} {K : Sv → Option Value → Prop} {a1 : Int32} {S : Sv} (h : w_118 xs d K a1 S) : CS xs (d + 1) 118 S [.ref 31, .int a1] K := by
  unfold w_118 at h
  refine cs_in rfl rfl rfl rfl ?_
  refine rn_aload_n rfl rfl ?_
  refine rn_getfield rfl rfl rfl ?_
  refine rn_aload_n rfl rfl ?_
  refine rn_getfield rfl rfl rfl ?_
  refine rn_iload_n rfl rfl ?_
  obtain ⟨j1, hj1, ej1, h⟩ := h
  refine rn_iastore (j := j1) (S' := (us S 52 j1 a1)) rfl rfl (Nat.le_of_ble_eq_true rfl) ej1 hj1 rfl ?_
  refine rn_aload_n rfl rfl ?_
  refine rn_dup rfl rfl ?_
  refine rn_getfield rfl rfl rfl ?_
  refine rn_iconst rfl ?_
  refine rn_iadd rfl ?_
  refine rn_putfield (S' := (us (us S 52 j1 a1) 31 34 ((S 31 34) + 1))) rfl rfl (Nat.le_of_ble_eq_true rfl) (Or.inl rfl) rfl ?_
  exact rn_return rfl rfl h
-- ReplayedBeansModel.name()V (number 119)
def w_119 (xs : Nat × (Nat → Int32)) (d : Nat) (K : Sv → Option Value → Prop) (S : Sv) : Prop :=
  ∃ j1 : Nat, j1 < 25 ∧ ((S 31 20) - 1) = nI j1 ∧ (((S 48 j1) = (-1) → (CS xs d 118 S [.ref 31, .int (S 31 31)] (fun S2 v2 => v2 = none ∧ (K S2 none)))) ∧ (¬ ((S 48 j1) = (-1)) → (∃ j3 : Nat, j3 < 100 ∧ (S 31 26) = nI j3 ∧ (((S 51 j3) = (-1) → (∃ j4 : Nat, j4 < 100 ∧ (S 31 26) = nI j4 ∧ (K (us S 51 j4 (S 48 j1)) none))) ∧ (¬ ((S 51 j3) = (-1)) → (CS xs d 118 S [.ref 31, .int (S 31 31)] (fun S5 v5 => v5 = none ∧ (K S5 none))))))))
set_option maxRecDepth 100000 in
set_option maxHeartbeats 4000000 in
theorem c_119 {xs : Nat × (Nat → Int32)} {d : Nat} {K : Sv → Option Value → Prop} {S : Sv} (h : w_119 xs d K S) : CS xs (d + 1) 119 S [.ref 31] K := by
  unfold w_119 at h
  refine cs_in rfl rfl rfl rfl ?_
  refine rn_aload_n rfl rfl ?_
  refine rn_getfield rfl rfl rfl ?_
  refine rn_aload_n rfl rfl ?_
  refine rn_getfield rfl rfl rfl ?_
  refine rn_iconst rfl ?_
  refine rn_isub rfl ?_
  obtain ⟨j1, hj1, ej1, h⟩ := h
  refine rn_iaload (j := j1) rfl rfl (Nat.le_of_ble_eq_true rfl) ej1 hj1 ?_
  refine rn_istore_n rfl rfl ?_
  refine rn_iload_n rfl rfl ?_
  refine rn_iconst rfl ?_
  refine rn_icmp_eq rfl (fun hc => ?_) (fun hc => ?_)
  · replace h := h.1 hc
    refine rn_aload_n rfl rfl ?_
    refine rn_aload_n rfl rfl ?_
    refine rn_getfield rfl rfl rfl ?_
    refine rn_virtual rfl (Nat.le_of_ble_eq_true rfl) (Nat.le_of_ble_eq_true rfl) rfl rfl (as := [.ref 31, .int (S 31 31)]) (rest := []) rfl rfl rfl (cs_mono h (fun S2 v2 h => ?_))
    obtain ⟨rfl, h⟩ := h
    refine rn_goto rfl ?_
    exact rn_return rfl rfl h
  · replace h := h.2 hc
    refine rn_aload_n rfl rfl ?_
    refine rn_getfield rfl rfl rfl ?_
    refine rn_aload_n rfl rfl ?_
    refine rn_getfield rfl rfl rfl ?_
    obtain ⟨j3, hj3, ej3, h⟩ := h
    refine rn_iaload (j := j3) rfl rfl (Nat.le_of_ble_eq_true rfl) ej3 hj3 ?_
    refine rn_iconst rfl ?_
    refine rn_icmp_eq rfl (fun hc => ?_) (fun hc => ?_)
    · replace h := h.1 hc
      refine rn_aload_n rfl rfl ?_
      refine rn_getfield rfl rfl rfl ?_
      refine rn_aload_n rfl rfl ?_
      refine rn_getfield rfl rfl rfl ?_
      refine rn_iload_n rfl rfl ?_
      obtain ⟨j4, hj4, ej4, h⟩ := h
      refine rn_iastore (j := j4) (S' := (us S 51 j4 (S 48 j1))) rfl rfl (Nat.le_of_ble_eq_true rfl) ej4 hj4 rfl ?_
      exact rn_return rfl rfl h
    · replace h := h.2 hc
      refine rn_aload_n rfl rfl ?_
      refine rn_aload_n rfl rfl ?_
      refine rn_getfield rfl rfl rfl ?_
      refine rn_virtual rfl (Nat.le_of_ble_eq_true rfl) (Nat.le_of_ble_eq_true rfl) rfl rfl (as := [.ref 31, .int (S 31 31)]) (rest := []) rfl rfl rfl (cs_mono h (fun S5 v5 h => ?_))
      obtain ⟨rfl, h⟩ := h
      refine rn_goto rfl ?_
      exact rn_return rfl rfl h
-- ReplayedBeansModel.assignNumber()V (number 120)
def w_120 (xs : Nat × (Nat → Int32)) (d : Nat) (K : Sv → Option Value → Prop) (S : Sv) : Prop :=
  ∃ j1 : Nat, j1 < 25 ∧ ((S 31 20) - 1) = nI j1 ∧ (((S 31 27) = 0 → (((S 48 j1) = (-1) → (CS xs d 118 S [.ref 31, .int (S 31 29)] (fun S2 v2 => v2 = none ∧ (K S2 none)))) ∧ (¬ ((S 48 j1) = (-1)) → (CS xs d 89 S [.ref 31, .int (S 48 j1), .int ((S 31 28) - 120)] (fun S3 v3 => ∃ r3 : Int32, v3 = some (.int r3) ∧ ((r3 = 0 → (CS xs d 118 S3 [.ref 31, .int (S3 31 29)] (fun S4 v4 => v4 = none ∧ (K S4 none)))) ∧ (¬ (r3 = 0) → (CS xs d 95 S3 [.ref 31, .int (S 48 j1), .int ((S 31 28) - 120), .int (S 31 26)] (fun S5 v5 => ∃ r5 : Int32, v5 = some (.int r5) ∧ ((¬ r5 = 0 → (∃ j6 : Nat, j6 < 72 ∧ ((3 * (S 48 j1)) + ((S 31 28) - 120)) = nI j6 ∧ (K (us S5 39 j6 (S 31 26)) none))) ∧ (¬ (¬ r5 = 0) → (CS xs d 118 S5 [.ref 31, .int (S5 31 29)] (fun S7 v7 => v7 = none ∧ (K S7 none)))))))))))))) ∧ (¬ ((S 31 27) = 0) → (((S 48 j1) = (-1) → (CS xs d 118 S [.ref 31, .int (S 31 29)] (fun S8 v8 => v8 = none ∧ (K S8 none)))) ∧ (¬ ((S 48 j1) = (-1)) → (CS xs d 89 S [.ref 31, .int (S 48 j1), .int ((S 31 28) - 120)] (fun S9 v9 => ∃ r9 : Int32, v9 = some (.int r9) ∧ ((r9 = 0 → (CS xs d 118 S9 [.ref 31, .int (S9 31 29)] (fun S10 v10 => v10 = none ∧ (K S10 none)))) ∧ (¬ (r9 = 0) → (CS xs d 95 S9 [.ref 31, .int (S 48 j1), .int ((S 31 28) - 120), .int (-(S 31 26))] (fun S11 v11 => ∃ r11 : Int32, v11 = some (.int r11) ∧ ((¬ r11 = 0 → (∃ j12 : Nat, j12 < 72 ∧ ((3 * (S 48 j1)) + ((S 31 28) - 120)) = nI j12 ∧ (K (us S11 39 j12 (-(S 31 26))) none))) ∧ (¬ (¬ r11 = 0) → (CS xs d 118 S11 [.ref 31, .int (S11 31 29)] (fun S13 v13 => v13 = none ∧ (K S13 none)))))))))))))))
set_option maxRecDepth 100000 in
set_option maxHeartbeats 4000000 in
theorem c_120 {xs : Nat × (Nat → Int32)} {d : Nat} {K : Sv → Option Value → Prop} {S : Sv} (h : w_120 xs d K S) : CS xs (d + 1) 120 S [.ref 31] K := by
  unfold w_120 at h
  refine cs_in rfl rfl rfl rfl ?_
  refine rn_aload_n rfl rfl ?_
  refine rn_getfield rfl rfl rfl ?_
  refine rn_aload_n rfl rfl ?_
  refine rn_getfield rfl rfl rfl ?_
  refine rn_iconst rfl ?_
  refine rn_isub rfl ?_
  obtain ⟨j1, hj1, ej1, h⟩ := h
  refine rn_iaload (j := j1) rfl rfl (Nat.le_of_ble_eq_true rfl) ej1 hj1 ?_
  refine rn_istore_n rfl rfl ?_
  refine rn_aload_n rfl rfl ?_
  refine rn_getfield rfl rfl rfl ?_
  refine rn_bipush rfl ?_
  refine rn_isub rfl ?_
  refine rn_istore_n rfl rfl ?_
  refine rn_aload_n rfl rfl ?_
  refine rn_getfield rfl rfl rfl ?_
  refine rn_if_eq rfl (fun hc => ?_) (fun hc => ?_)
  · replace h := h.1 hc
    refine rn_aload_n rfl rfl ?_
    refine rn_getfield rfl rfl rfl ?_
    refine rn_istore_n rfl rfl ?_
    refine rn_iload_n rfl rfl ?_
    refine rn_iconst rfl ?_
    refine rn_icmp_eq rfl (fun hc => ?_) (fun hc => ?_)
    · replace h := h.1 hc
      refine rn_aload_n rfl rfl ?_
      refine rn_aload_n rfl rfl ?_
      refine rn_getfield rfl rfl rfl ?_
      refine rn_virtual rfl (Nat.le_of_ble_eq_true rfl) (Nat.le_of_ble_eq_true rfl) rfl rfl (as := [.ref 31, .int (S 31 29)]) (rest := []) rfl rfl rfl (cs_mono h (fun S2 v2 h => ?_))
      obtain ⟨rfl, h⟩ := h
      refine rn_goto rfl ?_
      exact rn_return rfl rfl h
    · replace h := h.2 hc
      refine rn_aload_n rfl rfl ?_
      refine rn_iload_n rfl rfl ?_
      refine rn_iload_n rfl rfl ?_
      refine rn_virtual rfl (Nat.le_of_ble_eq_true rfl) (Nat.le_of_ble_eq_true rfl) rfl rfl (as := [.ref 31, .int (S 48 j1), .int ((S 31 28) - 120)]) (rest := []) rfl rfl rfl (cs_mono h (fun S3 v3 h => ?_))
      obtain ⟨r3, rfl, h⟩ := h
      refine rn_if_eq rfl (fun hc => ?_) (fun hc => ?_)
      · replace h := h.1 hc
        refine rn_aload_n rfl rfl ?_
        refine rn_aload_n rfl rfl ?_
        refine rn_getfield rfl rfl rfl ?_
        refine rn_virtual rfl (Nat.le_of_ble_eq_true rfl) (Nat.le_of_ble_eq_true rfl) rfl rfl (as := [.ref 31, .int (S3 31 29)]) (rest := []) rfl rfl rfl (cs_mono h (fun S4 v4 h => ?_))
        obtain ⟨rfl, h⟩ := h
        refine rn_goto rfl ?_
        exact rn_return rfl rfl h
      · replace h := h.2 hc
        refine rn_aload_n rfl rfl ?_
        refine rn_iload_n rfl rfl ?_
        refine rn_iload_n rfl rfl ?_
        refine rn_iload_n rfl rfl ?_
        refine rn_virtual rfl (Nat.le_of_ble_eq_true rfl) (Nat.le_of_ble_eq_true rfl) rfl rfl (as := [.ref 31, .int (S 48 j1), .int ((S 31 28) - 120), .int (S 31 26)]) (rest := []) rfl rfl rfl (cs_mono h (fun S5 v5 h => ?_))
        obtain ⟨r5, rfl, h⟩ := h
        refine rn_if_ne rfl (fun hc => ?_) (fun hc => ?_)
        · replace h := h.1 hc
          refine rn_aload_n rfl rfl ?_
          refine rn_getfield rfl rfl rfl ?_
          refine rn_iconst rfl ?_
          refine rn_iload_n rfl rfl ?_
          refine rn_imul rfl ?_
          refine rn_iload_n rfl rfl ?_
          refine rn_iadd rfl ?_
          refine rn_iload_n rfl rfl ?_
          obtain ⟨j6, hj6, ej6, h⟩ := h
          refine rn_iastore (j := j6) (S' := (us S5 39 j6 (S 31 26))) rfl rfl (Nat.le_of_ble_eq_true rfl) ej6 hj6 rfl ?_
          exact rn_return rfl rfl h
        · replace h := h.2 hc
          refine rn_aload_n rfl rfl ?_
          refine rn_aload_n rfl rfl ?_
          refine rn_getfield rfl rfl rfl ?_
          refine rn_virtual rfl (Nat.le_of_ble_eq_true rfl) (Nat.le_of_ble_eq_true rfl) rfl rfl (as := [.ref 31, .int (S5 31 29)]) (rest := []) rfl rfl rfl (cs_mono h (fun S7 v7 h => ?_))
          obtain ⟨rfl, h⟩ := h
          refine rn_goto rfl ?_
          exact rn_return rfl rfl h
  · replace h := h.2 hc
    refine rn_aload_n rfl rfl ?_
    refine rn_getfield rfl rfl rfl ?_
    refine rn_ineg rfl ?_
    refine rn_goto rfl ?_
    refine rn_istore_n rfl rfl ?_
    refine rn_iload_n rfl rfl ?_
    refine rn_iconst rfl ?_
    refine rn_icmp_eq rfl (fun hc => ?_) (fun hc => ?_)
    · replace h := h.1 hc
      refine rn_aload_n rfl rfl ?_
      refine rn_aload_n rfl rfl ?_
      refine rn_getfield rfl rfl rfl ?_
      refine rn_virtual rfl (Nat.le_of_ble_eq_true rfl) (Nat.le_of_ble_eq_true rfl) rfl rfl (as := [.ref 31, .int (S 31 29)]) (rest := []) rfl rfl rfl (cs_mono h (fun S8 v8 h => ?_))
      obtain ⟨rfl, h⟩ := h
      refine rn_goto rfl ?_
      exact rn_return rfl rfl h
    · replace h := h.2 hc
      refine rn_aload_n rfl rfl ?_
      refine rn_iload_n rfl rfl ?_
      refine rn_iload_n rfl rfl ?_
      refine rn_virtual rfl (Nat.le_of_ble_eq_true rfl) (Nat.le_of_ble_eq_true rfl) rfl rfl (as := [.ref 31, .int (S 48 j1), .int ((S 31 28) - 120)]) (rest := []) rfl rfl rfl (cs_mono h (fun S9 v9 h => ?_))
      obtain ⟨r9, rfl, h⟩ := h
      refine rn_if_eq rfl (fun hc => ?_) (fun hc => ?_)
      · replace h := h.1 hc
        refine rn_aload_n rfl rfl ?_
        refine rn_aload_n rfl rfl ?_
        refine rn_getfield rfl rfl rfl ?_
        refine rn_virtual rfl (Nat.le_of_ble_eq_true rfl) (Nat.le_of_ble_eq_true rfl) rfl rfl (as := [.ref 31, .int (S9 31 29)]) (rest := []) rfl rfl rfl (cs_mono h (fun S10 v10 h => ?_))
        obtain ⟨rfl, h⟩ := h
        refine rn_goto rfl ?_
        exact rn_return rfl rfl h
      · replace h := h.2 hc
        refine rn_aload_n rfl rfl ?_
        refine rn_iload_n rfl rfl ?_
        refine rn_iload_n rfl rfl ?_
        refine rn_iload_n rfl rfl ?_
        refine rn_virtual rfl (Nat.le_of_ble_eq_true rfl) (Nat.le_of_ble_eq_true rfl) rfl rfl (as := [.ref 31, .int (S 48 j1), .int ((S 31 28) - 120), .int (-(S 31 26))]) (rest := []) rfl rfl rfl (cs_mono h (fun S11 v11 h => ?_))
        obtain ⟨r11, rfl, h⟩ := h
        refine rn_if_ne rfl (fun hc => ?_) (fun hc => ?_)
        · replace h := h.1 hc
          refine rn_aload_n rfl rfl ?_
          refine rn_getfield rfl rfl rfl ?_
          refine rn_iconst rfl ?_
          refine rn_iload_n rfl rfl ?_
          refine rn_imul rfl ?_
          refine rn_iload_n rfl rfl ?_
          refine rn_iadd rfl ?_
          refine rn_iload_n rfl rfl ?_
          obtain ⟨j12, hj12, ej12, h⟩ := h
          refine rn_iastore (j := j12) (S' := (us S11 39 j12 (-(S 31 26)))) rfl rfl (Nat.le_of_ble_eq_true rfl) ej12 hj12 rfl ?_
          exact rn_return rfl rfl h
        · replace h := h.2 hc
          refine rn_aload_n rfl rfl ?_
          refine rn_aload_n rfl rfl ?_
          refine rn_getfield rfl rfl rfl ?_
          refine rn_virtual rfl (Nat.le_of_ble_eq_true rfl) (Nat.le_of_ble_eq_true rfl) rfl rfl (as := [.ref 31, .int (S11 31 29)]) (rest := []) rfl rfl rfl (cs_mono h (fun S13 v13 h => ?_))
          obtain ⟨rfl, h⟩ := h
          refine rn_goto rfl ?_
          exact rn_return rfl rfl h
-- ReplayedBeansModel.assignLink(IZ)V (number 121)
def w_121 (xs : Nat × (Nat → Int32)) (d : Nat) (K : Sv → Option Value → Prop) (a1 a2 : Int32) (S : Sv) : Prop :=
  ∃ j1 : Nat, j1 < 25 ∧ ((S 31 20) - 1) = nI j1 ∧ (((S 48 j1) = (-1) → (CS xs d 118 S [.ref 31, .int (S 31 29)] (fun S2 v2 => v2 = none ∧ (K S2 none)))) ∧ (¬ ((S 48 j1) = (-1)) → ((a2 = 0 → (CS xs d 118 S [.ref 31, .int (S 31 29)] (fun S3 v3 => v3 = none ∧ (K S3 none)))) ∧ (¬ (a2 = 0) → (CS xs d 90 S [.ref 31, .int (S 48 j1), .int ((S 31 28) - 112)] (fun S4 v4 => ∃ r4 : Int32, v4 = some (.int r4) ∧ ((¬ r4 = 0 → (∃ j5 : Nat, j5 < 48 ∧ ((2 * (S 48 j1)) + ((S 31 28) - 112)) = nI j5 ∧ (K (us S4 40 j5 a1) none))) ∧ (¬ (¬ r4 = 0) → (CS xs d 118 S4 [.ref 31, .int (S4 31 29)] (fun S6 v6 => v6 = none ∧ (K S6 none)))))))))))
set_option maxRecDepth 100000 in
set_option maxHeartbeats 4000000 in
theorem c_121 {xs : Nat × (Nat → Int32)} {d : Nat} {K : Sv → Option Value → Prop} {a1 a2 : Int32} {S : Sv} (h : w_121 xs d K a1 a2 S) : CS xs (d + 1) 121 S [.ref 31, .int a1, .int a2] K := by
  unfold w_121 at h
  refine cs_in rfl rfl rfl rfl ?_
  refine rn_aload_n rfl rfl ?_
  refine rn_getfield rfl rfl rfl ?_
  refine rn_aload_n rfl rfl ?_
  refine rn_getfield rfl rfl rfl ?_
  refine rn_iconst rfl ?_
  refine rn_isub rfl ?_
  obtain ⟨j1, hj1, ej1, h⟩ := h
  refine rn_iaload (j := j1) rfl rfl (Nat.le_of_ble_eq_true rfl) ej1 hj1 ?_
  refine rn_istore_n rfl rfl ?_
  refine rn_aload_n rfl rfl ?_
  refine rn_getfield rfl rfl rfl ?_
  refine rn_bipush rfl ?_
  refine rn_isub rfl ?_
  refine rn_istore rfl rfl ?_
  refine rn_iload_n rfl rfl ?_
  refine rn_iconst rfl ?_
  refine rn_icmp_eq rfl (fun hc => ?_) (fun hc => ?_)
  · replace h := h.1 hc
    refine rn_aload_n rfl rfl ?_
    refine rn_aload_n rfl rfl ?_
    refine rn_getfield rfl rfl rfl ?_
    refine rn_virtual rfl (Nat.le_of_ble_eq_true rfl) (Nat.le_of_ble_eq_true rfl) rfl rfl (as := [.ref 31, .int (S 31 29)]) (rest := []) rfl rfl rfl (cs_mono h (fun S2 v2 h => ?_))
    obtain ⟨rfl, h⟩ := h
    refine rn_goto rfl ?_
    exact rn_return rfl rfl h
  · replace h := h.2 hc
    refine rn_iload_n rfl rfl ?_
    refine rn_if_eq rfl (fun hc => ?_) (fun hc => ?_)
    · replace h := h.1 hc
      refine rn_aload_n rfl rfl ?_
      refine rn_aload_n rfl rfl ?_
      refine rn_getfield rfl rfl rfl ?_
      refine rn_virtual rfl (Nat.le_of_ble_eq_true rfl) (Nat.le_of_ble_eq_true rfl) rfl rfl (as := [.ref 31, .int (S 31 29)]) (rest := []) rfl rfl rfl (cs_mono h (fun S3 v3 h => ?_))
      obtain ⟨rfl, h⟩ := h
      refine rn_goto rfl ?_
      exact rn_return rfl rfl h
    · replace h := h.2 hc
      refine rn_aload_n rfl rfl ?_
      refine rn_iload_n rfl rfl ?_
      refine rn_iload rfl rfl ?_
      refine rn_virtual rfl (Nat.le_of_ble_eq_true rfl) (Nat.le_of_ble_eq_true rfl) rfl rfl (as := [.ref 31, .int (S 48 j1), .int ((S 31 28) - 112)]) (rest := []) rfl rfl rfl (cs_mono h (fun S4 v4 h => ?_))
      obtain ⟨r4, rfl, h⟩ := h
      refine rn_if_ne rfl (fun hc => ?_) (fun hc => ?_)
      · replace h := h.1 hc
        refine rn_aload_n rfl rfl ?_
        refine rn_getfield rfl rfl rfl ?_
        refine rn_iconst rfl ?_
        refine rn_iload_n rfl rfl ?_
        refine rn_imul rfl ?_
        refine rn_iload rfl rfl ?_
        refine rn_iadd rfl ?_
        refine rn_iload_n rfl rfl ?_
        obtain ⟨j5, hj5, ej5, h⟩ := h
        refine rn_iastore (j := j5) (S' := (us S4 40 j5 a1)) rfl rfl (Nat.le_of_ble_eq_true rfl) ej5 hj5 rfl ?_
        exact rn_return rfl rfl h
      · replace h := h.2 hc
        refine rn_aload_n rfl rfl ?_
        refine rn_aload_n rfl rfl ?_
        refine rn_getfield rfl rfl rfl ?_
        refine rn_virtual rfl (Nat.le_of_ble_eq_true rfl) (Nat.le_of_ble_eq_true rfl) rfl rfl (as := [.ref 31, .int (S4 31 29)]) (rest := []) rfl rfl rfl (cs_mono h (fun S6 v6 h => ?_))
        obtain ⟨rfl, h⟩ := h
        refine rn_goto rfl ?_
        exact rn_return rfl rfl h
-- ReplayedBeansModel.note(IIIZ)V (number 122)
def R_122_96 (xs : Nat × (Nat → Int32)) (d : Nat) (K : Sv → Option Value → Prop) (a1 a3 : Int32) (S : Sv) : Prop := ∀ u2 u4 : Option Value, RN xs d 122 K 96 [some (.ref 31), some (.int a1), u2, some (.int a3), u4] [] S
def R_122_133 (xs : Nat × (Nat → Int32)) (d : Nat) (K : Sv → Option Value → Prop) (a1 a2 a3 : Int32) (S : Sv) : Prop := ∀ u4 : Option Value, RN xs d 122 K 133 [some (.ref 31), some (.int a1), some (.int a2), some (.int a3), u4] [] S
def R_122_175 (xs : Nat × (Nat → Int32)) (d : Nat) (K : Sv → Option Value → Prop) (a1 a3 a4 : Int32) (S : Sv) : Prop := ∀ u2 : Option Value, RN xs d 122 K 175 [some (.ref 31), some (.int a1), u2, some (.int a3), some (.int a4)] [] S
def R_122_193 (xs : Nat × (Nat → Int32)) (d : Nat) (K : Sv → Option Value → Prop) (a1 a3 : Int32) (S : Sv) : Prop := ∀ u2 u4 : Option Value, RN xs d 122 K 193 [some (.ref 31), some (.int a1), u2, some (.int a3), u4] [] S
def R_122_210 (xs : Nat × (Nat → Int32)) (d : Nat) (K : Sv → Option Value → Prop) (a1 a3 : Int32) (S : Sv) : Prop := ∀ u2 u4 : Option Value, RN xs d 122 K 210 [some (.ref 31), some (.int a1), u2, some (.int a3), u4] [] S
def R_122_225 (xs : Nat × (Nat → Int32)) (d : Nat) (K : Sv → Option Value → Prop) (a1 a3 : Int32) (S : Sv) : Prop := ∀ u2 u4 : Option Value, RN xs d 122 K 225 [some (.ref 31), some (.int a1), u2, some (.int a3), u4] [] S
def R_122_236 (xs : Nat × (Nat → Int32)) (d : Nat) (K : Sv → Option Value → Prop) (a1 a3 : Int32) (S : Sv) : Prop := ∀ u2 u4 : Option Value, RN xs d 122 K 236 [some (.ref 31), some (.int a1), u2, some (.int a3), u4] [] S
def R_122_253 (xs : Nat × (Nat → Int32)) (d : Nat) (K : Sv → Option Value → Prop) (a1 : Int32) (S : Sv) : Prop := ∀ u2 u3 u4 : Option Value, RN xs d 122 K 253 [some (.ref 31), some (.int a1), u2, u3, u4] [] S
def w_122_96 (xs : Nat × (Nat → Int32)) (d : Nat) (K : Sv → Option Value → Prop) (a1 a3 : Int32) (S : Sv) : Prop :=
  R_122_193 xs d K a1 a3 (us S 31 20 ((S 31 20) + 1))
set_option maxRecDepth 100000 in
set_option maxHeartbeats 4000000 in
theorem h_122_96 {xs : Nat × (Nat → Int32)} {d : Nat} {K : Sv → Option Value → Prop} {a1 a3 : Int32} {S : Sv} (h : w_122_96 xs d K a1 a3 S) : R_122_96 xs d K a1 a3 S := by
  unfold w_122_96 at h
  unfold R_122_96
  intro u2 u4
  refine rn_aload_n rfl rfl ?_
  refine rn_dup rfl rfl ?_
  refine rn_getfield rfl rfl rfl ?_
  refine rn_iconst rfl ?_
  refine rn_iadd rfl ?_
  refine rn_putfield (S' := (us S 31 20 ((S 31 20) + 1))) rfl rfl (Nat.le_of_ble_eq_true rfl) (Or.inl rfl) rfl ?_
  refine rn_goto rfl ?_
  exact h _ _
def w_122_133 (xs : Nat × (Nat → Int32)) (d : Nat) (K : Sv → Option Value → Prop) (a1 a2 a3 : Int32) (S : Sv) : Prop :=
  R_122_193 xs d K a1 a3 (us (us S 31 28 a1) 31 29 a2)
set_option maxRecDepth 100000 in
set_option maxHeartbeats 4000000 in
theorem h_122_133 {xs : Nat × (Nat → Int32)} {d : Nat} {K : Sv → Option Value → Prop} {a1 a2 a3 : Int32} {S : Sv} (h : w_122_133 xs d K a1 a2 a3 S) : R_122_133 xs d K a1 a2 a3 S := by
  unfold w_122_133 at h
  unfold R_122_133
  intro u4
  refine rn_aload_n rfl rfl ?_
  refine rn_iload_n rfl rfl ?_
  refine rn_putfield (S' := (us S 31 28 a1)) rfl rfl (Nat.le_of_ble_eq_true rfl) (Or.inl rfl) rfl ?_
  refine rn_aload_n rfl rfl ?_
  refine rn_iload_n rfl rfl ?_
  refine rn_putfield (S' := (us (us S 31 28 a1) 31 29 a2)) rfl rfl (Nat.le_of_ble_eq_true rfl) (Or.inl rfl) rfl ?_
  refine rn_goto rfl ?_
  exact h _ _
def w_122_175 (xs : Nat × (Nat → Int32)) (d : Nat) (K : Sv → Option Value → Prop) (a1 a3 a4 : Int32) (S : Sv) : Prop :=
  (¬ a1 = 41 → (R_122_193 xs d K a1 a3 S)) ∧ (¬ (¬ a1 = 41) → ((a3 < 13 → (R_122_193 xs d K a1 a3 S)) ∧ (¬ (a3 < 13) → (CS xs d 123 S [.ref 31, .int a4] (fun S1 v1 => v1 = none ∧ (R_122_193 xs d K a1 a3 S1))))))
set_option maxRecDepth 100000 in
set_option maxHeartbeats 4000000 in
theorem h_122_175 {xs : Nat × (Nat → Int32)} {d : Nat} {K : Sv → Option Value → Prop} {a1 a3 a4 : Int32} {S : Sv} (h : w_122_175 xs d K a1 a3 a4 S) : R_122_175 xs d K a1 a3 a4 S := by
  unfold w_122_175 at h
  unfold R_122_175
  intro u2
  refine rn_iload_n rfl rfl ?_
  refine rn_bipush rfl ?_
  refine rn_icmp_ne rfl (fun hc => ?_) (fun hc => ?_)
  · replace h := h.1 hc
    exact h _ _
  · replace h := h.2 hc
    refine rn_iload_n rfl rfl ?_
    refine rn_bipush rfl ?_
    refine rn_icmp_lt rfl (fun hc => ?_) (fun hc => ?_)
    · replace h := h.1 hc
      exact h _ _
    · replace h := h.2 hc
      refine rn_aload_n rfl rfl ?_
      refine rn_iload rfl rfl ?_
      refine rn_virtual rfl (Nat.le_of_ble_eq_true rfl) (Nat.le_of_ble_eq_true rfl) rfl rfl (as := [.ref 31, .int a4]) (rest := []) rfl rfl rfl (cs_mono h (fun S1 v1 h => ?_))
      obtain ⟨rfl, h⟩ := h
      exact h _ _
def w_122_193 (xs : Nat × (Nat → Int32)) (d : Nat) (K : Sv → Option Value → Prop) (a1 a3 : Int32) (S : Sv) : Prop :=
  (a3 = 3 → (R_122_210 xs d K a1 a3 S)) ∧ (¬ (a3 = 3) → ((a3 = 7 → (R_122_210 xs d K a1 a3 S)) ∧ (¬ (a3 = 7) → ((¬ a3 = 11 → (R_122_225 xs d K a1 a3 S)) ∧ (¬ (¬ a3 = 11) → (R_122_210 xs d K a1 a3 S))))))
set_option maxRecDepth 100000 in
set_option maxHeartbeats 4000000 in
theorem h_122_193 {xs : Nat × (Nat → Int32)} {d : Nat} {K : Sv → Option Value → Prop} {a1 a3 : Int32} {S : Sv} (h : w_122_193 xs d K a1 a3 S) : R_122_193 xs d K a1 a3 S := by
  unfold w_122_193 at h
  unfold R_122_193
  intro u2 u4
  refine rn_iload_n rfl rfl ?_
  refine rn_iconst rfl ?_
  refine rn_icmp_eq rfl (fun hc => ?_) (fun hc => ?_)
  · replace h := h.1 hc
    exact h _ _
  · replace h := h.2 hc
    refine rn_iload_n rfl rfl ?_
    refine rn_bipush rfl ?_
    refine rn_icmp_eq rfl (fun hc => ?_) (fun hc => ?_)
    · replace h := h.1 hc
      exact h _ _
    · replace h := h.2 hc
      refine rn_iload_n rfl rfl ?_
      refine rn_bipush rfl ?_
      refine rn_icmp_ne rfl (fun hc => ?_) (fun hc => ?_)
      · replace h := h.1 hc
        exact h _ _
      · replace h := h.2 hc
        exact h _ _
def w_122_210 (xs : Nat × (Nat → Int32)) (d : Nat) (K : Sv → Option Value → Prop) (a1 a3 : Int32) (S : Sv) : Prop :=
  R_122_225 xs d K a1 a3 (us (us (us S 31 25 0) 31 26 0) 31 27 0)
set_option maxRecDepth 100000 in
set_option maxHeartbeats 4000000 in
theorem h_122_210 {xs : Nat × (Nat → Int32)} {d : Nat} {K : Sv → Option Value → Prop} {a1 a3 : Int32} {S : Sv} (h : w_122_210 xs d K a1 a3 S) : R_122_210 xs d K a1 a3 S := by
  unfold w_122_210 at h
  unfold R_122_210
  intro u2 u4
  refine rn_aload_n rfl rfl ?_
  refine rn_iconst rfl ?_
  refine rn_putfield (S' := (us S 31 25 0)) rfl rfl (Nat.le_of_ble_eq_true rfl) (Or.inl rfl) rfl ?_
  refine rn_aload_n rfl rfl ?_
  refine rn_iconst rfl ?_
  refine rn_putfield (S' := (us (us S 31 25 0) 31 26 0)) rfl rfl (Nat.le_of_ble_eq_true rfl) (Or.inl rfl) rfl ?_
  refine rn_aload_n rfl rfl ?_
  refine rn_iconst rfl ?_
  refine rn_putfield (S' := (us (us (us S 31 25 0) 31 26 0) 31 27 0)) rfl rfl (Nat.le_of_ble_eq_true rfl) (Or.inr ⟨rfl, Or.inl rfl⟩) rfl ?_
  exact h _ _
def w_122_225 (xs : Nat × (Nat → Int32)) (d : Nat) (K : Sv → Option Value → Prop) (a1 a3 : Int32) (S : Sv) : Prop :=
  (¬ a3 = 8 → (R_122_236 xs d K a1 a3 S)) ∧ (¬ (¬ a3 = 8) → (R_122_236 xs d K a1 a3 (us S 31 27 1)))
set_option maxRecDepth 100000 in
set_option maxHeartbeats 4000000 in
theorem h_122_225 {xs : Nat × (Nat → Int32)} {d : Nat} {K : Sv → Option Value → Prop} {a1 a3 : Int32} {S : Sv} (h : w_122_225 xs d K a1 a3 S) : R_122_225 xs d K a1 a3 S := by
  unfold w_122_225 at h
  unfold R_122_225
  intro u2 u4
  refine rn_iload_n rfl rfl ?_
  refine rn_bipush rfl ?_
  refine rn_icmp_ne rfl (fun hc => ?_) (fun hc => ?_)
  · replace h := h.1 hc
    exact h _ _
  · replace h := h.2 hc
    refine rn_aload_n rfl rfl ?_
    refine rn_iconst rfl ?_
    refine rn_putfield (S' := (us S 31 27 1)) rfl rfl (Nat.le_of_ble_eq_true rfl) (Or.inr ⟨rfl, Or.inr rfl⟩) rfl ?_
    exact h _ _
def w_122_236 (xs : Nat × (Nat → Int32)) (d : Nat) (K : Sv → Option Value → Prop) (a1 a3 : Int32) (S : Sv) : Prop :=
  (a3 = 4 → (R_122_253 xs d K a1 S)) ∧ (¬ (a3 = 4) → ((a3 = 9 → (R_122_253 xs d K a1 S)) ∧ (¬ (a3 = 9) → ((¬ a3 = 12 → (K S none)) ∧ (¬ (¬ a3 = 12) → (R_122_253 xs d K a1 S))))))
set_option maxRecDepth 100000 in
set_option maxHeartbeats 4000000 in
theorem h_122_236 {xs : Nat × (Nat → Int32)} {d : Nat} {K : Sv → Option Value → Prop} {a1 a3 : Int32} {S : Sv} (h : w_122_236 xs d K a1 a3 S) : R_122_236 xs d K a1 a3 S := by
  unfold w_122_236 at h
  unfold R_122_236
  intro u2 u4
  refine rn_iload_n rfl rfl ?_
  refine rn_iconst rfl ?_
  refine rn_icmp_eq rfl (fun hc => ?_) (fun hc => ?_)
  · replace h := h.1 hc
    exact h _ _ _
  · replace h := h.2 hc
    refine rn_iload_n rfl rfl ?_
    refine rn_bipush rfl ?_
    refine rn_icmp_eq rfl (fun hc => ?_) (fun hc => ?_)
    · replace h := h.1 hc
      exact h _ _ _
    · replace h := h.2 hc
      refine rn_iload_n rfl rfl ?_
      refine rn_bipush rfl ?_
      refine rn_icmp_ne rfl (fun hc => ?_) (fun hc => ?_)
      · replace h := h.1 hc
        exact rn_return rfl rfl h
      · replace h := h.2 hc
        exact h _ _ _
def w_122_253 (xs : Nat × (Nat → Int32)) (d : Nat) (K : Sv → Option Value → Prop) (a1 : Int32) (S : Sv) : Prop :=
  K (us (us S 31 25 ((S 31 25) + 1)) 31 26 (((10 * (S 31 26)) + a1) - 48)) none
set_option maxRecDepth 100000 in
set_option maxHeartbeats 4000000 in
theorem h_122_253 {xs : Nat × (Nat → Int32)} {d : Nat} {K : Sv → Option Value → Prop} {a1 : Int32} {S : Sv} (h : w_122_253 xs d K a1 S) : R_122_253 xs d K a1 S := by
  unfold w_122_253 at h
  unfold R_122_253
  intro u2 u3 u4
  refine rn_aload_n rfl rfl ?_
  refine rn_dup rfl rfl ?_
  refine rn_getfield rfl rfl rfl ?_
  refine rn_iconst rfl ?_
  refine rn_iadd rfl ?_
  refine rn_putfield (S' := (us S 31 25 ((S 31 25) + 1))) rfl rfl (Nat.le_of_ble_eq_true rfl) (Or.inl rfl) rfl ?_
  refine rn_aload_n rfl rfl ?_
  refine rn_bipush rfl ?_
  refine rn_aload_n rfl rfl ?_
  refine rn_getfield rfl rfl rfl ?_
  refine rn_imul rfl ?_
  refine rn_iload_n rfl rfl ?_
  refine rn_iadd rfl ?_
  refine rn_bipush rfl ?_
  refine rn_isub rfl ?_
  refine rn_putfield (S' := (us (us S 31 25 ((S 31 25) + 1)) 31 26 (((10 * (S 31 26)) + a1) - 48))) rfl rfl (Nat.le_of_ble_eq_true rfl) (Or.inl rfl) rfl ?_
  exact rn_return rfl rfl h
def w_122 (xs : Nat × (Nat → Int32)) (d : Nat) (K : Sv → Option Value → Prop) (a1 a2 a3 a4 : Int32) (S : Sv) : Prop :=
  (¬ a3 = 1 → ((¬ a3 = 2 → ((¬ a3 = 3 → ((a3 = 5 → (R_122_133 xs d K a1 a2 a3 S)) ∧ (¬ (a3 = 5) → ((¬ a3 = 6 → ((¬ (S 31 24) = 10 → (R_122_175 xs d K a1 a3 a4 S)) ∧ (¬ (¬ (S 31 24) = 10) → ((¬ a1 = 126 → (R_122_175 xs d K a1 a3 a4 S)) ∧ (¬ (¬ a1 = 126) → ((a4 = 0 → (R_122_175 xs d K a1 a3 a4 S)) ∧ (¬ (a4 = 0) → (CS xs d 121 S [.ref 31, .int (-1), .int 1] (fun S1 v1 => v1 = none ∧ (R_122_193 xs d K a1 a3 S1)))))))))) ∧ (¬ (¬ a3 = 6) → (R_122_133 xs d K a1 a2 a3 S)))))) ∧ (¬ (¬ a3 = 3) → (R_122_193 xs d K a1 a3 (us S 31 31 a2))))) ∧ (¬ (¬ a3 = 2) → (∃ j2 : Nat, j2 < 25 ∧ (S 31 20) = nI j2 ∧ (∃ j3 : Nat, j3 < 25 ∧ (S 31 20) = nI j3 ∧ ((a4 = 0 → (∃ j4 : Nat, j4 < 25 ∧ (S 31 20) = nI j4 ∧ ((a4 = 0 → (R_122_96 xs d K a1 a3 (us (us (us S 49 j2 (S 31 28)) 50 j3 (S 31 29)) 48 j4 (-1)))) ∧ (¬ (a4 = 0) → (∃ j5 : Nat, j5 < 25 ∧ (S 31 20) = nI j5 ∧ ((¬ ((us S 48 j4 (-1)) 48 j5) = (-1) → (R_122_96 xs d K a1 a3 (us (us (us S 49 j2 (S 31 28)) 50 j3 (S 31 29)) 48 j4 (-1)))) ∧ (¬ (¬ ((us S 48 j4 (-1)) 48 j5) = (-1)) → (CS xs d 118 (us (us (us S 49 j2 (S 31 28)) 50 j3 (S 31 29)) 48 j4 (-1)) [.ref 31, .int (S 31 30)] (fun S6 v6 => v6 = none ∧ (R_122_96 xs d K a1 a3 S6)))))))))) ∧ (¬ (a4 = 0) → (CS xs d 91 (us (us S 49 j2 (S 31 28)) 50 j3 (S 31 29)) [.ref 31, .int (a1 - 97)] (fun S7 v7 => ∃ r7 : Int32, v7 = some (.int r7) ∧ (∃ j8 : Nat, j8 < 25 ∧ (S 31 20) = nI j8 ∧ ((a4 = 0 → (R_122_96 xs d K a1 a3 (us S7 48 j8 r7))) ∧ (¬ (a4 = 0) → (∃ j9 : Nat, j9 < 25 ∧ (S7 31 20) = nI j9 ∧ ((¬ ((us S7 48 j8 r7) 48 j9) = (-1) → (R_122_96 xs d K a1 a3 (us S7 48 j8 r7))) ∧ (¬ (¬ ((us S7 48 j8 r7) 48 j9) = (-1)) → (CS xs d 118 (us S7 48 j8 r7) [.ref 31, .int (S7 31 30)] (fun S10 v10 => v10 = none ∧ (R_122_96 xs d K a1 a3 S10)))))))))))))))))) ∧ (¬ (¬ a3 = 1) → (R_122_193 xs d K a1 a3 (us S 31 30 a2)))
set_option maxRecDepth 100000 in
set_option maxHeartbeats 4000000 in
theorem c_122 {xs : Nat × (Nat → Int32)} {d : Nat} {K : Sv → Option Value → Prop} {a1 a2 a3 a4 : Int32} {S : Sv} (h : w_122 xs d K a1 a2 a3 a4 S) : CS xs (d + 1) 122 S [.ref 31, .int a1, .int a2, .int a3, .int a4] K := by
  unfold w_122 at h
  refine cs_in rfl rfl rfl rfl ?_
  refine rn_iload_n rfl rfl ?_
  refine rn_iconst rfl ?_
  refine rn_icmp_ne rfl (fun hc => ?_) (fun hc => ?_)
  · replace h := h.1 hc
    refine rn_iload_n rfl rfl ?_
    refine rn_iconst rfl ?_
    refine rn_icmp_ne rfl (fun hc => ?_) (fun hc => ?_)
    · replace h := h.1 hc
      refine rn_iload_n rfl rfl ?_
      refine rn_iconst rfl ?_
      refine rn_icmp_ne rfl (fun hc => ?_) (fun hc => ?_)
      · replace h := h.1 hc
        refine rn_iload_n rfl rfl ?_
        refine rn_iconst rfl ?_
        refine rn_icmp_eq rfl (fun hc => ?_) (fun hc => ?_)
        · replace h := h.1 hc
          exact h _
        · replace h := h.2 hc
          refine rn_iload_n rfl rfl ?_
          refine rn_bipush rfl ?_
          refine rn_icmp_ne rfl (fun hc => ?_) (fun hc => ?_)
          · replace h := h.1 hc
            refine rn_aload_n rfl rfl ?_
            refine rn_getfield rfl rfl rfl ?_
            refine rn_bipush rfl ?_
            refine rn_icmp_ne rfl (fun hc => ?_) (fun hc => ?_)
            · replace h := h.1 hc
              exact h _
            · replace h := h.2 hc
              refine rn_iload_n rfl rfl ?_
              refine rn_bipush rfl ?_
              refine rn_icmp_ne rfl (fun hc => ?_) (fun hc => ?_)
              · replace h := h.1 hc
                exact h _
              · replace h := h.2 hc
                refine rn_iload rfl rfl ?_
                refine rn_if_eq rfl (fun hc => ?_) (fun hc => ?_)
                · replace h := h.1 hc
                  exact h _
                · replace h := h.2 hc
                  refine rn_aload_n rfl rfl ?_
                  refine rn_iconst rfl ?_
                  refine rn_iconst rfl ?_
                  refine rn_virtual rfl (Nat.le_of_ble_eq_true rfl) (Nat.le_of_ble_eq_true rfl) rfl rfl (as := [.ref 31, .int (-1), .int 1]) (rest := []) rfl rfl rfl (cs_mono h (fun S1 v1 h => ?_))
                  obtain ⟨rfl, h⟩ := h
                  refine rn_goto rfl ?_
                  exact h _ _
          · replace h := h.2 hc
            exact h _
      · replace h := h.2 hc
        refine rn_aload_n rfl rfl ?_
        refine rn_iload_n rfl rfl ?_
        refine rn_putfield (S' := (us S 31 31 a2)) rfl rfl (Nat.le_of_ble_eq_true rfl) (Or.inl rfl) rfl ?_
        refine rn_goto rfl ?_
        exact h _ _
    · replace h := h.2 hc
      refine rn_aload_n rfl rfl ?_
      refine rn_getfield rfl rfl rfl ?_
      refine rn_aload_n rfl rfl ?_
      refine rn_getfield rfl rfl rfl ?_
      refine rn_aload_n rfl rfl ?_
      refine rn_getfield rfl rfl rfl ?_
      obtain ⟨j2, hj2, ej2, h⟩ := h
      refine rn_iastore (j := j2) (S' := (us S 49 j2 (S 31 28))) rfl rfl (Nat.le_of_ble_eq_true rfl) ej2 hj2 rfl ?_
      refine rn_aload_n rfl rfl ?_
      refine rn_getfield rfl rfl rfl ?_
      refine rn_aload_n rfl rfl ?_
      refine rn_getfield rfl rfl rfl ?_
      refine rn_aload_n rfl rfl ?_
      refine rn_getfield rfl rfl rfl ?_
      obtain ⟨j3, hj3, ej3, h⟩ := h
      refine rn_iastore (j := j3) (S' := (us (us S 49 j2 (S 31 28)) 50 j3 (S 31 29))) rfl rfl (Nat.le_of_ble_eq_true rfl) ej3 hj3 rfl ?_
      refine rn_aload_n rfl rfl ?_
      refine rn_getfield rfl rfl rfl ?_
      refine rn_aload_n rfl rfl ?_
      refine rn_getfield rfl rfl rfl ?_
      refine rn_iload rfl rfl ?_
      refine rn_if_eq rfl (fun hc => ?_) (fun hc => ?_)
      · replace h := h.1 hc
        refine rn_iconst rfl ?_
        obtain ⟨j4, hj4, ej4, h⟩ := h
        refine rn_iastore (j := j4) (S' := (us (us (us S 49 j2 (S 31 28)) 50 j3 (S 31 29)) 48 j4 (-1))) rfl rfl (Nat.le_of_ble_eq_true rfl) ej4 hj4 rfl ?_
        refine rn_iload rfl rfl ?_
        refine rn_if_eq rfl (fun hc => ?_) (fun hc => ?_)
        · replace h := h.1 hc
          exact h _ _
        · replace h := h.2 hc
          refine rn_aload_n rfl rfl ?_
          refine rn_getfield rfl rfl rfl ?_
          refine rn_aload_n rfl rfl ?_
          refine rn_getfield rfl rfl rfl ?_
          obtain ⟨j5, hj5, ej5, h⟩ := h
          refine rn_iaload (j := j5) rfl rfl (Nat.le_of_ble_eq_true rfl) ej5 hj5 ?_
          refine rn_iconst rfl ?_
          refine rn_icmp_ne rfl (fun hc => ?_) (fun hc => ?_)
          · replace h := h.1 hc
            exact h _ _
          · replace h := h.2 hc
            refine rn_aload_n rfl rfl ?_
            refine rn_aload_n rfl rfl ?_
            refine rn_getfield rfl rfl rfl ?_
            refine rn_virtual rfl (Nat.le_of_ble_eq_true rfl) (Nat.le_of_ble_eq_true rfl) rfl rfl (as := [.ref 31, .int (S 31 30)]) (rest := []) rfl rfl rfl (cs_mono h (fun S6 v6 h => ?_))
            obtain ⟨rfl, h⟩ := h
            exact h _ _
      · replace h := h.2 hc
        refine rn_aload_n rfl rfl ?_
        refine rn_iload_n rfl rfl ?_
        refine rn_bipush rfl ?_
        refine rn_isub rfl ?_
        refine rn_virtual rfl (Nat.le_of_ble_eq_true rfl) (Nat.le_of_ble_eq_true rfl) rfl rfl (as := [.ref 31, .int (a1 - 97)]) (rest := [.int (S 31 20), .ref 48]) rfl rfl rfl (cs_mono h (fun S7 v7 h => ?_))
        obtain ⟨r7, rfl, h⟩ := h
        refine rn_goto rfl ?_
        obtain ⟨j8, hj8, ej8, h⟩ := h
        refine rn_iastore (j := j8) (S' := (us S7 48 j8 r7)) rfl rfl (Nat.le_of_ble_eq_true rfl) ej8 hj8 rfl ?_
        refine rn_iload rfl rfl ?_
        refine rn_if_eq rfl (fun hc => ?_) (fun hc => ?_)
        · replace h := h.1 hc
          exact h _ _
        · replace h := h.2 hc
          refine rn_aload_n rfl rfl ?_
          refine rn_getfield rfl rfl rfl ?_
          refine rn_aload_n rfl rfl ?_
          refine rn_getfield rfl rfl rfl ?_
          obtain ⟨j9, hj9, ej9, h⟩ := h
          refine rn_iaload (j := j9) rfl rfl (Nat.le_of_ble_eq_true rfl) ej9 hj9 ?_
          refine rn_iconst rfl ?_
          refine rn_icmp_ne rfl (fun hc => ?_) (fun hc => ?_)
          · replace h := h.1 hc
            exact h _ _
          · replace h := h.2 hc
            refine rn_aload_n rfl rfl ?_
            refine rn_aload_n rfl rfl ?_
            refine rn_getfield rfl rfl rfl ?_
            refine rn_virtual rfl (Nat.le_of_ble_eq_true rfl) (Nat.le_of_ble_eq_true rfl) rfl rfl (as := [.ref 31, .int (S7 31 30)]) (rest := []) rfl rfl rfl (cs_mono h (fun S10 v10 h => ?_))
            obtain ⟨rfl, h⟩ := h
            exact h _ _
  · replace h := h.2 hc
    refine rn_aload_n rfl rfl ?_
    refine rn_iload_n rfl rfl ?_
    refine rn_putfield (S' := (us S 31 30 a2)) rfl rfl (Nat.le_of_ble_eq_true rfl) (Or.inl rfl) rfl ?_
    refine rn_goto rfl ?_
    exact h _ _
-- ReplayedBeansModel.close(Z)V (number 123)
def w_123 (xs : Nat × (Nat → Int32)) (d : Nat) (K : Sv → Option Value → Prop) (a1 : Int32) (S : Sv) : Prop :=
  ∃ j1 : Nat, j1 < 25 ∧ ((S 31 20) - 1) = nI j1 ∧ ((¬ ((S 31 20) - 1) = 0 → (∃ j2 : Nat, j2 < 25 ∧ ((S 31 20) - 1) = nI j2 ∧ (∃ j3 : Nat, j3 < 25 ∧ ((S 31 20) - 1) = nI j3 ∧ ((a1 = 0 → (K (us (us (us S 31 20 ((S 31 20) - 1)) 31 28 (S 49 j2)) 31 29 (S 50 j3)) none)) ∧ (¬ (a1 = 0) → (((S 48 j1) = (-1) → (CS xs d 121 (us (us (us S 31 20 ((S 31 20) - 1)) 31 28 (S 49 j2)) 31 29 (S 50 j3)) [.ref 31, .int (S 48 j1), .int 0] (fun S4 v4 => v4 = none ∧ (K S4 none)))) ∧ (¬ ((S 48 j1) = (-1)) → (CS xs d 121 (us (us (us S 31 20 ((S 31 20) - 1)) 31 28 (S 49 j2)) 31 29 (S 50 j3)) [.ref 31, .int (S 48 j1), .int 1] (fun S5 v5 => v5 = none ∧ (K S5 none)))))))))) ∧ (¬ (¬ ((S 31 20) - 1) = 0) → (K (us (us S 31 20 ((S 31 20) - 1)) 31 32 (S 48 j1)) none)))
set_option maxRecDepth 100000 in
set_option maxHeartbeats 4000000 in
theorem c_123 {xs : Nat × (Nat → Int32)} {d : Nat} {K : Sv → Option Value → Prop} {a1 : Int32} {S : Sv} (h : w_123 xs d K a1 S) : CS xs (d + 1) 123 S [.ref 31, .int a1] K := by
  unfold w_123 at h
  refine cs_in rfl rfl rfl rfl ?_
  refine rn_aload_n rfl rfl ?_
  refine rn_dup rfl rfl ?_
  refine rn_getfield rfl rfl rfl ?_
  refine rn_iconst rfl ?_
  refine rn_isub rfl ?_
  refine rn_putfield (S' := (us S 31 20 ((S 31 20) - 1))) rfl rfl (Nat.le_of_ble_eq_true rfl) (Or.inl rfl) rfl ?_
  refine rn_aload_n rfl rfl ?_
  refine rn_getfield rfl rfl rfl ?_
  refine rn_aload_n rfl rfl ?_
  refine rn_getfield rfl rfl rfl ?_
  obtain ⟨j1, hj1, ej1, h⟩ := h
  refine rn_iaload (j := j1) rfl rfl (Nat.le_of_ble_eq_true rfl) ej1 hj1 ?_
  refine rn_istore_n rfl rfl ?_
  refine rn_aload_n rfl rfl ?_
  refine rn_getfield rfl rfl rfl ?_
  refine rn_if_ne rfl (fun hc => ?_) (fun hc => ?_)
  · replace h := h.1 hc
    refine rn_aload_n rfl rfl ?_
    refine rn_aload_n rfl rfl ?_
    refine rn_getfield rfl rfl rfl ?_
    refine rn_aload_n rfl rfl ?_
    refine rn_getfield rfl rfl rfl ?_
    obtain ⟨j2, hj2, ej2, h⟩ := h
    refine rn_iaload (j := j2) rfl rfl (Nat.le_of_ble_eq_true rfl) ej2 hj2 ?_
    refine rn_putfield (S' := (us (us S 31 20 ((S 31 20) - 1)) 31 28 (S 49 j2))) rfl rfl (Nat.le_of_ble_eq_true rfl) (Or.inl rfl) rfl ?_
    refine rn_aload_n rfl rfl ?_
    refine rn_aload_n rfl rfl ?_
    refine rn_getfield rfl rfl rfl ?_
    refine rn_aload_n rfl rfl ?_
    refine rn_getfield rfl rfl rfl ?_
    obtain ⟨j3, hj3, ej3, h⟩ := h
    refine rn_iaload (j := j3) rfl rfl (Nat.le_of_ble_eq_true rfl) ej3 hj3 ?_
    refine rn_putfield (S' := (us (us (us S 31 20 ((S 31 20) - 1)) 31 28 (S 49 j2)) 31 29 (S 50 j3))) rfl rfl (Nat.le_of_ble_eq_true rfl) (Or.inl rfl) rfl ?_
    refine rn_iload_n rfl rfl ?_
    refine rn_if_eq rfl (fun hc => ?_) (fun hc => ?_)
    · replace h := h.1 hc
      exact rn_return rfl rfl h
    · replace h := h.2 hc
      refine rn_aload_n rfl rfl ?_
      refine rn_iload_n rfl rfl ?_
      refine rn_iload_n rfl rfl ?_
      refine rn_iconst rfl ?_
      refine rn_icmp_eq rfl (fun hc => ?_) (fun hc => ?_)
      · replace h := h.1 hc
        refine rn_iconst rfl ?_
        refine rn_virtual rfl (Nat.le_of_ble_eq_true rfl) (Nat.le_of_ble_eq_true rfl) rfl rfl (as := [.ref 31, .int (S 48 j1), .int 0]) (rest := []) rfl rfl rfl (cs_mono h (fun S4 v4 h => ?_))
        obtain ⟨rfl, h⟩ := h
        exact rn_return rfl rfl h
      · replace h := h.2 hc
        refine rn_iconst rfl ?_
        refine rn_goto rfl ?_
        refine rn_virtual rfl (Nat.le_of_ble_eq_true rfl) (Nat.le_of_ble_eq_true rfl) rfl rfl (as := [.ref 31, .int (S 48 j1), .int 1]) (rest := []) rfl rfl rfl (cs_mono h (fun S5 v5 h => ?_))
        obtain ⟨rfl, h⟩ := h
        exact rn_return rfl rfl h
  · replace h := h.2 hc
    refine rn_aload_n rfl rfl ?_
    refine rn_iload_n rfl rfl ?_
    refine rn_putfield (S' := (us (us S 31 20 ((S 31 20) - 1)) 31 32 (S 48 j1))) rfl rfl (Nat.le_of_ble_eq_true rfl) (Or.inl rfl) rfl ?_
    exact rn_return rfl rfl h
-- ReplayedBeansModel.go(Z)I (number 124)
def R_124_12 (xs : Nat × (Nat → Int32)) (d : Nat) (K : Sv → Option Value → Prop) (a1 a2 : Int32) (S : Sv) : Prop := ∀ u3 : Option Value, RN xs d 124 K 12 [some (.ref 31), some (.int a1), some (.int a2), u3] [] S
def w_124_12 (xs : Nat × (Nat → Int32)) (d : Nat) (K : Sv → Option Value → Prop) (a1 a2 : Int32) (S : Sv) : Prop :=
  ((S 31 11) < a2 → ((¬ (S 31 24) = 14 → (K S (some (.int ((S 31 11) + 1))))) ∧ (¬ (¬ (S 31 24) = 14) → (K S (some (.int 0)))))) ∧ (¬ ((S 31 11) < a2) → (∃ j1 : Nat, j1 < 300 ∧ (a2 - 1) = nI j1 ∧ (CS xs d 115 S [.ref 31, .int (S 41 j1), .int a1] (fun S2 v2 => ∃ r2 : Int32, v2 = some (.int r2) ∧ ((0 ≤ r2 → (∃ j3 : Nat, j3 < 300 ∧ (a2 - 1) = nI j3 ∧ (CS xs d 122 S2 [.ref 31, .int (S2 41 j3), .int a2, .int r2, .int a1] (fun S4 v4 => v4 = none ∧ (R_124_12 xs d K a1 (a2 + 1) (us S4 31 24 r2)))))) ∧ (¬ (0 ≤ r2) → (K S2 (some (.int a2)))))))))
set_option maxRecDepth 100000 in
set_option maxHeartbeats 4000000 in
theorem h_124_12 {xs : Nat × (Nat → Int32)} {d : Nat} {K : Sv → Option Value → Prop} {a1 a2 : Int32} {S : Sv} (h : w_124_12 xs d K a1 a2 S) : R_124_12 xs d K a1 a2 S := by
  unfold w_124_12 at h
  unfold R_124_12
  intro u3
  refine rn_iload_n rfl rfl ?_
  refine rn_aload_n rfl rfl ?_
  refine rn_getfield rfl rfl rfl ?_
  refine rn_icmp_gt rfl (fun hc => ?_) (fun hc => ?_)
  · replace h := h.1 hc
    refine rn_aload_n rfl rfl ?_
    refine rn_getfield rfl rfl rfl ?_
    refine rn_bipush rfl ?_
    refine rn_icmp_ne rfl (fun hc => ?_) (fun hc => ?_)
    · replace h := h.1 hc
      refine rn_aload_n rfl rfl ?_
      refine rn_getfield rfl rfl rfl ?_
      refine rn_iconst rfl ?_
      refine rn_iadd rfl ?_
      exact rn_ireturn rfl rfl rfl h
    · replace h := h.2 hc
      refine rn_iconst rfl ?_
      refine rn_goto rfl ?_
      exact rn_ireturn rfl rfl rfl h
  · replace h := h.2 hc
    refine rn_aload_n rfl rfl ?_
    refine rn_aload_n rfl rfl ?_
    refine rn_getfield rfl rfl rfl ?_
    refine rn_iload_n rfl rfl ?_
    refine rn_iconst rfl ?_
    refine rn_isub rfl ?_
    obtain ⟨j1, hj1, ej1, h⟩ := h
    refine rn_iaload (j := j1) rfl rfl (Nat.le_of_ble_eq_true rfl) ej1 hj1 ?_
    refine rn_iload_n rfl rfl ?_
    refine rn_virtual rfl (Nat.le_of_ble_eq_true rfl) (Nat.le_of_ble_eq_true rfl) rfl rfl (as := [.ref 31, .int (S 41 j1), .int a1]) (rest := []) rfl rfl rfl (cs_mono h (fun S2 v2 h => ?_))
    obtain ⟨r2, rfl, h⟩ := h
    refine rn_istore_n rfl rfl ?_
    refine rn_iload_n rfl rfl ?_
    refine rn_if_ge rfl (fun hc => ?_) (fun hc => ?_)
    · replace h := h.1 hc
      refine rn_aload_n rfl rfl ?_
      refine rn_aload_n rfl rfl ?_
      refine rn_getfield rfl rfl rfl ?_
      refine rn_iload_n rfl rfl ?_
      refine rn_iconst rfl ?_
      refine rn_isub rfl ?_
      obtain ⟨j3, hj3, ej3, h⟩ := h
      refine rn_iaload (j := j3) rfl rfl (Nat.le_of_ble_eq_true rfl) ej3 hj3 ?_
      refine rn_iload_n rfl rfl ?_
      refine rn_iload_n rfl rfl ?_
      refine rn_iload_n rfl rfl ?_
      refine rn_virtual rfl (Nat.le_of_ble_eq_true rfl) (Nat.le_of_ble_eq_true rfl) rfl rfl (as := [.ref 31, .int (S2 41 j3), .int a2, .int r2, .int a1]) (rest := []) rfl rfl rfl (cs_mono h (fun S4 v4 h => ?_))
      obtain ⟨rfl, h⟩ := h
      refine rn_aload_n rfl rfl ?_
      refine rn_iload_n rfl rfl ?_
      refine rn_putfield (S' := (us S4 31 24 r2)) rfl rfl (Nat.le_of_ble_eq_true rfl) (Or.inl rfl) rfl ?_
      refine rn_iinc rfl rfl rfl ?_
      refine rn_goto rfl ?_
      exact h _
    · replace h := h.2 hc
      refine rn_iload_n rfl rfl ?_
      exact rn_ireturn rfl rfl rfl h
def w_124 (xs : Nat × (Nat → Int32)) (d : Nat) (K : Sv → Option Value → Prop) (a1 : Int32) (S : Sv) : Prop :=
  R_124_12 xs d K a1 1 (us (us S 31 24 0) 31 20 0)
set_option maxRecDepth 100000 in
set_option maxHeartbeats 4000000 in
theorem c_124 {xs : Nat × (Nat → Int32)} {d : Nat} {K : Sv → Option Value → Prop} {a1 : Int32} {S : Sv} (h : w_124 xs d K a1 S) : CS xs (d + 1) 124 S [.ref 31, .int a1] K := by
  unfold w_124 at h
  refine cs_in rfl rfl rfl rfl ?_
  refine rn_aload_n rfl rfl ?_
  refine rn_iconst rfl ?_
  refine rn_putfield (S' := (us S 31 24 0)) rfl rfl (Nat.le_of_ble_eq_true rfl) (Or.inl rfl) rfl ?_
  refine rn_aload_n rfl rfl ?_
  refine rn_iconst rfl ?_
  refine rn_putfield (S' := (us (us S 31 24 0) 31 20 0)) rfl rfl (Nat.le_of_ble_eq_true rfl) (Or.inl rfl) rfl ?_
  refine rn_iconst rfl ?_
  refine rn_istore_n rfl rfl ?_
  exact h _
-- ReplayedBeansModel.read()I (number 125)
def R_125_18 (xs : Nat × (Nat → Int32)) (d : Nat) (K : Sv → Option Value → Prop) (a2 : Int32) (S : Sv) : Prop := ∀ u1 : Option Value, RN xs d 125 K 18 [some (.ref 31), u1, some (.int a2)] [] S
def w_125_18 (xs : Nat × (Nat → Int32)) (d : Nat) (K : Sv → Option Value → Prop) (a2 : Int32) (S : Sv) : Prop :=
  (100 ≤ a2 → (CS xs d 124 (us S 31 34 0) [.ref 31, .int 1] (fun S1 v1 => ∃ r1 : Int32, v1 = some (.int r1) ∧ (K S1 (some (.int (S1 31 32))))))) ∧ (¬ (100 ≤ a2) → (∃ j2 : Nat, j2 < 100 ∧ a2 = nI j2 ∧ (R_125_18 xs d K (a2 + 1) (us S 51 j2 (-1)))))
set_option maxRecDepth 100000 in
set_option maxHeartbeats 4000000 in
theorem h_125_18 {xs : Nat × (Nat → Int32)} {d : Nat} {K : Sv → Option Value → Prop} {a2 : Int32} {S : Sv} (h : w_125_18 xs d K a2 S) : R_125_18 xs d K a2 S := by
  unfold w_125_18 at h
  unfold R_125_18
  intro u1
  refine rn_iload_n rfl rfl ?_
  refine rn_bipush rfl ?_
  refine rn_icmp_ge rfl (fun hc => ?_) (fun hc => ?_)
  · replace h := h.1 hc
    refine rn_aload_n rfl rfl ?_
    refine rn_iconst rfl ?_
    refine rn_putfield (S' := (us S 31 34 0)) rfl rfl (Nat.le_of_ble_eq_true rfl) (Or.inl rfl) rfl ?_
    refine rn_aload_n rfl rfl ?_
    refine rn_iconst rfl ?_
    refine rn_virtual rfl (Nat.le_of_ble_eq_true rfl) (Nat.le_of_ble_eq_true rfl) rfl rfl (as := [.ref 31, .int 1]) (rest := []) rfl rfl rfl (cs_mono h (fun S1 v1 h => ?_))
    obtain ⟨r1, rfl, h⟩ := h
    refine rn_pop rfl rfl ?_
    refine rn_aload_n rfl rfl ?_
    refine rn_getfield rfl rfl rfl ?_
    exact rn_ireturn rfl rfl rfl h
  · replace h := h.2 hc
    refine rn_aload_n rfl rfl ?_
    refine rn_getfield rfl rfl rfl ?_
    refine rn_iload_n rfl rfl ?_
    refine rn_iconst rfl ?_
    obtain ⟨j2, hj2, ej2, h⟩ := h
    refine rn_iastore (j := j2) (S' := (us S 51 j2 (-1))) rfl rfl (Nat.le_of_ble_eq_true rfl) ej2 hj2 rfl ?_
    refine rn_iinc rfl rfl rfl ?_
    refine rn_goto rfl ?_
    exact h _
def w_125 (xs : Nat × (Nat → Int32)) (d : Nat) (K : Sv → Option Value → Prop) (S : Sv) : Prop :=
  CS xs d 124 S [.ref 31, .int 0] (fun S1 v1 => ∃ r1 : Int32, v1 = some (.int r1) ∧ ((r1 ≤ 0 → (R_125_18 xs d K 0 S1)) ∧ (¬ (r1 ≤ 0) → (K S1 (some (.int ((-1000) - r1)))))))
set_option maxRecDepth 100000 in
set_option maxHeartbeats 4000000 in
theorem c_125 {xs : Nat × (Nat → Int32)} {d : Nat} {K : Sv → Option Value → Prop} {S : Sv} (h : w_125 xs d K S) : CS xs (d + 1) 125 S [.ref 31] K := by
  unfold w_125 at h
  refine cs_in rfl rfl rfl rfl ?_
  refine rn_aload_n rfl rfl ?_
  refine rn_iconst rfl ?_
  refine rn_virtual rfl (Nat.le_of_ble_eq_true rfl) (Nat.le_of_ble_eq_true rfl) rfl rfl (as := [.ref 31, .int 0]) (rest := []) rfl rfl rfl (cs_mono h (fun S1 v1 h => ?_))
  obtain ⟨r1, rfl, h⟩ := h
  refine rn_istore_n rfl rfl ?_
  refine rn_iload_n rfl rfl ?_
  refine rn_if_le rfl (fun hc => ?_) (fun hc => ?_)
  · replace h := h.1 hc
    refine rn_iconst rfl ?_
    refine rn_istore_n rfl rfl ?_
    exact h _
  · replace h := h.2 hc
    refine rn_sipush rfl ?_
    refine rn_iload_n rfl rfl ?_
    refine rn_isub rfl ?_
    exact rn_ireturn rfl rfl rfl h
-- ReplayedBeansModel.failures()I (number 126)
def w_126 (xs : Nat × (Nat → Int32)) (d : Nat) (K : Sv → Option Value → Prop) (S : Sv) : Prop :=
  K S (some (.int (S 31 34)))
set_option maxRecDepth 100000 in
set_option maxHeartbeats 4000000 in
theorem c_126 {xs : Nat × (Nat → Int32)} {d : Nat} {K : Sv → Option Value → Prop} {S : Sv} (h : w_126 xs d K S) : CS xs (d + 1) 126 S [.ref 31] K := by
  unfold w_126 at h
  refine cs_in rfl rfl rfl rfl ?_
  refine rn_aload_n rfl rfl ?_
  refine rn_getfield rfl rfl rfl ?_
  exact rn_ireturn rfl rfl rfl h
-- ReplayedBeansModel.failure(I)I (number 127)
def w_127 (xs : Nat × (Nat → Int32)) (d : Nat) (K : Sv → Option Value → Prop) (a1 : Int32) (S : Sv) : Prop :=
  (a1 < 0 → (K S (some (.int 0)))) ∧ (¬ (a1 < 0) → ((a1 < (S 31 34) → (∃ j1 : Nat, j1 < 300 ∧ a1 = nI j1 ∧ (K S (some (.int (S 52 j1)))))) ∧ (¬ (a1 < (S 31 34)) → (K S (some (.int 0))))))
set_option maxRecDepth 100000 in
set_option maxHeartbeats 4000000 in
theorem c_127 {xs : Nat × (Nat → Int32)} {d : Nat} {K : Sv → Option Value → Prop} {a1 : Int32} {S : Sv} (h : w_127 xs d K a1 S) : CS xs (d + 1) 127 S [.ref 31, .int a1] K := by
  unfold w_127 at h
  refine cs_in rfl rfl rfl rfl ?_
  refine rn_iload_n rfl rfl ?_
  refine rn_if_lt rfl (fun hc => ?_) (fun hc => ?_)
  · replace h := h.1 hc
    refine rn_iconst rfl ?_
    refine rn_goto rfl ?_
    exact rn_ireturn rfl rfl rfl h
  · replace h := h.2 hc
    refine rn_iload_n rfl rfl ?_
    refine rn_aload_n rfl rfl ?_
    refine rn_getfield rfl rfl rfl ?_
    refine rn_icmp_lt rfl (fun hc => ?_) (fun hc => ?_)
    · replace h := h.1 hc
      refine rn_aload_n rfl rfl ?_
      refine rn_getfield rfl rfl rfl ?_
      refine rn_iload_n rfl rfl ?_
      obtain ⟨j1, hj1, ej1, h⟩ := h
      refine rn_iaload (j := j1) rfl rfl (Nat.le_of_ble_eq_true rfl) ej1 hj1 ?_
      exact rn_ireturn rfl rfl rfl h
    · replace h := h.2 hc
      refine rn_iconst rfl ?_
      refine rn_goto rfl ?_
      exact rn_ireturn rfl rfl rfl h
