/-! the law's own frame: 53 cells of 2860 slots are made -/
def RL (xs : Nat × (Nat → Int32)) (pc : Nat) (L : mm_L) (st : List Value) (S : Sv) : Prop := mm_run tmi ttb tdf (mm_call tmi ttb tdf xs 1000) xs (600000, 7302250) (fun _ r _ _ => r = some (.int 1)) 0 128 pc L st (hp S) 53 2860
section RLR
variable {xs : Nat × (Nat → Int32)} {pc len a b : Nat} {c : Int32} {L : mm_L} {st : List Value} {S : Sv}
theorem rl_iconst {i : Int} (hE : ttb 128 pc = some (.iconst i, len, a, b, c))  (k : RL xs (pc + len) L (.int c :: st) S) : RL xs pc L st S := ev_iconst (mm_call_mono 1000) hE k
theorem rl_bipush {i : Int} (hE : ttb 128 pc = some (.bipush i, len, a, b, c))  (k : RL xs (pc + len) L (.int c :: st) S) : RL xs pc L st S := ev_bipush (mm_call_mono 1000) hE k
theorem rl_sipush {i : Int} (hE : ttb 128 pc = some (.sipush i, len, a, b, c))  (k : RL xs (pc + len) L (.int c :: st) S) : RL xs pc L st S := ev_sipush (mm_call_mono 1000) hE k
theorem rl_iload_n {i : Fin 4} {x : Int32} (hE : ttb 128 pc = some (.iload_n i, len, a, b, c)) (hl : L[a]? = some (some (.int x))) (k : RL xs (pc + len) L (.int x :: st) S) : RL xs pc L st S := ev_iload_n (mm_call_mono 1000) hE hl k
theorem rl_aload_n {i : Fin 4} {x : Nat} (hE : ttb 128 pc = some (.aload_n i, len, a, b, c)) (hl : L[a]? = some (some (.ref x))) (k : RL xs (pc + len) L (.ref x :: st) S) : RL xs pc L st S := ev_aload_n (mm_call_mono 1000) hE hl k
theorem rl_aload_nX {i : Fin 4} {x : Nat} (hE : ttb 128 pc = some (.aload_n i, len, a, b, c)) (hl : L[a]? = some (some (.retAddr x))) (k : RL xs (pc + len) L (.retAddr x :: st) S) : RL xs pc L st S := ev_aload_nX (mm_call_mono 1000) hE hl k
theorem rl_iinc {i : Nat} {n : Int} {x : Int32} {L' : mm_L} (hE : ttb 128 pc = some (.iinc i n, len, a, b, c)) (hl : L[a]? = some (some (.int x))) (hL : L.set a (some (.int (x + c))) = L') (k : RL xs (pc + len) L' st S) : RL xs pc L st S := ev_iinc (mm_call_mono 1000) hE hl (by rw [hL]; exact k)
theorem rl_iadd {x y1 : Int32} (hE : ttb 128 pc = some (.iadd, len, a, b, c))  (k : RL xs (pc + len) L (.int (x + y1) :: st) S) : RL xs pc L (.int y1 :: .int x :: st) S := ev_iadd (mm_call_mono 1000) hE k
theorem rl_isub {x y1 : Int32} (hE : ttb 128 pc = some (.isub, len, a, b, c))  (k : RL xs (pc + len) L (.int (x - y1) :: st) S) : RL xs pc L (.int y1 :: .int x :: st) S := ev_isub (mm_call_mono 1000) hE k
theorem rl_iand {x y1 : Int32} (hE : ttb 128 pc = some (.iand, len, a, b, c))  (k : RL xs (pc + len) L (.int (x &&& y1) :: st) S) : RL xs pc L (.int y1 :: .int x :: st) S := ev_iand (mm_call_mono 1000) hE k
theorem rl_i2c {x : Int32} (hE : ttb 128 pc = some (.i2c, len, a, b, c))  (k : RL xs (pc + len) L (.int (x.toUInt32 % 65536).toInt32 :: st) S) : RL xs pc L (.int x :: st) S := ev_i2c (mm_call_mono 1000) hE k
theorem rl_icmp_eq {off : Int} {x y1 : Int32} (hE : ttb 128 pc = some (.if_icmp .eq off, len, a, b, c)) (k1 : x = y1 → RL xs a L st S) (k2 : ¬ (x = y1) → RL xs (pc + len) L st S) : RL xs pc L (.int y1 :: .int x :: st) S := ev_icmp_eq (mm_call_mono 1000) hE k1 k2
theorem rl_icmp_ne {off : Int} {x y1 : Int32} (hE : ttb 128 pc = some (.if_icmp .ne off, len, a, b, c)) (k1 : ¬ x = y1 → RL xs a L st S) (k2 : ¬ (¬ x = y1) → RL xs (pc + len) L st S) : RL xs pc L (.int y1 :: .int x :: st) S := ev_icmp_ne (mm_call_mono 1000) hE k1 k2
theorem rl_icmp_lt {off : Int} {x y1 : Int32} (hE : ttb 128 pc = some (.if_icmp .lt off, len, a, b, c)) (k1 : x < y1 → RL xs a L st S) (k2 : ¬ (x < y1) → RL xs (pc + len) L st S) : RL xs pc L (.int y1 :: .int x :: st) S := ev_icmp_lt (mm_call_mono 1000) hE k1 k2
theorem rl_icmp_ge {off : Int} {x y1 : Int32} (hE : ttb 128 pc = some (.if_icmp .ge off, len, a, b, c)) (k1 : y1 ≤ x → RL xs a L st S) (k2 : ¬ (y1 ≤ x) → RL xs (pc + len) L st S) : RL xs pc L (.int y1 :: .int x :: st) S := ev_icmp_ge (mm_call_mono 1000) hE k1 k2
theorem rl_icmp_gt {off : Int} {x y1 : Int32} (hE : ttb 128 pc = some (.if_icmp .gt off, len, a, b, c)) (k1 : y1 < x → RL xs a L st S) (k2 : ¬ (y1 < x) → RL xs (pc + len) L st S) : RL xs pc L (.int y1 :: .int x :: st) S := ev_icmp_gt (mm_call_mono 1000) hE k1 k2
theorem rl_icmp_le {off : Int} {x y1 : Int32} (hE : ttb 128 pc = some (.if_icmp .le off, len, a, b, c)) (k1 : x ≤ y1 → RL xs a L st S) (k2 : ¬ (x ≤ y1) → RL xs (pc + len) L st S) : RL xs pc L (.int y1 :: .int x :: st) S := ev_icmp_le (mm_call_mono 1000) hE k1 k2
theorem rl_goto {off : Int} (hE : ttb 128 pc = some (.goto off, len, a, b, c)) (k : RL xs a L st S) : RL xs pc L st S := ev_goto (mm_call_mono 1000) hE k
theorem rl_tableOut {dd lo hi : Int} {offs : Array Int} {x : Int32} (t : Nat) (hE : ttb 128 pc = some (.tableswitch dd lo hi offs, len, a, b, c)) (hc : x.toInt < lo ∨ hi < x.toInt) (ht : (pc : Int) + dd = (t : Int)) (k : RL xs t L st S) : RL xs pc L (.int x :: st) S := ev_tableOut (mm_call_mono 1000) t hE hc ht k
theorem rl_tableIn {dd lo hi o : Int} {offs : Array Int} {x : Int32} (t : Nat) (hE : ttb 128 pc = some (.tableswitch dd lo hi offs, len, a, b, c)) (h1 : ¬ x.toInt < lo) (h2 : ¬ hi < x.toInt) (ho : offs[(x.toInt - lo).toNat]? = some o) (ht : (pc : Int) + o = (t : Int)) (k : RL xs t L st S) : RL xs pc L (.int x :: st) S := ev_tableIn (mm_call_mono 1000) t hE h1 h2 ho ht k
theorem rl_ialoadX {z j : Nat} {i : Int32} (hE : ttb 128 pc = some (.iaload, len, a, b, c)) (hi : i = nI j) (hj : j < xs.1) (hn : xs.1 ≤ 100000) (k : RL xs (pc + len) L (.int (xs.2 j) :: st) S) : RL xs pc L (.int i :: .retAddr z :: st) S := ev_ialoadX (mm_call_mono 1000) hE (in_nI hi hj hn).1 (by rw [(in_nI hi hj hn).2]; exact k)
theorem rl_arraylengthX {z : Nat} (hE : ttb 128 pc = some (.arraylength, len, a, b, c))  (k : RL xs (pc + len) L (.int (nI xs.1) :: st) S) : RL xs pc L (.retAddr z :: st) S := ev_arraylengthX (mm_call_mono 1000) hE k
theorem rl_virtual {i : Nat} (hE : ttb 128 pc = some (.invokevirtual i, len, a, b, c)) (hk : mm_k (tmi a) ≤ st.length) (hc : mm_cat (st.drop (mm_k (tmi a)))) (hm : mm_mc (tmi a) = 0) (hm2 : mm_ms (tmi a) = 0) {as rest : List Value} (has : (st.take (mm_k (tmi a))).reverse = as) (hrest : st.drop (mm_k (tmi a)) = rest) (hr : mm_rcv (hp S) (mm_ci (tmi a)) as) (k : CS xs 1000 a S as (fun S' v => RL xs (pc + len) L (v.toList ++ rest) S')) : RL xs pc L st S := ev_virtual (mm_call_mono 1000) hE (by rw [has]; exact hr) hk hc (by rw [hm]; exact Nat.le_of_ble_eq_true rfl) (by rw [hm2]; exact Nat.le_of_ble_eq_true rfl) (Or.inl hm) (by rw [has]; exact k) (fun h' v hv => by obtain ⟨S', rfl, k⟩ := hv; rw [hm, hm2, hrest]; exact k)
theorem rl_ireturn (hE : ttb 128 pc = some (.ireturn, len, a, b, c)) : RL xs pc L [.int 1] S := ev_ireturn (mm_call_mono 1000) (ty := .boolean) hE rfl (by decide) 0 (Nat.le_refl _) rfl
end RLR
def w_law_0 (xs : Nat × (Nat → Int32)) (R_law : Int32 → Sv → Prop) (a3 : Int32) (S : Sv) : Prop :=
  ∃ j2 : Nat, j2 < xs.1 ∧ (a3 + 1) = nI j2 ∧ (∃ j3 : Nat, j3 < xs.1 ∧ (a3 + 2) = nI j3 ∧ (∃ j4 : Nat, j4 < xs.1 ∧ (a3 + 3) = nI j4 ∧ (CS xs 1000 2 S [.ref 0, .int (xs.2 j2), .int (xs.2 j3), .int (xs.2 j4)] (fun S5 v5 => ∃ r5 : Int32, v5 = some (.int r5) ∧ (∃ j6 : Nat, j6 < xs.1 ∧ (a3 + 1) = nI j6 ∧ (∃ j7 : Nat, j7 < xs.1 ∧ (a3 + 2) = nI j7 ∧ (∃ j8 : Nat, j8 < xs.1 ∧ (a3 + 3) = nI j8 ∧ (CS xs 1000 86 S5 [.ref 31, .int (xs.2 j6), .int (xs.2 j7), .int (xs.2 j8)] (fun S9 v9 => ∃ r9 : Int32, v9 = some (.int r9) ∧ ((r5 = r9 → (R_law (a3 + 6) S9)) ∧ (¬ (r5 = r9) → (False))))))))))))
set_option maxRecDepth 100000 in
set_option maxHeartbeats 4000000 in
theorem x_law_0 {xs : Nat × (Nat → Int32)} {a3 : Int32} {S : Sv} (hn : xs.1 ≤ 100000) (h : w_law_0 xs (fun a3 S => RL xs 18 [some (.retAddr 0), some (.ref 0), some (.ref 31), some (.int a3)] [] S) a3 S) : RL xs 128 [some (.retAddr 0), some (.ref 0), some (.ref 31), some (.int a3)] [] S := by
  unfold w_law_0 at h
  refine rl_aload_n rfl rfl ?_
  refine rl_aload_nX rfl rfl ?_
  refine rl_iload_n rfl rfl ?_
  refine rl_iconst rfl ?_
  refine rl_iadd rfl ?_
  obtain ⟨j2, hj2, ej2, h⟩ := h
  refine rl_ialoadX (j := j2) rfl ej2 hj2 hn ?_
  refine rl_aload_nX rfl rfl ?_
  refine rl_iload_n rfl rfl ?_
  refine rl_iconst rfl ?_
  refine rl_iadd rfl ?_
  obtain ⟨j3, hj3, ej3, h⟩ := h
  refine rl_ialoadX (j := j3) rfl ej3 hj3 hn ?_
  refine rl_aload_nX rfl rfl ?_
  refine rl_iload_n rfl rfl ?_
  refine rl_iconst rfl ?_
  refine rl_iadd rfl ?_
  obtain ⟨j4, hj4, ej4, h⟩ := h
  refine rl_ialoadX (j := j4) rfl ej4 hj4 hn ?_
  refine rl_virtual rfl (Nat.le_of_ble_eq_true rfl) (Nat.le_of_ble_eq_true rfl) rfl rfl (as := [.ref 0, .int (xs.2 j2), .int (xs.2 j3), .int (xs.2 j4)]) (rest := []) rfl rfl rfl (cs_mono h (fun S5 v5 h => ?_))
  obtain ⟨r5, rfl, h⟩ := h
  refine rl_aload_n rfl rfl ?_
  refine rl_aload_nX rfl rfl ?_
  refine rl_iload_n rfl rfl ?_
  refine rl_iconst rfl ?_
  refine rl_iadd rfl ?_
  obtain ⟨j6, hj6, ej6, h⟩ := h
  refine rl_ialoadX (j := j6) rfl ej6 hj6 hn ?_
  refine rl_aload_nX rfl rfl ?_
  refine rl_iload_n rfl rfl ?_
  refine rl_iconst rfl ?_
  refine rl_iadd rfl ?_
  obtain ⟨j7, hj7, ej7, h⟩ := h
  refine rl_ialoadX (j := j7) rfl ej7 hj7 hn ?_
  refine rl_aload_nX rfl rfl ?_
  refine rl_iload_n rfl rfl ?_
  refine rl_iconst rfl ?_
  refine rl_iadd rfl ?_
  obtain ⟨j8, hj8, ej8, h⟩ := h
  refine rl_ialoadX (j := j8) rfl ej8 hj8 hn ?_
  refine rl_virtual rfl (Nat.le_of_ble_eq_true rfl) (Nat.le_of_ble_eq_true rfl) rfl rfl (as := [.ref 31, .int (xs.2 j6), .int (xs.2 j7), .int (xs.2 j8)]) (rest := [.int r5]) rfl rfl rfl (cs_mono h (fun S9 v9 h => ?_))
  obtain ⟨r9, rfl, h⟩ := h
  refine rl_icmp_eq rfl (fun hc => ?_) (fun hc => ?_)
  · replace h := h.1 hc
    refine rl_iinc rfl rfl rfl ?_
    refine rl_goto rfl ?_
    exact h
  · replace h := h.2 hc
    refine rl_iconst rfl ?_
    exact h.elim
def w_law_1 (xs : Nat × (Nat → Int32)) (R_law : Int32 → Sv → Prop) (a3 : Int32) (S : Sv) : Prop :=
  ∃ j10 : Nat, j10 < xs.1 ∧ (a3 + 1) = nI j10 ∧ (∃ j11 : Nat, j11 < xs.1 ∧ (a3 + 2) = nI j11 ∧ (∃ j12 : Nat, j12 < xs.1 ∧ (a3 + 3) = nI j12 ∧ (∃ j13 : Nat, j13 < xs.1 ∧ (a3 + 4) = nI j13 ∧ (∃ j14 : Nat, j14 < xs.1 ∧ (a3 + 5) = nI j14 ∧ (CS xs 1000 3 S [.ref 0, .int (xs.2 j10), .int (xs.2 j11), .int (xs.2 j12), .int (xs.2 j13), .int (xs.2 j14)] (fun S15 v15 => ∃ r15 : Int32, v15 = some (.int r15) ∧ (∃ j16 : Nat, j16 < xs.1 ∧ (a3 + 1) = nI j16 ∧ (∃ j17 : Nat, j17 < xs.1 ∧ (a3 + 2) = nI j17 ∧ (∃ j18 : Nat, j18 < xs.1 ∧ (a3 + 3) = nI j18 ∧ (∃ j19 : Nat, j19 < xs.1 ∧ (a3 + 4) = nI j19 ∧ (∃ j20 : Nat, j20 < xs.1 ∧ (a3 + 5) = nI j20 ∧ (CS xs 1000 87 S15 [.ref 31, .int (xs.2 j16), .int (xs.2 j17), .int (xs.2 j18), .int (xs.2 j19), .int (xs.2 j20)] (fun S21 v21 => ∃ r21 : Int32, v21 = some (.int r21) ∧ ((r15 = r21 → (R_law (a3 + 6) S21)) ∧ (¬ (r15 = r21) → (False))))))))))))))))
set_option maxRecDepth 100000 in
set_option maxHeartbeats 4000000 in
theorem x_law_1 {xs : Nat × (Nat → Int32)} {a3 : Int32} {S : Sv} (hn : xs.1 ≤ 100000) (h : w_law_1 xs (fun a3 S => RL xs 18 [some (.retAddr 0), some (.ref 0), some (.ref 31), some (.int a3)] [] S) a3 S) : RL xs 171 [some (.retAddr 0), some (.ref 0), some (.ref 31), some (.int a3)] [] S := by
  unfold w_law_1 at h
  refine rl_aload_n rfl rfl ?_
  refine rl_aload_nX rfl rfl ?_
  refine rl_iload_n rfl rfl ?_
  refine rl_iconst rfl ?_
  refine rl_iadd rfl ?_
  obtain ⟨j10, hj10, ej10, h⟩ := h
  refine rl_ialoadX (j := j10) rfl ej10 hj10 hn ?_
  refine rl_aload_nX rfl rfl ?_
  refine rl_iload_n rfl rfl ?_
  refine rl_iconst rfl ?_
  refine rl_iadd rfl ?_
  obtain ⟨j11, hj11, ej11, h⟩ := h
  refine rl_ialoadX (j := j11) rfl ej11 hj11 hn ?_
  refine rl_aload_nX rfl rfl ?_
  refine rl_iload_n rfl rfl ?_
  refine rl_iconst rfl ?_
  refine rl_iadd rfl ?_
  obtain ⟨j12, hj12, ej12, h⟩ := h
  refine rl_ialoadX (j := j12) rfl ej12 hj12 hn ?_
  refine rl_aload_nX rfl rfl ?_
  refine rl_iload_n rfl rfl ?_
  refine rl_iconst rfl ?_
  refine rl_iadd rfl ?_
  obtain ⟨j13, hj13, ej13, h⟩ := h
  refine rl_ialoadX (j := j13) rfl ej13 hj13 hn ?_
  refine rl_aload_nX rfl rfl ?_
  refine rl_iload_n rfl rfl ?_
  refine rl_iconst rfl ?_
  refine rl_iadd rfl ?_
  obtain ⟨j14, hj14, ej14, h⟩ := h
  refine rl_ialoadX (j := j14) rfl ej14 hj14 hn ?_
  refine rl_virtual rfl (Nat.le_of_ble_eq_true rfl) (Nat.le_of_ble_eq_true rfl) rfl rfl (as := [.ref 0, .int (xs.2 j10), .int (xs.2 j11), .int (xs.2 j12), .int (xs.2 j13), .int (xs.2 j14)]) (rest := []) rfl rfl rfl (cs_mono h (fun S15 v15 h => ?_))
  obtain ⟨r15, rfl, h⟩ := h
  refine rl_aload_n rfl rfl ?_
  refine rl_aload_nX rfl rfl ?_
  refine rl_iload_n rfl rfl ?_
  refine rl_iconst rfl ?_
  refine rl_iadd rfl ?_
  obtain ⟨j16, hj16, ej16, h⟩ := h
  refine rl_ialoadX (j := j16) rfl ej16 hj16 hn ?_
  refine rl_aload_nX rfl rfl ?_
  refine rl_iload_n rfl rfl ?_
  refine rl_iconst rfl ?_
  refine rl_iadd rfl ?_
  obtain ⟨j17, hj17, ej17, h⟩ := h
  refine rl_ialoadX (j := j17) rfl ej17 hj17 hn ?_
  refine rl_aload_nX rfl rfl ?_
  refine rl_iload_n rfl rfl ?_
  refine rl_iconst rfl ?_
  refine rl_iadd rfl ?_
  obtain ⟨j18, hj18, ej18, h⟩ := h
  refine rl_ialoadX (j := j18) rfl ej18 hj18 hn ?_
  refine rl_aload_nX rfl rfl ?_
  refine rl_iload_n rfl rfl ?_
  refine rl_iconst rfl ?_
  refine rl_iadd rfl ?_
  obtain ⟨j19, hj19, ej19, h⟩ := h
  refine rl_ialoadX (j := j19) rfl ej19 hj19 hn ?_
  refine rl_aload_nX rfl rfl ?_
  refine rl_iload_n rfl rfl ?_
  refine rl_iconst rfl ?_
  refine rl_iadd rfl ?_
  obtain ⟨j20, hj20, ej20, h⟩ := h
  refine rl_ialoadX (j := j20) rfl ej20 hj20 hn ?_
  refine rl_virtual rfl (Nat.le_of_ble_eq_true rfl) (Nat.le_of_ble_eq_true rfl) rfl rfl (as := [.ref 31, .int (xs.2 j16), .int (xs.2 j17), .int (xs.2 j18), .int (xs.2 j19), .int (xs.2 j20)]) (rest := [.int r15]) rfl rfl rfl (cs_mono h (fun S21 v21 h => ?_))
  obtain ⟨r21, rfl, h⟩ := h
  refine rl_icmp_eq rfl (fun hc => ?_) (fun hc => ?_)
  · replace h := h.1 hc
    refine rl_iinc rfl rfl rfl ?_
    refine rl_goto rfl ?_
    exact h
  · replace h := h.2 hc
    refine rl_iconst rfl ?_
    exact h.elim
def w_law_2 (xs : Nat × (Nat → Int32)) (R_law : Int32 → Sv → Prop) (a3 : Int32) (S : Sv) : Prop :=
  ∃ j22 : Nat, j22 < xs.1 ∧ (a3 + 1) = nI j22 ∧ (CS xs 1000 4 S [.ref 0, .int (xs.2 j22)] (fun S23 v23 => ∃ r23 : Int32, v23 = some (.int r23) ∧ (∃ j24 : Nat, j24 < xs.1 ∧ (a3 + 1) = nI j24 ∧ (CS xs 1000 91 S23 [.ref 31, .int (xs.2 j24)] (fun S25 v25 => ∃ r25 : Int32, v25 = some (.int r25) ∧ ((r23 = r25 → (R_law (a3 + 6) S25)) ∧ (¬ (r23 = r25) → (False))))))))
set_option maxRecDepth 100000 in
set_option maxHeartbeats 4000000 in
theorem x_law_2 {xs : Nat × (Nat → Int32)} {a3 : Int32} {S : Sv} (hn : xs.1 ≤ 100000) (h : w_law_2 xs (fun a3 S => RL xs 18 [some (.retAddr 0), some (.ref 0), some (.ref 31), some (.int a3)] [] S) a3 S) : RL xs 234 [some (.retAddr 0), some (.ref 0), some (.ref 31), some (.int a3)] [] S := by
  unfold w_law_2 at h
  refine rl_aload_n rfl rfl ?_
  refine rl_aload_nX rfl rfl ?_
  refine rl_iload_n rfl rfl ?_
  refine rl_iconst rfl ?_
  refine rl_iadd rfl ?_
  obtain ⟨j22, hj22, ej22, h⟩ := h
  refine rl_ialoadX (j := j22) rfl ej22 hj22 hn ?_
  refine rl_virtual rfl (Nat.le_of_ble_eq_true rfl) (Nat.le_of_ble_eq_true rfl) rfl rfl (as := [.ref 0, .int (xs.2 j22)]) (rest := []) rfl rfl rfl (cs_mono h (fun S23 v23 h => ?_))
  obtain ⟨r23, rfl, h⟩ := h
  refine rl_aload_n rfl rfl ?_
  refine rl_aload_nX rfl rfl ?_
  refine rl_iload_n rfl rfl ?_
  refine rl_iconst rfl ?_
  refine rl_iadd rfl ?_
  obtain ⟨j24, hj24, ej24, h⟩ := h
  refine rl_ialoadX (j := j24) rfl ej24 hj24 hn ?_
  refine rl_virtual rfl (Nat.le_of_ble_eq_true rfl) (Nat.le_of_ble_eq_true rfl) rfl rfl (as := [.ref 31, .int (xs.2 j24)]) (rest := [.int r23]) rfl rfl rfl (cs_mono h (fun S25 v25 h => ?_))
  obtain ⟨r25, rfl, h⟩ := h
  refine rl_icmp_eq rfl (fun hc => ?_) (fun hc => ?_)
  · replace h := h.1 hc
    refine rl_iinc rfl rfl rfl ?_
    refine rl_goto rfl ?_
    exact h
  · replace h := h.2 hc
    refine rl_iconst rfl ?_
    exact h.elim
def w_law_3 (xs : Nat × (Nat → Int32)) (R_law : Int32 → Sv → Prop) (a3 : Int32) (S : Sv) : Prop :=
  CS xs 1000 5 S [.ref 0] (fun S26 v26 => v26 = none ∧ (CS xs 1000 92 S26 [.ref 31] (fun S27 v27 => v27 = none ∧ (R_law (a3 + 6) S27))))
set_option maxRecDepth 100000 in
set_option maxHeartbeats 4000000 in
theorem x_law_3 {xs : Nat × (Nat → Int32)} {a3 : Int32} {S : Sv} (hn : xs.1 ≤ 100000) (h : w_law_3 xs (fun a3 S => RL xs 18 [some (.retAddr 0), some (.ref 0), some (.ref 31), some (.int a3)] [] S) a3 S) : RL xs 257 [some (.retAddr 0), some (.ref 0), some (.ref 31), some (.int a3)] [] S := by
  unfold w_law_3 at h
  refine rl_aload_n rfl rfl ?_
  refine rl_virtual rfl (Nat.le_of_ble_eq_true rfl) (Nat.le_of_ble_eq_true rfl) rfl rfl (as := [.ref 0]) (rest := []) rfl rfl rfl (cs_mono h (fun S26 v26 h => ?_))
  obtain ⟨rfl, h⟩ := h
  refine rl_aload_n rfl rfl ?_
  refine rl_virtual rfl (Nat.le_of_ble_eq_true rfl) (Nat.le_of_ble_eq_true rfl) rfl rfl (as := [.ref 31]) (rest := []) rfl rfl rfl (cs_mono h (fun S27 v27 h => ?_))
  obtain ⟨rfl, h⟩ := h
  refine rl_goto rfl ?_
  refine rl_iinc rfl rfl rfl ?_
  refine rl_goto rfl ?_
  exact h
def w_law_4 (xs : Nat × (Nat → Int32)) (R_law : Int32 → Sv → Prop) (a3 : Int32) (S : Sv) : Prop :=
  CS xs 1000 6 S [.ref 0] (fun S28 v28 => ∃ r28 : Int32, v28 = some (.int r28) ∧ (CS xs 1000 93 S28 [.ref 31] (fun S29 v29 => ∃ r29 : Int32, v29 = some (.int r29) ∧ ((r28 = r29 → (R_law (a3 + 6) S29)) ∧ (¬ (r28 = r29) → (False))))))
set_option maxRecDepth 100000 in
set_option maxHeartbeats 4000000 in
theorem x_law_4 {xs : Nat × (Nat → Int32)} {a3 : Int32} {S : Sv} (hn : xs.1 ≤ 100000) (h : w_law_4 xs (fun a3 S => RL xs 18 [some (.retAddr 0), some (.ref 0), some (.ref 31), some (.int a3)] [] S) a3 S) : RL xs 268 [some (.retAddr 0), some (.ref 0), some (.ref 31), some (.int a3)] [] S := by
  unfold w_law_4 at h
  refine rl_aload_n rfl rfl ?_
  refine rl_virtual rfl (Nat.le_of_ble_eq_true rfl) (Nat.le_of_ble_eq_true rfl) rfl rfl (as := [.ref 0]) (rest := []) rfl rfl rfl (cs_mono h (fun S28 v28 h => ?_))
  obtain ⟨r28, rfl, h⟩ := h
  refine rl_aload_n rfl rfl ?_
  refine rl_virtual rfl (Nat.le_of_ble_eq_true rfl) (Nat.le_of_ble_eq_true rfl) rfl rfl (as := [.ref 31]) (rest := [.int r28]) rfl rfl rfl (cs_mono h (fun S29 v29 h => ?_))
  obtain ⟨r29, rfl, h⟩ := h
  refine rl_icmp_eq rfl (fun hc => ?_) (fun hc => ?_)
  · replace h := h.1 hc
    refine rl_iinc rfl rfl rfl ?_
    refine rl_goto rfl ?_
    exact h
  · replace h := h.2 hc
    refine rl_iconst rfl ?_
    exact h.elim
def w_law_5 (xs : Nat × (Nat → Int32)) (R_law : Int32 → Sv → Prop) (a3 : Int32) (S : Sv) : Prop :=
  ∃ j30 : Nat, j30 < xs.1 ∧ (a3 + 1) = nI j30 ∧ (CS xs 1000 7 S [.ref 0, .int (xs.2 j30)] (fun S31 v31 => ∃ r31 : Int32, v31 = some (.int r31) ∧ (∃ j32 : Nat, j32 < xs.1 ∧ (a3 + 1) = nI j32 ∧ (CS xs 1000 94 S31 [.ref 31, .int (xs.2 j32)] (fun S33 v33 => ∃ r33 : Int32, v33 = some (.int r33) ∧ ((r31 = r33 → (R_law (a3 + 6) S33)) ∧ (¬ (r31 = r33) → (False))))))))
set_option maxRecDepth 100000 in
set_option maxHeartbeats 4000000 in
theorem x_law_5 {xs : Nat × (Nat → Int32)} {a3 : Int32} {S : Sv} (hn : xs.1 ≤ 100000) (h : w_law_5 xs (fun a3 S => RL xs 18 [some (.retAddr 0), some (.ref 0), some (.ref 31), some (.int a3)] [] S) a3 S) : RL xs 281 [some (.retAddr 0), some (.ref 0), some (.ref 31), some (.int a3)] [] S := by
  unfold w_law_5 at h
  refine rl_aload_n rfl rfl ?_
  refine rl_aload_nX rfl rfl ?_
  refine rl_iload_n rfl rfl ?_
  refine rl_iconst rfl ?_
  refine rl_iadd rfl ?_
  obtain ⟨j30, hj30, ej30, h⟩ := h
  refine rl_ialoadX (j := j30) rfl ej30 hj30 hn ?_
  refine rl_virtual rfl (Nat.le_of_ble_eq_true rfl) (Nat.le_of_ble_eq_true rfl) rfl rfl (as := [.ref 0, .int (xs.2 j30)]) (rest := []) rfl rfl rfl (cs_mono h (fun S31 v31 h => ?_))
  obtain ⟨r31, rfl, h⟩ := h
  refine rl_aload_n rfl rfl ?_
  refine rl_aload_nX rfl rfl ?_
  refine rl_iload_n rfl rfl ?_
  refine rl_iconst rfl ?_
  refine rl_iadd rfl ?_
  obtain ⟨j32, hj32, ej32, h⟩ := h
  refine rl_ialoadX (j := j32) rfl ej32 hj32 hn ?_
  refine rl_virtual rfl (Nat.le_of_ble_eq_true rfl) (Nat.le_of_ble_eq_true rfl) rfl rfl (as := [.ref 31, .int (xs.2 j32)]) (rest := [.int r31]) rfl rfl rfl (cs_mono h (fun S33 v33 h => ?_))
  obtain ⟨r33, rfl, h⟩ := h
  refine rl_icmp_eq rfl (fun hc => ?_) (fun hc => ?_)
  · replace h := h.1 hc
    refine rl_iinc rfl rfl rfl ?_
    refine rl_goto rfl ?_
    exact h
  · replace h := h.2 hc
    refine rl_iconst rfl ?_
    exact h.elim
def w_law_6 (xs : Nat × (Nat → Int32)) (R_law : Int32 → Sv → Prop) (a3 : Int32) (S : Sv) : Prop :=
  ∃ j34 : Nat, j34 < xs.1 ∧ (a3 + 1) = nI j34 ∧ (∃ j35 : Nat, j35 < xs.1 ∧ (a3 + 2) = nI j35 ∧ (∃ j36 : Nat, j36 < xs.1 ∧ (a3 + 3) = nI j36 ∧ (CS xs 1000 8 S [.ref 0, .int (xs.2 j34), .int (xs.2 j35), .int (xs.2 j36)] (fun S37 v37 => ∃ r37 : Int32, v37 = some (.int r37) ∧ (∃ j38 : Nat, j38 < xs.1 ∧ (a3 + 1) = nI j38 ∧ (∃ j39 : Nat, j39 < xs.1 ∧ (a3 + 2) = nI j39 ∧ (∃ j40 : Nat, j40 < xs.1 ∧ (a3 + 3) = nI j40 ∧ (CS xs 1000 96 S37 [.ref 31, .int (xs.2 j38), .int (xs.2 j39), .int (xs.2 j40)] (fun S41 v41 => ∃ r41 : Int32, v41 = some (.int r41) ∧ ((r37 = r41 → (R_law (a3 + 6) S41)) ∧ (¬ (r37 = r41) → (False))))))))))))
set_option maxRecDepth 100000 in
set_option maxHeartbeats 4000000 in
theorem x_law_6 {xs : Nat × (Nat → Int32)} {a3 : Int32} {S : Sv} (hn : xs.1 ≤ 100000) (h : w_law_6 xs (fun a3 S => RL xs 18 [some (.retAddr 0), some (.ref 0), some (.ref 31), some (.int a3)] [] S) a3 S) : RL xs 304 [some (.retAddr 0), some (.ref 0), some (.ref 31), some (.int a3)] [] S := by
  unfold w_law_6 at h
  refine rl_aload_n rfl rfl ?_
  refine rl_aload_nX rfl rfl ?_
  refine rl_iload_n rfl rfl ?_
  refine rl_iconst rfl ?_
  refine rl_iadd rfl ?_
  obtain ⟨j34, hj34, ej34, h⟩ := h
  refine rl_ialoadX (j := j34) rfl ej34 hj34 hn ?_
  refine rl_aload_nX rfl rfl ?_
  refine rl_iload_n rfl rfl ?_
  refine rl_iconst rfl ?_
  refine rl_iadd rfl ?_
  obtain ⟨j35, hj35, ej35, h⟩ := h
  refine rl_ialoadX (j := j35) rfl ej35 hj35 hn ?_
  refine rl_aload_nX rfl rfl ?_
  refine rl_iload_n rfl rfl ?_
  refine rl_iconst rfl ?_
  refine rl_iadd rfl ?_
  obtain ⟨j36, hj36, ej36, h⟩ := h
  refine rl_ialoadX (j := j36) rfl ej36 hj36 hn ?_
  refine rl_virtual rfl (Nat.le_of_ble_eq_true rfl) (Nat.le_of_ble_eq_true rfl) rfl rfl (as := [.ref 0, .int (xs.2 j34), .int (xs.2 j35), .int (xs.2 j36)]) (rest := []) rfl rfl rfl (cs_mono h (fun S37 v37 h => ?_))
  obtain ⟨r37, rfl, h⟩ := h
  refine rl_aload_n rfl rfl ?_
  refine rl_aload_nX rfl rfl ?_
  refine rl_iload_n rfl rfl ?_
  refine rl_iconst rfl ?_
  refine rl_iadd rfl ?_
  obtain ⟨j38, hj38, ej38, h⟩ := h
  refine rl_ialoadX (j := j38) rfl ej38 hj38 hn ?_
  refine rl_aload_nX rfl rfl ?_
  refine rl_iload_n rfl rfl ?_
  refine rl_iconst rfl ?_
  refine rl_iadd rfl ?_
  obtain ⟨j39, hj39, ej39, h⟩ := h
  refine rl_ialoadX (j := j39) rfl ej39 hj39 hn ?_
  refine rl_aload_nX rfl rfl ?_
  refine rl_iload_n rfl rfl ?_
  refine rl_iconst rfl ?_
  refine rl_iadd rfl ?_
  obtain ⟨j40, hj40, ej40, h⟩ := h
  refine rl_ialoadX (j := j40) rfl ej40 hj40 hn ?_
  refine rl_virtual rfl (Nat.le_of_ble_eq_true rfl) (Nat.le_of_ble_eq_true rfl) rfl rfl (as := [.ref 31, .int (xs.2 j38), .int (xs.2 j39), .int (xs.2 j40)]) (rest := [.int r37]) rfl rfl rfl (cs_mono h (fun S41 v41 h => ?_))
  obtain ⟨r41, rfl, h⟩ := h
  refine rl_icmp_eq rfl (fun hc => ?_) (fun hc => ?_)
  · replace h := h.1 hc
    refine rl_iinc rfl rfl rfl ?_
    refine rl_goto rfl ?_
    exact h
  · replace h := h.2 hc
    refine rl_iconst rfl ?_
    exact h.elim
def w_law_7 (xs : Nat × (Nat → Int32)) (R_law : Int32 → Sv → Prop) (a3 : Int32) (S : Sv) : Prop :=
  ∃ j42 : Nat, j42 < xs.1 ∧ (a3 + 1) = nI j42 ∧ (∃ j43 : Nat, j43 < xs.1 ∧ (a3 + 2) = nI j43 ∧ (∃ j44 : Nat, j44 < xs.1 ∧ (a3 + 3) = nI j44 ∧ (CS xs 1000 9 S [.ref 0, .int (xs.2 j42), .int (xs.2 j43), .int (xs.2 j44)] (fun S45 v45 => ∃ r45 : Int32, v45 = some (.int r45) ∧ (∃ j46 : Nat, j46 < xs.1 ∧ (a3 + 1) = nI j46 ∧ (∃ j47 : Nat, j47 < xs.1 ∧ (a3 + 2) = nI j47 ∧ (∃ j48 : Nat, j48 < xs.1 ∧ (a3 + 3) = nI j48 ∧ (CS xs 1000 97 S45 [.ref 31, .int (xs.2 j46), .int (xs.2 j47), .int (xs.2 j48)] (fun S49 v49 => ∃ r49 : Int32, v49 = some (.int r49) ∧ ((r45 = r49 → (R_law (a3 + 6) S49)) ∧ (¬ (r45 = r49) → (False))))))))))))
set_option maxRecDepth 100000 in
set_option maxHeartbeats 4000000 in
theorem x_law_7 {xs : Nat × (Nat → Int32)} {a3 : Int32} {S : Sv} (hn : xs.1 ≤ 100000) (h : w_law_7 xs (fun a3 S => RL xs 18 [some (.retAddr 0), some (.ref 0), some (.ref 31), some (.int a3)] [] S) a3 S) : RL xs 347 [some (.retAddr 0), some (.ref 0), some (.ref 31), some (.int a3)] [] S := by
  unfold w_law_7 at h
  refine rl_aload_n rfl rfl ?_
  refine rl_aload_nX rfl rfl ?_
  refine rl_iload_n rfl rfl ?_
  refine rl_iconst rfl ?_
  refine rl_iadd rfl ?_
  obtain ⟨j42, hj42, ej42, h⟩ := h
  refine rl_ialoadX (j := j42) rfl ej42 hj42 hn ?_
  refine rl_aload_nX rfl rfl ?_
  refine rl_iload_n rfl rfl ?_
  refine rl_iconst rfl ?_
  refine rl_iadd rfl ?_
  obtain ⟨j43, hj43, ej43, h⟩ := h
  refine rl_ialoadX (j := j43) rfl ej43 hj43 hn ?_
  refine rl_aload_nX rfl rfl ?_
  refine rl_iload_n rfl rfl ?_
  refine rl_iconst rfl ?_
  refine rl_iadd rfl ?_
  obtain ⟨j44, hj44, ej44, h⟩ := h
  refine rl_ialoadX (j := j44) rfl ej44 hj44 hn ?_
  refine rl_virtual rfl (Nat.le_of_ble_eq_true rfl) (Nat.le_of_ble_eq_true rfl) rfl rfl (as := [.ref 0, .int (xs.2 j42), .int (xs.2 j43), .int (xs.2 j44)]) (rest := []) rfl rfl rfl (cs_mono h (fun S45 v45 h => ?_))
  obtain ⟨r45, rfl, h⟩ := h
  refine rl_aload_n rfl rfl ?_
  refine rl_aload_nX rfl rfl ?_
  refine rl_iload_n rfl rfl ?_
  refine rl_iconst rfl ?_
  refine rl_iadd rfl ?_
  obtain ⟨j46, hj46, ej46, h⟩ := h
  refine rl_ialoadX (j := j46) rfl ej46 hj46 hn ?_
  refine rl_aload_nX rfl rfl ?_
  refine rl_iload_n rfl rfl ?_
  refine rl_iconst rfl ?_
  refine rl_iadd rfl ?_
  obtain ⟨j47, hj47, ej47, h⟩ := h
  refine rl_ialoadX (j := j47) rfl ej47 hj47 hn ?_
  refine rl_aload_nX rfl rfl ?_
  refine rl_iload_n rfl rfl ?_
  refine rl_iconst rfl ?_
  refine rl_iadd rfl ?_
  obtain ⟨j48, hj48, ej48, h⟩ := h
  refine rl_ialoadX (j := j48) rfl ej48 hj48 hn ?_
  refine rl_virtual rfl (Nat.le_of_ble_eq_true rfl) (Nat.le_of_ble_eq_true rfl) rfl rfl (as := [.ref 31, .int (xs.2 j46), .int (xs.2 j47), .int (xs.2 j48)]) (rest := [.int r45]) rfl rfl rfl (cs_mono h (fun S49 v49 h => ?_))
  obtain ⟨r49, rfl, h⟩ := h
  refine rl_icmp_eq rfl (fun hc => ?_) (fun hc => ?_)
  · replace h := h.1 hc
    refine rl_iinc rfl rfl rfl ?_
    refine rl_goto rfl ?_
    exact h
  · replace h := h.2 hc
    refine rl_iconst rfl ?_
    exact h.elim
def w_law_8 (xs : Nat × (Nat → Int32)) (R_law : Int32 → Sv → Prop) (a3 : Int32) (S : Sv) : Prop :=
  ∃ j50 : Nat, j50 < xs.1 ∧ (a3 + 1) = nI j50 ∧ (∃ j51 : Nat, j51 < xs.1 ∧ (a3 + 2) = nI j51 ∧ (CS xs 1000 10 S [.ref 0, .int (xs.2 j50), .int (xs.2 j51)] (fun S52 v52 => ∃ r52 : Int32, v52 = some (.int r52) ∧ (∃ j53 : Nat, j53 < xs.1 ∧ (a3 + 1) = nI j53 ∧ (∃ j54 : Nat, j54 < xs.1 ∧ (a3 + 2) = nI j54 ∧ (CS xs 1000 98 S52 [.ref 31, .int (xs.2 j53), .int (xs.2 j54)] (fun S55 v55 => ∃ r55 : Int32, v55 = some (.int r55) ∧ ((r52 = r55 → (R_law (a3 + 6) S55)) ∧ (¬ (r52 = r55) → (False))))))))))
set_option maxRecDepth 100000 in
set_option maxHeartbeats 4000000 in
theorem x_law_8 {xs : Nat × (Nat → Int32)} {a3 : Int32} {S : Sv} (hn : xs.1 ≤ 100000) (h : w_law_8 xs (fun a3 S => RL xs 18 [some (.retAddr 0), some (.ref 0), some (.ref 31), some (.int a3)] [] S) a3 S) : RL xs 390 [some (.retAddr 0), some (.ref 0), some (.ref 31), some (.int a3)] [] S := by
  unfold w_law_8 at h
  refine rl_aload_n rfl rfl ?_
  refine rl_aload_nX rfl rfl ?_
  refine rl_iload_n rfl rfl ?_
  refine rl_iconst rfl ?_
  refine rl_iadd rfl ?_
  obtain ⟨j50, hj50, ej50, h⟩ := h
  refine rl_ialoadX (j := j50) rfl ej50 hj50 hn ?_
  refine rl_aload_nX rfl rfl ?_
  refine rl_iload_n rfl rfl ?_
  refine rl_iconst rfl ?_
  refine rl_iadd rfl ?_
  obtain ⟨j51, hj51, ej51, h⟩ := h
  refine rl_ialoadX (j := j51) rfl ej51 hj51 hn ?_
  refine rl_virtual rfl (Nat.le_of_ble_eq_true rfl) (Nat.le_of_ble_eq_true rfl) rfl rfl (as := [.ref 0, .int (xs.2 j50), .int (xs.2 j51)]) (rest := []) rfl rfl rfl (cs_mono h (fun S52 v52 h => ?_))
  obtain ⟨r52, rfl, h⟩ := h
  refine rl_aload_n rfl rfl ?_
  refine rl_aload_nX rfl rfl ?_
  refine rl_iload_n rfl rfl ?_
  refine rl_iconst rfl ?_
  refine rl_iadd rfl ?_
  obtain ⟨j53, hj53, ej53, h⟩ := h
  refine rl_ialoadX (j := j53) rfl ej53 hj53 hn ?_
  refine rl_aload_nX rfl rfl ?_
  refine rl_iload_n rfl rfl ?_
  refine rl_iconst rfl ?_
  refine rl_iadd rfl ?_
  obtain ⟨j54, hj54, ej54, h⟩ := h
  refine rl_ialoadX (j := j54) rfl ej54 hj54 hn ?_
  refine rl_virtual rfl (Nat.le_of_ble_eq_true rfl) (Nat.le_of_ble_eq_true rfl) rfl rfl (as := [.ref 31, .int (xs.2 j53), .int (xs.2 j54)]) (rest := [.int r52]) rfl rfl rfl (cs_mono h (fun S55 v55 h => ?_))
  obtain ⟨r55, rfl, h⟩ := h
  refine rl_icmp_eq rfl (fun hc => ?_) (fun hc => ?_)
  · replace h := h.1 hc
    refine rl_iinc rfl rfl rfl ?_
    refine rl_goto rfl ?_
    exact h
  · replace h := h.2 hc
    refine rl_iconst rfl ?_
    exact h.elim
def w_law_9 (xs : Nat × (Nat → Int32)) (R_law : Int32 → Sv → Prop) (a3 : Int32) (S : Sv) : Prop :=
  ∃ j56 : Nat, j56 < xs.1 ∧ (a3 + 1) = nI j56 ∧ (∃ j57 : Nat, j57 < xs.1 ∧ (a3 + 2) = nI j57 ∧ (CS xs 1000 11 S [.ref 0, .int (xs.2 j56), .int (xs.2 j57)] (fun S58 v58 => ∃ r58 : Int32, v58 = some (.int r58) ∧ (∃ j59 : Nat, j59 < xs.1 ∧ (a3 + 1) = nI j59 ∧ (∃ j60 : Nat, j60 < xs.1 ∧ (a3 + 2) = nI j60 ∧ (CS xs 1000 99 S58 [.ref 31, .int (xs.2 j59), .int (xs.2 j60)] (fun S61 v61 => ∃ r61 : Int32, v61 = some (.int r61) ∧ ((r58 = r61 → (R_law (a3 + 6) S61)) ∧ (¬ (r58 = r61) → (False))))))))))
set_option maxRecDepth 100000 in
set_option maxHeartbeats 4000000 in
theorem x_law_9 {xs : Nat × (Nat → Int32)} {a3 : Int32} {S : Sv} (hn : xs.1 ≤ 100000) (h : w_law_9 xs (fun a3 S => RL xs 18 [some (.retAddr 0), some (.ref 0), some (.ref 31), some (.int a3)] [] S) a3 S) : RL xs 423 [some (.retAddr 0), some (.ref 0), some (.ref 31), some (.int a3)] [] S := by
  unfold w_law_9 at h
  refine rl_aload_n rfl rfl ?_
  refine rl_aload_nX rfl rfl ?_
  refine rl_iload_n rfl rfl ?_
  refine rl_iconst rfl ?_
  refine rl_iadd rfl ?_
  obtain ⟨j56, hj56, ej56, h⟩ := h
  refine rl_ialoadX (j := j56) rfl ej56 hj56 hn ?_
  refine rl_aload_nX rfl rfl ?_
  refine rl_iload_n rfl rfl ?_
  refine rl_iconst rfl ?_
  refine rl_iadd rfl ?_
  obtain ⟨j57, hj57, ej57, h⟩ := h
  refine rl_ialoadX (j := j57) rfl ej57 hj57 hn ?_
  refine rl_virtual rfl (Nat.le_of_ble_eq_true rfl) (Nat.le_of_ble_eq_true rfl) rfl rfl (as := [.ref 0, .int (xs.2 j56), .int (xs.2 j57)]) (rest := []) rfl rfl rfl (cs_mono h (fun S58 v58 h => ?_))
  obtain ⟨r58, rfl, h⟩ := h
  refine rl_aload_n rfl rfl ?_
  refine rl_aload_nX rfl rfl ?_
  refine rl_iload_n rfl rfl ?_
  refine rl_iconst rfl ?_
  refine rl_iadd rfl ?_
  obtain ⟨j59, hj59, ej59, h⟩ := h
  refine rl_ialoadX (j := j59) rfl ej59 hj59 hn ?_
  refine rl_aload_nX rfl rfl ?_
  refine rl_iload_n rfl rfl ?_
  refine rl_iconst rfl ?_
  refine rl_iadd rfl ?_
  obtain ⟨j60, hj60, ej60, h⟩ := h
  refine rl_ialoadX (j := j60) rfl ej60 hj60 hn ?_
  refine rl_virtual rfl (Nat.le_of_ble_eq_true rfl) (Nat.le_of_ble_eq_true rfl) rfl rfl (as := [.ref 31, .int (xs.2 j59), .int (xs.2 j60)]) (rest := [.int r58]) rfl rfl rfl (cs_mono h (fun S61 v61 h => ?_))
  obtain ⟨r61, rfl, h⟩ := h
  refine rl_icmp_eq rfl (fun hc => ?_) (fun hc => ?_)
  · replace h := h.1 hc
    refine rl_iinc rfl rfl rfl ?_
    refine rl_goto rfl ?_
    exact h
  · replace h := h.2 hc
    refine rl_iconst rfl ?_
    exact h.elim
def w_law_10 (xs : Nat × (Nat → Int32)) (R_law : Int32 → Sv → Prop) (a3 : Int32) (S : Sv) : Prop :=
  ∃ j62 : Nat, j62 < xs.1 ∧ (a3 + 1) = nI j62 ∧ (CS xs 1000 12 S [.ref 0, .int (xs.2 j62)] (fun S63 v63 => ∃ r63 : Int32, v63 = some (.int r63) ∧ (∃ j64 : Nat, j64 < xs.1 ∧ (a3 + 1) = nI j64 ∧ (CS xs 1000 101 S63 [.ref 31, .int (xs.2 j64)] (fun S65 v65 => ∃ r65 : Int32, v65 = some (.int r65) ∧ ((r63 = r65 → (R_law (a3 + 6) S65)) ∧ (¬ (r63 = r65) → (False))))))))
set_option maxRecDepth 100000 in
set_option maxHeartbeats 4000000 in
theorem x_law_10 {xs : Nat × (Nat → Int32)} {a3 : Int32} {S : Sv} (hn : xs.1 ≤ 100000) (h : w_law_10 xs (fun a3 S => RL xs 18 [some (.retAddr 0), some (.ref 0), some (.ref 31), some (.int a3)] [] S) a3 S) : RL xs 456 [some (.retAddr 0), some (.ref 0), some (.ref 31), some (.int a3)] [] S := by
  unfold w_law_10 at h
  refine rl_aload_n rfl rfl ?_
  refine rl_aload_nX rfl rfl ?_
  refine rl_iload_n rfl rfl ?_
  refine rl_iconst rfl ?_
  refine rl_iadd rfl ?_
  obtain ⟨j62, hj62, ej62, h⟩ := h
  refine rl_ialoadX (j := j62) rfl ej62 hj62 hn ?_
  refine rl_virtual rfl (Nat.le_of_ble_eq_true rfl) (Nat.le_of_ble_eq_true rfl) rfl rfl (as := [.ref 0, .int (xs.2 j62)]) (rest := []) rfl rfl rfl (cs_mono h (fun S63 v63 h => ?_))
  obtain ⟨r63, rfl, h⟩ := h
  refine rl_aload_n rfl rfl ?_
  refine rl_aload_nX rfl rfl ?_
  refine rl_iload_n rfl rfl ?_
  refine rl_iconst rfl ?_
  refine rl_iadd rfl ?_
  obtain ⟨j64, hj64, ej64, h⟩ := h
  refine rl_ialoadX (j := j64) rfl ej64 hj64 hn ?_
  refine rl_virtual rfl (Nat.le_of_ble_eq_true rfl) (Nat.le_of_ble_eq_true rfl) rfl rfl (as := [.ref 31, .int (xs.2 j64)]) (rest := [.int r63]) rfl rfl rfl (cs_mono h (fun S65 v65 h => ?_))
  obtain ⟨r65, rfl, h⟩ := h
  refine rl_icmp_eq rfl (fun hc => ?_) (fun hc => ?_)
  · replace h := h.1 hc
    refine rl_iinc rfl rfl rfl ?_
    refine rl_goto rfl ?_
    exact h
  · replace h := h.2 hc
    refine rl_iconst rfl ?_
    exact h.elim
def w_law_11 (xs : Nat × (Nat → Int32)) (R_law : Int32 → Sv → Prop) (a3 : Int32) (S : Sv) : Prop :=
  ∃ j66 : Nat, j66 < xs.1 ∧ (a3 + 1) = nI j66 ∧ (∃ j67 : Nat, j67 < xs.1 ∧ (a3 + 2) = nI j67 ∧ (CS xs 1000 13 S [.ref 0, .int (xs.2 j66), .int (xs.2 j67)] (fun S68 v68 => ∃ r68 : Int32, v68 = some (.int r68) ∧ (∃ j69 : Nat, j69 < xs.1 ∧ (a3 + 1) = nI j69 ∧ (∃ j70 : Nat, j70 < xs.1 ∧ (a3 + 2) = nI j70 ∧ (CS xs 1000 104 S68 [.ref 31, .int (xs.2 j69), .int (xs.2 j70)] (fun S71 v71 => ∃ r71 : Int32, v71 = some (.int r71) ∧ ((r68 = r71 → (R_law (a3 + 6) S71)) ∧ (¬ (r68 = r71) → (False))))))))))
set_option maxRecDepth 100000 in
set_option maxHeartbeats 4000000 in
theorem x_law_11 {xs : Nat × (Nat → Int32)} {a3 : Int32} {S : Sv} (hn : xs.1 ≤ 100000) (h : w_law_11 xs (fun a3 S => RL xs 18 [some (.retAddr 0), some (.ref 0), some (.ref 31), some (.int a3)] [] S) a3 S) : RL xs 479 [some (.retAddr 0), some (.ref 0), some (.ref 31), some (.int a3)] [] S := by
  unfold w_law_11 at h
  refine rl_aload_n rfl rfl ?_
  refine rl_aload_nX rfl rfl ?_
  refine rl_iload_n rfl rfl ?_
  refine rl_iconst rfl ?_
  refine rl_iadd rfl ?_
  obtain ⟨j66, hj66, ej66, h⟩ := h
  refine rl_ialoadX (j := j66) rfl ej66 hj66 hn ?_
  refine rl_aload_nX rfl rfl ?_
  refine rl_iload_n rfl rfl ?_
  refine rl_iconst rfl ?_
  refine rl_iadd rfl ?_
  obtain ⟨j67, hj67, ej67, h⟩ := h
  refine rl_ialoadX (j := j67) rfl ej67 hj67 hn ?_
  refine rl_virtual rfl (Nat.le_of_ble_eq_true rfl) (Nat.le_of_ble_eq_true rfl) rfl rfl (as := [.ref 0, .int (xs.2 j66), .int (xs.2 j67)]) (rest := []) rfl rfl rfl (cs_mono h (fun S68 v68 h => ?_))
  obtain ⟨r68, rfl, h⟩ := h
  refine rl_aload_n rfl rfl ?_
  refine rl_aload_nX rfl rfl ?_
  refine rl_iload_n rfl rfl ?_
  refine rl_iconst rfl ?_
  refine rl_iadd rfl ?_
  obtain ⟨j69, hj69, ej69, h⟩ := h
  refine rl_ialoadX (j := j69) rfl ej69 hj69 hn ?_
  refine rl_aload_nX rfl rfl ?_
  refine rl_iload_n rfl rfl ?_
  refine rl_iconst rfl ?_
  refine rl_iadd rfl ?_
  obtain ⟨j70, hj70, ej70, h⟩ := h
  refine rl_ialoadX (j := j70) rfl ej70 hj70 hn ?_
  refine rl_virtual rfl (Nat.le_of_ble_eq_true rfl) (Nat.le_of_ble_eq_true rfl) rfl rfl (as := [.ref 31, .int (xs.2 j69), .int (xs.2 j70)]) (rest := [.int r68]) rfl rfl rfl (cs_mono h (fun S71 v71 h => ?_))
  obtain ⟨r71, rfl, h⟩ := h
  refine rl_icmp_eq rfl (fun hc => ?_) (fun hc => ?_)
  · replace h := h.1 hc
    refine rl_iinc rfl rfl rfl ?_
    refine rl_goto rfl ?_
    exact h
  · replace h := h.2 hc
    refine rl_iconst rfl ?_
    exact h.elim
def w_law_12 (xs : Nat × (Nat → Int32)) (R_law : Int32 → Sv → Prop) (a3 : Int32) (S : Sv) : Prop :=
  ∃ j72 : Nat, j72 < xs.1 ∧ (a3 + 1) = nI j72 ∧ (CS xs 1000 14 S [.ref 0, .int (xs.2 j72)] (fun S73 v73 => ∃ r73 : Int32, v73 = some (.int r73) ∧ (∃ j74 : Nat, j74 < xs.1 ∧ (a3 + 1) = nI j74 ∧ (CS xs 1000 109 S73 [.ref 31, .int (xs.2 j74)] (fun S75 v75 => ∃ r75 : Int32, v75 = some (.int r75) ∧ ((r73 = r75 → (R_law (a3 + 6) S75)) ∧ (¬ (r73 = r75) → (False))))))))
set_option maxRecDepth 100000 in
set_option maxHeartbeats 4000000 in
theorem x_law_12 {xs : Nat × (Nat → Int32)} {a3 : Int32} {S : Sv} (hn : xs.1 ≤ 100000) (h : w_law_12 xs (fun a3 S => RL xs 18 [some (.retAddr 0), some (.ref 0), some (.ref 31), some (.int a3)] [] S) a3 S) : RL xs 512 [some (.retAddr 0), some (.ref 0), some (.ref 31), some (.int a3)] [] S := by
  unfold w_law_12 at h
  refine rl_aload_n rfl rfl ?_
  refine rl_aload_nX rfl rfl ?_
  refine rl_iload_n rfl rfl ?_
  refine rl_iconst rfl ?_
  refine rl_iadd rfl ?_
  obtain ⟨j72, hj72, ej72, h⟩ := h
  refine rl_ialoadX (j := j72) rfl ej72 hj72 hn ?_
  refine rl_virtual rfl (Nat.le_of_ble_eq_true rfl) (Nat.le_of_ble_eq_true rfl) rfl rfl (as := [.ref 0, .int (xs.2 j72)]) (rest := []) rfl rfl rfl (cs_mono h (fun S73 v73 h => ?_))
  obtain ⟨r73, rfl, h⟩ := h
  refine rl_aload_n rfl rfl ?_
  refine rl_aload_nX rfl rfl ?_
  refine rl_iload_n rfl rfl ?_
  refine rl_iconst rfl ?_
  refine rl_iadd rfl ?_
  obtain ⟨j74, hj74, ej74, h⟩ := h
  refine rl_ialoadX (j := j74) rfl ej74 hj74 hn ?_
  refine rl_virtual rfl (Nat.le_of_ble_eq_true rfl) (Nat.le_of_ble_eq_true rfl) rfl rfl (as := [.ref 31, .int (xs.2 j74)]) (rest := [.int r73]) rfl rfl rfl (cs_mono h (fun S75 v75 h => ?_))
  obtain ⟨r75, rfl, h⟩ := h
  refine rl_icmp_eq rfl (fun hc => ?_) (fun hc => ?_)
  · replace h := h.1 hc
    refine rl_iinc rfl rfl rfl ?_
    refine rl_goto rfl ?_
    exact h
  · replace h := h.2 hc
    refine rl_iconst rfl ?_
    exact h.elim
def w_law_13 (xs : Nat × (Nat → Int32)) (R_law : Int32 → Sv → Prop) (a3 : Int32) (S : Sv) : Prop :=
  ∃ j76 : Nat, j76 < xs.1 ∧ (a3 + 1) = nI j76 ∧ (CS xs 1000 15 S [.ref 0, .int ((xs.2 j76).toUInt32 % 65536).toInt32] (fun S77 v77 => ∃ r77 : Int32, v77 = some (.int r77) ∧ (∃ j78 : Nat, j78 < xs.1 ∧ (a3 + 1) = nI j78 ∧ (CS xs 1000 110 S77 [.ref 31, .int ((xs.2 j78).toUInt32 % 65536).toInt32] (fun S79 v79 => ∃ r79 : Int32, v79 = some (.int r79) ∧ ((r77 = r79 → (R_law (a3 + 6) S79)) ∧ (¬ (r77 = r79) → (False))))))))
set_option maxRecDepth 100000 in
set_option maxHeartbeats 4000000 in
theorem x_law_13 {xs : Nat × (Nat → Int32)} {a3 : Int32} {S : Sv} (hn : xs.1 ≤ 100000) (h : w_law_13 xs (fun a3 S => RL xs 18 [some (.retAddr 0), some (.ref 0), some (.ref 31), some (.int a3)] [] S) a3 S) : RL xs 535 [some (.retAddr 0), some (.ref 0), some (.ref 31), some (.int a3)] [] S := by
  unfold w_law_13 at h
  refine rl_aload_n rfl rfl ?_
  refine rl_aload_nX rfl rfl ?_
  refine rl_iload_n rfl rfl ?_
  refine rl_iconst rfl ?_
  refine rl_iadd rfl ?_
  obtain ⟨j76, hj76, ej76, h⟩ := h
  refine rl_ialoadX (j := j76) rfl ej76 hj76 hn ?_
  refine rl_i2c rfl ?_
  refine rl_virtual rfl (Nat.le_of_ble_eq_true rfl) (Nat.le_of_ble_eq_true rfl) rfl rfl (as := [.ref 0, .int ((xs.2 j76).toUInt32 % 65536).toInt32]) (rest := []) rfl rfl rfl (cs_mono h (fun S77 v77 h => ?_))
  obtain ⟨r77, rfl, h⟩ := h
  refine rl_aload_n rfl rfl ?_
  refine rl_aload_nX rfl rfl ?_
  refine rl_iload_n rfl rfl ?_
  refine rl_iconst rfl ?_
  refine rl_iadd rfl ?_
  obtain ⟨j78, hj78, ej78, h⟩ := h
  refine rl_ialoadX (j := j78) rfl ej78 hj78 hn ?_
  refine rl_i2c rfl ?_
  refine rl_virtual rfl (Nat.le_of_ble_eq_true rfl) (Nat.le_of_ble_eq_true rfl) rfl rfl (as := [.ref 31, .int ((xs.2 j78).toUInt32 % 65536).toInt32]) (rest := [.int r77]) rfl rfl rfl (cs_mono h (fun S79 v79 h => ?_))
  obtain ⟨r79, rfl, h⟩ := h
  refine rl_icmp_eq rfl (fun hc => ?_) (fun hc => ?_)
  · replace h := h.1 hc
    refine rl_iinc rfl rfl rfl ?_
    refine rl_goto rfl ?_
    exact h
  · replace h := h.2 hc
    refine rl_iconst rfl ?_
    exact h.elim
def w_law_14 (xs : Nat × (Nat → Int32)) (R_law : Int32 → Sv → Prop) (a3 : Int32) (S : Sv) : Prop :=
  CS xs 1000 16 S [.ref 0] (fun S80 v80 => v80 = none ∧ (CS xs 1000 111 S80 [.ref 31] (fun S81 v81 => v81 = none ∧ (R_law (a3 + 6) S81))))
set_option maxRecDepth 100000 in
set_option maxHeartbeats 4000000 in
theorem x_law_14 {xs : Nat × (Nat → Int32)} {a3 : Int32} {S : Sv} (hn : xs.1 ≤ 100000) (h : w_law_14 xs (fun a3 S => RL xs 18 [some (.retAddr 0), some (.ref 0), some (.ref 31), some (.int a3)] [] S) a3 S) : RL xs 560 [some (.retAddr 0), some (.ref 0), some (.ref 31), some (.int a3)] [] S := by
  unfold w_law_14 at h
  refine rl_aload_n rfl rfl ?_
  refine rl_virtual rfl (Nat.le_of_ble_eq_true rfl) (Nat.le_of_ble_eq_true rfl) rfl rfl (as := [.ref 0]) (rest := []) rfl rfl rfl (cs_mono h (fun S80 v80 h => ?_))
  obtain ⟨rfl, h⟩ := h
  refine rl_aload_n rfl rfl ?_
  refine rl_virtual rfl (Nat.le_of_ble_eq_true rfl) (Nat.le_of_ble_eq_true rfl) rfl rfl (as := [.ref 31]) (rest := []) rfl rfl rfl (cs_mono h (fun S81 v81 h => ?_))
  obtain ⟨rfl, h⟩ := h
  refine rl_goto rfl ?_
  refine rl_iinc rfl rfl rfl ?_
  refine rl_goto rfl ?_
  exact h
def w_law_15 (xs : Nat × (Nat → Int32)) (R_law : Int32 → Sv → Prop) (a3 : Int32) (S : Sv) : Prop :=
  CS xs 1000 17 S [.ref 0] (fun S82 v82 => ∃ r82 : Int32, v82 = some (.int r82) ∧ (CS xs 1000 112 S82 [.ref 31] (fun S83 v83 => ∃ r83 : Int32, v83 = some (.int r83) ∧ ((r82 = r83 → (R_law (a3 + 6) S83)) ∧ (¬ (r82 = r83) → (False))))))
set_option maxRecDepth 100000 in
set_option maxHeartbeats 4000000 in
theorem x_law_15 {xs : Nat × (Nat → Int32)} {a3 : Int32} {S : Sv} (hn : xs.1 ≤ 100000) (h : w_law_15 xs (fun a3 S => RL xs 18 [some (.retAddr 0), some (.ref 0), some (.ref 31), some (.int a3)] [] S) a3 S) : RL xs 571 [some (.retAddr 0), some (.ref 0), some (.ref 31), some (.int a3)] [] S := by
  unfold w_law_15 at h
  refine rl_aload_n rfl rfl ?_
  refine rl_virtual rfl (Nat.le_of_ble_eq_true rfl) (Nat.le_of_ble_eq_true rfl) rfl rfl (as := [.ref 0]) (rest := []) rfl rfl rfl (cs_mono h (fun S82 v82 h => ?_))
  obtain ⟨r82, rfl, h⟩ := h
  refine rl_aload_n rfl rfl ?_
  refine rl_virtual rfl (Nat.le_of_ble_eq_true rfl) (Nat.le_of_ble_eq_true rfl) rfl rfl (as := [.ref 31]) (rest := [.int r82]) rfl rfl rfl (cs_mono h (fun S83 v83 h => ?_))
  obtain ⟨r83, rfl, h⟩ := h
  refine rl_icmp_eq rfl (fun hc => ?_) (fun hc => ?_)
  · replace h := h.1 hc
    refine rl_iinc rfl rfl rfl ?_
    refine rl_goto rfl ?_
    exact h
  · replace h := h.2 hc
    refine rl_iconst rfl ?_
    exact h.elim
def w_law_16 (xs : Nat × (Nat → Int32)) (R_law : Int32 → Sv → Prop) (a3 : Int32) (S : Sv) : Prop :=
  ∃ j84 : Nat, j84 < xs.1 ∧ (a3 + 1) = nI j84 ∧ (CS xs 1000 18 S [.ref 0, .int (xs.2 j84)] (fun S85 v85 => ∃ r85 : Int32, v85 = some (.int r85) ∧ (∃ j86 : Nat, j86 < xs.1 ∧ (a3 + 1) = nI j86 ∧ (CS xs 1000 113 S85 [.ref 31, .int (xs.2 j86)] (fun S87 v87 => ∃ r87 : Int32, v87 = some (.int r87) ∧ ((r85 = r87 → (R_law (a3 + 6) S87)) ∧ (¬ (r85 = r87) → (False))))))))
set_option maxRecDepth 100000 in
set_option maxHeartbeats 4000000 in
theorem x_law_16 {xs : Nat × (Nat → Int32)} {a3 : Int32} {S : Sv} (hn : xs.1 ≤ 100000) (h : w_law_16 xs (fun a3 S => RL xs 18 [some (.retAddr 0), some (.ref 0), some (.ref 31), some (.int a3)] [] S) a3 S) : RL xs 584 [some (.retAddr 0), some (.ref 0), some (.ref 31), some (.int a3)] [] S := by
  unfold w_law_16 at h
  refine rl_aload_n rfl rfl ?_
  refine rl_aload_nX rfl rfl ?_
  refine rl_iload_n rfl rfl ?_
  refine rl_iconst rfl ?_
  refine rl_iadd rfl ?_
  obtain ⟨j84, hj84, ej84, h⟩ := h
  refine rl_ialoadX (j := j84) rfl ej84 hj84 hn ?_
  refine rl_virtual rfl (Nat.le_of_ble_eq_true rfl) (Nat.le_of_ble_eq_true rfl) rfl rfl (as := [.ref 0, .int (xs.2 j84)]) (rest := []) rfl rfl rfl (cs_mono h (fun S85 v85 h => ?_))
  obtain ⟨r85, rfl, h⟩ := h
  refine rl_aload_n rfl rfl ?_
  refine rl_aload_nX rfl rfl ?_
  refine rl_iload_n rfl rfl ?_
  refine rl_iconst rfl ?_
  refine rl_iadd rfl ?_
  obtain ⟨j86, hj86, ej86, h⟩ := h
  refine rl_ialoadX (j := j86) rfl ej86 hj86 hn ?_
  refine rl_virtual rfl (Nat.le_of_ble_eq_true rfl) (Nat.le_of_ble_eq_true rfl) rfl rfl (as := [.ref 31, .int (xs.2 j86)]) (rest := [.int r85]) rfl rfl rfl (cs_mono h (fun S87 v87 h => ?_))
  obtain ⟨r87, rfl, h⟩ := h
  refine rl_icmp_eq rfl (fun hc => ?_) (fun hc => ?_)
  · replace h := h.1 hc
    refine rl_iinc rfl rfl rfl ?_
    refine rl_goto rfl ?_
    exact h
  · replace h := h.2 hc
    refine rl_iconst rfl ?_
    exact h.elim
def w_law_17 (xs : Nat × (Nat → Int32)) (R_law : Int32 → Sv → Prop) (a3 : Int32) (S : Sv) : Prop :=
  CS xs 1000 19 S [.ref 0] (fun S88 v88 => ∃ r88 : Int32, v88 = some (.int r88) ∧ (CS xs 1000 125 S88 [.ref 31] (fun S89 v89 => ∃ r89 : Int32, v89 = some (.int r89) ∧ ((r88 = r89 → (R_law (a3 + 6) S89)) ∧ (¬ (r88 = r89) → (False))))))
set_option maxRecDepth 100000 in
set_option maxHeartbeats 4000000 in
theorem x_law_17 {xs : Nat × (Nat → Int32)} {a3 : Int32} {S : Sv} (hn : xs.1 ≤ 100000) (h : w_law_17 xs (fun a3 S => RL xs 18 [some (.retAddr 0), some (.ref 0), some (.ref 31), some (.int a3)] [] S) a3 S) : RL xs 607 [some (.retAddr 0), some (.ref 0), some (.ref 31), some (.int a3)] [] S := by
  unfold w_law_17 at h
  refine rl_aload_n rfl rfl ?_
  refine rl_virtual rfl (Nat.le_of_ble_eq_true rfl) (Nat.le_of_ble_eq_true rfl) rfl rfl (as := [.ref 0]) (rest := []) rfl rfl rfl (cs_mono h (fun S88 v88 h => ?_))
  obtain ⟨r88, rfl, h⟩ := h
  refine rl_aload_n rfl rfl ?_
  refine rl_virtual rfl (Nat.le_of_ble_eq_true rfl) (Nat.le_of_ble_eq_true rfl) rfl rfl (as := [.ref 31]) (rest := [.int r88]) rfl rfl rfl (cs_mono h (fun S89 v89 h => ?_))
  obtain ⟨r89, rfl, h⟩ := h
  refine rl_icmp_eq rfl (fun hc => ?_) (fun hc => ?_)
  · replace h := h.1 hc
    refine rl_iinc rfl rfl rfl ?_
    refine rl_goto rfl ?_
    exact h
  · replace h := h.2 hc
    refine rl_iconst rfl ?_
    exact h.elim
def w_law_18 (xs : Nat × (Nat → Int32)) (R_law : Int32 → Sv → Prop) (a3 : Int32) (S : Sv) : Prop :=
  CS xs 1000 20 S [.ref 0] (fun S90 v90 => ∃ r90 : Int32, v90 = some (.int r90) ∧ (CS xs 1000 126 S90 [.ref 31] (fun S91 v91 => ∃ r91 : Int32, v91 = some (.int r91) ∧ ((r90 = r91 → (R_law (a3 + 6) S91)) ∧ (¬ (r90 = r91) → (False))))))
set_option maxRecDepth 100000 in
set_option maxHeartbeats 4000000 in
theorem x_law_18 {xs : Nat × (Nat → Int32)} {a3 : Int32} {S : Sv} (hn : xs.1 ≤ 100000) (h : w_law_18 xs (fun a3 S => RL xs 18 [some (.retAddr 0), some (.ref 0), some (.ref 31), some (.int a3)] [] S) a3 S) : RL xs 620 [some (.retAddr 0), some (.ref 0), some (.ref 31), some (.int a3)] [] S := by
  unfold w_law_18 at h
  refine rl_aload_n rfl rfl ?_
  refine rl_virtual rfl (Nat.le_of_ble_eq_true rfl) (Nat.le_of_ble_eq_true rfl) rfl rfl (as := [.ref 0]) (rest := []) rfl rfl rfl (cs_mono h (fun S90 v90 h => ?_))
  obtain ⟨r90, rfl, h⟩ := h
  refine rl_aload_n rfl rfl ?_
  refine rl_virtual rfl (Nat.le_of_ble_eq_true rfl) (Nat.le_of_ble_eq_true rfl) rfl rfl (as := [.ref 31]) (rest := [.int r90]) rfl rfl rfl (cs_mono h (fun S91 v91 h => ?_))
  obtain ⟨r91, rfl, h⟩ := h
  refine rl_icmp_eq rfl (fun hc => ?_) (fun hc => ?_)
  · replace h := h.1 hc
    refine rl_iinc rfl rfl rfl ?_
    refine rl_goto rfl ?_
    exact h
  · replace h := h.2 hc
    refine rl_iconst rfl ?_
    exact h.elim
def w_law_19 (xs : Nat × (Nat → Int32)) (R_law : Int32 → Sv → Prop) (a3 : Int32) (S : Sv) : Prop :=
  ∃ j92 : Nat, j92 < xs.1 ∧ (a3 + 1) = nI j92 ∧ (CS xs 1000 21 S [.ref 0, .int (xs.2 j92)] (fun S93 v93 => ∃ r93 : Int32, v93 = some (.int r93) ∧ (∃ j94 : Nat, j94 < xs.1 ∧ (a3 + 1) = nI j94 ∧ (CS xs 1000 127 S93 [.ref 31, .int (xs.2 j94)] (fun S95 v95 => ∃ r95 : Int32, v95 = some (.int r95) ∧ ((r93 = r95 → (R_law (a3 + 6) S95)) ∧ (¬ (r93 = r95) → (False))))))))
set_option maxRecDepth 100000 in
set_option maxHeartbeats 4000000 in
theorem x_law_19 {xs : Nat × (Nat → Int32)} {a3 : Int32} {S : Sv} (hn : xs.1 ≤ 100000) (h : w_law_19 xs (fun a3 S => RL xs 18 [some (.retAddr 0), some (.ref 0), some (.ref 31), some (.int a3)] [] S) a3 S) : RL xs 633 [some (.retAddr 0), some (.ref 0), some (.ref 31), some (.int a3)] [] S := by
  unfold w_law_19 at h
  refine rl_aload_n rfl rfl ?_
  refine rl_aload_nX rfl rfl ?_
  refine rl_iload_n rfl rfl ?_
  refine rl_iconst rfl ?_
  refine rl_iadd rfl ?_
  obtain ⟨j92, hj92, ej92, h⟩ := h
  refine rl_ialoadX (j := j92) rfl ej92 hj92 hn ?_
  refine rl_virtual rfl (Nat.le_of_ble_eq_true rfl) (Nat.le_of_ble_eq_true rfl) rfl rfl (as := [.ref 0, .int (xs.2 j92)]) (rest := []) rfl rfl rfl (cs_mono h (fun S93 v93 h => ?_))
  obtain ⟨r93, rfl, h⟩ := h
  refine rl_aload_n rfl rfl ?_
  refine rl_aload_nX rfl rfl ?_
  refine rl_iload_n rfl rfl ?_
  refine rl_iconst rfl ?_
  refine rl_iadd rfl ?_
  obtain ⟨j94, hj94, ej94, h⟩ := h
  refine rl_ialoadX (j := j94) rfl ej94 hj94 hn ?_
  refine rl_virtual rfl (Nat.le_of_ble_eq_true rfl) (Nat.le_of_ble_eq_true rfl) rfl rfl (as := [.ref 31, .int (xs.2 j94)]) (rest := [.int r93]) rfl rfl rfl (cs_mono h (fun S95 v95 h => ?_))
  obtain ⟨r95, rfl, h⟩ := h
  refine rl_icmp_eq rfl (fun hc => ?_) (fun hc => ?_)
  · replace h := h.1 hc
    refine rl_iinc rfl rfl rfl ?_
    refine rl_goto rfl ?_
    exact h
  · replace h := h.2 hc
    refine rl_iconst rfl ?_
    exact h.elim
def w_law (xs : Nat × (Nat → Int32)) (R_law : Int32 → Sv → Prop) (a3 : Int32) (S : Sv) : Prop :=
  (((nI xs.1) - 6) < a3 → (True)) ∧ (¬ (((nI xs.1) - 6) < a3) → (∃ j1 : Nat, j1 < xs.1 ∧ a3 = nI j1 ∧ ((((xs.2 j1) &&& 31) = 0 → (w_law_0 xs R_law a3 S)) ∧ (((xs.2 j1) &&& 31) = 1 → (w_law_1 xs R_law a3 S)) ∧ (((xs.2 j1) &&& 31) = 2 → (w_law_2 xs R_law a3 S)) ∧ (((xs.2 j1) &&& 31) = 3 → (w_law_3 xs R_law a3 S)) ∧ (((xs.2 j1) &&& 31) = 4 → (w_law_4 xs R_law a3 S)) ∧ (((xs.2 j1) &&& 31) = 5 → (w_law_5 xs R_law a3 S)) ∧ (((xs.2 j1) &&& 31) = 6 → (w_law_6 xs R_law a3 S)) ∧ (((xs.2 j1) &&& 31) = 7 → (w_law_7 xs R_law a3 S)) ∧ (((xs.2 j1) &&& 31) = 8 → (w_law_8 xs R_law a3 S)) ∧ (((xs.2 j1) &&& 31) = 9 → (w_law_9 xs R_law a3 S)) ∧ (((xs.2 j1) &&& 31) = 10 → (w_law_10 xs R_law a3 S)) ∧ (((xs.2 j1) &&& 31) = 11 → (w_law_11 xs R_law a3 S)) ∧ (((xs.2 j1) &&& 31) = 12 → (w_law_12 xs R_law a3 S)) ∧ (((xs.2 j1) &&& 31) = 13 → (w_law_13 xs R_law a3 S)) ∧ (((xs.2 j1) &&& 31) = 14 → (w_law_14 xs R_law a3 S)) ∧ (((xs.2 j1) &&& 31) = 15 → (w_law_15 xs R_law a3 S)) ∧ (((xs.2 j1) &&& 31) = 16 → (w_law_16 xs R_law a3 S)) ∧ (((xs.2 j1) &&& 31) = 17 → (w_law_17 xs R_law a3 S)) ∧ (((xs.2 j1) &&& 31) = 18 → (w_law_18 xs R_law a3 S)) ∧ (((xs.2 j1) &&& 31) = 19 → (w_law_19 xs R_law a3 S)) ∧ ((((xs.2 j1) &&& 31).toInt < 0 ∨ 19 < ((xs.2 j1) &&& 31).toInt) → (R_law (a3 + 6) S)))))
set_option maxRecDepth 100000 in
set_option maxHeartbeats 4000000 in
theorem h_law {xs : Nat × (Nat → Int32)} {a3 : Int32} {S : Sv} (hn : xs.1 ≤ 100000) (h : w_law xs (fun a3 S => RL xs 18 [some (.retAddr 0), some (.ref 0), some (.ref 31), some (.int a3)] [] S) a3 S) : RL xs 18 [some (.retAddr 0), some (.ref 0), some (.ref 31), some (.int a3)] [] S := by
  unfold w_law at h
  refine rl_iload_n rfl rfl ?_
  refine rl_aload_nX rfl rfl ?_
  refine rl_arraylengthX rfl ?_
  refine rl_bipush rfl ?_
  refine rl_isub rfl ?_
  refine rl_icmp_gt rfl (fun hc => ?_) (fun hc => ?_)
  · replace h := h.1 hc
    refine rl_iconst rfl ?_
    exact rl_ireturn rfl
  · replace h := h.2 hc
    refine rl_aload_nX rfl rfl ?_
    refine rl_iload_n rfl rfl ?_
    obtain ⟨j1, hj1, ej1, h⟩ := h
    refine rl_ialoadX (j := j1) rfl ej1 hj1 hn ?_
    refine rl_bipush rfl ?_
    refine rl_iand rfl ?_
    by_cases hc0 : ((xs.2 j1) &&& 31) = 0
    · replace h := h.1 hc0
      rw [hc0]
      refine rl_tableIn 128 rfl (by decide) (by decide) rfl rfl ?_
      exact x_law_0 hn h
    by_cases hc1 : ((xs.2 j1) &&& 31) = 1
    · replace h := h.2.1 hc1
      rw [hc1]
      refine rl_tableIn 171 rfl (by decide) (by decide) rfl rfl ?_
      exact x_law_1 hn h
    by_cases hc2 : ((xs.2 j1) &&& 31) = 2
    · replace h := h.2.2.1 hc2
      rw [hc2]
      refine rl_tableIn 234 rfl (by decide) (by decide) rfl rfl ?_
      exact x_law_2 hn h
    by_cases hc3 : ((xs.2 j1) &&& 31) = 3
    · replace h := h.2.2.2.1 hc3
      rw [hc3]
      refine rl_tableIn 257 rfl (by decide) (by decide) rfl rfl ?_
      exact x_law_3 hn h
    by_cases hc4 : ((xs.2 j1) &&& 31) = 4
    · replace h := h.2.2.2.2.1 hc4
      rw [hc4]
      refine rl_tableIn 268 rfl (by decide) (by decide) rfl rfl ?_
      exact x_law_4 hn h
    by_cases hc5 : ((xs.2 j1) &&& 31) = 5
    · replace h := h.2.2.2.2.2.1 hc5
      rw [hc5]
      refine rl_tableIn 281 rfl (by decide) (by decide) rfl rfl ?_
      exact x_law_5 hn h
    by_cases hc6 : ((xs.2 j1) &&& 31) = 6
    · replace h := h.2.2.2.2.2.2.1 hc6
      rw [hc6]
      refine rl_tableIn 304 rfl (by decide) (by decide) rfl rfl ?_
      exact x_law_6 hn h
    by_cases hc7 : ((xs.2 j1) &&& 31) = 7
    · replace h := h.2.2.2.2.2.2.2.1 hc7
      rw [hc7]
      refine rl_tableIn 347 rfl (by decide) (by decide) rfl rfl ?_
      exact x_law_7 hn h
    by_cases hc8 : ((xs.2 j1) &&& 31) = 8
    · replace h := h.2.2.2.2.2.2.2.2.1 hc8
      rw [hc8]
      refine rl_tableIn 390 rfl (by decide) (by decide) rfl rfl ?_
      exact x_law_8 hn h
    by_cases hc9 : ((xs.2 j1) &&& 31) = 9
    · replace h := h.2.2.2.2.2.2.2.2.2.1 hc9
      rw [hc9]
      refine rl_tableIn 423 rfl (by decide) (by decide) rfl rfl ?_
      exact x_law_9 hn h
    by_cases hc10 : ((xs.2 j1) &&& 31) = 10
    · replace h := h.2.2.2.2.2.2.2.2.2.2.1 hc10
      rw [hc10]
      refine rl_tableIn 456 rfl (by decide) (by decide) rfl rfl ?_
      exact x_law_10 hn h
    by_cases hc11 : ((xs.2 j1) &&& 31) = 11
    · replace h := h.2.2.2.2.2.2.2.2.2.2.2.1 hc11
      rw [hc11]
      refine rl_tableIn 479 rfl (by decide) (by decide) rfl rfl ?_
      exact x_law_11 hn h
    by_cases hc12 : ((xs.2 j1) &&& 31) = 12
    · replace h := h.2.2.2.2.2.2.2.2.2.2.2.2.1 hc12
      rw [hc12]
      refine rl_tableIn 512 rfl (by decide) (by decide) rfl rfl ?_
      exact x_law_12 hn h
    by_cases hc13 : ((xs.2 j1) &&& 31) = 13
    · replace h := h.2.2.2.2.2.2.2.2.2.2.2.2.2.1 hc13
      rw [hc13]
      refine rl_tableIn 535 rfl (by decide) (by decide) rfl rfl ?_
      exact x_law_13 hn h
    by_cases hc14 : ((xs.2 j1) &&& 31) = 14
    · replace h := h.2.2.2.2.2.2.2.2.2.2.2.2.2.2.1 hc14
      rw [hc14]
      refine rl_tableIn 560 rfl (by decide) (by decide) rfl rfl ?_
      exact x_law_14 hn h
    by_cases hc15 : ((xs.2 j1) &&& 31) = 15
    · replace h := h.2.2.2.2.2.2.2.2.2.2.2.2.2.2.2.1 hc15
      rw [hc15]
      refine rl_tableIn 571 rfl (by decide) (by decide) rfl rfl ?_
      exact x_law_15 hn h
    by_cases hc16 : ((xs.2 j1) &&& 31) = 16
    · replace h := h.2.2.2.2.2.2.2.2.2.2.2.2.2.2.2.2.1 hc16
      rw [hc16]
      refine rl_tableIn 584 rfl (by decide) (by decide) rfl rfl ?_
      exact x_law_16 hn h
    by_cases hc17 : ((xs.2 j1) &&& 31) = 17
    · replace h := h.2.2.2.2.2.2.2.2.2.2.2.2.2.2.2.2.2.1 hc17
      rw [hc17]
      refine rl_tableIn 607 rfl (by decide) (by decide) rfl rfl ?_
      exact x_law_17 hn h
    by_cases hc18 : ((xs.2 j1) &&& 31) = 18
    · replace h := h.2.2.2.2.2.2.2.2.2.2.2.2.2.2.2.2.2.2.1 hc18
      rw [hc18]
      refine rl_tableIn 620 rfl (by decide) (by decide) rfl rfl ?_
      exact x_law_18 hn h
    by_cases hc19 : ((xs.2 j1) &&& 31) = 19
    · replace h := h.2.2.2.2.2.2.2.2.2.2.2.2.2.2.2.2.2.2.2.1 hc19
      rw [hc19]
      refine rl_tableIn 633 rfl (by decide) (by decide) rfl rfl ?_
      exact x_law_19 hn h
    have hout : ((xs.2 j1) &&& 31).toInt < 0 ∨ 19 < ((xs.2 j1) &&& 31).toInt := by
      rcases Int.lt_or_le ((xs.2 j1) &&& 31).toInt 0 with hz | hz
      · exact Or.inl hz
      · rcases Int.lt_or_le 19 ((xs.2 j1) &&& 31).toInt with hz2 | hz2
        · exact Or.inr hz2
        · exfalso
          have hq0 : ¬ ((xs.2 j1) &&& 31).toInt = 0 := fun e => hc0 (Int32.toInt_inj.mp (e.trans (by decide)))
          have hq1 : ¬ ((xs.2 j1) &&& 31).toInt = 1 := fun e => hc1 (Int32.toInt_inj.mp (e.trans (by decide)))
          have hq2 : ¬ ((xs.2 j1) &&& 31).toInt = 2 := fun e => hc2 (Int32.toInt_inj.mp (e.trans (by decide)))
          have hq3 : ¬ ((xs.2 j1) &&& 31).toInt = 3 := fun e => hc3 (Int32.toInt_inj.mp (e.trans (by decide)))
          have hq4 : ¬ ((xs.2 j1) &&& 31).toInt = 4 := fun e => hc4 (Int32.toInt_inj.mp (e.trans (by decide)))
          have hq5 : ¬ ((xs.2 j1) &&& 31).toInt = 5 := fun e => hc5 (Int32.toInt_inj.mp (e.trans (by decide)))
          have hq6 : ¬ ((xs.2 j1) &&& 31).toInt = 6 := fun e => hc6 (Int32.toInt_inj.mp (e.trans (by decide)))
          have hq7 : ¬ ((xs.2 j1) &&& 31).toInt = 7 := fun e => hc7 (Int32.toInt_inj.mp (e.trans (by decide)))
          have hq8 : ¬ ((xs.2 j1) &&& 31).toInt = 8 := fun e => hc8 (Int32.toInt_inj.mp (e.trans (by decide)))
          have hq9 : ¬ ((xs.2 j1) &&& 31).toInt = 9 := fun e => hc9 (Int32.toInt_inj.mp (e.trans (by decide)))
          have hq10 : ¬ ((xs.2 j1) &&& 31).toInt = 10 := fun e => hc10 (Int32.toInt_inj.mp (e.trans (by decide)))
          have hq11 : ¬ ((xs.2 j1) &&& 31).toInt = 11 := fun e => hc11 (Int32.toInt_inj.mp (e.trans (by decide)))
          have hq12 : ¬ ((xs.2 j1) &&& 31).toInt = 12 := fun e => hc12 (Int32.toInt_inj.mp (e.trans (by decide)))
          have hq13 : ¬ ((xs.2 j1) &&& 31).toInt = 13 := fun e => hc13 (Int32.toInt_inj.mp (e.trans (by decide)))
          have hq14 : ¬ ((xs.2 j1) &&& 31).toInt = 14 := fun e => hc14 (Int32.toInt_inj.mp (e.trans (by decide)))
          have hq15 : ¬ ((xs.2 j1) &&& 31).toInt = 15 := fun e => hc15 (Int32.toInt_inj.mp (e.trans (by decide)))
          have hq16 : ¬ ((xs.2 j1) &&& 31).toInt = 16 := fun e => hc16 (Int32.toInt_inj.mp (e.trans (by decide)))
          have hq17 : ¬ ((xs.2 j1) &&& 31).toInt = 17 := fun e => hc17 (Int32.toInt_inj.mp (e.trans (by decide)))
          have hq18 : ¬ ((xs.2 j1) &&& 31).toInt = 18 := fun e => hc18 (Int32.toInt_inj.mp (e.trans (by decide)))
          have hq19 : ¬ ((xs.2 j1) &&& 31).toInt = 19 := fun e => hc19 (Int32.toInt_inj.mp (e.trans (by decide)))
          omega
    replace h := h.2.2.2.2.2.2.2.2.2.2.2.2.2.2.2.2.2.2.2.2 hout
    refine rl_tableOut 656 rfl hout rfl ?_
    refine rl_iinc rfl rfl rfl ?_
    refine rl_goto rfl ?_
    exact h
