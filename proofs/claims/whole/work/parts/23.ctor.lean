/-! Arrays.fill on any heap; the constructors, one after another, on the heap that each finds -/
def fl (n : Nat) (v : Int32) (f : Nat → Int32) : Nat → Int32 := fun j => if j < n then v else f j
theorem fl_run {xs : Nat × (Nat → Int32)} {d : Nat} {h : mm_H} {o n : Nat} {f : Nat → Int32} {v : Int32} (ho : o < h.length) (hn : n ≤ 1000) : ∀ (q k : Nat), k + q = n → mm_run tmi ttb tdf (mm_call tmi ttb tdf xs d) xs (0, 0) (fun h' r _ _ => h' = h.set o (.inl (.int, n, fl n v f)) ∧ r = none) h.length 0 5 [some (.ref o), some (.int v), some (.int (nI k)), some (.int (nI n))] [] (h.set o (.inl (.int, n, fl k v f))) 0 0 := by
  intro q
  induction q with
  | zero =>
    intro k hk
    have hk : k = n := by omega
    subst hk
    refine ev_iload_n (mm_call_mono d) rfl rfl ?_
    refine ev_iload_n (mm_call_mono d) rfl rfl ?_
    refine ev_icmp_ge (mm_call_mono d) rfl (fun hc => ?_) (fun hc => absurd (nI_le (Nat.le_refl k) (by omega)) hc)
    refine ev_return (mm_call_mono d) rfl rfl h.length (Nat.le_refl _) ⟨?_, rfl⟩
    exact List.take_of_length_le (by rw [List.length_set]; exact Nat.le_refl _)
  | succ q ih =>
    intro k hk
    have ho2 : (h.set o (.inl (.int, n, fl k v f)))[o]? = some (.inl (.int, n, fl k v f)) := List.getElem?_set_self ho
    refine ev_iload_n (mm_call_mono d) rfl rfl ?_
    refine ev_iload_n (mm_call_mono d) rfl rfl ?_
    refine ev_icmp_ge (mm_call_mono d) rfl (fun hc => absurd hc (nI_ge (by omega) (by omega))) (fun hc => ?_)
    refine ev_aload_n (mm_call_mono d) rfl rfl ?_
    refine ev_iload_n (mm_call_mono d) rfl rfl ?_
    refine ev_iload_n (mm_call_mono d) rfl rfl ?_
    refine ev_iastore (mm_call_mono d) rfl ho2 (vp_in_nI (show k < n by omega) (by omega)) ?_
    refine ev_iinc (mm_call_mono d) rfl rfl ?_
    refine ev_goto (mm_call_mono d) rfl ?_
    have e1 : (h.set o (.inl (.int, n, fl k v f))).set o (.inl (.int, n, upd (fl k v f) (nI k).toNatClampNeg v)) = h.set o (.inl (.int, n, fl (k + 1) v f)) := by
      rw [List.set_set, nI_clamp (by omega)]
      congr 4
      funext j
      unfold upd fl
      by_cases h1 : j = k
      · rw [if_pos h1, if_pos (by omega)]
      · rw [if_neg h1]
        by_cases h2 : j < k
        · rw [if_pos h2, if_pos (by omega)]
        · rw [if_neg h2, if_neg (by omega)]
    rw [e1]
    have e2 : nI k + 1 = nI (k + 1) := nI_1 k
    have h3 := ih (k + 1) (by omega)
    rw [← e2] at h3
    exact h3
theorem fl_call {xs : Nat × (Nat → Int32)} {d : Nat} {h : mm_H} {o n : Nat} {f : Nat → Int32} {v : Int32} (ho : h[o]? = some (.inl (.int, n, f))) (hn : n ≤ 1000) : mm_call tmi ttb tdf xs (d + 1) 0 h [.ref o, .int v] (fun h' r => h' = h.set o (.inl (.int, n, fl n v f)) ∧ r = none) := by
  refine ⟨rfl, rfl, ?_⟩
  have hlt : o < h.length := (List.getElem?_eq_some_iff.mp ho).1
  have e0 : h.set o (.inl (.int, n, fl 0 v f)) = h := by
    have e1 : fl 0 v f = f := by
      funext j
      exact if_neg (Nat.not_lt_zero j)
    rw [e1]
    apply List.ext_getElem?
    intro k
    rw [List.getElem?_set]
    by_cases hk : o = k
    · subst hk
      rw [if_pos rfl, if_pos hlt, ho]
    · rw [if_neg hk]
  have h1 := fl_run (xs := xs) (d := d) (f := f) (v := v) hlt hn n 0 (by omega)
  rw [e0] at h1
  refine ev_iconst (mm_call_mono d) rfl ?_
  refine ev_istore_n (mm_call_mono d) rfl ?_
  refine ev_aload_n (mm_call_mono d) rfl rfl ?_
  refine ev_arraylength (mm_call_mono d) rfl ho (Or.inl rfl) ?_
  refine ev_istore_n (mm_call_mono d) rfl ?_
  exact h1
/-- .. on the law's heap -/
theorem fl_cs {xs : Nat × (Nat → Int32)} {d : Nat} {S : Sv} {o n : Nat} {v : Int32} {K : Sv → Option Value → Prop} (ho : (hp S)[o]? = some (.inl (.int, n, S o))) (hn : n ≤ 1000) (hS : (hp S).set o (.inl (.int, n, fl n v (S o))) = hp (uf S o (fl n v (S o)))) (k : K (uf S o (fl n v (S o))) none) : CS xs (d + 1) 0 S [.ref o, .int v] K :=
  mm_call_mono (d + 1) _ _ _ _ _ (fun h' r hr => by obtain ⟨e1, e2⟩ := hr; subst e2; exact ⟨_, e1.trans hS, k⟩) (fl_call ho hn)
set_option maxRecDepth 100000 in
set_option maxHeartbeats 4000000 in
theorem ct_22_1 {xs : Nat × (Nat → Int32)} {d : Nat} : mm_call tmi ttb tdf xs (d + 2) 22 [.inr (0, [.null, .null, .null, .null, .null, .null, .null, .null]), .inr (1, [.null, .null, .null, .null, .null, .null])] [.ref 1] (fun h' v => h' = [.inr (0, [.null, .null, .null, .null, .null, .null, .null, .null]), .inr (1, [.ref 2, .ref 3, .ref 4, .ref 5, .ref 6, .ref 7]), .inl (.boolean, 4, fun _ => 0), .inl (.int, 4, fun _ => 0), .inl (.int, 4, fun _ => 0), .inl (.int, 12, fun _ => 0), .inl (.int, 12, fl 12 (-1000) (fun _ => 0)), .inl (.int, 12, fl 12 1000 (fun _ => 0))] ∧ v = none) := by
  refine ⟨rfl, rfl, ?_⟩
  refine ev_aload_n (mm_call_mono (d + 1)) rfl rfl ?_
  refine ev_objinit (mm_call_mono (d + 1)) rfl (Nat.le_of_ble_eq_true rfl) ?_
  refine ev_aload_n (mm_call_mono (d + 1)) rfl rfl ?_
  refine ev_iconst (mm_call_mono (d + 1)) rfl ?_
  refine ev_newarray (mm_call_mono (d + 1)) rfl (by decide) (by decide) (Nat.le_of_ble_eq_true rfl) (Nat.le_of_ble_eq_true rfl) rfl ?_
  refine ev_putfield (mm_call_mono (d + 1)) rfl rfl (Nat.le_of_ble_eq_true rfl) rfl ?_
  refine ev_aload_n (mm_call_mono (d + 1)) rfl rfl ?_
  refine ev_iconst (mm_call_mono (d + 1)) rfl ?_
  refine ev_newarray (mm_call_mono (d + 1)) rfl (by decide) (by decide) (Nat.le_of_ble_eq_true rfl) (Nat.le_of_ble_eq_true rfl) rfl ?_
  refine ev_putfield (mm_call_mono (d + 1)) rfl rfl (Nat.le_of_ble_eq_true rfl) rfl ?_
  refine ev_aload_n (mm_call_mono (d + 1)) rfl rfl ?_
  refine ev_iconst (mm_call_mono (d + 1)) rfl ?_
  refine ev_newarray (mm_call_mono (d + 1)) rfl (by decide) (by decide) (Nat.le_of_ble_eq_true rfl) (Nat.le_of_ble_eq_true rfl) rfl ?_
  refine ev_putfield (mm_call_mono (d + 1)) rfl rfl (Nat.le_of_ble_eq_true rfl) rfl ?_
  refine ev_aload_n (mm_call_mono (d + 1)) rfl rfl ?_
  refine ev_bipush (mm_call_mono (d + 1)) rfl ?_
  refine ev_newarray (mm_call_mono (d + 1)) rfl (by decide) (by decide) (Nat.le_of_ble_eq_true rfl) (Nat.le_of_ble_eq_true rfl) rfl ?_
  refine ev_putfield (mm_call_mono (d + 1)) rfl rfl (Nat.le_of_ble_eq_true rfl) rfl ?_
  refine ev_aload_n (mm_call_mono (d + 1)) rfl rfl ?_
  refine ev_bipush (mm_call_mono (d + 1)) rfl ?_
  refine ev_newarray (mm_call_mono (d + 1)) rfl (by decide) (by decide) (Nat.le_of_ble_eq_true rfl) (Nat.le_of_ble_eq_true rfl) rfl ?_
  refine ev_putfield (mm_call_mono (d + 1)) rfl rfl (Nat.le_of_ble_eq_true rfl) rfl ?_
  refine ev_aload_n (mm_call_mono (d + 1)) rfl rfl ?_
  refine ev_bipush (mm_call_mono (d + 1)) rfl ?_
  refine ev_newarray (mm_call_mono (d + 1)) rfl (by decide) (by decide) (Nat.le_of_ble_eq_true rfl) (Nat.le_of_ble_eq_true rfl) rfl ?_
  refine ev_putfield (mm_call_mono (d + 1)) rfl rfl (Nat.le_of_ble_eq_true rfl) rfl ?_
  refine ev_aload_n (mm_call_mono (d + 1)) rfl rfl ?_
  refine ev_getfield (mm_call_mono (d + 1)) rfl rfl rfl ?_
  refine ev_sipush (mm_call_mono (d + 1)) rfl ?_
  refine ev_static (mm_call_mono (d + 1)) rfl (Nat.le_of_ble_eq_true rfl) (Nat.le_of_ble_eq_true rfl) (Nat.le_of_ble_eq_true rfl) (Nat.le_of_ble_eq_true rfl) (Or.inl rfl) (fl_call (d := d + 0) (n := 12) (f := fun _ => 0) (o := 6) (v := (-1000)) rfl (by decide)) (fun h' v hv => ?_)
  obtain ⟨rfl, rfl⟩ := hv
  refine ev_aload_n (mm_call_mono (d + 1)) rfl rfl ?_
  refine ev_getfield (mm_call_mono (d + 1)) rfl rfl rfl ?_
  refine ev_sipush (mm_call_mono (d + 1)) rfl ?_
  refine ev_static (mm_call_mono (d + 1)) rfl (Nat.le_of_ble_eq_true rfl) (Nat.le_of_ble_eq_true rfl) (Nat.le_of_ble_eq_true rfl) (Nat.le_of_ble_eq_true rfl) (Or.inl rfl) (fl_call (d := d + 0) (n := 12) (f := fun _ => 0) (o := 7) (v := 1000) rfl (by decide)) (fun h' v hv => ?_)
  obtain ⟨rfl, rfl⟩ := hv
  exact ev_return (mm_call_mono (d + 1)) rfl rfl 8 (Nat.le_of_ble_eq_true rfl) ⟨rfl, rfl⟩
set_option maxRecDepth 100000 in
set_option maxHeartbeats 4000000 in
theorem ct_30_8 {xs : Nat × (Nat → Int32)} {d : Nat} : mm_call tmi ttb tdf xs (d + 1) 30 [.inr (0, [.ref 1, .null, .null, .null, .null, .null, .null, .null]), .inr (1, [.ref 2, .ref 3, .ref 4, .ref 5, .ref 6, .ref 7]), .inl (.boolean, 4, fun _ => 0), .inl (.int, 4, fun _ => 0), .inl (.int, 4, fun _ => 0), .inl (.int, 12, fun _ => 0), .inl (.int, 12, fl 12 (-1000) (fun _ => 0)), .inl (.int, 12, fl 12 1000 (fun _ => 0)), .inr (2, [.null, .null, .null, .null, .int 0])] [.ref 8, .ref 1] (fun h' v => h' = [.inr (0, [.ref 1, .null, .null, .null, .null, .null, .null, .null]), .inr (1, [.ref 2, .ref 3, .ref 4, .ref 5, .ref 6, .ref 7]), .inl (.boolean, 4, fun _ => 0), .inl (.int, 4, fun _ => 0), .inl (.int, 4, fun _ => 0), .inl (.int, 12, fun _ => 0), .inl (.int, 12, fl 12 (-1000) (fun _ => 0)), .inl (.int, 12, fl 12 1000 (fun _ => 0)), .inr (2, [.ref 1, .ref 9, .ref 10, .ref 11, .int 0]), .inl (.int, 24, fun _ => 0), .inl (.int, 72, fun _ => 0), .inl (.int, 48, fun _ => 0)] ∧ v = none) := by
  refine ⟨rfl, rfl, ?_⟩
  refine ev_aload_n (mm_call_mono (d + 0)) rfl rfl ?_
  refine ev_objinit (mm_call_mono (d + 0)) rfl (Nat.le_of_ble_eq_true rfl) ?_
  refine ev_aload_n (mm_call_mono (d + 0)) rfl rfl ?_
  refine ev_bipush (mm_call_mono (d + 0)) rfl ?_
  refine ev_newarray (mm_call_mono (d + 0)) rfl (by decide) (by decide) (Nat.le_of_ble_eq_true rfl) (Nat.le_of_ble_eq_true rfl) rfl ?_
  refine ev_putfield (mm_call_mono (d + 0)) rfl rfl (Nat.le_of_ble_eq_true rfl) rfl ?_
  refine ev_aload_n (mm_call_mono (d + 0)) rfl rfl ?_
  refine ev_bipush (mm_call_mono (d + 0)) rfl ?_
  refine ev_newarray (mm_call_mono (d + 0)) rfl (by decide) (by decide) (Nat.le_of_ble_eq_true rfl) (Nat.le_of_ble_eq_true rfl) rfl ?_
  refine ev_putfield (mm_call_mono (d + 0)) rfl rfl (Nat.le_of_ble_eq_true rfl) rfl ?_
  refine ev_aload_n (mm_call_mono (d + 0)) rfl rfl ?_
  refine ev_bipush (mm_call_mono (d + 0)) rfl ?_
  refine ev_newarray (mm_call_mono (d + 0)) rfl (by decide) (by decide) (Nat.le_of_ble_eq_true rfl) (Nat.le_of_ble_eq_true rfl) rfl ?_
  refine ev_putfield (mm_call_mono (d + 0)) rfl rfl (Nat.le_of_ble_eq_true rfl) rfl ?_
  refine ev_aload_n (mm_call_mono (d + 0)) rfl rfl ?_
  refine ev_aload_n (mm_call_mono (d + 0)) rfl rfl ?_
  refine ev_putfield (mm_call_mono (d + 0)) rfl rfl (Nat.le_of_ble_eq_true rfl) rfl ?_
  exact ev_return (mm_call_mono (d + 0)) rfl rfl 12 (Nat.le_of_ble_eq_true rfl) ⟨rfl, rfl⟩
set_option maxRecDepth 100000 in
set_option maxHeartbeats 4000000 in
theorem ct_40_12 {xs : Nat × (Nat → Int32)} {d : Nat} : mm_call tmi ttb tdf xs (d + 1) 40 [.inr (0, [.ref 1, .ref 8, .null, .null, .null, .null, .null, .null]), .inr (1, [.ref 2, .ref 3, .ref 4, .ref 5, .ref 6, .ref 7]), .inl (.boolean, 4, fun _ => 0), .inl (.int, 4, fun _ => 0), .inl (.int, 4, fun _ => 0), .inl (.int, 12, fun _ => 0), .inl (.int, 12, fl 12 (-1000) (fun _ => 0)), .inl (.int, 12, fl 12 1000 (fun _ => 0)), .inr (2, [.ref 1, .ref 9, .ref 10, .ref 11, .int 0]), .inl (.int, 24, fun _ => 0), .inl (.int, 72, fun _ => 0), .inl (.int, 48, fun _ => 0), .inr (3, [.null, .null, .null, .int 0])] [.ref 12, .ref 8] (fun h' v => h' = [.inr (0, [.ref 1, .ref 8, .null, .null, .null, .null, .null, .null]), .inr (1, [.ref 2, .ref 3, .ref 4, .ref 5, .ref 6, .ref 7]), .inl (.boolean, 4, fun _ => 0), .inl (.int, 4, fun _ => 0), .inl (.int, 4, fun _ => 0), .inl (.int, 12, fun _ => 0), .inl (.int, 12, fl 12 (-1000) (fun _ => 0)), .inl (.int, 12, fl 12 1000 (fun _ => 0)), .inr (2, [.ref 1, .ref 9, .ref 10, .ref 11, .int 0]), .inl (.int, 24, fun _ => 0), .inl (.int, 72, fun _ => 0), .inl (.int, 48, fun _ => 0), .inr (3, [.ref 8, .ref 13, .ref 14, .int 0]), .inl (.int, 24, fun _ => 0), .inl (.boolean, 24, fun _ => 0)] ∧ v = none) := by
  refine ⟨rfl, rfl, ?_⟩
  refine ev_aload_n (mm_call_mono (d + 0)) rfl rfl ?_
  refine ev_objinit (mm_call_mono (d + 0)) rfl (Nat.le_of_ble_eq_true rfl) ?_
  refine ev_aload_n (mm_call_mono (d + 0)) rfl rfl ?_
  refine ev_bipush (mm_call_mono (d + 0)) rfl ?_
  refine ev_newarray (mm_call_mono (d + 0)) rfl (by decide) (by decide) (Nat.le_of_ble_eq_true rfl) (Nat.le_of_ble_eq_true rfl) rfl ?_
  refine ev_putfield (mm_call_mono (d + 0)) rfl rfl (Nat.le_of_ble_eq_true rfl) rfl ?_
  refine ev_aload_n (mm_call_mono (d + 0)) rfl rfl ?_
  refine ev_bipush (mm_call_mono (d + 0)) rfl ?_
  refine ev_newarray (mm_call_mono (d + 0)) rfl (by decide) (by decide) (Nat.le_of_ble_eq_true rfl) (Nat.le_of_ble_eq_true rfl) rfl ?_
  refine ev_putfield (mm_call_mono (d + 0)) rfl rfl (Nat.le_of_ble_eq_true rfl) rfl ?_
  refine ev_aload_n (mm_call_mono (d + 0)) rfl rfl ?_
  refine ev_aload_n (mm_call_mono (d + 0)) rfl rfl ?_
  refine ev_putfield (mm_call_mono (d + 0)) rfl rfl (Nat.le_of_ble_eq_true rfl) rfl ?_
  exact ev_return (mm_call_mono (d + 0)) rfl rfl 15 (Nat.le_of_ble_eq_true rfl) ⟨rfl, rfl⟩
set_option maxRecDepth 100000 in
set_option maxHeartbeats 4000000 in
theorem ct_43_15 {xs : Nat × (Nat → Int32)} {d : Nat} : mm_call tmi ttb tdf xs (d + 1) 43 [.inr (0, [.ref 1, .ref 8, .ref 12, .null, .null, .null, .null, .null]), .inr (1, [.ref 2, .ref 3, .ref 4, .ref 5, .ref 6, .ref 7]), .inl (.boolean, 4, fun _ => 0), .inl (.int, 4, fun _ => 0), .inl (.int, 4, fun _ => 0), .inl (.int, 12, fun _ => 0), .inl (.int, 12, fl 12 (-1000) (fun _ => 0)), .inl (.int, 12, fl 12 1000 (fun _ => 0)), .inr (2, [.ref 1, .ref 9, .ref 10, .ref 11, .int 0]), .inl (.int, 24, fun _ => 0), .inl (.int, 72, fun _ => 0), .inl (.int, 48, fun _ => 0), .inr (3, [.ref 8, .ref 13, .ref 14, .int 0]), .inl (.int, 24, fun _ => 0), .inl (.boolean, 24, fun _ => 0), .inr (4, [.null, .null, .null, .null, .int 0])] [.ref 15, .ref 8] (fun h' v => h' = [.inr (0, [.ref 1, .ref 8, .ref 12, .null, .null, .null, .null, .null]), .inr (1, [.ref 2, .ref 3, .ref 4, .ref 5, .ref 6, .ref 7]), .inl (.boolean, 4, fun _ => 0), .inl (.int, 4, fun _ => 0), .inl (.int, 4, fun _ => 0), .inl (.int, 12, fun _ => 0), .inl (.int, 12, fl 12 (-1000) (fun _ => 0)), .inl (.int, 12, fl 12 1000 (fun _ => 0)), .inr (2, [.ref 1, .ref 9, .ref 10, .ref 11, .int 0]), .inl (.int, 24, fun _ => 0), .inl (.int, 72, fun _ => 0), .inl (.int, 48, fun _ => 0), .inr (3, [.ref 8, .ref 13, .ref 14, .int 0]), .inl (.int, 24, fun _ => 0), .inl (.boolean, 24, fun _ => 0), .inr (4, [.ref 8, .ref 16, .ref 17, .ref 18, .int 0]), .inl (.int, 24, fun _ => 0), .inl (.int, 24, fun _ => 0), .inl (.int, 24, fun _ => 0)] ∧ v = none) := by
  refine ⟨rfl, rfl, ?_⟩
  refine ev_aload_n (mm_call_mono (d + 0)) rfl rfl ?_
  refine ev_objinit (mm_call_mono (d + 0)) rfl (Nat.le_of_ble_eq_true rfl) ?_
  refine ev_aload_n (mm_call_mono (d + 0)) rfl rfl ?_
  refine ev_bipush (mm_call_mono (d + 0)) rfl ?_
  refine ev_newarray (mm_call_mono (d + 0)) rfl (by decide) (by decide) (Nat.le_of_ble_eq_true rfl) (Nat.le_of_ble_eq_true rfl) rfl ?_
  refine ev_putfield (mm_call_mono (d + 0)) rfl rfl (Nat.le_of_ble_eq_true rfl) rfl ?_
  refine ev_aload_n (mm_call_mono (d + 0)) rfl rfl ?_
  refine ev_bipush (mm_call_mono (d + 0)) rfl ?_
  refine ev_newarray (mm_call_mono (d + 0)) rfl (by decide) (by decide) (Nat.le_of_ble_eq_true rfl) (Nat.le_of_ble_eq_true rfl) rfl ?_
  refine ev_putfield (mm_call_mono (d + 0)) rfl rfl (Nat.le_of_ble_eq_true rfl) rfl ?_
  refine ev_aload_n (mm_call_mono (d + 0)) rfl rfl ?_
  refine ev_bipush (mm_call_mono (d + 0)) rfl ?_
  refine ev_newarray (mm_call_mono (d + 0)) rfl (by decide) (by decide) (Nat.le_of_ble_eq_true rfl) (Nat.le_of_ble_eq_true rfl) rfl ?_
  refine ev_putfield (mm_call_mono (d + 0)) rfl rfl (Nat.le_of_ble_eq_true rfl) rfl ?_
  refine ev_aload_n (mm_call_mono (d + 0)) rfl rfl ?_
  refine ev_aload_n (mm_call_mono (d + 0)) rfl rfl ?_
  refine ev_putfield (mm_call_mono (d + 0)) rfl rfl (Nat.le_of_ble_eq_true rfl) rfl ?_
  exact ev_return (mm_call_mono (d + 0)) rfl rfl 19 (Nat.le_of_ble_eq_true rfl) ⟨rfl, rfl⟩
set_option maxRecDepth 100000 in
set_option maxHeartbeats 4000000 in
theorem ct_48_19 {xs : Nat × (Nat → Int32)} {d : Nat} : mm_call tmi ttb tdf xs (d + 1) 48 [.inr (0, [.ref 1, .ref 8, .ref 12, .ref 15, .null, .null, .null, .null]), .inr (1, [.ref 2, .ref 3, .ref 4, .ref 5, .ref 6, .ref 7]), .inl (.boolean, 4, fun _ => 0), .inl (.int, 4, fun _ => 0), .inl (.int, 4, fun _ => 0), .inl (.int, 12, fun _ => 0), .inl (.int, 12, fl 12 (-1000) (fun _ => 0)), .inl (.int, 12, fl 12 1000 (fun _ => 0)), .inr (2, [.ref 1, .ref 9, .ref 10, .ref 11, .int 0]), .inl (.int, 24, fun _ => 0), .inl (.int, 72, fun _ => 0), .inl (.int, 48, fun _ => 0), .inr (3, [.ref 8, .ref 13, .ref 14, .int 0]), .inl (.int, 24, fun _ => 0), .inl (.boolean, 24, fun _ => 0), .inr (4, [.ref 8, .ref 16, .ref 17, .ref 18, .int 0]), .inl (.int, 24, fun _ => 0), .inl (.int, 24, fun _ => 0), .inl (.int, 24, fun _ => 0), .inr (5, [.null, .int 0])] [.ref 19] (fun h' v => h' = [.inr (0, [.ref 1, .ref 8, .ref 12, .ref 15, .null, .null, .null, .null]), .inr (1, [.ref 2, .ref 3, .ref 4, .ref 5, .ref 6, .ref 7]), .inl (.boolean, 4, fun _ => 0), .inl (.int, 4, fun _ => 0), .inl (.int, 4, fun _ => 0), .inl (.int, 12, fun _ => 0), .inl (.int, 12, fl 12 (-1000) (fun _ => 0)), .inl (.int, 12, fl 12 1000 (fun _ => 0)), .inr (2, [.ref 1, .ref 9, .ref 10, .ref 11, .int 0]), .inl (.int, 24, fun _ => 0), .inl (.int, 72, fun _ => 0), .inl (.int, 48, fun _ => 0), .inr (3, [.ref 8, .ref 13, .ref 14, .int 0]), .inl (.int, 24, fun _ => 0), .inl (.boolean, 24, fun _ => 0), .inr (4, [.ref 8, .ref 16, .ref 17, .ref 18, .int 0]), .inl (.int, 24, fun _ => 0), .inl (.int, 24, fun _ => 0), .inl (.int, 24, fun _ => 0), .inr (5, [.ref 20, .int 0]), .inl (.char, 300, fun _ => 0)] ∧ v = none) := by
  refine ⟨rfl, rfl, ?_⟩
  refine ev_aload_n (mm_call_mono (d + 0)) rfl rfl ?_
  refine ev_objinit (mm_call_mono (d + 0)) rfl (Nat.le_of_ble_eq_true rfl) ?_
  refine ev_aload_n (mm_call_mono (d + 0)) rfl rfl ?_
  refine ev_sipush (mm_call_mono (d + 0)) rfl ?_
  refine ev_newarray (mm_call_mono (d + 0)) rfl (by decide) (by decide) (Nat.le_of_ble_eq_true rfl) (Nat.le_of_ble_eq_true rfl) rfl ?_
  refine ev_putfield (mm_call_mono (d + 0)) rfl rfl (Nat.le_of_ble_eq_true rfl) rfl ?_
  exact ev_return (mm_call_mono (d + 0)) rfl rfl 21 (Nat.le_of_ble_eq_true rfl) ⟨rfl, rfl⟩
set_option maxRecDepth 100000 in
set_option maxHeartbeats 4000000 in
theorem ct_48_22 {xs : Nat × (Nat → Int32)} {d : Nat} : mm_call tmi ttb tdf xs (d + 1) 48 [.inr (0, [.ref 1, .ref 8, .ref 12, .ref 15, .ref 19, .null, .null, .null]), .inr (1, [.ref 2, .ref 3, .ref 4, .ref 5, .ref 6, .ref 7]), .inl (.boolean, 4, fun _ => 0), .inl (.int, 4, fun _ => 0), .inl (.int, 4, fun _ => 0), .inl (.int, 12, fun _ => 0), .inl (.int, 12, fl 12 (-1000) (fun _ => 0)), .inl (.int, 12, fl 12 1000 (fun _ => 0)), .inr (2, [.ref 1, .ref 9, .ref 10, .ref 11, .int 0]), .inl (.int, 24, fun _ => 0), .inl (.int, 72, fun _ => 0), .inl (.int, 48, fun _ => 0), .inr (3, [.ref 8, .ref 13, .ref 14, .int 0]), .inl (.int, 24, fun _ => 0), .inl (.boolean, 24, fun _ => 0), .inr (4, [.ref 8, .ref 16, .ref 17, .ref 18, .int 0]), .inl (.int, 24, fun _ => 0), .inl (.int, 24, fun _ => 0), .inl (.int, 24, fun _ => 0), .inr (5, [.ref 20, .int 0]), .inl (.char, 300, fun _ => 0), .inr (6, [.null, .null, .null, .null, .null, .null, .null, .int 0, .int 0, .int 0, .int 0]), .inr (5, [.null, .int 0])] [.ref 22] (fun h' v => h' = [.inr (0, [.ref 1, .ref 8, .ref 12, .ref 15, .ref 19, .null, .null, .null]), .inr (1, [.ref 2, .ref 3, .ref 4, .ref 5, .ref 6, .ref 7]), .inl (.boolean, 4, fun _ => 0), .inl (.int, 4, fun _ => 0), .inl (.int, 4, fun _ => 0), .inl (.int, 12, fun _ => 0), .inl (.int, 12, fl 12 (-1000) (fun _ => 0)), .inl (.int, 12, fl 12 1000 (fun _ => 0)), .inr (2, [.ref 1, .ref 9, .ref 10, .ref 11, .int 0]), .inl (.int, 24, fun _ => 0), .inl (.int, 72, fun _ => 0), .inl (.int, 48, fun _ => 0), .inr (3, [.ref 8, .ref 13, .ref 14, .int 0]), .inl (.int, 24, fun _ => 0), .inl (.boolean, 24, fun _ => 0), .inr (4, [.ref 8, .ref 16, .ref 17, .ref 18, .int 0]), .inl (.int, 24, fun _ => 0), .inl (.int, 24, fun _ => 0), .inl (.int, 24, fun _ => 0), .inr (5, [.ref 20, .int 0]), .inl (.char, 300, fun _ => 0), .inr (6, [.null, .null, .null, .null, .null, .null, .null, .int 0, .int 0, .int 0, .int 0]), .inr (5, [.ref 23, .int 0]), .inl (.char, 300, fun _ => 0)] ∧ v = none) := by
  refine ⟨rfl, rfl, ?_⟩
  refine ev_aload_n (mm_call_mono (d + 0)) rfl rfl ?_
  refine ev_objinit (mm_call_mono (d + 0)) rfl (Nat.le_of_ble_eq_true rfl) ?_
  refine ev_aload_n (mm_call_mono (d + 0)) rfl rfl ?_
  refine ev_sipush (mm_call_mono (d + 0)) rfl ?_
  refine ev_newarray (mm_call_mono (d + 0)) rfl (by decide) (by decide) (Nat.le_of_ble_eq_true rfl) (Nat.le_of_ble_eq_true rfl) rfl ?_
  refine ev_putfield (mm_call_mono (d + 0)) rfl rfl (Nat.le_of_ble_eq_true rfl) rfl ?_
  exact ev_return (mm_call_mono (d + 0)) rfl rfl 24 (Nat.le_of_ble_eq_true rfl) ⟨rfl, rfl⟩
set_option maxRecDepth 100000 in
set_option maxHeartbeats 4000000 in
theorem ct_52_21 {xs : Nat × (Nat → Int32)} {d : Nat} : mm_call tmi ttb tdf xs (d + 2) 52 [.inr (0, [.ref 1, .ref 8, .ref 12, .ref 15, .ref 19, .null, .null, .null]), .inr (1, [.ref 2, .ref 3, .ref 4, .ref 5, .ref 6, .ref 7]), .inl (.boolean, 4, fun _ => 0), .inl (.int, 4, fun _ => 0), .inl (.int, 4, fun _ => 0), .inl (.int, 12, fun _ => 0), .inl (.int, 12, fl 12 (-1000) (fun _ => 0)), .inl (.int, 12, fl 12 1000 (fun _ => 0)), .inr (2, [.ref 1, .ref 9, .ref 10, .ref 11, .int 0]), .inl (.int, 24, fun _ => 0), .inl (.int, 72, fun _ => 0), .inl (.int, 48, fun _ => 0), .inr (3, [.ref 8, .ref 13, .ref 14, .int 0]), .inl (.int, 24, fun _ => 0), .inl (.boolean, 24, fun _ => 0), .inr (4, [.ref 8, .ref 16, .ref 17, .ref 18, .int 0]), .inl (.int, 24, fun _ => 0), .inl (.int, 24, fun _ => 0), .inl (.int, 24, fun _ => 0), .inr (5, [.ref 20, .int 0]), .inl (.char, 300, fun _ => 0), .inr (6, [.null, .null, .null, .null, .null, .null, .null, .int 0, .int 0, .int 0, .int 0])] [.ref 21, .ref 1, .ref 8, .ref 12] (fun h' v => h' = [.inr (0, [.ref 1, .ref 8, .ref 12, .ref 15, .ref 19, .null, .null, .null]), .inr (1, [.ref 2, .ref 3, .ref 4, .ref 5, .ref 6, .ref 7]), .inl (.boolean, 4, fun _ => 0), .inl (.int, 4, fun _ => 0), .inl (.int, 4, fun _ => 0), .inl (.int, 12, fun _ => 0), .inl (.int, 12, fl 12 (-1000) (fun _ => 0)), .inl (.int, 12, fl 12 1000 (fun _ => 0)), .inr (2, [.ref 1, .ref 9, .ref 10, .ref 11, .int 0]), .inl (.int, 24, fun _ => 0), .inl (.int, 72, fun _ => 0), .inl (.int, 48, fun _ => 0), .inr (3, [.ref 8, .ref 13, .ref 14, .int 0]), .inl (.int, 24, fun _ => 0), .inl (.boolean, 24, fun _ => 0), .inr (4, [.ref 8, .ref 16, .ref 17, .ref 18, .int 0]), .inl (.int, 24, fun _ => 0), .inl (.int, 24, fun _ => 0), .inl (.int, 24, fun _ => 0), .inr (5, [.ref 20, .int 0]), .inl (.char, 300, fun _ => 0), .inr (6, [.ref 1, .ref 8, .ref 12, .ref 22, .ref 24, .ref 25, .ref 26, .int 0, .int 0, .int 0, .int 0]), .inr (5, [.ref 23, .int 0]), .inl (.char, 300, fun _ => 0), .inl (.int, 24, fun _ => 0), .inl (.int, 24, fun _ => 0), .inl (.boolean, 24, fun _ => 0)] ∧ v = none) := by
  refine ⟨rfl, rfl, ?_⟩
  refine ev_aload_n (mm_call_mono (d + 1)) rfl rfl ?_
  refine ev_objinit (mm_call_mono (d + 1)) rfl (Nat.le_of_ble_eq_true rfl) ?_
  refine ev_aload_n (mm_call_mono (d + 1)) rfl rfl ?_
  refine ev_new (mm_call_mono (d + 1)) rfl (Nat.le_of_ble_eq_true rfl) (Nat.le_of_ble_eq_true rfl) rfl ?_
  refine ev_dup (mm_call_mono (d + 1)) rfl rfl ?_
  refine ev_special (mm_call_mono (d + 1)) rfl ⟨_, _, rfl⟩ (Nat.le_of_ble_eq_true rfl) (Nat.le_of_ble_eq_true rfl) (Nat.le_of_ble_eq_true rfl) (Nat.le_of_ble_eq_true rfl) (Or.inr rfl) (ct_48_22 (d := d + 0)) (fun h' v hv => ?_)
  obtain ⟨rfl, rfl⟩ := hv
  refine ev_putfield (mm_call_mono (d + 1)) rfl rfl (Nat.le_of_ble_eq_true rfl) rfl ?_
  refine ev_aload_n (mm_call_mono (d + 1)) rfl rfl ?_
  refine ev_bipush (mm_call_mono (d + 1)) rfl ?_
  refine ev_newarray (mm_call_mono (d + 1)) rfl (by decide) (by decide) (Nat.le_of_ble_eq_true rfl) (Nat.le_of_ble_eq_true rfl) rfl ?_
  refine ev_putfield (mm_call_mono (d + 1)) rfl rfl (Nat.le_of_ble_eq_true rfl) rfl ?_
  refine ev_aload_n (mm_call_mono (d + 1)) rfl rfl ?_
  refine ev_bipush (mm_call_mono (d + 1)) rfl ?_
  refine ev_newarray (mm_call_mono (d + 1)) rfl (by decide) (by decide) (Nat.le_of_ble_eq_true rfl) (Nat.le_of_ble_eq_true rfl) rfl ?_
  refine ev_putfield (mm_call_mono (d + 1)) rfl rfl (Nat.le_of_ble_eq_true rfl) rfl ?_
  refine ev_aload_n (mm_call_mono (d + 1)) rfl rfl ?_
  refine ev_bipush (mm_call_mono (d + 1)) rfl ?_
  refine ev_newarray (mm_call_mono (d + 1)) rfl (by decide) (by decide) (Nat.le_of_ble_eq_true rfl) (Nat.le_of_ble_eq_true rfl) rfl ?_
  refine ev_putfield (mm_call_mono (d + 1)) rfl rfl (Nat.le_of_ble_eq_true rfl) rfl ?_
  refine ev_aload_n (mm_call_mono (d + 1)) rfl rfl ?_
  refine ev_aload_n (mm_call_mono (d + 1)) rfl rfl ?_
  refine ev_putfield (mm_call_mono (d + 1)) rfl rfl (Nat.le_of_ble_eq_true rfl) rfl ?_
  refine ev_aload_n (mm_call_mono (d + 1)) rfl rfl ?_
  refine ev_aload_n (mm_call_mono (d + 1)) rfl rfl ?_
  refine ev_putfield (mm_call_mono (d + 1)) rfl rfl (Nat.le_of_ble_eq_true rfl) rfl ?_
  refine ev_aload_n (mm_call_mono (d + 1)) rfl rfl ?_
  refine ev_aload_n (mm_call_mono (d + 1)) rfl rfl ?_
  refine ev_putfield (mm_call_mono (d + 1)) rfl rfl (Nat.le_of_ble_eq_true rfl) rfl ?_
  exact ev_return (mm_call_mono (d + 1)) rfl rfl 27 (Nat.le_of_ble_eq_true rfl) ⟨rfl, rfl⟩
set_option maxRecDepth 100000 in
set_option maxHeartbeats 4000000 in
theorem ct_61_27 {xs : Nat × (Nat → Int32)} {d : Nat} : mm_call tmi ttb tdf xs (d + 1) 61 [.inr (0, [.ref 1, .ref 8, .ref 12, .ref 15, .ref 19, .ref 21, .null, .null]), .inr (1, [.ref 2, .ref 3, .ref 4, .ref 5, .ref 6, .ref 7]), .inl (.boolean, 4, fun _ => 0), .inl (.int, 4, fun _ => 0), .inl (.int, 4, fun _ => 0), .inl (.int, 12, fun _ => 0), .inl (.int, 12, fl 12 (-1000) (fun _ => 0)), .inl (.int, 12, fl 12 1000 (fun _ => 0)), .inr (2, [.ref 1, .ref 9, .ref 10, .ref 11, .int 0]), .inl (.int, 24, fun _ => 0), .inl (.int, 72, fun _ => 0), .inl (.int, 48, fun _ => 0), .inr (3, [.ref 8, .ref 13, .ref 14, .int 0]), .inl (.int, 24, fun _ => 0), .inl (.boolean, 24, fun _ => 0), .inr (4, [.ref 8, .ref 16, .ref 17, .ref 18, .int 0]), .inl (.int, 24, fun _ => 0), .inl (.int, 24, fun _ => 0), .inl (.int, 24, fun _ => 0), .inr (5, [.ref 20, .int 0]), .inl (.char, 300, fun _ => 0), .inr (6, [.ref 1, .ref 8, .ref 12, .ref 22, .ref 24, .ref 25, .ref 26, .int 0, .int 0, .int 0, .int 0]), .inr (5, [.ref 23, .int 0]), .inl (.char, 300, fun _ => 0), .inl (.int, 24, fun _ => 0), .inl (.int, 24, fun _ => 0), .inl (.boolean, 24, fun _ => 0), .inr (7, [.null, .int 0, .int 0, .int 0])] [.ref 27, .ref 19] (fun h' v => h' = [.inr (0, [.ref 1, .ref 8, .ref 12, .ref 15, .ref 19, .ref 21, .null, .null]), .inr (1, [.ref 2, .ref 3, .ref 4, .ref 5, .ref 6, .ref 7]), .inl (.boolean, 4, fun _ => 0), .inl (.int, 4, fun _ => 0), .inl (.int, 4, fun _ => 0), .inl (.int, 12, fun _ => 0), .inl (.int, 12, fl 12 (-1000) (fun _ => 0)), .inl (.int, 12, fl 12 1000 (fun _ => 0)), .inr (2, [.ref 1, .ref 9, .ref 10, .ref 11, .int 0]), .inl (.int, 24, fun _ => 0), .inl (.int, 72, fun _ => 0), .inl (.int, 48, fun _ => 0), .inr (3, [.ref 8, .ref 13, .ref 14, .int 0]), .inl (.int, 24, fun _ => 0), .inl (.boolean, 24, fun _ => 0), .inr (4, [.ref 8, .ref 16, .ref 17, .ref 18, .int 0]), .inl (.int, 24, fun _ => 0), .inl (.int, 24, fun _ => 0), .inl (.int, 24, fun _ => 0), .inr (5, [.ref 20, .int 0]), .inl (.char, 300, fun _ => 0), .inr (6, [.ref 1, .ref 8, .ref 12, .ref 22, .ref 24, .ref 25, .ref 26, .int 0, .int 0, .int 0, .int 0]), .inr (5, [.ref 23, .int 0]), .inl (.char, 300, fun _ => 0), .inl (.int, 24, fun _ => 0), .inl (.int, 24, fun _ => 0), .inl (.boolean, 24, fun _ => 0), .inr (7, [.ref 19, .int 0, .int 0, .int 0])] ∧ v = none) := by
  refine ⟨rfl, rfl, ?_⟩
  refine ev_aload_n (mm_call_mono (d + 0)) rfl rfl ?_
  refine ev_objinit (mm_call_mono (d + 0)) rfl (Nat.le_of_ble_eq_true rfl) ?_
  refine ev_aload_n (mm_call_mono (d + 0)) rfl rfl ?_
  refine ev_aload_n (mm_call_mono (d + 0)) rfl rfl ?_
  refine ev_putfield (mm_call_mono (d + 0)) rfl rfl (Nat.le_of_ble_eq_true rfl) rfl ?_
  exact ev_return (mm_call_mono (d + 0)) rfl rfl 28 (Nat.le_of_ble_eq_true rfl) ⟨rfl, rfl⟩
set_option maxRecDepth 100000 in
set_option maxHeartbeats 4000000 in
theorem ct_73_28 {xs : Nat × (Nat → Int32)} {d : Nat} : mm_call tmi ttb tdf xs (d + 1) 73 [.inr (0, [.ref 1, .ref 8, .ref 12, .ref 15, .ref 19, .ref 21, .ref 27, .null]), .inr (1, [.ref 2, .ref 3, .ref 4, .ref 5, .ref 6, .ref 7]), .inl (.boolean, 4, fun _ => 0), .inl (.int, 4, fun _ => 0), .inl (.int, 4, fun _ => 0), .inl (.int, 12, fun _ => 0), .inl (.int, 12, fl 12 (-1000) (fun _ => 0)), .inl (.int, 12, fl 12 1000 (fun _ => 0)), .inr (2, [.ref 1, .ref 9, .ref 10, .ref 11, .int 0]), .inl (.int, 24, fun _ => 0), .inl (.int, 72, fun _ => 0), .inl (.int, 48, fun _ => 0), .inr (3, [.ref 8, .ref 13, .ref 14, .int 0]), .inl (.int, 24, fun _ => 0), .inl (.boolean, 24, fun _ => 0), .inr (4, [.ref 8, .ref 16, .ref 17, .ref 18, .int 0]), .inl (.int, 24, fun _ => 0), .inl (.int, 24, fun _ => 0), .inl (.int, 24, fun _ => 0), .inr (5, [.ref 20, .int 0]), .inl (.char, 300, fun _ => 0), .inr (6, [.ref 1, .ref 8, .ref 12, .ref 22, .ref 24, .ref 25, .ref 26, .int 0, .int 0, .int 0, .int 0]), .inr (5, [.ref 23, .int 0]), .inl (.char, 300, fun _ => 0), .inl (.int, 24, fun _ => 0), .inl (.int, 24, fun _ => 0), .inl (.boolean, 24, fun _ => 0), .inr (7, [.ref 19, .int 0, .int 0, .int 0]), .inr (8, [.null, .null, .null, .null, .int 0, .int 0])] [.ref 28, .ref 8, .ref 19] (fun h' v => h' = [.inr (0, [.ref 1, .ref 8, .ref 12, .ref 15, .ref 19, .ref 21, .ref 27, .null]), .inr (1, [.ref 2, .ref 3, .ref 4, .ref 5, .ref 6, .ref 7]), .inl (.boolean, 4, fun _ => 0), .inl (.int, 4, fun _ => 0), .inl (.int, 4, fun _ => 0), .inl (.int, 12, fun _ => 0), .inl (.int, 12, fl 12 (-1000) (fun _ => 0)), .inl (.int, 12, fl 12 1000 (fun _ => 0)), .inr (2, [.ref 1, .ref 9, .ref 10, .ref 11, .int 0]), .inl (.int, 24, fun _ => 0), .inl (.int, 72, fun _ => 0), .inl (.int, 48, fun _ => 0), .inr (3, [.ref 8, .ref 13, .ref 14, .int 0]), .inl (.int, 24, fun _ => 0), .inl (.boolean, 24, fun _ => 0), .inr (4, [.ref 8, .ref 16, .ref 17, .ref 18, .int 0]), .inl (.int, 24, fun _ => 0), .inl (.int, 24, fun _ => 0), .inl (.int, 24, fun _ => 0), .inr (5, [.ref 20, .int 0]), .inl (.char, 300, fun _ => 0), .inr (6, [.ref 1, .ref 8, .ref 12, .ref 22, .ref 24, .ref 25, .ref 26, .int 0, .int 0, .int 0, .int 0]), .inr (5, [.ref 23, .int 0]), .inl (.char, 300, fun _ => 0), .inl (.int, 24, fun _ => 0), .inl (.int, 24, fun _ => 0), .inl (.boolean, 24, fun _ => 0), .inr (7, [.ref 19, .int 0, .int 0, .int 0]), .inr (8, [.ref 8, .ref 19, .ref 29, .ref 30, .int 0, .int 0]), .inl (.int, 100, fun _ => 0), .inl (.int, 300, fun _ => 0)] ∧ v = none) := by
  refine ⟨rfl, rfl, ?_⟩
  refine ev_aload_n (mm_call_mono (d + 0)) rfl rfl ?_
  refine ev_objinit (mm_call_mono (d + 0)) rfl (Nat.le_of_ble_eq_true rfl) ?_
  refine ev_aload_n (mm_call_mono (d + 0)) rfl rfl ?_
  refine ev_bipush (mm_call_mono (d + 0)) rfl ?_
  refine ev_newarray (mm_call_mono (d + 0)) rfl (by decide) (by decide) (Nat.le_of_ble_eq_true rfl) (Nat.le_of_ble_eq_true rfl) rfl ?_
  refine ev_putfield (mm_call_mono (d + 0)) rfl rfl (Nat.le_of_ble_eq_true rfl) rfl ?_
  refine ev_aload_n (mm_call_mono (d + 0)) rfl rfl ?_
  refine ev_sipush (mm_call_mono (d + 0)) rfl ?_
  refine ev_newarray (mm_call_mono (d + 0)) rfl (by decide) (by decide) (Nat.le_of_ble_eq_true rfl) (Nat.le_of_ble_eq_true rfl) rfl ?_
  refine ev_putfield (mm_call_mono (d + 0)) rfl rfl (Nat.le_of_ble_eq_true rfl) rfl ?_
  refine ev_aload_n (mm_call_mono (d + 0)) rfl rfl ?_
  refine ev_aload_n (mm_call_mono (d + 0)) rfl rfl ?_
  refine ev_putfield (mm_call_mono (d + 0)) rfl rfl (Nat.le_of_ble_eq_true rfl) rfl ?_
  refine ev_aload_n (mm_call_mono (d + 0)) rfl rfl ?_
  refine ev_aload_n (mm_call_mono (d + 0)) rfl rfl ?_
  refine ev_putfield (mm_call_mono (d + 0)) rfl rfl (Nat.le_of_ble_eq_true rfl) rfl ?_
  exact ev_return (mm_call_mono (d + 0)) rfl rfl 31 (Nat.le_of_ble_eq_true rfl) ⟨rfl, rfl⟩
set_option maxRecDepth 100000 in
set_option maxHeartbeats 4000000 in
theorem ct_1_0 {xs : Nat × (Nat → Int32)} {d : Nat} : mm_call tmi ttb tdf xs (d + 3) 1 [.inr (0, [.null, .null, .null, .null, .null, .null, .null, .null])] [.ref 0] (fun h' v => h' = [.inr (0, [.ref 1, .ref 8, .ref 12, .ref 15, .ref 19, .ref 21, .ref 27, .ref 28]), .inr (1, [.ref 2, .ref 3, .ref 4, .ref 5, .ref 6, .ref 7]), .inl (.boolean, 4, fun _ => 0), .inl (.int, 4, fun _ => 0), .inl (.int, 4, fun _ => 0), .inl (.int, 12, fun _ => 0), .inl (.int, 12, fl 12 (-1000) (fun _ => 0)), .inl (.int, 12, fl 12 1000 (fun _ => 0)), .inr (2, [.ref 1, .ref 9, .ref 10, .ref 11, .int 0]), .inl (.int, 24, fun _ => 0), .inl (.int, 72, fun _ => 0), .inl (.int, 48, fun _ => 0), .inr (3, [.ref 8, .ref 13, .ref 14, .int 0]), .inl (.int, 24, fun _ => 0), .inl (.boolean, 24, fun _ => 0), .inr (4, [.ref 8, .ref 16, .ref 17, .ref 18, .int 0]), .inl (.int, 24, fun _ => 0), .inl (.int, 24, fun _ => 0), .inl (.int, 24, fun _ => 0), .inr (5, [.ref 20, .int 0]), .inl (.char, 300, fun _ => 0), .inr (6, [.ref 1, .ref 8, .ref 12, .ref 22, .ref 24, .ref 25, .ref 26, .int 0, .int 0, .int 0, .int 0]), .inr (5, [.ref 23, .int 0]), .inl (.char, 300, fun _ => 0), .inl (.int, 24, fun _ => 0), .inl (.int, 24, fun _ => 0), .inl (.boolean, 24, fun _ => 0), .inr (7, [.ref 19, .int 0, .int 0, .int 0]), .inr (8, [.ref 8, .ref 19, .ref 29, .ref 30, .int 0, .int 0]), .inl (.int, 100, fun _ => 0), .inl (.int, 300, fun _ => 0)] ∧ v = none) := by
  refine ⟨rfl, rfl, ?_⟩
  refine ev_aload_n (mm_call_mono (d + 2)) rfl rfl ?_
  refine ev_objinit (mm_call_mono (d + 2)) rfl (Nat.le_of_ble_eq_true rfl) ?_
  refine ev_aload_n (mm_call_mono (d + 2)) rfl rfl ?_
  refine ev_new (mm_call_mono (d + 2)) rfl (Nat.le_of_ble_eq_true rfl) (Nat.le_of_ble_eq_true rfl) rfl ?_
  refine ev_dup (mm_call_mono (d + 2)) rfl rfl ?_
  refine ev_special (mm_call_mono (d + 2)) rfl ⟨_, _, rfl⟩ (Nat.le_of_ble_eq_true rfl) (Nat.le_of_ble_eq_true rfl) (Nat.le_of_ble_eq_true rfl) (Nat.le_of_ble_eq_true rfl) (Or.inr rfl) (ct_22_1 (d := d + 0)) (fun h' v hv => ?_)
  obtain ⟨rfl, rfl⟩ := hv
  refine ev_putfield (mm_call_mono (d + 2)) rfl rfl (Nat.le_of_ble_eq_true rfl) rfl ?_
  refine ev_aload_n (mm_call_mono (d + 2)) rfl rfl ?_
  refine ev_new (mm_call_mono (d + 2)) rfl (Nat.le_of_ble_eq_true rfl) (Nat.le_of_ble_eq_true rfl) rfl ?_
  refine ev_dup (mm_call_mono (d + 2)) rfl rfl ?_
  refine ev_aload_n (mm_call_mono (d + 2)) rfl rfl ?_
  refine ev_getfield (mm_call_mono (d + 2)) rfl rfl rfl ?_
  refine ev_special (mm_call_mono (d + 2)) rfl ⟨_, _, rfl⟩ (Nat.le_of_ble_eq_true rfl) (Nat.le_of_ble_eq_true rfl) (Nat.le_of_ble_eq_true rfl) (Nat.le_of_ble_eq_true rfl) (Or.inr rfl) (ct_30_8 (d := d + 1)) (fun h' v hv => ?_)
  obtain ⟨rfl, rfl⟩ := hv
  refine ev_putfield (mm_call_mono (d + 2)) rfl rfl (Nat.le_of_ble_eq_true rfl) rfl ?_
  refine ev_aload_n (mm_call_mono (d + 2)) rfl rfl ?_
  refine ev_new (mm_call_mono (d + 2)) rfl (Nat.le_of_ble_eq_true rfl) (Nat.le_of_ble_eq_true rfl) rfl ?_
  refine ev_dup (mm_call_mono (d + 2)) rfl rfl ?_
  refine ev_aload_n (mm_call_mono (d + 2)) rfl rfl ?_
  refine ev_getfield (mm_call_mono (d + 2)) rfl rfl rfl ?_
  refine ev_special (mm_call_mono (d + 2)) rfl ⟨_, _, rfl⟩ (Nat.le_of_ble_eq_true rfl) (Nat.le_of_ble_eq_true rfl) (Nat.le_of_ble_eq_true rfl) (Nat.le_of_ble_eq_true rfl) (Or.inr rfl) (ct_40_12 (d := d + 1)) (fun h' v hv => ?_)
  obtain ⟨rfl, rfl⟩ := hv
  refine ev_putfield (mm_call_mono (d + 2)) rfl rfl (Nat.le_of_ble_eq_true rfl) rfl ?_
  refine ev_aload_n (mm_call_mono (d + 2)) rfl rfl ?_
  refine ev_new (mm_call_mono (d + 2)) rfl (Nat.le_of_ble_eq_true rfl) (Nat.le_of_ble_eq_true rfl) rfl ?_
  refine ev_dup (mm_call_mono (d + 2)) rfl rfl ?_
  refine ev_aload_n (mm_call_mono (d + 2)) rfl rfl ?_
  refine ev_getfield (mm_call_mono (d + 2)) rfl rfl rfl ?_
  refine ev_special (mm_call_mono (d + 2)) rfl ⟨_, _, rfl⟩ (Nat.le_of_ble_eq_true rfl) (Nat.le_of_ble_eq_true rfl) (Nat.le_of_ble_eq_true rfl) (Nat.le_of_ble_eq_true rfl) (Or.inr rfl) (ct_43_15 (d := d + 1)) (fun h' v hv => ?_)
  obtain ⟨rfl, rfl⟩ := hv
  refine ev_putfield (mm_call_mono (d + 2)) rfl rfl (Nat.le_of_ble_eq_true rfl) rfl ?_
  refine ev_aload_n (mm_call_mono (d + 2)) rfl rfl ?_
  refine ev_new (mm_call_mono (d + 2)) rfl (Nat.le_of_ble_eq_true rfl) (Nat.le_of_ble_eq_true rfl) rfl ?_
  refine ev_dup (mm_call_mono (d + 2)) rfl rfl ?_
  refine ev_special (mm_call_mono (d + 2)) rfl ⟨_, _, rfl⟩ (Nat.le_of_ble_eq_true rfl) (Nat.le_of_ble_eq_true rfl) (Nat.le_of_ble_eq_true rfl) (Nat.le_of_ble_eq_true rfl) (Or.inr rfl) (ct_48_19 (d := d + 1)) (fun h' v hv => ?_)
  obtain ⟨rfl, rfl⟩ := hv
  refine ev_putfield (mm_call_mono (d + 2)) rfl rfl (Nat.le_of_ble_eq_true rfl) rfl ?_
  refine ev_aload_n (mm_call_mono (d + 2)) rfl rfl ?_
  refine ev_new (mm_call_mono (d + 2)) rfl (Nat.le_of_ble_eq_true rfl) (Nat.le_of_ble_eq_true rfl) rfl ?_
  refine ev_dup (mm_call_mono (d + 2)) rfl rfl ?_
  refine ev_aload_n (mm_call_mono (d + 2)) rfl rfl ?_
  refine ev_getfield (mm_call_mono (d + 2)) rfl rfl rfl ?_
  refine ev_aload_n (mm_call_mono (d + 2)) rfl rfl ?_
  refine ev_getfield (mm_call_mono (d + 2)) rfl rfl rfl ?_
  refine ev_aload_n (mm_call_mono (d + 2)) rfl rfl ?_
  refine ev_getfield (mm_call_mono (d + 2)) rfl rfl rfl ?_
  refine ev_special (mm_call_mono (d + 2)) rfl ⟨_, _, rfl⟩ (Nat.le_of_ble_eq_true rfl) (Nat.le_of_ble_eq_true rfl) (Nat.le_of_ble_eq_true rfl) (Nat.le_of_ble_eq_true rfl) (Or.inr rfl) (ct_52_21 (d := d + 0)) (fun h' v hv => ?_)
  obtain ⟨rfl, rfl⟩ := hv
  refine ev_putfield (mm_call_mono (d + 2)) rfl rfl (Nat.le_of_ble_eq_true rfl) rfl ?_
  refine ev_aload_n (mm_call_mono (d + 2)) rfl rfl ?_
  refine ev_new (mm_call_mono (d + 2)) rfl (Nat.le_of_ble_eq_true rfl) (Nat.le_of_ble_eq_true rfl) rfl ?_
  refine ev_dup (mm_call_mono (d + 2)) rfl rfl ?_
  refine ev_aload_n (mm_call_mono (d + 2)) rfl rfl ?_
  refine ev_getfield (mm_call_mono (d + 2)) rfl rfl rfl ?_
  refine ev_special (mm_call_mono (d + 2)) rfl ⟨_, _, rfl⟩ (Nat.le_of_ble_eq_true rfl) (Nat.le_of_ble_eq_true rfl) (Nat.le_of_ble_eq_true rfl) (Nat.le_of_ble_eq_true rfl) (Or.inr rfl) (ct_61_27 (d := d + 1)) (fun h' v hv => ?_)
  obtain ⟨rfl, rfl⟩ := hv
  refine ev_putfield (mm_call_mono (d + 2)) rfl rfl (Nat.le_of_ble_eq_true rfl) rfl ?_
  refine ev_aload_n (mm_call_mono (d + 2)) rfl rfl ?_
  refine ev_new (mm_call_mono (d + 2)) rfl (Nat.le_of_ble_eq_true rfl) (Nat.le_of_ble_eq_true rfl) rfl ?_
  refine ev_dup (mm_call_mono (d + 2)) rfl rfl ?_
  refine ev_aload_n (mm_call_mono (d + 2)) rfl rfl ?_
  refine ev_getfield (mm_call_mono (d + 2)) rfl rfl rfl ?_
  refine ev_aload_n (mm_call_mono (d + 2)) rfl rfl ?_
  refine ev_getfield (mm_call_mono (d + 2)) rfl rfl rfl ?_
  refine ev_special (mm_call_mono (d + 2)) rfl ⟨_, _, rfl⟩ (Nat.le_of_ble_eq_true rfl) (Nat.le_of_ble_eq_true rfl) (Nat.le_of_ble_eq_true rfl) (Nat.le_of_ble_eq_true rfl) (Or.inr rfl) (ct_73_28 (d := d + 1)) (fun h' v hv => ?_)
  obtain ⟨rfl, rfl⟩ := hv
  refine ev_putfield (mm_call_mono (d + 2)) rfl rfl (Nat.le_of_ble_eq_true rfl) rfl ?_
  exact ev_return (mm_call_mono (d + 2)) rfl rfl 31 (Nat.le_of_ble_eq_true rfl) ⟨rfl, rfl⟩
set_option maxRecDepth 100000 in
set_option maxHeartbeats 4000000 in
theorem ct_84_31 {xs : Nat × (Nat → Int32)} {d : Nat} : mm_call tmi ttb tdf xs (d + 1) 84 [.inr (0, [.ref 1, .ref 8, .ref 12, .ref 15, .ref 19, .ref 21, .ref 27, .ref 28]), .inr (1, [.ref 2, .ref 3, .ref 4, .ref 5, .ref 6, .ref 7]), .inl (.boolean, 4, fun _ => 0), .inl (.int, 4, fun _ => 0), .inl (.int, 4, fun _ => 0), .inl (.int, 12, fun _ => 0), .inl (.int, 12, fl 12 (-1000) (fun _ => 0)), .inl (.int, 12, fl 12 1000 (fun _ => 0)), .inr (2, [.ref 1, .ref 9, .ref 10, .ref 11, .int 0]), .inl (.int, 24, fun _ => 0), .inl (.int, 72, fun _ => 0), .inl (.int, 48, fun _ => 0), .inr (3, [.ref 8, .ref 13, .ref 14, .int 0]), .inl (.int, 24, fun _ => 0), .inl (.boolean, 24, fun _ => 0), .inr (4, [.ref 8, .ref 16, .ref 17, .ref 18, .int 0]), .inl (.int, 24, fun _ => 0), .inl (.int, 24, fun _ => 0), .inl (.int, 24, fun _ => 0), .inr (5, [.ref 20, .int 0]), .inl (.char, 300, fun _ => 0), .inr (6, [.ref 1, .ref 8, .ref 12, .ref 22, .ref 24, .ref 25, .ref 26, .int 0, .int 0, .int 0, .int 0]), .inr (5, [.ref 23, .int 0]), .inl (.char, 300, fun _ => 0), .inl (.int, 24, fun _ => 0), .inl (.int, 24, fun _ => 0), .inl (.boolean, 24, fun _ => 0), .inr (7, [.ref 19, .int 0, .int 0, .int 0]), .inr (8, [.ref 8, .ref 19, .ref 29, .ref 30, .int 0, .int 0]), .inl (.int, 100, fun _ => 0), .inl (.int, 300, fun _ => 0), .inr (9, [.null, .null, .null, .null, .null, .null, .int 0, .null, .null, .null, .null, .int 0, .null, .int 0, .null, .null, .null, .null, .null, .int 0, .int 0, .null, .null, .null, .int 0, .int 0, .int 0, .int 0, .int 0, .int 0, .int 0, .int 0, .int 0, .null, .int 0, .null])] [.ref 31] (fun h' v => h' = [.inr (0, [.ref 1, .ref 8, .ref 12, .ref 15, .ref 19, .ref 21, .ref 27, .ref 28]), .inr (1, [.ref 2, .ref 3, .ref 4, .ref 5, .ref 6, .ref 7]), .inl (.boolean, 4, fun _ => 0), .inl (.int, 4, fun _ => 0), .inl (.int, 4, fun _ => 0), .inl (.int, 12, fun _ => 0), .inl (.int, 12, fl 12 (-1000) (fun _ => 0)), .inl (.int, 12, fl 12 1000 (fun _ => 0)), .inr (2, [.ref 1, .ref 9, .ref 10, .ref 11, .int 0]), .inl (.int, 24, fun _ => 0), .inl (.int, 72, fun _ => 0), .inl (.int, 48, fun _ => 0), .inr (3, [.ref 8, .ref 13, .ref 14, .int 0]), .inl (.int, 24, fun _ => 0), .inl (.boolean, 24, fun _ => 0), .inr (4, [.ref 8, .ref 16, .ref 17, .ref 18, .int 0]), .inl (.int, 24, fun _ => 0), .inl (.int, 24, fun _ => 0), .inl (.int, 24, fun _ => 0), .inr (5, [.ref 20, .int 0]), .inl (.char, 300, fun _ => 0), .inr (6, [.ref 1, .ref 8, .ref 12, .ref 22, .ref 24, .ref 25, .ref 26, .int 0, .int 0, .int 0, .int 0]), .inr (5, [.ref 23, .int 0]), .inl (.char, 300, fun _ => 0), .inl (.int, 24, fun _ => 0), .inl (.int, 24, fun _ => 0), .inl (.boolean, 24, fun _ => 0), .inr (7, [.ref 19, .int 0, .int 0, .int 0]), .inr (8, [.ref 8, .ref 19, .ref 29, .ref 30, .int 0, .int 0]), .inl (.int, 100, fun _ => 0), .inl (.int, 300, fun _ => 0), .inr (9, [.ref 32, .ref 33, .ref 34, .ref 35, .ref 36, .ref 37, .int 0, .ref 38, .ref 39, .ref 40, .ref 41, .int 0, .ref 42, .int 0, .ref 43, .ref 44, .ref 45, .ref 46, .ref 47, .int 0, .int 0, .ref 48, .ref 49, .ref 50, .int 0, .int 0, .int 0, .int 0, .int 0, .int 0, .int 0, .int 0, .int 0, .ref 51, .int 0, .ref 52]), .inl (.boolean, 4, fun _ => 0), .inl (.int, 4, fun _ => 0), .inl (.int, 4, fun _ => 0), .inl (.int, 12, fun _ => 0), .inl (.int, 12, fun _ => 0), .inl (.int, 12, fun _ => 0), .inl (.int, 24, fun _ => 0), .inl (.int, 72, fun _ => 0), .inl (.int, 48, fun _ => 0), .inl (.int, 300, fun _ => 0), .inl (.int, 300, fun _ => 0), .inl (.boolean, 24, fun _ => 0), .inl (.int, 24, fun _ => 0), .inl (.int, 24, fun _ => 0), .inl (.int, 24, fun _ => 0), .inl (.boolean, 24, fun _ => 0), .inl (.int, 25, fun _ => 0), .inl (.int, 25, fun _ => 0), .inl (.int, 25, fun _ => 0), .inl (.int, 100, fun _ => 0), .inl (.int, 300, fun _ => 0)] ∧ v = none) := by
  refine ⟨rfl, rfl, ?_⟩
  refine ev_aload_n (mm_call_mono (d + 0)) rfl rfl ?_
  refine ev_objinit (mm_call_mono (d + 0)) rfl (Nat.le_of_ble_eq_true rfl) ?_
  refine ev_aload_n (mm_call_mono (d + 0)) rfl rfl ?_
  refine ev_iconst (mm_call_mono (d + 0)) rfl ?_
  refine ev_newarray (mm_call_mono (d + 0)) rfl (by decide) (by decide) (Nat.le_of_ble_eq_true rfl) (Nat.le_of_ble_eq_true rfl) rfl ?_
  refine ev_putfield (mm_call_mono (d + 0)) rfl rfl (Nat.le_of_ble_eq_true rfl) rfl ?_
  refine ev_aload_n (mm_call_mono (d + 0)) rfl rfl ?_
  refine ev_iconst (mm_call_mono (d + 0)) rfl ?_
  refine ev_newarray (mm_call_mono (d + 0)) rfl (by decide) (by decide) (Nat.le_of_ble_eq_true rfl) (Nat.le_of_ble_eq_true rfl) rfl ?_
  refine ev_putfield (mm_call_mono (d + 0)) rfl rfl (Nat.le_of_ble_eq_true rfl) rfl ?_
  refine ev_aload_n (mm_call_mono (d + 0)) rfl rfl ?_
  refine ev_iconst (mm_call_mono (d + 0)) rfl ?_
  refine ev_newarray (mm_call_mono (d + 0)) rfl (by decide) (by decide) (Nat.le_of_ble_eq_true rfl) (Nat.le_of_ble_eq_true rfl) rfl ?_
  refine ev_putfield (mm_call_mono (d + 0)) rfl rfl (Nat.le_of_ble_eq_true rfl) rfl ?_
  refine ev_aload_n (mm_call_mono (d + 0)) rfl rfl ?_
  refine ev_bipush (mm_call_mono (d + 0)) rfl ?_
  refine ev_newarray (mm_call_mono (d + 0)) rfl (by decide) (by decide) (Nat.le_of_ble_eq_true rfl) (Nat.le_of_ble_eq_true rfl) rfl ?_
  refine ev_putfield (mm_call_mono (d + 0)) rfl rfl (Nat.le_of_ble_eq_true rfl) rfl ?_
  refine ev_aload_n (mm_call_mono (d + 0)) rfl rfl ?_
  refine ev_bipush (mm_call_mono (d + 0)) rfl ?_
  refine ev_newarray (mm_call_mono (d + 0)) rfl (by decide) (by decide) (Nat.le_of_ble_eq_true rfl) (Nat.le_of_ble_eq_true rfl) rfl ?_
  refine ev_putfield (mm_call_mono (d + 0)) rfl rfl (Nat.le_of_ble_eq_true rfl) rfl ?_
  refine ev_aload_n (mm_call_mono (d + 0)) rfl rfl ?_
  refine ev_bipush (mm_call_mono (d + 0)) rfl ?_
  refine ev_newarray (mm_call_mono (d + 0)) rfl (by decide) (by decide) (Nat.le_of_ble_eq_true rfl) (Nat.le_of_ble_eq_true rfl) rfl ?_
  refine ev_putfield (mm_call_mono (d + 0)) rfl rfl (Nat.le_of_ble_eq_true rfl) rfl ?_
  refine ev_aload_n (mm_call_mono (d + 0)) rfl rfl ?_
  refine ev_bipush (mm_call_mono (d + 0)) rfl ?_
  refine ev_newarray (mm_call_mono (d + 0)) rfl (by decide) (by decide) (Nat.le_of_ble_eq_true rfl) (Nat.le_of_ble_eq_true rfl) rfl ?_
  refine ev_putfield (mm_call_mono (d + 0)) rfl rfl (Nat.le_of_ble_eq_true rfl) rfl ?_
  refine ev_aload_n (mm_call_mono (d + 0)) rfl rfl ?_
  refine ev_bipush (mm_call_mono (d + 0)) rfl ?_
  refine ev_newarray (mm_call_mono (d + 0)) rfl (by decide) (by decide) (Nat.le_of_ble_eq_true rfl) (Nat.le_of_ble_eq_true rfl) rfl ?_
  refine ev_putfield (mm_call_mono (d + 0)) rfl rfl (Nat.le_of_ble_eq_true rfl) rfl ?_
  refine ev_aload_n (mm_call_mono (d + 0)) rfl rfl ?_
  refine ev_bipush (mm_call_mono (d + 0)) rfl ?_
  refine ev_newarray (mm_call_mono (d + 0)) rfl (by decide) (by decide) (Nat.le_of_ble_eq_true rfl) (Nat.le_of_ble_eq_true rfl) rfl ?_
  refine ev_putfield (mm_call_mono (d + 0)) rfl rfl (Nat.le_of_ble_eq_true rfl) rfl ?_
  refine ev_aload_n (mm_call_mono (d + 0)) rfl rfl ?_
  refine ev_sipush (mm_call_mono (d + 0)) rfl ?_
  refine ev_newarray (mm_call_mono (d + 0)) rfl (by decide) (by decide) (Nat.le_of_ble_eq_true rfl) (Nat.le_of_ble_eq_true rfl) rfl ?_
  refine ev_putfield (mm_call_mono (d + 0)) rfl rfl (Nat.le_of_ble_eq_true rfl) rfl ?_
  refine ev_aload_n (mm_call_mono (d + 0)) rfl rfl ?_
  refine ev_sipush (mm_call_mono (d + 0)) rfl ?_
  refine ev_newarray (mm_call_mono (d + 0)) rfl (by decide) (by decide) (Nat.le_of_ble_eq_true rfl) (Nat.le_of_ble_eq_true rfl) rfl ?_
  refine ev_putfield (mm_call_mono (d + 0)) rfl rfl (Nat.le_of_ble_eq_true rfl) rfl ?_
  refine ev_aload_n (mm_call_mono (d + 0)) rfl rfl ?_
  refine ev_bipush (mm_call_mono (d + 0)) rfl ?_
  refine ev_newarray (mm_call_mono (d + 0)) rfl (by decide) (by decide) (Nat.le_of_ble_eq_true rfl) (Nat.le_of_ble_eq_true rfl) rfl ?_
  refine ev_putfield (mm_call_mono (d + 0)) rfl rfl (Nat.le_of_ble_eq_true rfl) rfl ?_
  refine ev_aload_n (mm_call_mono (d + 0)) rfl rfl ?_
  refine ev_bipush (mm_call_mono (d + 0)) rfl ?_
  refine ev_newarray (mm_call_mono (d + 0)) rfl (by decide) (by decide) (Nat.le_of_ble_eq_true rfl) (Nat.le_of_ble_eq_true rfl) rfl ?_
  refine ev_putfield (mm_call_mono (d + 0)) rfl rfl (Nat.le_of_ble_eq_true rfl) rfl ?_
  refine ev_aload_n (mm_call_mono (d + 0)) rfl rfl ?_
  refine ev_bipush (mm_call_mono (d + 0)) rfl ?_
  refine ev_newarray (mm_call_mono (d + 0)) rfl (by decide) (by decide) (Nat.le_of_ble_eq_true rfl) (Nat.le_of_ble_eq_true rfl) rfl ?_
  refine ev_putfield (mm_call_mono (d + 0)) rfl rfl (Nat.le_of_ble_eq_true rfl) rfl ?_
  refine ev_aload_n (mm_call_mono (d + 0)) rfl rfl ?_
  refine ev_bipush (mm_call_mono (d + 0)) rfl ?_
  refine ev_newarray (mm_call_mono (d + 0)) rfl (by decide) (by decide) (Nat.le_of_ble_eq_true rfl) (Nat.le_of_ble_eq_true rfl) rfl ?_
  refine ev_putfield (mm_call_mono (d + 0)) rfl rfl (Nat.le_of_ble_eq_true rfl) rfl ?_
  refine ev_aload_n (mm_call_mono (d + 0)) rfl rfl ?_
  refine ev_bipush (mm_call_mono (d + 0)) rfl ?_
  refine ev_newarray (mm_call_mono (d + 0)) rfl (by decide) (by decide) (Nat.le_of_ble_eq_true rfl) (Nat.le_of_ble_eq_true rfl) rfl ?_
  refine ev_putfield (mm_call_mono (d + 0)) rfl rfl (Nat.le_of_ble_eq_true rfl) rfl ?_
  refine ev_aload_n (mm_call_mono (d + 0)) rfl rfl ?_
  refine ev_bipush (mm_call_mono (d + 0)) rfl ?_
  refine ev_newarray (mm_call_mono (d + 0)) rfl (by decide) (by decide) (Nat.le_of_ble_eq_true rfl) (Nat.le_of_ble_eq_true rfl) rfl ?_
  refine ev_putfield (mm_call_mono (d + 0)) rfl rfl (Nat.le_of_ble_eq_true rfl) rfl ?_
  refine ev_aload_n (mm_call_mono (d + 0)) rfl rfl ?_
  refine ev_bipush (mm_call_mono (d + 0)) rfl ?_
  refine ev_newarray (mm_call_mono (d + 0)) rfl (by decide) (by decide) (Nat.le_of_ble_eq_true rfl) (Nat.le_of_ble_eq_true rfl) rfl ?_
  refine ev_putfield (mm_call_mono (d + 0)) rfl rfl (Nat.le_of_ble_eq_true rfl) rfl ?_
  refine ev_aload_n (mm_call_mono (d + 0)) rfl rfl ?_
  refine ev_bipush (mm_call_mono (d + 0)) rfl ?_
  refine ev_newarray (mm_call_mono (d + 0)) rfl (by decide) (by decide) (Nat.le_of_ble_eq_true rfl) (Nat.le_of_ble_eq_true rfl) rfl ?_
  refine ev_putfield (mm_call_mono (d + 0)) rfl rfl (Nat.le_of_ble_eq_true rfl) rfl ?_
  refine ev_aload_n (mm_call_mono (d + 0)) rfl rfl ?_
  refine ev_bipush (mm_call_mono (d + 0)) rfl ?_
  refine ev_newarray (mm_call_mono (d + 0)) rfl (by decide) (by decide) (Nat.le_of_ble_eq_true rfl) (Nat.le_of_ble_eq_true rfl) rfl ?_
  refine ev_putfield (mm_call_mono (d + 0)) rfl rfl (Nat.le_of_ble_eq_true rfl) rfl ?_
  refine ev_aload_n (mm_call_mono (d + 0)) rfl rfl ?_
  refine ev_sipush (mm_call_mono (d + 0)) rfl ?_
  refine ev_newarray (mm_call_mono (d + 0)) rfl (by decide) (by decide) (Nat.le_of_ble_eq_true rfl) (Nat.le_of_ble_eq_true rfl) rfl ?_
  refine ev_putfield (mm_call_mono (d + 0)) rfl rfl (Nat.le_of_ble_eq_true rfl) rfl ?_
  exact ev_return (mm_call_mono (d + 0)) rfl rfl 53 (Nat.le_of_ble_eq_true rfl) ⟨rfl, rfl⟩
/-- the state behind both constructors -/
def S0 : Sv := fun c => if c = 6 then fl 12 (-1000) (fun _ => 0) else if c = 7 then fl 12 1000 (fun _ => 0) else fun _ => 0
set_option maxRecDepth 100000 in
set_option maxHeartbeats 4000000 in
theorem st_from {xs : Nat × (Nat → Int32)} (h : RL xs 18 [some (.retAddr 0), some (.ref 0), some (.ref 31), some (.int 0)] [] S0) : mm_run tmi ttb tdf (mm_call tmi ttb tdf xs 1000) xs (600000, 7302250) (fun _ r _ _ => r = some (.int 1)) 0 128 0 [some (.retAddr 0), none, none, none] [] [] 0 0 := by
  have M : mm_Cm (mm_call tmi ttb tdf xs 1000) := mm_call_mono 1000
  refine ev_new M rfl (Nat.le_of_ble_eq_true rfl) (Nat.le_of_ble_eq_true rfl) rfl ?_
  refine ev_dup M rfl rfl ?_
  refine ev_special M rfl ⟨_, _, rfl⟩ (Nat.le_of_ble_eq_true rfl) (Nat.le_of_ble_eq_true rfl) (Nat.le_of_ble_eq_true rfl) (Nat.le_of_ble_eq_true rfl) (Or.inr rfl) (ct_1_0 (d := 997)) (fun h' v hv => ?_)
  obtain ⟨rfl, rfl⟩ := hv
  refine ev_astore_n M rfl ?_
  refine ev_new M rfl (Nat.le_of_ble_eq_true rfl) (Nat.le_of_ble_eq_true rfl) rfl ?_
  refine ev_dup M rfl rfl ?_
  refine ev_special M rfl ⟨_, _, rfl⟩ (Nat.le_of_ble_eq_true rfl) (Nat.le_of_ble_eq_true rfl) (Nat.le_of_ble_eq_true rfl) (Nat.le_of_ble_eq_true rfl) (Or.inr rfl) (ct_84_31 (d := 999)) (fun h' v hv => ?_)
  obtain ⟨rfl, rfl⟩ := hv
  refine ev_astore_n M rfl ?_
  refine ev_iconst M rfl ?_
  refine ev_istore_n M rfl ?_
  exact h
