section MM9
variable {p : Program} {l : Launch} {e : Env} {R : Room} {s : State} {m : MethodId} {args : Array Value} {below : List Frame} {meth : Method} {c : Code} {Q : State → Prop}
variable {D : va_G} {dA : FieldType → ClassId} {cl : List vw_C} {b : Nat} {A : Nat → Prop} {φ0 : Nat → Nat} {n0 : Nat}
variable {mi : Nat → mm_M} {tb : Nat → Nat → Option mm_E} {df : Nat → List Value} {WS Ts : List Cond} {nF : List mm_F} {nM : List mm_N} {nm w d : Nat} {xs : Nat × (Nat → Int32)}
/-- a method's end: which instruction, with what answer -/
def mm_Ret (rt : Option FieldType) (I : Instr) (v : Option Value) : Prop :=
  (I = .return_ ∧ v = none ∧ rt = none) ∨ (∃ x ty, I = .ireturn ∧ v = some (.int x) ∧ rt = some ty ∧ narrow ty (.int x) = .int x) ∨ (∃ x ty, I = .areturn ∧ v = some (.ref x) ∧ rt = some ty ∧ ((∃ n, ty = .object n) ∨ ∃ t, ty = .array t))
set_option maxHeartbeats 4000000 in
set_option maxRecDepth 100000 in
theorem mm_one_go (Z : mm_Cx p l R s m args meth c D dA cl b A mi df WS Ts nF nM nm w d xs) {C : Nat → mm_H → List Value → (mm_H → Option Value → Prop) → Prop} (hC : mm_Ct l D dA cl b mi WS nF nM nm d xs C) {P : mm_H → Option Value → Nat → Nat → Prop}
    (hend : ∀ I v pc L h kc ks, mm_Ret (mm_r (mi w)) I v → decode (mm_b (mi w)) pc = .ok (I, 1) → (∃ j, n0 ≤ j ∧ P (h.take j) v kc ks) → mm_Go p l e R s m args below meth c Q D dA cl b A φ0 n0 (mm_n (mi w)) pc L v.toList h kc ks)
    (htb : ∀ pc E, tb w pc = some E → mm_ok mi cl WS nF nM nm w pc E = true) {K : mm_K} (hK : ∀ pc L st h kc ks, K pc L st h kc ks → mm_Go p l e R s m args below meth c Q D dA cl b A φ0 n0 (mm_n (mi w)) pc L st h kc ks) {pc kc ks : Nat} {L : mm_L} {st : List Value} {h : mm_H} (hE : mm_one mi tb df C xs (R.cells, R.slots) P n0 w K pc L st h kc ks) : mm_Go p l e R s m args below meth c Q D dA cl b A φ0 n0 (mm_n (mi w)) pc L st h kc ks := by
  unfold mm_one at hE
  split at hE
  · exact hE.elim
  · rename_i E hEq
    have hok := htb pc E hEq
    obtain ⟨I, len, a, bb, k⟩ := E
    dsimp only at hE
    cases I with
    | iconst z0 =>
      dsimp only [mm_ex] at hE
      exact mm_x_iconst Z hK hok hE
    | bipush z0 =>
      dsimp only [mm_ex] at hE
      exact mm_x_bipush Z hK hok hE
    | sipush z0 =>
      dsimp only [mm_ex] at hE
      exact mm_x_sipush Z hK hok hE
    | ldc z0 =>
      dsimp only [mm_ex] at hE
      exact mm_x_ldc Z hK hok hE
    | iload_n z0 =>
      dsimp only [mm_ex] at hE
      exact mm_x_iload_n Z hK hok hE
    | iload z0 =>
      dsimp only [mm_ex] at hE
      exact mm_x_iload Z hK hok hE
    | aload_n z0 =>
      dsimp only [mm_ex] at hE
      exact mm_x_aload_n Z hK hok hE
    | aload z0 =>
      dsimp only [mm_ex] at hE
      exact mm_x_aload Z hK hok hE
    | istore_n z0 =>
      dsimp only [mm_ex] at hE
      exact mm_x_istore_n Z hK hok hE
    | istore z0 =>
      dsimp only [mm_ex] at hE
      exact mm_x_istore Z hK hok hE
    | astore_n z0 =>
      dsimp only [mm_ex] at hE
      exact mm_x_astore_n Z hK hok hE
    | astore z0 =>
      dsimp only [mm_ex] at hE
      exact mm_x_astore Z hK hok hE
    | iinc z0 z1 =>
      dsimp only [mm_ex] at hE
      exact mm_x_iinc Z hK hok hE
    | iadd =>
      dsimp only [mm_ex] at hE
      exact mm_x_iadd Z hK hok hE
    | isub =>
      dsimp only [mm_ex] at hE
      exact mm_x_isub Z hK hok hE
    | imul =>
      dsimp only [mm_ex] at hE
      exact mm_x_imul Z hK hok hE
    | iand =>
      dsimp only [mm_ex] at hE
      exact mm_x_iand Z hK hok hE
    | ior =>
      dsimp only [mm_ex] at hE
      exact mm_x_ior Z hK hok hE
    | ixor =>
      dsimp only [mm_ex] at hE
      exact mm_x_ixor Z hK hok hE
    | ishl =>
      dsimp only [mm_ex] at hE
      exact mm_x_ishl Z hK hok hE
    | ishr =>
      dsimp only [mm_ex] at hE
      exact mm_x_ishr Z hK hok hE
    | idiv =>
      dsimp only [mm_ex] at hE
      exact mm_x_idiv Z hK hok hE
    | irem =>
      dsimp only [mm_ex] at hE
      exact mm_x_irem Z hK hok hE
    | ineg =>
      dsimp only [mm_ex] at hE
      exact mm_x_ineg Z hK hok hE
    | i2c =>
      dsimp only [mm_ex] at hE
      exact mm_x_i2c Z hK hok hE
    | dup =>
      dsimp only [mm_ex] at hE
      exact mm_x_dup Z hK hok hE
    | pop =>
      dsimp only [mm_ex] at hE
      exact mm_x_pop Z hK hok hE
    | dup_x1 =>
      dsimp only [mm_ex] at hE
      exact mm_x_dup_x1 Z hK hok hE
    | dup2 =>
      dsimp only [mm_ex] at hE
      exact mm_x_dup2 Z hK hok hE
    | dup_x2 =>
      dsimp only [mm_ex] at hE
      exact mm_x_dup_x2 Z hK hok hE
    | ifCond z0 z1 =>
      dsimp only [mm_ex] at hE
      exact mm_x_ifCond Z hK hok hE
    | if_icmp z0 z1 =>
      dsimp only [mm_ex] at hE
      exact mm_x_if_icmp Z hK hok hE
    | goto z0 =>
      dsimp only [mm_ex] at hE
      exact mm_x_goto Z hK hok hE
    | lookupswitch z0 z1 =>
      dsimp only [mm_ex] at hE
      exact mm_x_lookupswitch Z hK hok hE
    | tableswitch z0 z1 z2 z3 =>
      dsimp only [mm_ex] at hE
      exact mm_x_tableswitch Z hK hok hE
    | getfield z0 =>
      dsimp only [mm_ex] at hE
      exact mm_x_getfield Z hK hok hE
    | putfield z0 =>
      dsimp only [mm_ex] at hE
      exact mm_x_putfield Z hK hok hE
    | iaload =>
      dsimp only [mm_ex] at hE
      exact mm_x_iaload Z hK hok hE
    | baload =>
      dsimp only [mm_ex] at hE
      exact mm_x_baload Z hK hok hE
    | caload =>
      dsimp only [mm_ex] at hE
      exact mm_x_caload Z hK hok hE
    | iastore =>
      dsimp only [mm_ex] at hE
      exact mm_x_iastore Z hK hok hE
    | bastore =>
      dsimp only [mm_ex] at hE
      exact mm_x_bastore Z hK hok hE
    | castore =>
      dsimp only [mm_ex] at hE
      exact mm_x_castore Z hK hok hE
    | arraylength =>
      dsimp only [mm_ex] at hE
      exact mm_x_arraylength Z hK hok hE
    | new z0 =>
      dsimp only [mm_ex] at hE
      exact mm_x_new Z hK hok hE
    | newarray z0 =>
      dsimp only [mm_ex] at hE
      exact mm_x_newarray Z hK hok hE
    | invokespecial i =>
      dsimp only [mm_ex] at hE
      obtain ⟨hE0, hE1⟩ := hE
      simp only [mm_ok, mm_sd, Bool.and_eq_true, decide_eq_true_eq] at hok
      obtain ⟨hd, h1, hok⟩ := hok
      subst h1
      by_cases hbb : bb = 0
      · rw [if_pos hbb] at hok
        simp only [Bool.and_eq_true, decide_eq_true_eq] at hok
        exact mm_x_objinit Z hK hd hok.1 hok.2 (hE0 hbb)
      · rw [if_neg hbb] at hok
        simp only [Bool.and_eq_true, decide_eq_true_eq] at hok
        obtain ⟨⟨⟨⟨⟨⟨q1, q2⟩, q3⟩, q4⟩, q5⟩, q6⟩, q7⟩ := hok
        exact mm_x_special Z hK hC hd q1 q2 q3 q4 q5 q6 q7 (hE1 hbb).1 (hE1 hbb).2
    | invokevirtual i =>
      dsimp only [mm_ex] at hE
      obtain ⟨hE0, hE1⟩ := hE
      simp only [mm_ok, mm_sd, Bool.and_eq_true, decide_eq_true_eq] at hok
      obtain ⟨hd, ⟨⟨⟨⟨⟨⟨h1, q1⟩, q2⟩, q3⟩, q4⟩, q5⟩, q6⟩, q7⟩ := hok
      subst h1
      split at q7
      · cases q7
      · rename_i q hq
        exact mm_x_virtual Z hK hC hd q1 q2 q3 q4 q5 q6 hq (by simpa using q7) hE0 hE1
    | invokestatic i =>
      dsimp only [mm_ex] at hE
      obtain ⟨hE0, hE1⟩ := hE
      simp only [mm_ok, mm_sd, Bool.and_eq_true, decide_eq_true_eq] at hok
      obtain ⟨hd, h1, hok⟩ := hok
      subst h1
      by_cases hbb : bb = 0
      · rw [if_pos hbb] at hok
        simp only [Bool.and_eq_true, decide_eq_true_eq] at hok
        exact mm_x_copy Z hK hd hok.1.1.1 hok.1.1.2 hok.1.2 hok.2 (hE0 hbb)
      · rw [if_neg hbb] at hok
        simp only [Bool.and_eq_true, decide_eq_true_eq] at hok
        exact mm_x_static Z hK hC hd hok.1.1.1 hok.1.1.2 hok.1.2 hok.2 (hE1 hbb)
    | return_ =>
      dsimp only [mm_ex] at hE
      obtain ⟨h0, h1, h2⟩ := hE
      simp only [mm_ok, mm_sd, Bool.and_eq_true, decide_eq_true_eq] at hok
      obtain ⟨hd, h3⟩ := hok
      subst h3
      subst h0
      exact hend _ none pc L h kc ks (Or.inl ⟨rfl, rfl, h1⟩) hd h2
    | ireturn =>
      dsimp only [mm_ex] at hE
      obtain ⟨x, r, rfl, rfl, ⟨ty, h1, h2⟩, h3⟩ := mm_s1_inv hE
      simp only [mm_ok, mm_sd, Bool.and_eq_true, decide_eq_true_eq] at hok
      obtain ⟨hd, h4⟩ := hok
      subst h4
      exact hend _ (some (.int x)) pc L h kc ks (Or.inr (Or.inl ⟨x, ty, rfl, rfl, h1, h2⟩)) hd h3
    | areturn =>
      dsimp only [mm_ex] at hE
      obtain ⟨x, r, rfl, rfl, ⟨ty, h1, h2⟩, h3⟩ := mm_sr_inv hE
      simp only [mm_ok, mm_sd, Bool.and_eq_true, decide_eq_true_eq] at hok
      obtain ⟨hd, h4⟩ := hok
      subst h4
      exact hend _ (some (.ref x)) pc L h kc ks (Or.inr (Or.inr ⟨x, ty, rfl, rfl, h1, h2⟩)) hd h3
    | _ => exact (show False from hE).elim
theorem mm_run_go (Z : mm_Cx p l R s m args meth c D dA cl b A mi df WS Ts nF nM nm w d xs) {C : Nat → mm_H → List Value → (mm_H → Option Value → Prop) → Prop} (hC : mm_Ct l D dA cl b mi WS nF nM nm d xs C) {P : mm_H → Option Value → Nat → Nat → Prop}
    (hend : ∀ I v pc L h kc ks, mm_Ret (mm_r (mi w)) I v → decode (mm_b (mi w)) pc = .ok (I, 1) → (∃ j, n0 ≤ j ∧ P (h.take j) v kc ks) → mm_Go p l e R s m args below meth c Q D dA cl b A φ0 n0 (mm_n (mi w)) pc L v.toList h kc ks)
    (htb : ∀ pc E, tb w pc = some E → mm_ok mi cl WS nF nM nm w pc E = true) {pc kc ks : Nat} {L : mm_L} {st : List Value} {h : mm_H} (hE : mm_run mi tb df C xs (R.cells, R.slots) P n0 w pc L st h kc ks) : mm_Go p l e R s m args below meth c Q D dA cl b A φ0 n0 (mm_n (mi w)) pc L st h kc ks :=
  hE (mm_Go p l e R s m args below meth c Q D dA cl b A φ0 n0 (mm_n (mi w))) (fun _ _ _ _ _ _ h1 => mm_one_go Z hC hend htb (fun _ _ _ _ _ _ h2 => h2) h1)
end MM9
/-- THE TIE: what the small machine comes to in method y, the machine comes to -/
theorem mm_met (l : Launch) (D : va_G) (dA : FieldType → ClassId) (cl : List vw_C) (b : Nat) (mi : Nat → mm_M) (tb : Nat → Nat → Option mm_E) (df : Nat → List Value) (WS : List Cond) (nF : List mm_F) (nM : List mm_N) (nm : Nat) (xs : Nat × (Nat → Int32))
    (hWS : ∀ x ∈ WS, goodWord x = true) (hmi : ∀ y, y < nm → mm_okm (mi y) = true) (hcl : ∀ ci q, cl[ci]? = some q → mm_okc WS (df ci) q = true) (htb : ∀ w, w < nm → ∀ pc E, tb w pc = some E → mm_ok mi cl WS nF nM nm w pc E = true) : ∀ d, mm_Ct l D dA cl b mi WS nF nM nm d xs (mm_call mi tb df xs d) := by
  intro d
  induction d with
  | zero => intro y h as Pk _ hC; exact hC.elim
  | succ d ih =>
    intro y h as Pk hy hC φ sz
    obtain ⟨hlen, hcat, hrun⟩ := hC
    have hokm := hmi y hy
    simp only [mm_okm, Bool.and_eq_true, decide_eq_true_eq] at hokm
    refine Met.ofW (cc := mm_b (mi y)) (maxL := mm_n (mi y)) (ret := mm_r (mi y)) hokm.1.1 rfl ?_
    intro p e s m args below meth c s₁ B hml hv
    obtain ⟨rfl, hsz, hP, hKK, hD0, hX, hbl, hnb⟩ := hv
    have hx := B.exec
    have hb := B.bytes
    have hr := B.returns
    have hts := atoms_spec (ws := mm_ws mi WS nm y) B.pre
    have hown : s.vm.findClass (mm_y (mi y)).cls = some m.cls := findClass_of_methodNamed B.named
    have hlocks := B.notSynchronized
    have hin : (mm_y (mi y)).name = "<init>" → meth.name = "<init>" := fun hi => (name_of_methodNamed B.named B.method).1.trans hi
    subst hsz
    have hD := hD0.self (sz := s.heap.size)
    have hA : ∀ q : Nat, s.heap.size ≤ q → va_A (mm_w b φ dA h) s.heap.size q := fun q h => Or.inr h
    have hbA : ¬ va_A (mm_w b φ dA h) s.heap.size b := by
      rintro (⟨k, e, hk⟩ | hq)
      · exact hnb k _ hk rfl
      · omega
    have hS : va_S (va_A (mm_w b φ dA h) s.heap.size) s.heap s.heap [] := va_S.rf
    have hl := lv_entry (as.map (mm_v b φ)) (n := mm_n (mi y)) (by rw [mm_in0_len hcat, hlen]; exact hokm.2)
    rw [lg_entry_eq]
    generalize (lg_sl (as.map (mm_v b φ)) ++ List.replicate (mm_n (mi y) - (lg_sl (as.map (mm_v b φ))).length) Slot.unset).toArray = ls at hl ⊢
    have hl2 : lv_has ls (mm_n (mi y)) (mm_l b φ (mm_in0 (mi y) as)) := mm_lsub hl (mm_in0_args hcat)
    have hcode : ∀ i, i < nm → mm_cw (mi i) ∈ (List.range nm).map (fun i => mm_cw (mi i)) := fun i hi => List.mem_map.mpr ⟨i, List.mem_range.mpr hi, rfl⟩
    have hG : ∀ z, z < nm → GoodIn (mm_ws mi WS nm y) (mm_ws mi WS nm z) := by
      intro z hz x hxz
      rcases List.mem_cons.mp hxz with rfl | hxz
      · exact ⟨List.mem_cons_of_mem _ (List.mem_append_left _ (hcode z hz)), Or.inl rfl⟩
      · refine ⟨List.mem_cons_of_mem _ hxz, ?_⟩
        rcases List.mem_append.mp hxz with hxz | hxz
        · obtain ⟨i, -, rfl⟩ := List.mem_map.mp hxz
          exact Or.inl rfl
        · rcases List.mem_cons.mp hxz with rfl | hxz
          · exact Or.inl rfl
          · exact good_of_word (hWS x hxz)
    have Z : mm_Cx p l (headSpec (mm_ws mi WS nm y) (mm_rm (d + 1) (mi y))).room s m (as.map (mm_v b φ)).toArray meth c D dA cl b (va_A (mm_w b φ dA h) s.heap.size) mi df WS (mm_ws mi WS nm y) nF nM nm y d xs :=
      ⟨⟨hx, hb, hml, hown, hts⟩, fun x hxw => List.mem_cons_of_mem _ (List.mem_append_right _ (List.mem_cons_of_mem _ hxw)), List.mem_cons_of_mem _ (List.mem_append_right _ List.mem_cons_self), hG, hmi, hcl, hKK, hA, hX, hbl, hbA, hin, Nat.le_refl _, by show 60 * d + 60 ≤ 60 * (d + 1); omega⟩
    refine mm_run_go (Q := MQ below (mm_Qc D dA cl b φ h s.heap.size (mm_mc (mi y)) Pk) (as.map (mm_v b φ)).toArray s (mm_mc (mi y)) (mm_ms (mi y)) (va_A (mm_w b φ dA h) s.heap.size)) (φ0 := φ) Z ih ?_ (htb y hy) hrun φ s.heap [] ls (fun _ _ => rfl) (fun _ => rfl) (Nat.le_refl _) (Nat.zero_le _) (Nat.zero_le _) hP hD hS hl2
    intro I v pc L h' kc ks hret hd hj φ' H locs ls' f0 g0 hn k1 k2 hP1 hD1 hS1 hl1
    obtain ⟨j, hj1, hj2⟩ := hj
    have key : ∀ t : State, t.heap = H → mm_Qc D dA cl b φ h s.heap.size (mm_mc (mi y)) Pk (as.map (mm_v b φ)).toArray s (.returned (v.map (mm_v b φ'))) t := by
      intro t ht
      have hsub : ∀ (k : Nat) (q : Nat × va_E), (mm_w b φ' dA (h'.take j))[k]? = some q → (mm_w b φ' dA h')[k]? = some q := by
        intro k q hq
        rw [mm_w_get] at hq ⊢
        by_cases hkj : k < j
        · rw [List.getElem?_take_of_lt hkj] at hq
          exact hq
        · rw [List.getElem?_take_eq_none (Nat.not_lt.mp hkj)] at hq
          cases hq
      refine ⟨h'.take j, v, φ', f0, fun hz => g0 ?_, ?_, hj2, rfl, fun k q hq => ?_, ⟨fun i k x z hi hk hxz => hD1.1 i k x z (hsub i x hi) (hsub k z hk) hxz, fun k q hq => hD1.2 k q (hsub k q hq)⟩, ?_⟩
      · have : kc ≤ mm_mc (mi y) := k1
        omega
      · rw [List.length_take]
        omega
      · rw [ht]
        exact hP1 k q (hsub k q hq)
      · exact hS1.F ht
    refine W.widen (k := mm_mc (mi y)) (n := mm_ms (mi y)) k1 k2 ?_
    rcases hret with ⟨rfl, rfl, hrt⟩ | ⟨x, ty, rfl, rfl, hrt, hnar⟩ | ⟨x, ty, rfl, rfl, hrt, hrf⟩
    · exact W.vret hx hb (hr.trans hrt) (fun t ht _ => key t ht) hS1.2.2 hd
    · exact W.zret hx hb (hr.trans hrt) hnar (fun t ht _ => key t ht) hS1.2.2 hd
    · exact W.aret hx hb (hr.trans hrt) hrf (Or.inr ⟨_, rfl⟩) (fun t ht _ => key t ht) hS1.2.2 hd
