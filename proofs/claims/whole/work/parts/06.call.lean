section MC
variable {p : Program} {l : Launch} {e : Env} {R : Room} {s : State} {m : MethodId} {args : Array Value} {below : List Frame} {meth : Method} {c : Code} {Q : State → Prop}
variable {D : va_G} {dA : FieldType → ClassId} {cl : List vw_C} {b : Nat} {A : Nat → Prop} {φ0 : Nat → Nat} {n0 : Nat}
variable {mi : Nat → mm_M} {tb : Nat → Nat → Option mm_E} {df : Nat → List Value} {WS Ts : List Cond} {nF : List mm_F} {nM : List mm_N} {nm w d : Nat} {xs : Nat × (Nat → Int32)}
/-- what is known of a callee -/
def mm_Ct (l : Launch) (D : va_G) (dA : FieldType → ClassId) (cl : List vw_C) (b : Nat) (mi : Nat → mm_M) (WS : List Cond) (nF : List mm_F) (nM : List mm_N) (nm d : Nat) (xs : Nat × (Nat → Int32)) (C : Nat → mm_H → List Value → (mm_H → Option Value → Prop) → Prop) : Prop :=
  ∀ y h as Pk, y < nm → C y h as Pk → ∀ φ sz, Met l (mm_y (mi y)) (mm_ws mi WS nm y) (mm_rm d (mi y)) (mm_Pc D dA cl nF nM b xs φ h as sz) (mm_Qc D dA cl b φ h sz (mm_mc (mi y)) Pk) (mm_mc (mi y)) (mm_ms (mi y)) (va_A (mm_w b φ dA h) sz)
theorem mm_room {y : Nat} (hm : mm_okm (mi y) = true) (hRf : d + 1 ≤ R.frames) (hRl : 60 * d + 60 ≤ R.locals) : (mm_rm d (mi y)).frames + 1 ≤ R.frames ∧ 8 + (mm_n (mi y) + 11) + (mm_rm d (mi y)).locals ≤ R.locals := by
  simp only [mm_okm, Bool.and_eq_true, decide_eq_true_eq] at hm
  have h1 := hm.1.2
  refine ⟨hRf, ?_⟩
  show 8 + (mm_n (mi y) + 11) + 60 * d ≤ R.locals
  omega
theorem mm_x_objinit (Z : mm_Cx p l R s m args meth c D dA cl b A mi df WS Ts nF nM nm w d xs) {K : mm_K} (hK : ∀ pc L st h kc ks, K pc L st h kc ks → mm_Go p l e R s m args below meth c Q D dA cl b A φ0 n0 (mm_n (mi w)) pc L st h kc ks) {pc kc ks i : Nat} {L : mm_L} {st : List Value} {h : mm_H} (hd : decode (mm_b (mi w)) pc = .ok (.invokespecial i, 3)) (h1 : Cond.methodLink (mm_y (mi w)).cls i objectInit ∈ WS) (h2 : Cond.instanceMethod objectInit ∈ WS)
    (hE : mm_sr st fun _ r => mm_cat r ∧ K (pc + 3) L r h kc ks) : mm_Go p l e R s m args below meth c Q D dA cl b A φ0 n0 (mm_n (mi w)) pc L st h kc ks := by
  obtain ⟨⟨hx, hb, hml, hown, hts⟩, hWT, hoi, hG, hmi, hcl, hKK, hA, hX, hbl, hbA, hin, hRf, hRl⟩ := Z
  obtain ⟨o, r, rfl, hc, hE1⟩ := mm_sr_inv hE
  intro φ H locs ls f0 g0 hn k1 k2 hP hD hS hl
  have hc2 := mm_cat_v (b := b) (φ := φ) hc
  exact W.objInit hx hb hown (hts _ (hWT _ h1)) (hts _ (hWT _ h2)) (hts _ hoi) (g := F0 m pc ls ((Value.ref o :: r).map (mm_v b φ))) rfl (by rw [hml]; exact hl.1) (a := φ o) (rest := r.map (mm_v b φ)) rfl hd (by omega) (by show 2 * 0 + _ + 12 ≤ _; omega) (hK _ _ _ _ _ _ hE1 φ H locs ls f0 g0 hn k1 k2 hP hD hS hl)
theorem mm_x_static (Z : mm_Cx p l R s m args meth c D dA cl b A mi df WS Ts nF nM nm w d xs) {K : mm_K} (hK : ∀ pc L st h kc ks, K pc L st h kc ks → mm_Go p l e R s m args below meth c Q D dA cl b A φ0 n0 (mm_n (mi w)) pc L st h kc ks) {C : Nat → mm_H → List Value → (mm_H → Option Value → Prop) → Prop} (hC : mm_Ct l D dA cl b mi WS nF nM nm d xs C) {y pc kc ks i : Nat} {L : mm_L} {st : List Value} {h : mm_H} (hd : decode (mm_b (mi w)) pc = .ok (.invokestatic i, 3)) (hy : y < nm) (hml0 : mm_ml WS nM (mm_y (mi w)).cls i (mm_y (mi y)) = true) (hmy : mm_my WS (mm_y (mi y)) (mm_k (mi y)) = true) (hst0 : Cond.static (mm_y (mi y)) ∈ WS)
    (hE : mm_cl mi C (R.cells, R.slots) K y (pc + 3) L st h kc ks) : mm_Go p l e R s m args below meth c Q D dA cl b A φ0 n0 (mm_n (mi w)) pc L st h kc ks := by
  obtain ⟨⟨hx, hb, hml, hown, hts⟩, hWT, hoi, hG, hmi, hcl, hKK, hA, hX, hbl, hbA, hin, hRf, hRl⟩ := Z
  obtain ⟨e1, e2, e3, e4, e5, hCy⟩ := hE
  obtain ⟨hyd, hini⟩ := mm_my_spec hmy
  intro φ H locs ls f0 g0 hn k1 k2 hP hD hS hl
  have hM := hC y h _ _ hy hCy φ H.size
  have hR := mm_room (hmi y hy) hRf hRl
  have hlen : ((st.take (mm_k (mi y))).reverse.map (mm_v b φ)).length = mm_k (mi y) := by
    rw [List.length_map, List.length_reverse, List.length_take]
    omega
  have hpre : PreS s H (mm_Pc D dA cl nF nM b xs φ h (st.take (mm_k (mi y))).reverse H.size) ((st.take (mm_k (mi y))).reverse.map (mm_v b φ)) := ⟨mm_Pc_blind, mm_pre hKK hX hbl hbA hP hD hS rfl⟩
  have hrm := mm_cat_v (b := b) (φ := φ) e2
  rcases mm_ml_spec hml0 with hlk | ⟨q2, hq2, r1, r2, r3⟩
  · exact mm_back (va_runS (nL := mm_n (mi w)) (g := F0 m pc ls (st.map (mm_v b φ))) (rest := (st.drop (mm_k (mi y))).map (mm_v b φ)) ⟨hx, hb, hml, hown, hts⟩ hM ⟨callB_of (mm_k (mi y)) hts (hG y hy) rfl rfl rfl (hts _ (hWT _ hini)) (hts _ (hWT _ hlk)) hyd hR, hts _ (hWT _ hst0)⟩ hpre rfl hlen hl.1 mm_stackS (lv_room hrm) hd ⟨e3, e4⟩) hA e3 e4 e5 f0 g0 hn hD hS hl (fun h' v hv => hK _ _ _ _ _ _ hv)
  · have hz := hKK.2.2 q2 hq2
    rw [r1, r2, r3] at hz
    exact mm_back (va_runSN (nL := mm_n (mi w)) (g := F0 m pc ls (st.map (mm_v b φ))) (rest := (st.drop (mm_k (mi y))).map (mm_v b φ)) ⟨hx, hb, hml, hown, hts⟩ hM ⟨va_cnB (mm_k (mi y)) hts (hG y hy) rfl rfl rfl hz (hts _ (hWT _ hini)) hyd hR, hts _ (hWT _ hst0), trivial⟩ hpre rfl hlen hl.1 mm_stackS (lv_room hrm) hd ⟨e3, e4⟩) hA e3 e4 e5 f0 g0 hn hD hS hl (fun h' v hv => hK _ _ _ _ _ _ hv)
theorem mm_x_virtual (Z : mm_Cx p l R s m args meth c D dA cl b A mi df WS Ts nF nM nm w d xs) {K : mm_K} (hK : ∀ pc L st h kc ks, K pc L st h kc ks → mm_Go p l e R s m args below meth c Q D dA cl b A φ0 n0 (mm_n (mi w)) pc L st h kc ks) {C : Nat → mm_H → List Value → (mm_H → Option Value → Prop) → Prop} (hC : mm_Ct l D dA cl b mi WS nF nM nm d xs C) {y pc kc ks i : Nat} {L : mm_L} {st : List Value} {h : mm_H} {q : vw_C} (hd : decode (mm_b (mi w)) pc = .ok (.invokevirtual i, 3)) (hy : y < nm) (hk0 : 0 < mm_k (mi y)) (hml0 : mm_ml WS nM (mm_y (mi w)).cls i (mm_y (mi y)) = true) (hmy : mm_my WS (mm_y (mi y)) (mm_k (mi y) - 1) = true) (hinst : Cond.instanceMethod (mm_y (mi y)) ∈ WS) (hsel : Cond.selects (mm_y (mi y)).cls (mm_y (mi y)) (mm_y (mi y)) ∈ WS) (hq : cl[mm_ci (mi y)]? = some q) (hqc : q.1 = (mm_y (mi y)).cls)
    (hrc : mm_rcv h (mm_ci (mi y)) (st.take (mm_k (mi y))).reverse) (hE : mm_cl mi C (R.cells, R.slots) K y (pc + 3) L st h kc ks) : mm_Go p l e R s m args below meth c Q D dA cl b A φ0 n0 (mm_n (mi w)) pc L st h kc ks := by
  obtain ⟨⟨hx, hb, hml, hown, hts⟩, hWT, hoi, hG, hmi, hcl, hKK, hA, hX, hbl, hbA, hin, hRf, hRl⟩ := Z
  obtain ⟨e1, e2, e3, e4, e5, hCy⟩ := hE
  obtain ⟨hyd, hini⟩ := mm_my_spec hmy
  obtain ⟨o, As, fs, has, ho⟩ := mm_rcv_inv hrc
  intro φ H locs ls f0 g0 hn k1 k2 hP hD hS hl
  have hM := hC y h _ _ hy hCy φ H.size
  have hR := mm_room (hmi y hy) hRf hRl
  have hlen : (As.map (mm_v b φ)).length = mm_k (mi y) - 1 := by
    have h1 : ((st.take (mm_k (mi y))).reverse).length = mm_k (mi y) := by
      rw [List.length_reverse, List.length_take]
      omega
    rw [has, List.length_cons] at h1
    rw [List.length_map]
    omega
  have hpre : PreV s H (mm_y (mi y)).cls (φ o) (mm_Pc D dA cl nF nM b xs φ h (st.take (mm_k (mi y))).reverse H.size) (As.map (mm_v b φ)) :=
    ⟨mm_Pc_blind, by rw [← hqc]; exact va_recv hKK.1 hP hq (mm_w_at ho), mm_pre hKK hX hbl hbA hP hD hS (by rw [has]; rfl)⟩
  have hrm := mm_cat_v (b := b) (φ := φ) e2
  rcases mm_ml_spec hml0 with hlk | ⟨q2, hq2, r1, r2, r3⟩
  · exact mm_back (va_runV (nL := mm_n (mi w)) (g := F0 m pc ls (st.map (mm_v b φ))) (rest := (st.drop (mm_k (mi y))).map (mm_v b φ)) ⟨hx, hb, hml, hown, hts⟩ hM ⟨callB_of (mm_k (mi y) - 1) hts (hG y hy) rfl rfl rfl (hts _ (hWT _ hini)) (hts _ (hWT _ hlk)) hyd hR, hts _ (hWT _ hinst), hts _ (hWT _ hsel)⟩ hpre rfl hlen hl.1 (mm_stack has) (lv_room hrm) hd ⟨e3, e4⟩) hA e3 e4 e5 f0 g0 hn hD hS hl (fun h' v hv => hK _ _ _ _ _ _ hv)
  · have hz := hKK.2.2 q2 hq2
    rw [r1, r2, r3] at hz
    exact mm_back (va_runVN (nL := mm_n (mi w)) (g := F0 m pc ls (st.map (mm_v b φ))) (rest := (st.drop (mm_k (mi y))).map (mm_v b φ)) ⟨hx, hb, hml, hown, hts⟩ hM ⟨va_cnB (mm_k (mi y) - 1) hts (hG y hy) rfl rfl rfl hz (hts _ (hWT _ hini)) hyd hR, hts _ (hWT _ hinst), hts _ (hWT _ hsel)⟩ hpre rfl hlen hl.1 (mm_stack has) (lv_room hrm) hd ⟨e3, e4⟩) hA e3 e4 e5 f0 g0 hn hD hS hl (fun h' v hv => hK _ _ _ _ _ _ hv)
theorem mm_x_special (Z : mm_Cx p l R s m args meth c D dA cl b A mi df WS Ts nF nM nm w d xs) {K : mm_K} (hK : ∀ pc L st h kc ks, K pc L st h kc ks → mm_Go p l e R s m args below meth c Q D dA cl b A φ0 n0 (mm_n (mi w)) pc L st h kc ks) {C : Nat → mm_H → List Value → (mm_H → Option Value → Prop) → Prop} (hC : mm_Ct l D dA cl b mi WS nF nM nm d xs C) {y pc kc ks i : Nat} {L : mm_L} {st : List Value} {h : mm_H} (hd : decode (mm_b (mi w)) pc = .ok (.invokespecial i, 3)) (hy : y < nm) (hyn : (mm_y (mi y)).name = "<init>") (hyr : mm_r (mi y) = none) (hk0 : 0 < mm_k (mi y)) (hml0 : mm_ml WS nM (mm_y (mi w)).cls i (mm_y (mi y)) = true) (hmy : mm_my WS (mm_y (mi y)) (mm_k (mi y) - 1) = true) (hinst : Cond.instanceMethod (mm_y (mi y)) ∈ WS)
    (hrc : ∃ o As, (st.take (mm_k (mi y))).reverse = .ref o :: As) (hE : mm_cl mi C (R.cells, R.slots) K y (pc + 3) L st h kc ks) : mm_Go p l e R s m args below meth c Q D dA cl b A φ0 n0 (mm_n (mi w)) pc L st h kc ks := by
  obtain ⟨⟨hx, hb, hml, hown, hts⟩, hWT, hoi, hG, hmi, hcl, hKK, hA, hX, hbl, hbA, hin, hRf, hRl⟩ := Z
  obtain ⟨e1, e2, e3, e4, e5, hCy⟩ := hE
  obtain ⟨hyd, hini⟩ := mm_my_spec hmy
  obtain ⟨o, As, has⟩ := hrc
  intro φ H locs ls f0 g0 hn k1 k2 hP hD hS hl
  have hM := hC y h _ _ hy hCy φ H.size
  have hR := mm_room (hmi y hy) hRf hRl
  have hlen : (As.map (mm_v b φ)).length = mm_k (mi y) - 1 := by
    have h1 : ((st.take (mm_k (mi y))).reverse).length = mm_k (mi y) := by
      rw [List.length_reverse, List.length_take]
      omega
    rw [has, List.length_cons] at h1
    rw [List.length_map]
    omega
  have hpre : PreS s H (mm_Pc D dA cl nF nM b xs φ h (st.take (mm_k (mi y))).reverse H.size) (Value.ref (φ o) :: As.map (mm_v b φ)) := ⟨mm_Pc_blind, mm_pre hKK hX hbl hbA hP hD hS (by rw [has]; rfl)⟩
  have hrm := mm_cat_v (b := b) (φ := φ) e2
  have hw : mm_ws mi WS nm y = Cond.code (mm_y (mi y)) (mm_b (mi y)) (mm_n (mi y)) none :: ((List.range nm).map (fun i => mm_cw (mi i)) ++ (Cond.code objectInit ⟨#[0xb1]⟩ 1 none :: WS)) := by
    show mm_cw (mi y) :: _ = _
    unfold mm_cw
    rw [hyr]
  rcases mm_ml_spec hml0 with hlk | ⟨q2, hq2, r1, r2, r3⟩
  · exact mm_back (va_runI (nL := mm_n (mi w)) (g := F0 m pc ls (st.map (mm_v b φ))) (rest := (st.drop (mm_k (mi y))).map (mm_v b φ)) ⟨hx, hb, hml, hown, hts⟩ hM ⟨callB_of (mm_k (mi y) - 1) hts (hG y hy) hw rfl rfl (hts _ (hWT _ hini)) (hts _ (hWT _ hlk)) hyd hR, hyn, hts _ (hWT _ hinst)⟩ hpre rfl hlen hl.1 (mm_stack has) (lv_room hrm) hd ⟨e3, e4⟩) hA e3 e4 e5 f0 g0 hn hD hS hl (fun h' v hv => hK _ _ _ _ _ _ hv)
  · have hz := hKK.2.2 q2 hq2
    rw [r1, r2, r3] at hz
    exact mm_back (va_runIN (nL := mm_n (mi w)) (g := F0 m pc ls (st.map (mm_v b φ))) (rest := (st.drop (mm_k (mi y))).map (mm_v b φ)) ⟨hx, hb, hml, hown, hts⟩ hM ⟨va_cnB (mm_k (mi y) - 1) hts (hG y hy) hw rfl rfl hz (hts _ (hWT _ hini)) hyd hR, hyn, hts _ (hWT _ hinst)⟩ hpre rfl hlen hl.1 (mm_stack has) (lv_room hrm) hd ⟨e3, e4⟩) hA e3 e4 e5 f0 g0 hn hD hS hl (fun h' v hv => hK _ _ _ _ _ _ hv)
theorem mm_x_copy (Z : mm_Cx p l R s m args meth c D dA cl b A mi df WS Ts nF nM nm w d xs) {K : mm_K} (hK : ∀ pc L st h kc ks, K pc L st h kc ks → mm_Go p l e R s m args below meth c Q D dA cl b A φ0 n0 (mm_n (mi w)) pc L st h kc ks) {pc kc ks i : Nat} {L : mm_L} {st : List Value} {h : mm_H} (hd : decode (mm_b (mi w)) pc = .ok (.invokestatic i, 3)) (h1 : Cond.methodLink (mm_y (mi w)).cls i arraycopyName ∈ WS) (h2 : Cond.native arraycopyName ∈ WS) (h3 : Cond.static arraycopyName ∈ WS) (h4 : Cond.initialized "java/lang/System" ∈ WS)
    (hE : mm_s2 st fun n dp r => mm_sr r fun o1 r => mm_s1 r fun sp r => mm_sr r fun o0 r => mm_ar h o0 fun ty n0 f => mm_ar h o1 fun ty1 n1 g => (ty = .int ∨ ty = .boolean ∨ ty = .char) ∧ ty1 = ty ∧ ¬ sp < 0 ∧ ¬ dp < 0 ∧ ¬ n < 0 ∧ sp.toNatClampNeg + n.toNatClampNeg ≤ n0 ∧ dp.toNatClampNeg + n.toNatClampNeg ≤ n1 ∧ (∀ i, i < n.toNatClampNeg → fits ty (.int (f (sp.toNatClampNeg + i))) = true) ∧ mm_cat r ∧ K (pc + 3) L r (h.set o1 (.inl (ty, n1, va_cpy f g sp.toNatClampNeg dp.toNatClampNeg n.toNatClampNeg))) kc ks) : mm_Go p l e R s m args below meth c Q D dA cl b A φ0 n0 (mm_n (mi w)) pc L st h kc ks := by
  obtain ⟨⟨hx, hb, hml, hown, hts⟩, hWT, hoi, hG, hmi, hcl, hKK, hA, hX, hbl, hbA, hin, hRf, hRl⟩ := Z
  obtain ⟨n, dp, r, rfl, hE2⟩ := mm_s2_inv hE
  obtain ⟨o1, r, rfl, hE3⟩ := mm_sr_inv hE2
  obtain ⟨sp, r, rfl, hE4⟩ := mm_s1_inv hE3
  obtain ⟨o0, r, rfl, hE5⟩ := mm_sr_inv hE4
  obtain ⟨ty, m0, f, ho0, hE6⟩ := mm_ar_inv hE5
  obtain ⟨ty1, m1, g, ho1, hty, rfl, j1, j2, j3, j4, j5, j6, hc, hE7⟩ := mm_ar_inv hE6
  intro φ H locs ls f0 g0 hn k1 k2 hP hD hS hl
  have hc2 := mm_cat_v (b := b) (φ := φ) hc
  obtain ⟨t0, ht0, hpr⟩ : ∃ t0, ([(dA .int, .int), (dA .boolean, .boolean), (dA .char, .char)] : List (ClassId × FieldType))[t0]? = some (dA ty1, ty1) ∧ refKind ty1 = false := by
    rcases hty with rfl | rfl | rfl
    · exact ⟨0, rfl, rfl⟩
    · exact ⟨1, rfl, rfl⟩
    · exact ⟨2, rfl, rfl⟩
  have hset := mm_w_set (b := b) (φ := φ) (dA := dA) (h := h) (o := o1) (c := .inl (ty1, m1, va_cpy f g sp.toNatClampNeg dp.toNatClampNeg n.toNatClampNeg))
  have hnf : nativeFrameWords "java/lang/System" "arraycopy" 5 + 11 ≤ 52 := by decide
  exact va_copyi hx hb (by rw [hml]; exact hl.1.symm) hown (hts _ (hWT _ h1)) (hts _ (hWT _ h2)) (hts _ (hWT _ h3)) (hts _ (hWT _ h4)) hKK.1 hP hD hS o0 o1 t0 t0 (mm_w_at ho0) (mm_w_at ho1) ht0 ht0 hpr j1 j2 j3 j4 j5 j6 (by omega) (by omega) hd (fun H1 locs1 hP1 hD1 hS1 => hK _ _ _ _ _ _ hE7 φ H1 locs1 ls f0 g0 (by rw [List.length_set]; exact hn) k1 k2 (by rw [← hset]; exact hP1) (by rw [← hset]; exact hD1) hS1 hl)
end MC
