/-! what the tables must say, as a check that a program decides -/
abbrev mm_F : Type := String × Nat × String × String × String × String
abbrev mm_N : Type := String × Nat × MethodName × String
def mm_okc (WS : List Cond) (df : List Value) (q : vw_C) : Bool :=
  (List.range q.2.2).all (fun k => (parseFieldDescriptor (q.2.1 k).2.2.1).isSome && decide (u_lay q.1 q.2.1 k ∈ WS) && decide (defaultValue ((parseFieldDescriptor (q.2.1 k).2.2.1).getD .int) = vp_V df k)) &&
  (List.range q.2.2).all (fun a => (List.range q.2.2).all (fun b => decide (a = b) || decide ((q.2.1 a).2.1 ≠ (q.2.1 b).2.1))) &&
  df.all (fun v => decide (v = .int 0) || decide (v = .null))
def mm_lk (WS : List Cond) (nF : List mm_F) (own : String) (i : Nat) (f : String × String × String × Bool) : Bool :=
  decide (Cond.fieldLink own i f.1 f.2.1 f.2.2.1 ∈ WS) || nF.any (fun q => decide (q.1 = own ∧ q.2.1 = i ∧ q.2.2.1 = f.1 ∧ q.2.2.2.1 = f.2.1 ∧ q.2.2.2.2.1 = f.2.2.1))
def mm_ty (c : Int32) (ty : FieldType) : Bool := match ty with
  | .int => decide (c = 0)
  | .boolean => decide (c = 1)
  | .object _ => decide (c = 3)
  | .array _ => decide (c = 3)
  | _ => false
def mm_fl (cl : List vw_C) (WS : List Cond) (nF : List mm_F) (own : String) (i ci k : Nat) : Bool := match cl[ci]? with
  | none => false
  | some q => decide (k < q.2.2) && mm_lk WS nF own i (q.2.1 k)
def mm_fp (cl : List vw_C) (WS : List Cond) (nF : List mm_F) (own nm : String) (i ci k : Nat) (c : Int32) : Bool := match cl[ci]? with
  | none => false
  | some q => decide (k < q.2.2) && (match parseFieldDescriptor (q.2.1 k).2.2.1 with
    | none => false
    | some ty => mm_ty c ty) && (if (q.2.1 k).2.2.2 = true then decide (nm = "<init>") && decide ((q.2.1 k).1 = own) && decide (Cond.fieldLink own i (q.2.1 k).1 (q.2.1 k).2.1 (q.2.1 k).2.2.1 ∈ WS) else mm_lk WS nF own i (q.2.1 k))
def mm_ml (WS : List Cond) (nM : List mm_N) (own : String) (i : Nat) (y : MethodName) : Bool :=
  decide (Cond.methodLink own i y ∈ WS) || nM.any (fun q => decide (q.1 = own ∧ q.2.1 = i ∧ q.2.2.1 = y))
def mm_my (WS : List Cond) (y : MethodName) (k : Nat) : Bool :=
  decide (y.cls ≠ "java/lang/invoke/MethodHandle") && decide (y.cls ≠ "java/lang/invoke/VarHandle") && decide ((parseMethodDescriptor y.desc).map (fun d => d.parameters.length) = some k) && decide (Cond.initialized y.cls ∈ WS)
def mm_sd (mi : Nat → mm_M) (cl : List vw_C) (WS : List Cond) (nF : List mm_F) (nM : List mm_N) (nm m pc : Nat) (E : mm_E) : Bool := match E.1 with
  | .iconst n => decide (E.2.1 = 1 ∧ Int32.ofInt n = E.2.2.2.2)
  | .bipush n => decide (E.2.1 = 2 ∧ (Int8.ofInt n).toInt32 = E.2.2.2.2)
  | .sipush n => decide (E.2.1 = 3 ∧ (Int16.ofInt n).toInt32 = E.2.2.2.2)
  | .ldc i => decide (E.2.1 = 2) && decide (Cond.constant (mm_y (mi m)).cls i E.2.2.2.2 ∈ WS)
  | .iload_n k => decide (E.2.1 = 1 ∧ (k : Nat) = E.2.2.1)
  | .iload k => decide (E.2.1 = 2 ∧ k = E.2.2.1)
  | .aload_n k => decide (E.2.1 = 1 ∧ (k : Nat) = E.2.2.1)
  | .aload k => decide (E.2.1 = 2 ∧ k = E.2.2.1)
  | .istore_n k => decide (E.2.1 = 1 ∧ (k : Nat) = E.2.2.1 ∧ E.2.2.1 < mm_n (mi m))
  | .istore k => decide (E.2.1 = 2 ∧ k = E.2.2.1 ∧ E.2.2.1 < mm_n (mi m))
  | .astore_n k => decide (E.2.1 = 1 ∧ (k : Nat) = E.2.2.1 ∧ E.2.2.1 < mm_n (mi m))
  | .astore k => decide (E.2.1 = 2 ∧ k = E.2.2.1 ∧ E.2.2.1 < mm_n (mi m))
  | .iinc k n => decide (E.2.1 = 3 ∧ k = E.2.2.1 ∧ E.2.2.1 < mm_n (mi m) ∧ Int32.ofInt n = E.2.2.2.2)
  | .ifCond _ off => decide (E.2.1 = 3 ∧ (pc : Int) + off = (E.2.2.1 : Int))
  | .if_icmp _ off => decide (E.2.1 = 3 ∧ (pc : Int) + off = (E.2.2.1 : Int))
  | .goto off => decide (E.2.1 = 3 ∧ (pc : Int) + off = (E.2.2.1 : Int))
  | .lookupswitch _ ps => (ps.toList.zip (ps.toList.drop 1)).all (fun (a, next) => a.1 < next.1)
  | .tableswitch _ _ _ _ => true
  | .getfield i => decide (E.2.1 = 3) && mm_fl cl WS nF (mm_y (mi m)).cls i E.2.2.1 E.2.2.2.1
  | .putfield i => decide (E.2.1 = 3) && mm_fp cl WS nF (mm_y (mi m)).cls (mm_y (mi m)).name i E.2.2.1 E.2.2.2.1 E.2.2.2.2
  | .new i => decide (E.2.1 = 3) && (match cl[E.2.2.1]? with
    | none => false
    | some q => decide (q.2.2 = E.2.2.2.1) && decide (Cond.classLink (mm_y (mi m)).cls i q.1 ∈ WS) && decide (Cond.instantiable q.1 q.2.2 ∈ WS) && decide (Cond.initialized q.1 ∈ WS))
  | .newarray ty => decide (E.2.1 = 2) && (decide (newarray.typeOf ty = .int) || decide (newarray.typeOf ty = .boolean) || decide (newarray.typeOf ty = .char)) && decide (Cond.arrayClass (newarray.typeOf ty) ∈ WS)
  | .invokespecial i => decide (E.2.1 = 3) && (if E.2.2.2.1 = 0 then decide (Cond.methodLink (mm_y (mi m)).cls i objectInit ∈ WS) && decide (Cond.instanceMethod objectInit ∈ WS)
    else decide (E.2.2.1 < nm) && decide ((mm_y (mi E.2.2.1)).name = "<init>") && decide (mm_r (mi E.2.2.1) = none) && decide (0 < mm_k (mi E.2.2.1)) && mm_ml WS nM (mm_y (mi m)).cls i (mm_y (mi E.2.2.1)) && mm_my WS (mm_y (mi E.2.2.1)) (mm_k (mi E.2.2.1) - 1) && decide (Cond.instanceMethod (mm_y (mi E.2.2.1)) ∈ WS))
  | .invokevirtual i => decide (E.2.1 = 3) && decide (E.2.2.1 < nm) && decide (0 < mm_k (mi E.2.2.1)) && mm_ml WS nM (mm_y (mi m)).cls i (mm_y (mi E.2.2.1)) && mm_my WS (mm_y (mi E.2.2.1)) (mm_k (mi E.2.2.1) - 1) && decide (Cond.instanceMethod (mm_y (mi E.2.2.1)) ∈ WS) && decide (Cond.selects (mm_y (mi E.2.2.1)).cls (mm_y (mi E.2.2.1)) (mm_y (mi E.2.2.1)) ∈ WS) && (match cl[mm_ci (mi E.2.2.1)]? with
    | none => false
    | some q => decide (q.1 = (mm_y (mi E.2.2.1)).cls))
  | .invokestatic i => decide (E.2.1 = 3) && (if E.2.2.2.1 = 0 then decide (Cond.methodLink (mm_y (mi m)).cls i arraycopyName ∈ WS) && decide (Cond.native arraycopyName ∈ WS) && decide (Cond.static arraycopyName ∈ WS) && decide (Cond.initialized "java/lang/System" ∈ WS)
    else decide (E.2.2.1 < nm) && mm_ml WS nM (mm_y (mi m)).cls i (mm_y (mi E.2.2.1)) && mm_my WS (mm_y (mi E.2.2.1)) (mm_k (mi E.2.2.1)) && decide (Cond.static (mm_y (mi E.2.2.1)) ∈ WS))
  | _ => decide (E.2.1 = 1)
def mm_ok (mi : Nat → mm_M) (cl : List vw_C) (WS : List Cond) (nF : List mm_F) (nM : List mm_N) (nm m pc : Nat) (E : mm_E) : Bool :=
  decide (decode (mm_b (mi m)) pc = .ok (E.1, E.2.1)) && mm_sd mi cl WS nF nM nm m pc E
def mm_okm (M : mm_M) : Bool := plainName (mm_y M).cls && decide (mm_n M ≤ 41) && decide (mm_k M ≤ mm_n M)
/-- the words of method y -/
def mm_cw (M : mm_M) : Cond := .code (mm_y M) (mm_b M) (mm_n M) (mm_r M)
def mm_ws (mi : Nat → mm_M) (WS : List Cond) (nm y : Nat) : List Cond := mm_cw (mi y) :: ((List.range nm).map (fun i => mm_cw (mi i)) ++ (Cond.code objectInit ⟨#[0xb1]⟩ 1 none :: WS))
/-! values, cells, locals: small facts -/
theorem mm_v_cat (b : Nat) (φ : Nat → Nat) (v : Value) : (mm_v b φ v).category = v.category := by cases v <;> rfl
theorem mm_v_ext {b n : Nat} {φ φ' : Nat → Nat} {v : Value} (hw : mm_wfv n v = true) (hp : ∀ k, k < n → φ' k = φ k) : mm_v b φ' v = mm_v b φ v := by
  cases v with
  | ref k =>
    have hk : k < n := Nat.le_of_ble_eq_true hw
    show Value.ref (φ' k) = Value.ref (φ k)
    rw [hp k hk]
  | _ => rfl
theorem mm_vs_ext {b n : Nat} {φ φ' : Nat → Nat} {l : List Value} (hw : l.all (mm_wfv n) = true) (hp : ∀ k, k < n → φ' k = φ k) : l.map (mm_v b φ') = l.map (mm_v b φ) :=
  List.map_congr_left fun v hv => mm_v_ext (List.all_eq_true.mp hw v hv) hp
theorem mm_c_ext {b n : Nat} {φ φ' : Nat → Nat} {dA : FieldType → ClassId} {c : mm_C} (hw : mm_wfc n c = true) (hp : ∀ k, k < n → φ' k = φ k) : mm_c b φ' dA c = mm_c b φ dA c := by
  cases c with
  | inl q => rfl
  | inr q =>
    show Sum.inr (q.1, q.2.map (mm_v b φ')) = Sum.inr (q.1, q.2.map (mm_v b φ))
    rw [mm_vs_ext hw hp]
theorem mm_w_get {b : Nat} {φ : Nat → Nat} {dA : FieldType → ClassId} {h : mm_H} (k : Nat) : (mm_w b φ dA h)[k]? = (h[k]?).map (fun c => (φ k, mm_c b φ dA c)) := by
  simp [mm_w]
theorem mm_w_len {b : Nat} {φ : Nat → Nat} {dA : FieldType → ClassId} {h : mm_H} : (mm_w b φ dA h).length = h.length := by simp [mm_w]
theorem mm_w_at {b : Nat} {φ : Nat → Nat} {dA : FieldType → ClassId} {h : mm_H} {o : Nat} {c : mm_C} (ho : h[o]? = some c) : (mm_w b φ dA h)[o]? = some (φ o, mm_c b φ dA c) := by
  rw [mm_w_get, ho]; rfl
theorem mm_w_set {b : Nat} {φ : Nat → Nat} {dA : FieldType → ClassId} {h : mm_H} {o : Nat} {c : mm_C} : (mm_w b φ dA h).set o (φ o, mm_c b φ dA c) = mm_w b φ dA (h.set o c) := by
  apply List.ext_getElem?
  intro k
  rw [mm_w_get, List.getElem?_set, List.getElem?_set, mm_w_get, mm_w_len]
  by_cases hk : o = k
  · subst hk
    by_cases hl : o < h.length
    · simp [hl]
    · simp [hl]
  · simp [hk]
theorem mm_w_app {b q : Nat} {φ : Nat → Nat} {dA : FieldType → ClassId} {h : mm_H} {c : mm_C} {e : va_E} (hw : h.all (mm_wfc h.length) = true) (hc : ∀ φ', mm_c b φ' dA c = e) : mm_w b (fun k => if k = h.length then q else φ k) dA (h ++ [c]) = mm_w b φ dA h ++ [(q, e)] := by
  apply List.ext_getElem?
  intro k
  rw [mm_w_get]
  by_cases hk : k < h.length
  · rw [List.getElem?_append_left hk, List.getElem?_append_left (by rw [mm_w_len]; exact hk), mm_w_get]
    cases hx : h[k]? with
    | none => rfl
    | some x =>
      have hx2 : mm_wfc h.length x = true := List.all_eq_true.mp hw x (List.mem_of_getElem? hx)
      show some (_, _) = some (_, _)
      rw [mm_c_ext hx2 (φ := φ) (fun j hj => if_neg (Nat.ne_of_lt hj)), if_neg (Nat.ne_of_lt hk)]
  · rw [List.getElem?_append_right (by omega), List.getElem?_append_right (by rw [mm_w_len]; omega), mm_w_len]
    by_cases hk2 : k = h.length
    · subst hk2
      simp [hc]
    · have hz : k - h.length ≠ 0 := by omega
      obtain ⟨j, hj⟩ : ∃ j, k - h.length = j + 1 := ⟨k - h.length - 1, by omega⟩
      rw [hj]
      rfl
theorem mm_l_mem {b : Nat} {φ : Nat → Nat} {L : mm_L} {q : Nat × Value} : q ∈ mm_l b φ L ↔ ∃ v, L[q.1]? = some (some v) ∧ v.category = 1 ∧ q.2 = mm_v b φ v := by
  obtain ⟨i, w⟩ := q
  simp only [mm_l, List.mem_filterMap, List.mem_range]
  constructor
  · rintro ⟨j, hj, h⟩
    split at h
    · rename_i v hv
      split at h
      · rename_i hc
        cases h
        exact ⟨v, hv, hc, rfl⟩
      · cases h
    · cases h
  · rintro ⟨v, hv, hc, hw⟩
    have hi : i < L.length := (List.getElem?_eq_some_iff.mp hv).1
    refine ⟨i, hi, ?_⟩
    rw [hv, hw]
    simp [hc]
theorem mm_lsub {ls : Array Slot} {n : Nat} {l1 l2 : List (Nat × Value)} (h : lv_has ls n l1) (hs : ∀ q ∈ l2, q ∈ l1) : lv_has ls n l2 := ⟨h.1, h.2.1, fun q hq => h.2.2 q (hs q hq)⟩
theorem mm_lget {b : Nat} {φ : Nat → Nat} {L : mm_L} {ls : Array Slot} {n a : Nat} {v : Value} (h : lv_has ls n (mm_l b φ L)) (hv : L[a]? = some (some v)) (hc : v.category = 1) : ls[a]? = some (.val (mm_v b φ v)) := h.2.2 (a, mm_v b φ v) (mm_l_mem.mpr ⟨v, hv, hc, rfl⟩)
theorem mm_lset {b : Nat} {φ : Nat → Nat} {L : mm_L} {a : Nat} {x : Value} : ∀ q ∈ mm_l b φ (L.set a (some x)), q ∈ (a, mm_v b φ x) :: (mm_l b φ L).filter (fun q => !(q.1 == a) && !(q.1 + 1 == a && q.2.category == 2)) := by
  intro q hq
  obtain ⟨v, hv, hc, hw⟩ := mm_l_mem.mp hq
  by_cases h : a = q.1
  · rw [List.getElem?_set, if_pos h] at hv
    split at hv
    · have e : x = v := Option.some.inj (Option.some.inj hv)
      subst e
      have : q = (a, mm_v b φ x) := Prod.ext h.symm hw
      rw [this]
      exact List.mem_cons_self
    · cases hv
  · rw [List.getElem?_set, if_neg h] at hv
    refine List.mem_cons_of_mem _ (List.mem_filter.mpr ⟨mm_l_mem.mpr ⟨v, hv, hc, hw⟩, ?_⟩)
    have hc2 : q.2.category = 1 := by rw [hw, mm_v_cat]; exact hc
    have h2 : ¬ q.1 = a := fun e => h e.symm
    simp [h2, hc2]
theorem mm_l_ext {b n : Nat} {φ φ' : Nat → Nat} {L : mm_L} (hw : L.all (mm_wfo n) = true) (hp : ∀ k, k < n → φ' k = φ k) : ∀ q ∈ mm_l b φ' L, q ∈ mm_l b φ L := by
  intro q hq
  obtain ⟨v, hv, hc, hw2⟩ := mm_l_mem.mp hq
  have h1 : mm_wfo n (some v) = true := List.all_eq_true.mp hw _ (List.mem_of_getElem? hv)
  exact mm_l_mem.mpr ⟨v, hv, hc, by rw [hw2, mm_v_ext h1 hp]⟩
theorem mm_in0_args {b : Nat} {φ : Nat → Nat} {as : List Value} {j : Nat} (hc : (as.all fun v => v.category == 1) = true) : ∀ q ∈ mm_l b φ (as.map some ++ List.replicate j none), q ∈ lv_args 0 (as.map (mm_v b φ)) := by
  have key : ∀ (as : List Value) (i : Nat), (as.all fun v => v.category == 1) = true → ∀ (k : Nat) (v : Value), as[k]? = some v → (i + k, mm_v b φ v) ∈ lv_args i (as.map (mm_v b φ)) := by
    intro as
    induction as with
    | nil => intro i _ k v h; simp at h
    | cons w ws ih =>
      intro i hc k v h
      simp only [List.all_cons, Bool.and_eq_true, beq_iff_eq] at hc
      rw [List.map_cons, lv_args, mm_v_cat, if_neg (by rw [hc.1]; decide)]
      cases k with
      | zero =>
        simp at h
        subst h
        exact List.mem_cons_self
      | succ k =>
        have h2 : ws[k]? = some v := by simpa using h
        have h3 := ih (i + 1) hc.2 k v h2
        rw [show i + (k + 1) = i + 1 + k by omega]
        exact List.mem_cons_of_mem _ h3
  intro q hq
  obtain ⟨v, hv, hcv, hw⟩ := mm_l_mem.mp hq
  have h1 : as[q.1]? = some v := by
    by_cases hl : q.1 < as.length
    · rw [List.getElem?_append_left (by simpa using hl), List.getElem?_map] at hv
      cases hx : as[q.1]? with
      | none => rw [hx] at hv; cases hv
      | some x => rw [hx] at hv; exact congrArg some (Option.some.inj (Option.some.inj hv))
    · rw [List.getElem?_append_right (by simpa using hl)] at hv
      have := List.eq_of_mem_replicate (List.mem_of_getElem? hv)
      cases this
  have h2 := key as 0 hc q.1 v h1
  rw [Nat.zero_add, ← hw] at h2
  exact h2
theorem mm_in0_len {b : Nat} {φ : Nat → Nat} {as : List Value} (hc : (as.all fun v => v.category == 1) = true) : (lg_sl (as.map (mm_v b φ))).length = as.length := by
  induction as with
  | nil => rfl
  | cons w ws ih =>
    simp only [List.all_cons, Bool.and_eq_true, beq_iff_eq] at hc
    have h1 : (mm_v b φ w).category = 1 := by rw [mm_v_cat]; exact hc.1
    have h2 : lg_sl ((w :: ws).map (mm_v b φ)) = .val (mm_v b φ w) :: lg_sl (ws.map (mm_v b φ)) := by
      simp [lg_sl, h1]
    rw [h2, List.length_cons, ih hc.2, List.length_cons]
theorem mm_cat_v {b : Nat} {φ : Nat → Nat} {st : List Value} (h : mm_cat st) : ((st.map (mm_v b φ)).map fun v => v.category).sum ≤ 8 := by
  have e : (st.map (mm_v b φ)).map (fun v => v.category) = st.map fun v => v.category := by
    rw [List.map_map]
    exact List.map_congr_left fun v _ => mm_v_cat b φ v
  rw [e]
  exact h
