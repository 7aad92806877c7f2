section MO
variable {p : Program} {l : Launch} {e : Env} {R : Room} {s : State} {m : MethodId} {args : Array Value} {below : List Frame} {meth : Method} {c : Code} {Q : State → Prop}
variable {D : va_G} {dA : FieldType → ClassId} {cl : List vw_C} {b : Nat} {A : Nat → Prop} {φ0 : Nat → Nat} {n0 : Nat}
variable {mi : Nat → mm_M} {tb : Nat → Nat → Option mm_E} {df : Nat → List Value} {WS Ts : List Cond} {nF : List mm_F} {nM : List mm_N} {nm w d : Nat} {xs : Nat × (Nat → Int32)}
theorem mm_tyI : ([(dA .int, .int), (dA .boolean, .boolean), (dA .char, .char)] : List (ClassId × FieldType))[0]? = some (dA .int, .int) := rfl
theorem mm_tyZ : ([(dA .int, .int), (dA .boolean, .boolean), (dA .char, .char)] : List (ClassId × FieldType))[1]? = some (dA .boolean, .boolean) := rfl
theorem mm_tyC : ([(dA .int, .int), (dA .boolean, .boolean), (dA .char, .char)] : List (ClassId × FieldType))[2]? = some (dA .char, .char) := rfl
/-- what the tables say of a class -/
theorem mm_okc_spec {dv : List Value} {q : vw_C} (h : mm_okc WS dv q = true) : (∀ x ∈ u_ws q.1 q.2.1 q.2.2, x ∈ WS) ∧ (∀ k, k < q.2.2 → parseFieldDescriptor (q.2.1 k).2.2.1 = some ((parseFieldDescriptor (q.2.1 k).2.2.1).getD .int)) ∧ (∀ a, a < q.2.2 → ∀ b, b < q.2.2 → a ≠ b → (q.2.1 a).2.1 ≠ (q.2.1 b).2.1) ∧ (∀ k, k < q.2.2 → defaultValue ((parseFieldDescriptor (q.2.1 k).2.2.1).getD .int) = vp_V dv k) ∧ (∀ v ∈ dv, v = .int 0 ∨ v = .null) := by
  simp only [mm_okc, Bool.and_eq_true, List.all_eq_true, List.mem_range, decide_eq_true_eq, Bool.or_eq_true] at h
  obtain ⟨⟨h1, h2⟩, h3⟩ := h
  refine ⟨fun x hx => ?_, fun k hk => ?_, fun a ha b hb hab => ?_, fun k hk => (h1 k hk).2, h3⟩
  · obtain ⟨k, hk, rfl⟩ := List.mem_map.mp hx
    exact (h1 k (List.mem_range.mp hk)).1.2
  · have := (h1 k hk).1.1
    obtain ⟨y, hy⟩ := Option.isSome_iff_exists.mp this
    rw [hy]
    rfl
  · rcases h2 a ha b hb with h | h
    · exact absurd h hab
    · exact h
theorem mm_fit_ok {b : Nat} {φ : Nat → Nat} {k : Int32} {v : Value} {ty : FieldType} (hf : mm_fit k v) (ht : mm_ty k ty = true) : narrow ty (mm_v b φ v) = mm_v b φ v ∧ fits ty (mm_v b φ v) = true := by
  cases v with
  | int x =>
    cases ty <;> simp [mm_ty] at ht <;> subst ht <;> simp [mm_fit] at hf
    · exact ⟨rfl, rfl⟩
    · rcases hf with rfl | rfl
      · show narrow .boolean (.int 0) = .int 0 ∧ fits .boolean (.int 0) = true
        decide
      · show narrow .boolean (.int 1) = .int 1 ∧ fits .boolean (.int 1) = true
        decide
  | ref o =>
    cases ty <;> simp [mm_ty] at ht <;> subst ht <;> simp [mm_fit] at hf
    · exact ⟨rfl, rfl⟩
    · exact ⟨rfl, rfl⟩
  | null =>
    cases ty <;> simp [mm_ty] at ht <;> subst ht <;> simp [mm_fit] at hf
    · exact ⟨rfl, rfl⟩
    · exact ⟨rfl, rfl⟩
  | _ => exact hf.elim
theorem mm_rcv_inv {h : mm_H} {ci : Nat} {as : List Value} (hr : mm_rcv h ci as) : ∃ o As fs, as = .ref o :: As ∧ h[o]? = some (.inr (ci, fs)) := by
  unfold mm_rcv at hr
  split at hr
  · rename_i o As
    split at hr
    · rename_i q hq
      subst hr
      exact ⟨o, As, q.2, rfl, hq⟩
    · exact hr.elim
  · exact hr.elim
theorem mm_stack {b k : Nat} {φ : Nat → Nat} {st As : List Value} {o : Nat} (h : (st.take k).reverse = .ref o :: As) : st.map (mm_v b φ) = (As.map (mm_v b φ)).reverse ++ .ref (φ o) :: (st.drop k).map (mm_v b φ) := by
  have h1 : st.take k = (Value.ref o :: As).reverse := by rw [← h, List.reverse_reverse]
  have h2 : st = (Value.ref o :: As).reverse ++ st.drop k := by rw [← h1, List.take_append_drop]
  have h3 : st.map (mm_v b φ) = ((Value.ref o :: As).reverse ++ st.drop k).map (mm_v b φ) := congrArg _ h2
  rw [h3]
  simp [mm_v]
theorem mm_stackS {b k : Nat} {φ : Nat → Nat} {st : List Value} : st.map (mm_v b φ) = ((st.take k).reverse.map (mm_v b φ)).reverse ++ (st.drop k).map (mm_v b φ) := by
  have h3 : st.map (mm_v b φ) = (st.take k ++ st.drop k).map (mm_v b φ) := by rw [List.take_append_drop]
  rw [h3]
  simp
theorem mm_ml_spec {own : String} {i : Nat} {y : MethodName} (h : mm_ml WS nM own i y = true) : Cond.methodLink own i y ∈ WS ∨ ∃ q ∈ nM, q.1 = own ∧ q.2.1 = i ∧ q.2.2.1 = y := by
  simpa only [mm_ml, Bool.or_eq_true, decide_eq_true_eq, List.any_eq_true] using h
theorem mm_my_spec {y : MethodName} {k : Nat} (h : mm_my WS y k = true) : (y.cls ≠ "java/lang/invoke/MethodHandle" ∧ y.cls ≠ "java/lang/invoke/VarHandle" ∧ (parseMethodDescriptor y.desc).map (fun d => d.parameters.length) = some k) ∧ Cond.initialized y.cls ∈ WS := by
  simp only [mm_my, Bool.and_eq_true, decide_eq_true_eq] at h
  exact ⟨⟨h.1.1.1, h.1.1.2, h.1.2⟩, h.2⟩
/-- the start of a callee, from where its caller stands -/
theorem mm_pre {φ : Nat → Nat} {h : mm_H} {H : Heap} {locs : List Loc} {as : List Value} (hKK : mm_KK D dA cl nF nM s) (hX : va_X b xs.1 xs.2 s s.heap) (hbl : b < s.heap.size) (hbA : ¬ A b) (hP : va_P D cl (mm_w b φ dA h) H) (hD : va_D A (mm_w b φ dA h)) (hS : va_S A s.heap H locs) {av : Array Value} (hav : av = (as.map (mm_v b φ)).toArray) : ∀ U : State, U.heap = H → s.WarmedH U.vm → mm_Pc D dA cl nF nM b xs φ h as H.size av U := by
  intro U hU hW
  exact ⟨hav, by rw [hU], by rw [hU]; exact hP, hKK.warm hW, hD.weaken (fun _ _ _ _ => trivial), by rw [hU]; exact (hX.kept (hS.2.1 b hbl hbA)).moved hW.alike, by rw [hU]; exact Nat.lt_of_lt_of_le hbl hS.1, fun k q hq e => hbA (e ▸ hD.2 k q hq)⟩
end MO
