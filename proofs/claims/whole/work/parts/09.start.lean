/-! THE CLAIM OUT OF ONE WALK OF THE LAW'S BODY. Your part is whole_start (and what it stands on); all else here is the same for every law, but numbers. -/
def R_law : String := "ReplayedBeansLaw"
def lw_P (b : Addr) (xs : List Int32) (args : Array Value) (s : State) : Prop := args = #[.ref b] ∧ s.IntsAt b xs ∧ xs.length ≤ 3072 ∧ (Jvm.Cond.and given_1 narrow_1).before args s = true
def lw_Q (_ : Array Value) (s : State) (o : Outcome) (t : State) : Prop := o = .returned (some (.int 1)) ∧ Framed s o t [] 600000 7302250
def lw_Z (below : List Frame) (a : Array Value) (s : State) : State → Prop := fun t => ∃ o, t.status = .running ∧ Ended t below o ∧ lw_Q a s o t
/-- the law's own end, with 1 on the stack, nothing written that was there before, its room as the claim has it -/
theorem lw_ret {p : Program} {l : Launch} {e : Env} {s : State} {m : MethodId} {below : List Frame} {meth : Method} {c : Code} {b : Nat} (hx : p.tables.exec = Jvm.exec) (hb : c.code = code) (hr : meth.sig.returnType = ret) (hlocks : meth.locks = false) {pc : Nat} {H : Heap} {ls : Array Slot} (hdg : decode code pc = .ok (.ireturn, 1)) : W p l e room_1 s m #[Value.ref b] below meth c H [] 600000 7302250 (lw_Z below #[Value.ref b] s) (F0 m pc ls [.int 1]) := by
  intro T hT X
  obtain ⟨fs, hret, hrun, hended, hW, hframe⟩ := X.leave (v := some (.int 1)) (hlocks := hlocks) (fun h => by rw [hr] at h; cases h)
  have hmeth' : T.vm.method? m = some meth := X.method'
  refine ⟨T.setFrames fs, ?_, .returned (some (.int 1)), hrun, hended, rfl, ⟨_, rfl⟩, hW, hframe⟩
  jvm_step X.here [X.here.top, hx, hb, hdg, hmeth', hr, ret, narrow_b1]
  (try refine ⟨rfl, ?_⟩); (try refine ⟨rfl, ?_⟩)
  first | (intro acts; rw [hret _ acts rfl rfl rfl]) | rw [hret _ _ rfl rfl rfl]
  exact Steps.refl _
/-- what holds at the law's entry: the machine, the code, the tables' words (any of lw_tbl by 'hts w (by decide +kernel)'), the script of L ints xs at the cell b, what the Statement gives of the start (any of its parts by flat_of_before) -/
def lw_At (p : Program) (s : State) (m : MethodId) (meth : Method) (c : Code) (b L : Nat) (xs : Nat → Int32) : Prop :=
  p.tables.exec = Jvm.exec ∧ c.code = code ∧ meth.sig.returnType = ret ∧ c.maxLocals = 4 ∧ s.vm.findClass R_law = some m.cls ∧ (∀ w ∈ lw_tbl, w.before #[Value.ref b] s = true) ∧ va_X b L xs s s.heap ∧ b < s.heap.size ∧ meth.locks = false ∧ (Jvm.Cond.and given_1 narrow_1).before #[Value.ref b] s = true
/-- what is left to prove, over the small machine alone -/
def st_pure : Prop := ∀ (L : Nat) (xs : Nat → Int32), L ≤ 3072 → mm_run tmi ttb tdf (mm_call tmi ttb tdf (L, xs) 1000) (L, xs) (600000, 7302250) (fun _ r _ _ => r = some (.int 1)) 0 128 0 [some (.retAddr 0), none, none, none] [] [] 0 0
set_option maxHeartbeats 4000000 in
set_option maxRecDepth 100000 in
theorem st_whole (hpure : st_pure) {p : Program} {e : Env} {s : State} {m : MethodId} {below : List Frame} {meth : Method} {c : Code} (l : Launch) {b L : Nat} {xs : Nat → Int32} (hL : L ≤ 3072) (C0 : lw_At p s m meth c b L xs) : W p l e room_1 s m #[Value.ref b] below meth c s.heap [] 0 0 (lw_Z below #[Value.ref b] s) (entryFrame m ([Value.ref b] : List Value).toArray 4) := by
  obtain ⟨hx, hb, hr, hml, hown, hts, hX, hbl, hlocks, hgv⟩ := C0
  have hD0 : ∀ ci : Nat, ∃ x : ClassId × (Nat → Nat), ∀ q : vw_C, tcl[ci]? = some q → u_Kn s q.1 q.2.1 q.2.2 x.1 x.2 := by
    intro ci
    cases hq : tcl[ci]? with
    | none => exact ⟨(0, fun _ => 0), fun q h => by cases h⟩
    | some q =>
      obtain ⟨u1, -⟩ := mm_okc_spec (tk_cl ci q hq)
      obtain ⟨cC, iS, h⟩ := u_known (C := q.1) (T := q.2.1) (N := q.2.2) hts (fun w hw => tk_in w (u1 w hw)) (hts _ (tk_in _ (tc_inst q (List.mem_of_getElem? hq))))
      exact ⟨(cC, iS), fun q2 h2 => by cases h2; exact h⟩
  obtain ⟨f, hf⟩ := Classical.axiomOfChoice hD0
  obtain ⟨cI, kI, pI, i1, i2, i3⟩ := Cond.arrayClass_spec (hts _ (tk_in _ tc_arr.1))
  obtain ⟨cZ, kZ, pZ, z1, z2, z3⟩ := Cond.arrayClass_spec (hts _ (tk_in _ tc_arr.2.1))
  obtain ⟨cC, kC, pC, c1, c2, c3⟩ := Cond.arrayClass_spec (hts _ (tk_in _ tc_arr.2.2))
  let dA : FieldType → ClassId := fun ty => match ty with
    | .int => cI
    | .boolean => cZ
    | .char => cC
    | _ => 0
  let D : va_G := (fun ci => (f ci).1, fun ci => (f ci).2)
  have hKK : mm_KK D dA tcl tnF tnM s := by
    refine ⟨⟨fun ci q hq => hf ci q hq, fun k q hk => ?_⟩, fun q hq => va_Nw.of rfl (hts _ (tc_mF q hq)), fun q hq => va_Nw.of rfl (hts _ (tc_mM q hq))⟩
    match k, hk with
    | 0, hk => cases hk; exact ⟨fun n z => ⟨fun k h => (by cases h), kI, i2, pI, i3⟩, i1⟩
    | 1, hk => cases hk; exact ⟨fun n z => ⟨fun k h => (by cases h), kZ, z2, pZ, z3⟩, z1⟩
    | 2, hk => cases hk; exact ⟨fun n z => ⟨fun k h => (by cases h), kC, c2, pC, c3⟩, c1⟩
    | k + 3, hk => cases hk
  have hG : ∀ z, z < 128 → GoodIn lw_tbl (mm_ws tmi tws 128 z) := by
    intro z hz x hxz
    rcases List.mem_cons.mp hxz with rfl | hxz
    · exact ⟨tc_ok z hz, Or.inl rfl⟩
    · rcases List.mem_append.mp hxz with hxz | hxz
      · obtain ⟨i, hi, rfl⟩ := List.mem_map.mp hxz
        exact ⟨tc_ok i (List.mem_range.mp hi), Or.inl rfl⟩
      · rcases List.mem_cons.mp hxz with rfl | hxz
        · exact ⟨tc_oi, Or.inl rfl⟩
        · exact ⟨tk_in x hxz, good_of_word (tk_ws x hxz)⟩
  have Z : mm_Cx p l room_1 s m #[Value.ref b] meth c D dA tcl b (fun q => s.heap.size ≤ q) tmi tdf tws lw_tbl tnF tnM 128 128 1000 (L, xs) :=
    ⟨⟨hx, hb, hml, hown, hts⟩, tk_in, tc_oi, hG, fun y hy => tk_mi y (Nat.lt_succ_of_lt hy), tk_cl, hKK, fun q h => h, hX, hbl, Nat.not_le.mpr hbl, fun h => absurd h (by decide), by decide, by decide⟩
  have hmet := mm_met l D dA tcl b tmi ttb tdf tws tnF tnM 128 (L, xs) tk_ws (fun y hy => tk_mi y (Nat.lt_succ_of_lt hy)) tk_cl (fun w hw => tk_ok w (Nat.lt_succ_of_lt hw)) 1000
  have hl := lv_entry ([Value.ref b]) (n := 4) (Nat.le_of_ble_eq_true rfl)
  rw [lg_entry_eq]
  generalize (lg_sl ([Value.ref b]) ++ List.replicate (4 - (lg_sl ([Value.ref b])).length) Slot.unset).toArray = ls at hl ⊢
  have hl2 : lv_has ls 4 (mm_l b (fun _ => 0) [some (.retAddr 0), none, none, none]) := hl
  refine mm_run_go (Q := lw_Z below #[Value.ref b] s) (φ0 := fun _ => 0) Z hmet ?_ (tk_ok 128 (by decide)) (hpure L xs hL) (fun _ => 0) s.heap [] ls (fun _ _ => rfl) (fun _ => rfl) (Nat.le_refl _) (Nat.zero_le _) (Nat.zero_le _) (fun k q h => by cases h) ⟨fun i j p q h => (by cases h), fun k q h => (by cases h)⟩ va_S.rf hl2
  intro I v pc Lo h' kc ks hret hd hj φ' H locs ls' f0 g0 hn k1 k2 hP1 hD1 hS1 hl1
  obtain ⟨j, -, hv⟩ := hj
  subst hv
  rcases hret with ⟨-, h, -⟩ | ⟨x, ty, rfl, hxv, hrt, hnar⟩ | ⟨x, ty, -, h, -⟩
  · cases h
  · cases hxv
    refine va_forget (fun q hq => hS1.2.2 q hq) ?_
    refine W.widen (k := 600000) (n := 7302250) k1 k2 ?_
    exact lw_ret hx hb hr hlocks hd
  · cases h
