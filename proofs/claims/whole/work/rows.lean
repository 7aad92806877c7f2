section
/-! The small machine: what a method does over cells that are numbered by the order in which they were made. One theorem (mm_met) ties it to the machine itself: what the small machine comes to, the method comes to. -/
abbrev mm_C : Type := (FieldType × Nat × (Nat → Int32)) ⊕ (Nat × List Value)
abbrev mm_H : Type := List mm_C
/-- an instruction, its length, two numbers, an int: what the tables made of its operands -/
abbrev mm_E : Type := Instr × Nat × Nat × Nat × Int32
/-- a method: name, bytes, locals, return type, how many arguments (with the receiver), its class's number, cells and slots that it may make -/
abbrev mm_M : Type := MethodName × ByteArray × Nat × Option FieldType × Nat × Nat × Nat × Nat
abbrev mm_y (M : mm_M) : MethodName := M.1
abbrev mm_b (M : mm_M) : ByteArray := M.2.1
abbrev mm_n (M : mm_M) : Nat := M.2.2.1
abbrev mm_r (M : mm_M) : Option FieldType := M.2.2.2.1
abbrev mm_k (M : mm_M) : Nat := M.2.2.2.2.1
abbrev mm_ci (M : mm_M) : Nat := M.2.2.2.2.2.1
abbrev mm_mc (M : mm_M) : Nat := M.2.2.2.2.2.2.1
abbrev mm_ms (M : mm_M) : Nat := M.2.2.2.2.2.2.2
abbrev mm_L : Type := List (Option Value)
/-- a value of the small machine in the machine: cells by their addresses; retAddr stands for the script -/
def mm_v (b : Nat) (φ : Nat → Nat) (v : Value) : Value := match v with
  | .ref k => .ref (φ k)
  | .retAddr _ => .ref b
  | w => w
def mm_c (b : Nat) (φ : Nat → Nat) (dA : FieldType → ClassId) (c : mm_C) : va_E := match c with
  | .inl q => .inl (dA q.1, q.2.1, .inl q.2.2)
  | .inr q => .inr (q.1, q.2.map (mm_v b φ))
def mm_w (b : Nat) (φ : Nat → Nat) (dA : FieldType → ClassId) (h : mm_H) : va_W := h.mapIdx (fun i c => (φ i, mm_c b φ dA c))
def mm_l (b : Nat) (φ : Nat → Nat) (L : mm_L) : List (Nat × Value) := (List.range L.length).filterMap (fun i => match L[i]? with
  | some (some v) => if v.category = 1 then some (i, mm_v b φ v) else none
  | _ => none)
def mm_wfv (n : Nat) (v : Value) : Bool := match v with
  | .ref k => Nat.blt k n
  | _ => true
def mm_wfo (n : Nat) (o : Option Value) : Bool := match o with
  | some v => mm_wfv n v
  | none => true
def mm_wfc (n : Nat) (c : mm_C) : Bool := match c with
  | .inl _ => true
  | .inr q => q.2.all (mm_wfv n)
def mm_cat (st : List Value) : Prop := (st.map fun v => v.category).sum ≤ 8
/-- may a field of this kind (0 int, 1 boolean, 3 a reference) keep the value? -/
def mm_fit (c : Int32) (v : Value) : Prop := match v with
  | .int x => c = 0 ∨ (c = 1 ∧ (x = 0 ∨ x = 1))
  | .ref _ => c = 3
  | .null => c = 3
  | _ => False
def mm_cz (cnd : Jvm.ClassFile.Cond) (x : Int32) : Prop := match cnd with
  | .eq => x = 0
  | .ne => ¬ x = 0
  | .lt => x < 0
  | .ge => 0 ≤ x
  | .gt => 0 < x
  | .le => x ≤ 0
def mm_cc (cnd : Jvm.ClassFile.Cond) (x y : Int32) : Prop := match cnd with
  | .eq => x = y
  | .ne => ¬ x = y
  | .lt => x < y
  | .ge => y ≤ x
  | .gt => y < x
  | .le => x ≤ y
abbrev mm_K : Type := Nat → mm_L → List Value → mm_H → Nat → Nat → Prop
/-- a call: arguments off the stack, the callee, on with what it came to -/
def mm_cl (mi : Nat → mm_M) (C : Nat → mm_H → List Value → (mm_H → Option Value → Prop) → Prop) (cap : Nat × Nat) (K : mm_K) (y nx : Nat) (L : mm_L) (st : List Value) (h : mm_H) (kc ks : Nat) : Prop :=
  mm_k (mi y) ≤ st.length ∧ mm_cat (st.drop (mm_k (mi y))) ∧ kc + mm_mc (mi y) ≤ cap.1 ∧ ks + mm_ms (mi y) ≤ cap.2 ∧ (mm_mc (mi y) = 0 ∨ (L.all (mm_wfo h.length) && (st.drop (mm_k (mi y))).all (mm_wfv h.length)) = true) ∧
  C y h (st.take (mm_k (mi y))).reverse (fun h' v => K nx L (v.toList ++ st.drop (mm_k (mi y))) h' (kc + mm_mc (mi y)) (ks + mm_ms (mi y)))
def mm_rcv (h : mm_H) (ci : Nat) (as : List Value) : Prop := match as with
  | .ref o :: _ => (match h[o]? with
    | some (.inr q) => q.1 = ci
    | _ => False)
  | _ => False
/-! what lies on the stack, in a local, in a cell -/
def mm_s1 (st : List Value) (k : Int32 → List Value → Prop) : Prop := match st with
  | .int x :: r => k x r
  | _ => False
def mm_s2 (st : List Value) (k : Int32 → Int32 → List Value → Prop) : Prop := match st with
  | .int y :: .int x :: r => k y x r
  | _ => False
def mm_sr (st : List Value) (k : Nat → List Value → Prop) : Prop := match st with
  | .ref o :: r => k o r
  | _ => False
def mm_sv (st : List Value) (k : Value → List Value → Prop) : Prop := match st with
  | v :: r => k v r
  | [] => False
def mm_sx (st : List Value) (k : List Value → Prop) (k0 : Nat → List Value → Prop) : Prop := match st with
  | .retAddr _ :: r => k r
  | .ref o :: r => k0 o r
  | _ => False
def mm_li (L : mm_L) (a : Nat) (k : Int32 → Prop) : Prop := match L[a]? with
  | some (some (.int x)) => k x
  | _ => False
def mm_lr (L : mm_L) (a : Nat) (k : Value → Prop) : Prop := match L[a]? with
  | some (some (.ref x)) => k (.ref x)
  | some (some (.retAddr x)) => k (.retAddr x)
  | _ => False
def mm_ob (h : mm_H) (o : Nat) (k : Nat → List Value → Prop) : Prop := match h[o]? with
  | some (.inr q) => k q.1 q.2
  | _ => False
def mm_ar (h : mm_H) (o : Nat) (k : FieldType → Nat → (Nat → Int32) → Prop) : Prop := match h[o]? with
  | some (.inl q) => k q.1 q.2.1 q.2.2
  | _ => False
def mm_fd (fs : List Value) (b : Nat) (k : Value → Prop) : Prop := match fs[b]? with
  | some v => k v
  | none => False
theorem mm_s1_inv {st : List Value} {k : Int32 → List Value → Prop} (h : mm_s1 st k) : ∃ x r, st = .int x :: r ∧ k x r := by
  unfold mm_s1 at h
  split at h
  · exact ⟨_, _, rfl, h⟩
  · exact h.elim
theorem mm_s2_inv {st : List Value} {k : Int32 → Int32 → List Value → Prop} (h : mm_s2 st k) : ∃ y x r, st = .int y :: .int x :: r ∧ k y x r := by
  unfold mm_s2 at h
  split at h
  · exact ⟨_, _, _, rfl, h⟩
  · exact h.elim
theorem mm_sr_inv {st : List Value} {k : Nat → List Value → Prop} (h : mm_sr st k) : ∃ o r, st = .ref o :: r ∧ k o r := by
  unfold mm_sr at h
  split at h
  · exact ⟨_, _, rfl, h⟩
  · exact h.elim
theorem mm_sv_inv {st : List Value} {k : Value → List Value → Prop} (h : mm_sv st k) : ∃ v r, st = v :: r ∧ k v r := by
  unfold mm_sv at h
  split at h
  · exact ⟨_, _, rfl, h⟩
  · exact h.elim
theorem mm_sx_inv {st : List Value} {k : List Value → Prop} {k0 : Nat → List Value → Prop} (h : mm_sx st k k0) : (∃ z r, st = .retAddr z :: r ∧ k r) ∨ (∃ o r, st = .ref o :: r ∧ k0 o r) := by
  unfold mm_sx at h
  split at h
  · exact Or.inl ⟨_, _, rfl, h⟩
  · exact Or.inr ⟨_, _, rfl, h⟩
  · exact h.elim
theorem mm_li_inv {L : mm_L} {a : Nat} {k : Int32 → Prop} (h : mm_li L a k) : ∃ x, L[a]? = some (some (.int x)) ∧ k x := by
  unfold mm_li at h
  split at h
  · rename_i x hx
    exact ⟨x, hx, h⟩
  · exact h.elim
theorem mm_lr_inv {L : mm_L} {a : Nat} {k : Value → Prop} (h : mm_lr L a k) : ∃ v, L[a]? = some (some v) ∧ ((∃ x, v = .ref x) ∨ ∃ x, v = .retAddr x) ∧ k v := by
  unfold mm_lr at h
  split at h
  · rename_i x hx
    exact ⟨_, hx, Or.inl ⟨x, rfl⟩, h⟩
  · rename_i x hx
    exact ⟨_, hx, Or.inr ⟨x, rfl⟩, h⟩
  · exact h.elim
theorem mm_ob_inv {h : mm_H} {o : Nat} {k : Nat → List Value → Prop} (hh : mm_ob h o k) : ∃ ci fs, h[o]? = some (.inr (ci, fs)) ∧ k ci fs := by
  unfold mm_ob at hh
  split at hh
  · rename_i q hq
    exact ⟨q.1, q.2, hq, hh⟩
  · exact hh.elim
theorem mm_ar_inv {h : mm_H} {o : Nat} {k : FieldType → Nat → (Nat → Int32) → Prop} (hh : mm_ar h o k) : ∃ ty n f, h[o]? = some (.inl (ty, n, f)) ∧ k ty n f := by
  unfold mm_ar at hh
  split at hh
  · rename_i q hq
    exact ⟨q.1, q.2.1, q.2.2, hq, hh⟩
  · exact hh.elim
theorem mm_fd_inv {fs : List Value} {b : Nat} {k : Value → Prop} (h : mm_fd fs b k) : ∃ v, fs[b]? = some v ∧ k v := by
  unfold mm_fd at h
  split at h
  · rename_i v hv
    exact ⟨v, hv, h⟩
  · exact h.elim
/-- one instruction: K is what comes behind it, P what holds at the method's end -/
def mm_ex (mi : Nat → mm_M) (df : Nat → List Value) (C : Nat → mm_H → List Value → (mm_H → Option Value → Prop) → Prop) (xs : Nat × (Nat → Int32)) (cap : Nat × Nat) (P : mm_H → Option Value → Nat → Nat → Prop) (n0 m : Nat) (K : mm_K) (I : Instr) (len a b : Nat) (c : Int32) (pc : Nat) (L : mm_L) (st : List Value) (h : mm_H) (kc ks : Nat) : Prop :=
  match I with
  | .iconst _ => K (pc + len) L (.int c :: st) h kc ks
  | .bipush _ => K (pc + len) L (.int c :: st) h kc ks
  | .sipush _ => K (pc + len) L (.int c :: st) h kc ks
  | .ldc _ => K (pc + len) L (.int c :: st) h kc ks
  | .iload_n _ => mm_li L a fun x => K (pc + len) L (.int x :: st) h kc ks
  | .iload _ => mm_li L a fun x => K (pc + len) L (.int x :: st) h kc ks
  | .aload_n _ => mm_lr L a fun v => K (pc + len) L (v :: st) h kc ks
  | .aload _ => mm_lr L a fun v => K (pc + len) L (v :: st) h kc ks
  | .istore_n _ => mm_s1 st fun x r => K (pc + len) (L.set a (some (.int x))) r h kc ks
  | .istore _ => mm_s1 st fun x r => K (pc + len) (L.set a (some (.int x))) r h kc ks
  | .astore_n _ => mm_sr st fun x r => K (pc + len) (L.set a (some (.ref x))) r h kc ks
  | .astore _ => mm_sr st fun x r => K (pc + len) (L.set a (some (.ref x))) r h kc ks
  | .iinc _ _ => mm_li L a fun x => K (pc + len) (L.set a (some (.int (x + c)))) st h kc ks
  | .iadd => mm_s2 st fun y x r => K (pc + len) L (.int (x + y) :: r) h kc ks
  | .isub => mm_s2 st fun y x r => K (pc + len) L (.int (x - y) :: r) h kc ks
  | .imul => mm_s2 st fun y x r => K (pc + len) L (.int (x * y) :: r) h kc ks
  | .iand => mm_s2 st fun y x r => K (pc + len) L (.int (x &&& y) :: r) h kc ks
  | .ior => mm_s2 st fun y x r => K (pc + len) L (.int (x ||| y) :: r) h kc ks
  | .ixor => mm_s2 st fun y x r => K (pc + len) L (.int (x ^^^ y) :: r) h kc ks
  | .ishl => mm_s2 st fun y x r => K (pc + len) L (.int (x <<< (y &&& 31)) :: r) h kc ks
  | .ishr => mm_s2 st fun y x r => K (pc + len) L (.int (x >>> (y &&& 31)) :: r) h kc ks
  | .idiv => mm_s2 st fun y x r => ¬ y = 0 ∧ K (pc + len) L (.int (x / y) :: r) h kc ks
  | .irem => mm_s2 st fun y x r => ¬ y = 0 ∧ K (pc + len) L (.int (x - x / y * y) :: r) h kc ks
  | .ineg => mm_s1 st fun x r => K (pc + len) L (.int (-x) :: r) h kc ks
  | .i2c => mm_s1 st fun x r => K (pc + len) L (.int (x.toUInt32 % 65536).toInt32 :: r) h kc ks
  | .dup => mm_sv st fun v r => v.category = 1 ∧ K (pc + len) L (v :: v :: r) h kc ks
  | .pop => mm_sv st fun v r => v.category = 1 ∧ K (pc + len) L r h kc ks
  | .dup_x1 => mm_sv st fun v r => mm_sv r fun w r => v.category = 1 ∧ w.category = 1 ∧ K (pc + len) L (v :: w :: v :: r) h kc ks
  | .dup2 => mm_sv st fun v r => mm_sv r fun w r => v.category = 1 ∧ w.category = 1 ∧ K (pc + len) L (v :: w :: v :: w :: r) h kc ks
  | .dup_x2 => mm_sv st fun v r => mm_sv r fun w r => mm_sv r fun z r => v.category = 1 ∧ w.category = 1 ∧ z.category = 1 ∧ K (pc + len) L (v :: w :: z :: v :: r) h kc ks
  | .ifCond cnd _ => mm_s1 st fun x r => (mm_cz cnd x → K a L r h kc ks) ∧ (¬ mm_cz cnd x → K (pc + len) L r h kc ks)
  | .if_icmp cnd _ => mm_s2 st fun y x r => (mm_cc cnd x y → K a L r h kc ks) ∧ (¬ mm_cc cnd x y → K (pc + len) L r h kc ks)
  | .goto _ => K a L st h kc ks
  | .lookupswitch d ps => mm_s1 st fun x r => ∃ t : Nat, (pc : Int) + Op.lookupswitch.offset ps.toList d x.toInt = (t : Int) ∧ K t L r h kc ks
  | .tableswitch d lo hi offs => mm_s1 st fun x r => (x.toInt < lo ∨ hi < x.toInt → ∃ t : Nat, (pc : Int) + d = (t : Int) ∧ K t L r h kc ks) ∧ (¬ x.toInt < lo → ¬ hi < x.toInt → ∃ (o : Int) (t : Nat), offs[(x.toInt - lo).toNat]? = some o ∧ (pc : Int) + o = (t : Int) ∧ K t L r h kc ks)
  | .getfield _ => mm_sr st fun o r => mm_ob h o fun ci fs => mm_fd fs b fun v => ci = a ∧ K (pc + len) L (v :: r) h kc ks
  | .putfield _ => mm_sv st fun v r => mm_sr r fun o r => mm_ob h o fun ci fs => ci = a ∧ b < fs.length ∧ mm_fit c v ∧ K (pc + len) L r (h.set o (.inr (ci, fs.set b v))) kc ks
  | .iaload => mm_s1 st fun i r => mm_sx r (fun r => vp_in i xs.1 ∧ K (pc + len) L (.int (xs.2 i.toNatClampNeg) :: r) h kc ks) (fun o r => mm_ar h o fun ty n f => ty = .int ∧ vp_in i n ∧ K (pc + len) L (.int (f i.toNatClampNeg) :: r) h kc ks)
  | .baload => mm_s1 st fun i r => mm_sr r fun o r => mm_ar h o fun ty n f => ty = .boolean ∧ vp_in i n ∧ K (pc + len) L (.int (f i.toNatClampNeg) :: r) h kc ks
  | .caload => mm_s1 st fun i r => mm_sr r fun o r => mm_ar h o fun ty n f => ty = .char ∧ vp_in i n ∧ K (pc + len) L (.int (f i.toNatClampNeg) :: r) h kc ks
  | .iastore => mm_s2 st fun x i r => mm_sr r fun o r => mm_ar h o fun ty n f => ty = .int ∧ vp_in i n ∧ K (pc + len) L r (h.set o (.inl (.int, n, upd f i.toNatClampNeg x))) kc ks
  | .bastore => mm_s2 st fun x i r => mm_sr r fun o r => mm_ar h o fun ty n f => ty = .boolean ∧ vp_in i n ∧ K (pc + len) L r (h.set o (.inl (.boolean, n, upd f i.toNatClampNeg (vp_nar .boolean x)))) kc ks
  | .castore => mm_s2 st fun x i r => mm_sr r fun o r => mm_ar h o fun ty n f => ty = .char ∧ vp_in i n ∧ K (pc + len) L r (h.set o (.inl (.char, n, upd f i.toNatClampNeg (vp_nar .char x)))) kc ks
  | .arraylength => mm_sx st (fun r => K (pc + len) L (.int (Int32.ofNat xs.1) :: r) h kc ks) (fun o r => mm_ar h o fun ty n _ => (ty = .int ∨ ty = .boolean ∨ ty = .char) ∧ K (pc + len) L (.int (Int32.ofNat n) :: r) h kc ks)
  | .new _ => kc + 1 ≤ cap.1 ∧ ks + b ≤ cap.2 ∧ (L.all (mm_wfo h.length) && st.all (mm_wfv h.length) && h.all (mm_wfc h.length)) = true ∧ K (pc + len) L (.ref h.length :: st) (h ++ [.inr (a, df a)]) (kc + 1) (ks + b)
  | .newarray ty => mm_s1 st fun n r => ¬ n < 0 ∧ n.toNatClampNeg ≤ 1000000 ∧ kc + 1 ≤ cap.1 ∧ ks + n.toNatClampNeg ≤ cap.2 ∧ (L.all (mm_wfo h.length) && r.all (mm_wfv h.length) && h.all (mm_wfc h.length)) = true ∧ K (pc + len) L (.ref h.length :: r) (h ++ [.inl (newarray.typeOf ty, n.toNatClampNeg, fun _ => 0)]) (kc + 1) (ks + n.toNatClampNeg)
  | .invokespecial _ => (b = 0 → mm_sr st fun _ r => mm_cat r ∧ K (pc + len) L r h kc ks) ∧ (¬ b = 0 → (∃ o As, (st.take (mm_k (mi a))).reverse = .ref o :: As) ∧ mm_cl mi C cap K a (pc + len) L st h kc ks)
  | .invokevirtual _ => mm_rcv h (mm_ci (mi a)) (st.take (mm_k (mi a))).reverse ∧ mm_cl mi C cap K a (pc + len) L st h kc ks
  | .invokestatic _ => (b = 0 → mm_s2 st fun n dp r => mm_sr r fun o1 r => mm_s1 r fun sp r => mm_sr r fun o0 r => mm_ar h o0 fun ty n0 f => mm_ar h o1 fun ty1 n1 g => (ty = .int ∨ ty = .boolean ∨ ty = .char) ∧ ty1 = ty ∧ ¬ sp < 0 ∧ ¬ dp < 0 ∧ ¬ n < 0 ∧ sp.toNatClampNeg + n.toNatClampNeg ≤ n0 ∧ dp.toNatClampNeg + n.toNatClampNeg ≤ n1 ∧ (∀ i, i < n.toNatClampNeg → fits ty (.int (f (sp.toNatClampNeg + i))) = true) ∧ mm_cat r ∧ K (pc + len) L r (h.set o1 (.inl (ty, n1, va_cpy f g sp.toNatClampNeg dp.toNatClampNeg n.toNatClampNeg))) kc ks) ∧ (¬ b = 0 → mm_cl mi C cap K a (pc + len) L st h kc ks)
  | .return_ => st = [] ∧ mm_r (mi m) = none ∧ ∃ j, n0 ≤ j ∧ P (h.take j) none kc ks
  | .ireturn => mm_s1 st fun v r => r = [] ∧ (∃ ty, mm_r (mi m) = some ty ∧ narrow ty (.int v) = .int v) ∧ ∃ j, n0 ≤ j ∧ P (h.take j) (some (.int v)) kc ks
  | .areturn => mm_sr st fun v r => r = [] ∧ (∃ ty, mm_r (mi m) = some ty ∧ ((∃ n, ty = .object n) ∨ ∃ t, ty = .array t)) ∧ ∃ j, n0 ≤ j ∧ P (h.take j) (some (.ref v)) kc ks
  | _ => False
def mm_one (mi : Nat → mm_M) (tb : Nat → Nat → Option mm_E) (df : Nat → List Value) (C : Nat → mm_H → List Value → (mm_H → Option Value → Prop) → Prop) (xs : Nat × (Nat → Int32)) (cap : Nat × Nat) (P : mm_H → Option Value → Nat → Nat → Prop) (n0 m : Nat) (K : mm_K) (pc : Nat) (L : mm_L) (st : List Value) (h : mm_H) (kc ks : Nat) : Prop :=
  match tb m pc with
  | none => False
  | some E => mm_ex mi df C xs cap P n0 m K E.1 E.2.1 E.2.2.1 E.2.2.2.1 E.2.2.2.2 pc L st h kc ks
/-- the least that the instructions close -/
def mm_run (mi : Nat → mm_M) (tb : Nat → Nat → Option mm_E) (df : Nat → List Value) (C : Nat → mm_H → List Value → (mm_H → Option Value → Prop) → Prop) (xs : Nat × (Nat → Int32)) (cap : Nat × Nat) (P : mm_H → Option Value → Nat → Nat → Prop) (n0 m : Nat) : mm_K := fun pc L st h kc ks =>
  ∀ X : mm_K, (∀ pc L st h kc ks, mm_one mi tb df C xs cap P n0 m X pc L st h kc ks → X pc L st h kc ks) → X pc L st h kc ks
def mm_in0 (M : mm_M) (as : List Value) : mm_L := as.map some ++ List.replicate (mm_n M - as.length) none
/-- what method y comes to, with at most d frames on top of one another -/
def mm_call (mi : Nat → mm_M) (tb : Nat → Nat → Option mm_E) (df : Nat → List Value) (xs : Nat × (Nat → Int32)) : Nat → Nat → mm_H → List Value → (mm_H → Option Value → Prop) → Prop
  | 0 => fun _ _ _ _ => False
  | d + 1 => fun y h as P => as.length = mm_k (mi y) ∧ (as.all fun v => v.category == 1) = true ∧ mm_run mi tb df (mm_call mi tb df xs d) xs (mm_mc (mi y), mm_ms (mi y)) (fun h' r _ _ => P h' r) h.length y 0 (mm_in0 (mi y) as) [] h 0 0
def mm_Cm (C : Nat → mm_H → List Value → (mm_H → Option Value → Prop) → Prop) : Prop := ∀ y h as P P', (∀ h' v, P h' v → P' h' v) → C y h as P → C y h as P'
theorem mm_cl_mono {mi : Nat → mm_M} {C : Nat → mm_H → List Value → (mm_H → Option Value → Prop) → Prop} {cap : Nat × Nat} {K K' : mm_K} {y nx : Nat} {L : mm_L} {st : List Value} {h : mm_H} {kc ks : Nat} (hC : mm_Cm C) (hK : ∀ pc L st h kc ks, K pc L st h kc ks → K' pc L st h kc ks) (hE : mm_cl mi C cap K y nx L st h kc ks) : mm_cl mi C cap K' y nx L st h kc ks := by
  obtain ⟨e1, e2, e3, e4, e5, e6⟩ := hE
  exact ⟨e1, e2, e3, e4, e5, hC _ _ _ _ _ (fun h' v hv => hK _ _ _ _ _ _ hv) e6⟩
set_option maxHeartbeats 4000000 in
theorem mm_ex_mono {mi : Nat → mm_M} {df : Nat → List Value} {C : Nat → mm_H → List Value → (mm_H → Option Value → Prop) → Prop} {xs : Nat × (Nat → Int32)} {cap : Nat × Nat} {P P' : mm_H → Option Value → Nat → Nat → Prop} {n0 m : Nat} {K K' : mm_K} (hC : mm_Cm C) (hP : ∀ h v kc ks, P h v kc ks → P' h v kc ks) (hK : ∀ pc L st h kc ks, K pc L st h kc ks → K' pc L st h kc ks) {I : Instr} {len a b : Nat} {c : Int32} {pc : Nat} {L : mm_L} {st : List Value} {h : mm_H} {kc ks : Nat} (hE : mm_ex mi df C xs cap P n0 m K I len a b c pc L st h kc ks) : mm_ex mi df C xs cap P' n0 m K' I len a b c pc L st h kc ks := by
  cases I with
  | iconst z0 =>
    dsimp only [mm_ex] at hE ⊢
    exact hK _ _ _ _ _ _ hE
  | bipush z0 =>
    dsimp only [mm_ex] at hE ⊢
    exact hK _ _ _ _ _ _ hE
  | sipush z0 =>
    dsimp only [mm_ex] at hE ⊢
    exact hK _ _ _ _ _ _ hE
  | ldc z0 =>
    dsimp only [mm_ex] at hE ⊢
    exact hK _ _ _ _ _ _ hE
  | iload_n z0 =>
    dsimp only [mm_ex] at hE ⊢
    obtain ⟨x, h1, hE1⟩ := mm_li_inv hE
    show mm_li L a _
    unfold mm_li
    rw [h1]
    exact hK _ _ _ _ _ _ hE1
  | iload z0 =>
    dsimp only [mm_ex] at hE ⊢
    obtain ⟨x, h1, hE2⟩ := mm_li_inv hE
    show mm_li L a _
    unfold mm_li
    rw [h1]
    exact hK _ _ _ _ _ _ hE2
  | aload_n z0 =>
    dsimp only [mm_ex] at hE ⊢
    obtain ⟨v, h1, h2, hE3⟩ := mm_lr_inv hE
    show mm_lr L a _
    unfold mm_lr
    rw [h1]
    rcases h2 with ⟨x, rfl⟩ | ⟨x, rfl⟩ <;> exact hK _ _ _ _ _ _ hE3
  | aload z0 =>
    dsimp only [mm_ex] at hE ⊢
    obtain ⟨v, h1, h2, hE4⟩ := mm_lr_inv hE
    show mm_lr L a _
    unfold mm_lr
    rw [h1]
    rcases h2 with ⟨x, rfl⟩ | ⟨x, rfl⟩ <;> exact hK _ _ _ _ _ _ hE4
  | istore_n z0 =>
    dsimp only [mm_ex] at hE ⊢
    obtain ⟨x, r, rfl, hE5⟩ := mm_s1_inv hE
    exact hK _ _ _ _ _ _ hE5
  | istore z0 =>
    dsimp only [mm_ex] at hE ⊢
    obtain ⟨x, r, rfl, hE6⟩ := mm_s1_inv hE
    exact hK _ _ _ _ _ _ hE6
  | astore_n z0 =>
    dsimp only [mm_ex] at hE ⊢
    obtain ⟨x, r, rfl, hE7⟩ := mm_sr_inv hE
    exact hK _ _ _ _ _ _ hE7
  | astore z0 =>
    dsimp only [mm_ex] at hE ⊢
    obtain ⟨x, r, rfl, hE8⟩ := mm_sr_inv hE
    exact hK _ _ _ _ _ _ hE8
  | iinc z0 z1 =>
    dsimp only [mm_ex] at hE ⊢
    obtain ⟨x, h1, hE9⟩ := mm_li_inv hE
    show mm_li L a _
    unfold mm_li
    rw [h1]
    exact hK _ _ _ _ _ _ hE9
  | iadd =>
    dsimp only [mm_ex] at hE ⊢
    obtain ⟨y, x, r, rfl, hE10⟩ := mm_s2_inv hE
    exact hK _ _ _ _ _ _ hE10
  | isub =>
    dsimp only [mm_ex] at hE ⊢
    obtain ⟨y, x, r, rfl, hE11⟩ := mm_s2_inv hE
    exact hK _ _ _ _ _ _ hE11
  | imul =>
    dsimp only [mm_ex] at hE ⊢
    obtain ⟨y, x, r, rfl, hE12⟩ := mm_s2_inv hE
    exact hK _ _ _ _ _ _ hE12
  | iand =>
    dsimp only [mm_ex] at hE ⊢
    obtain ⟨y, x, r, rfl, hE13⟩ := mm_s2_inv hE
    exact hK _ _ _ _ _ _ hE13
  | ior =>
    dsimp only [mm_ex] at hE ⊢
    obtain ⟨y, x, r, rfl, hE14⟩ := mm_s2_inv hE
    exact hK _ _ _ _ _ _ hE14
  | ixor =>
    dsimp only [mm_ex] at hE ⊢
    obtain ⟨y, x, r, rfl, hE15⟩ := mm_s2_inv hE
    exact hK _ _ _ _ _ _ hE15
  | ishl =>
    dsimp only [mm_ex] at hE ⊢
    obtain ⟨y, x, r, rfl, hE16⟩ := mm_s2_inv hE
    exact hK _ _ _ _ _ _ hE16
  | ishr =>
    dsimp only [mm_ex] at hE ⊢
    obtain ⟨y, x, r, rfl, hE17⟩ := mm_s2_inv hE
    exact hK _ _ _ _ _ _ hE17
  | idiv =>
    dsimp only [mm_ex] at hE ⊢
    obtain ⟨y, x, r, rfl, h1, hE18⟩ := mm_s2_inv hE
    exact ⟨h1, hK _ _ _ _ _ _ hE18⟩
  | irem =>
    dsimp only [mm_ex] at hE ⊢
    obtain ⟨y, x, r, rfl, h1, hE19⟩ := mm_s2_inv hE
    exact ⟨h1, hK _ _ _ _ _ _ hE19⟩
  | ineg =>
    dsimp only [mm_ex] at hE ⊢
    obtain ⟨x, r, rfl, hE20⟩ := mm_s1_inv hE
    exact hK _ _ _ _ _ _ hE20
  | i2c =>
    dsimp only [mm_ex] at hE ⊢
    obtain ⟨x, r, rfl, hE21⟩ := mm_s1_inv hE
    exact hK _ _ _ _ _ _ hE21
  | dup =>
    dsimp only [mm_ex] at hE ⊢
    obtain ⟨v, r, rfl, h1, hE22⟩ := mm_sv_inv hE
    exact ⟨h1, hK _ _ _ _ _ _ hE22⟩
  | pop =>
    dsimp only [mm_ex] at hE ⊢
    obtain ⟨v, r, rfl, h1, hE23⟩ := mm_sv_inv hE
    exact ⟨h1, hK _ _ _ _ _ _ hE23⟩
  | dup_x1 =>
    dsimp only [mm_ex] at hE ⊢
    obtain ⟨v, r, rfl, hE24⟩ := mm_sv_inv hE
    obtain ⟨v2, r, rfl, h1, h2, hE25⟩ := mm_sv_inv hE24
    exact ⟨h1, h2, hK _ _ _ _ _ _ hE25⟩
  | dup2 =>
    dsimp only [mm_ex] at hE ⊢
    obtain ⟨v, r, rfl, hE26⟩ := mm_sv_inv hE
    obtain ⟨v2, r, rfl, h1, h2, hE27⟩ := mm_sv_inv hE26
    exact ⟨h1, h2, hK _ _ _ _ _ _ hE27⟩
  | dup_x2 =>
    dsimp only [mm_ex] at hE ⊢
    obtain ⟨v, r, rfl, hE28⟩ := mm_sv_inv hE
    obtain ⟨v2, r, rfl, hE29⟩ := mm_sv_inv hE28
    obtain ⟨v3, r, rfl, h1, h2, h3, hE30⟩ := mm_sv_inv hE29
    exact ⟨h1, h2, h3, hK _ _ _ _ _ _ hE30⟩
  | ifCond z0 z1 =>
    dsimp only [mm_ex] at hE ⊢
    obtain ⟨x, r, rfl, h1, h2⟩ := mm_s1_inv hE
    exact ⟨fun z => hK _ _ _ _ _ _ (h1 z), fun z => hK _ _ _ _ _ _ (h2 z)⟩
  | if_icmp z0 z1 =>
    dsimp only [mm_ex] at hE ⊢
    obtain ⟨y, x, r, rfl, h1, h2⟩ := mm_s2_inv hE
    exact ⟨fun z => hK _ _ _ _ _ _ (h1 z), fun z => hK _ _ _ _ _ _ (h2 z)⟩
  | goto z0 =>
    dsimp only [mm_ex] at hE ⊢
    exact hK _ _ _ _ _ _ hE
  | lookupswitch z0 z1 =>
    dsimp only [mm_ex] at hE ⊢
    obtain ⟨x, r, rfl, q, h1, hE31⟩ := mm_s1_inv hE
    exact ⟨q, h1, hK _ _ _ _ _ _ hE31⟩
  | tableswitch z0 z1 z2 z3 =>
    dsimp only [mm_ex] at hE ⊢
    obtain ⟨x, r, rfl, h1, h2⟩ := mm_s1_inv hE
    exact ⟨fun z => (h1 z).imp fun q hq => ⟨hq.1, hK _ _ _ _ _ _ hq.2⟩, fun z z' => (h2 z z').imp fun o ho => ho.imp fun q hq => ⟨hq.1, hq.2.1, hK _ _ _ _ _ _ hq.2.2⟩⟩
  | getfield z0 =>
    dsimp only [mm_ex] at hE ⊢
    obtain ⟨o, r, rfl, hE32⟩ := mm_sr_inv hE
    obtain ⟨ci, fs, h1, hE33⟩ := mm_ob_inv hE32
    obtain ⟨v, h2, h3, hE34⟩ := mm_fd_inv hE33
    dsimp only [mm_s1, mm_s2, mm_sr, mm_sx, mm_sv]
    show mm_ob h o _
    unfold mm_ob
    rw [h1]
    show mm_fd fs b _
    unfold mm_fd
    rw [h2]
    exact ⟨h3, hK _ _ _ _ _ _ hE34⟩
  | putfield z0 =>
    dsimp only [mm_ex] at hE ⊢
    obtain ⟨v, r, rfl, hE35⟩ := mm_sv_inv hE
    obtain ⟨o, r, rfl, hE36⟩ := mm_sr_inv hE35
    obtain ⟨ci, fs, h1, h2, h3, h4, hE37⟩ := mm_ob_inv hE36
    dsimp only [mm_s1, mm_s2, mm_sr, mm_sx, mm_sv]
    show mm_ob h o _
    unfold mm_ob
    rw [h1]
    exact ⟨h2, h3, h4, hK _ _ _ _ _ _ hE37⟩
  | iaload =>
    dsimp only [mm_ex] at hE ⊢
    obtain ⟨i, r, rfl, hE38⟩ := mm_s1_inv hE
    rcases mm_sx_inv hE38 with ⟨z, r, rfl, h1, hE39⟩ | ⟨o, r, rfl, hE39⟩
    · exact ⟨h1, hK _ _ _ _ _ _ hE39⟩
    · obtain ⟨ty, n, f, h1, h2, h3, hE40⟩ := mm_ar_inv hE39
      dsimp only [mm_s1, mm_s2, mm_sr, mm_sx, mm_sv]
      show mm_ar h o _
      unfold mm_ar
      rw [h1]
      exact ⟨h2, h3, hK _ _ _ _ _ _ hE40⟩
  | baload =>
    dsimp only [mm_ex] at hE ⊢
    obtain ⟨i, r, rfl, hE41⟩ := mm_s1_inv hE
    obtain ⟨o, r, rfl, hE42⟩ := mm_sr_inv hE41
    obtain ⟨ty, n, f, h1, h2, h3, hE43⟩ := mm_ar_inv hE42
    dsimp only [mm_s1, mm_s2, mm_sr, mm_sx, mm_sv]
    show mm_ar h o _
    unfold mm_ar
    rw [h1]
    exact ⟨h2, h3, hK _ _ _ _ _ _ hE43⟩
  | caload =>
    dsimp only [mm_ex] at hE ⊢
    obtain ⟨i, r, rfl, hE44⟩ := mm_s1_inv hE
    obtain ⟨o, r, rfl, hE45⟩ := mm_sr_inv hE44
    obtain ⟨ty, n, f, h1, h2, h3, hE46⟩ := mm_ar_inv hE45
    dsimp only [mm_s1, mm_s2, mm_sr, mm_sx, mm_sv]
    show mm_ar h o _
    unfold mm_ar
    rw [h1]
    exact ⟨h2, h3, hK _ _ _ _ _ _ hE46⟩
  | iastore =>
    dsimp only [mm_ex] at hE ⊢
    obtain ⟨x, i, r, rfl, hE47⟩ := mm_s2_inv hE
    obtain ⟨o, r, rfl, hE48⟩ := mm_sr_inv hE47
    obtain ⟨ty, n, f, h1, h2, h3, hE49⟩ := mm_ar_inv hE48
    dsimp only [mm_s1, mm_s2, mm_sr, mm_sx, mm_sv]
    show mm_ar h o _
    unfold mm_ar
    rw [h1]
    exact ⟨h2, h3, hK _ _ _ _ _ _ hE49⟩
  | bastore =>
    dsimp only [mm_ex] at hE ⊢
    obtain ⟨x, i, r, rfl, hE50⟩ := mm_s2_inv hE
    obtain ⟨o, r, rfl, hE51⟩ := mm_sr_inv hE50
    obtain ⟨ty, n, f, h1, h2, h3, hE52⟩ := mm_ar_inv hE51
    dsimp only [mm_s1, mm_s2, mm_sr, mm_sx, mm_sv]
    show mm_ar h o _
    unfold mm_ar
    rw [h1]
    exact ⟨h2, h3, hK _ _ _ _ _ _ hE52⟩
  | castore =>
    dsimp only [mm_ex] at hE ⊢
    obtain ⟨x, i, r, rfl, hE53⟩ := mm_s2_inv hE
    obtain ⟨o, r, rfl, hE54⟩ := mm_sr_inv hE53
    obtain ⟨ty, n, f, h1, h2, h3, hE55⟩ := mm_ar_inv hE54
    dsimp only [mm_s1, mm_s2, mm_sr, mm_sx, mm_sv]
    show mm_ar h o _
    unfold mm_ar
    rw [h1]
    exact ⟨h2, h3, hK _ _ _ _ _ _ hE55⟩
  | arraylength =>
    dsimp only [mm_ex] at hE ⊢
    rcases mm_sx_inv hE with ⟨z, r, rfl, hE56⟩ | ⟨o, r, rfl, hE56⟩
    · exact hK _ _ _ _ _ _ hE56
    · obtain ⟨ty, n, f, h1, h2, hE57⟩ := mm_ar_inv hE56
      dsimp only [mm_s1, mm_s2, mm_sr, mm_sx, mm_sv]
      show mm_ar h o _
      unfold mm_ar
      rw [h1]
      exact ⟨h2, hK _ _ _ _ _ _ hE57⟩
  | new z0 =>
    dsimp only [mm_ex] at hE ⊢
    obtain ⟨h1, h2, h3, hE58⟩ := hE
    exact ⟨h1, h2, h3, hK _ _ _ _ _ _ hE58⟩
  | newarray z0 =>
    dsimp only [mm_ex] at hE ⊢
    obtain ⟨n, r, rfl, h1, h2, h3, h4, h5, hE59⟩ := mm_s1_inv hE
    exact ⟨h1, h2, h3, h4, h5, hK _ _ _ _ _ _ hE59⟩
  | invokespecial z0 =>
    dsimp only [mm_ex] at hE ⊢
    obtain ⟨h1, h2⟩ := hE
    refine ⟨fun z => ?_, fun z => ⟨(h2 z).1, mm_cl_mono hC hK (h2 z).2⟩⟩
    obtain ⟨o, r, rfl, h3, hE60⟩ := mm_sr_inv (h1 z)
    exact ⟨h3, hK _ _ _ _ _ _ hE60⟩
  | invokevirtual z0 =>
    dsimp only [mm_ex] at hE ⊢
    exact ⟨hE.1, mm_cl_mono hC hK hE.2⟩
  | invokestatic z0 =>
    dsimp only [mm_ex] at hE ⊢
    obtain ⟨h1, h2⟩ := hE
    refine ⟨fun z => ?_, fun z => mm_cl_mono hC hK (h2 z)⟩
    obtain ⟨n, dp, r, rfl, hE61⟩ := mm_s2_inv (h1 z)
    obtain ⟨o1, r, rfl, hE62⟩ := mm_sr_inv hE61
    obtain ⟨sp, r, rfl, hE63⟩ := mm_s1_inv hE62
    obtain ⟨o0, r, rfl, hE64⟩ := mm_sr_inv hE63
    obtain ⟨ty, m0, f, h3, hE65⟩ := mm_ar_inv hE64
    obtain ⟨ty1, m1, g, h4, hE66⟩ := mm_ar_inv hE65
    obtain ⟨j1, j2, j3, j4, j5, j6, j7, j8, j9, hE67⟩ := hE66
    dsimp only [mm_s1, mm_s2, mm_sr, mm_sx, mm_sv]
    show mm_ar h o0 _
    unfold mm_ar
    rw [h3]
    dsimp only
    rw [h4]
    exact ⟨j1, j2, j3, j4, j5, j6, j7, j8, j9, hK _ _ _ _ _ _ hE67⟩
  | return_ =>
    dsimp only [mm_ex] at hE ⊢
    obtain ⟨h1, h2, j, h3, h4⟩ := hE
    exact ⟨h1, h2, j, h3, hP _ _ _ _ h4⟩
  | ireturn =>
    dsimp only [mm_ex] at hE ⊢
    obtain ⟨x, r, rfl, h1, h2, j, h3, h4⟩ := mm_s1_inv hE
    exact ⟨h1, h2, j, h3, hP _ _ _ _ h4⟩
  | areturn =>
    dsimp only [mm_ex] at hE ⊢
    obtain ⟨x, r, rfl, h1, h2, j, h3, h4⟩ := mm_sr_inv hE
    exact ⟨h1, h2, j, h3, hP _ _ _ _ h4⟩
  | _ => exact hE
theorem mm_one_mono {mi : Nat → mm_M} {tb : Nat → Nat → Option mm_E} {df : Nat → List Value} {C : Nat → mm_H → List Value → (mm_H → Option Value → Prop) → Prop} {xs : Nat × (Nat → Int32)} {cap : Nat × Nat} {P P' : mm_H → Option Value → Nat → Nat → Prop} {n0 m : Nat} {K K' : mm_K} (hC : mm_Cm C) (hP : ∀ h v kc ks, P h v kc ks → P' h v kc ks) (hK : ∀ pc L st h kc ks, K pc L st h kc ks → K' pc L st h kc ks) {pc : Nat} {L : mm_L} {st : List Value} {h : mm_H} {kc ks : Nat} (hE : mm_one mi tb df C xs cap P n0 m K pc L st h kc ks) : mm_one mi tb df C xs cap P' n0 m K' pc L st h kc ks := by
  unfold mm_one at hE ⊢
  split at hE
  · exact hE.elim
  · exact mm_ex_mono hC hP hK hE
theorem mm_run_in {mi : Nat → mm_M} {tb : Nat → Nat → Option mm_E} {df : Nat → List Value} {C : Nat → mm_H → List Value → (mm_H → Option Value → Prop) → Prop} {xs : Nat × (Nat → Int32)} {cap : Nat × Nat} {P : mm_H → Option Value → Nat → Nat → Prop} {n0 m : Nat} (hC : mm_Cm C) {pc : Nat} {L : mm_L} {st : List Value} {h : mm_H} {kc ks : Nat} (hE : mm_one mi tb df C xs cap P n0 m (mm_run mi tb df C xs cap P n0 m) pc L st h kc ks) : mm_run mi tb df C xs cap P n0 m pc L st h kc ks :=
  fun X hX => hX _ _ _ _ _ _ (mm_one_mono hC (fun _ _ _ _ h => h) (fun _ _ _ _ _ _ hr => hr X hX) hE)
theorem mm_run_mono {mi : Nat → mm_M} {tb : Nat → Nat → Option mm_E} {df : Nat → List Value} {C : Nat → mm_H → List Value → (mm_H → Option Value → Prop) → Prop} {xs : Nat × (Nat → Int32)} {cap : Nat × Nat} {P P' : mm_H → Option Value → Nat → Nat → Prop} {n0 m : Nat} (hC : mm_Cm C) (hP : ∀ h v kc ks, P h v kc ks → P' h v kc ks) {pc : Nat} {L : mm_L} {st : List Value} {h : mm_H} {kc ks : Nat} (hE : mm_run mi tb df C xs cap P n0 m pc L st h kc ks) : mm_run mi tb df C xs cap P' n0 m pc L st h kc ks :=
  fun X hX => hE X (fun _ _ _ _ _ _ h1 => hX _ _ _ _ _ _ (mm_one_mono hC hP (fun _ _ _ _ _ _ h => h) h1))
theorem mm_call_mono {mi : Nat → mm_M} {tb : Nat → Nat → Option mm_E} {df : Nat → List Value} {xs : Nat × (Nat → Int32)} : ∀ d, mm_Cm (mm_call mi tb df xs d)
  | 0, _, _, _, _, _, _, h => h
  | d + 1, _, _, _, _, _, hP, h => ⟨h.1, h.2.1, mm_run_mono (mm_call_mono d) (fun h' v _ _ hv => hP h' v hv) h.2.2⟩
end
section
/-! what the tables must say, as a check that a program decides -/
abbrev mm_F : Type := String × Nat × String × String × String × String
abbrev mm_N : Type := String × Nat × MethodName × String
def mm_okc (WS : List Cond) (df : List Value) (q : vw_C) : Bool :=
  (List.range q.2.2).all (fun k => (parseFieldDescriptor (q.2.1 k).2.2.1).isSome && decide (u_lay q.1 q.2.1 k ∈ WS) && decide (defaultValue ((parseFieldDescriptor (q.2.1 k).2.2.1).getD .int) = vp_V df k)) &&
  (List.range q.2.2).all (fun a => (List.range q.2.2).all (fun b => decide (a = b) || decide ((q.2.1 a).2.1 ≠ (q.2.1 b).2.1))) &&
  df.all (fun v => decide (v = .int 0) || decide (v = .null))
def mm_lk (WS : List Cond) (nF : List mm_F) (own : String) (i : Nat) (f : String × String × String × Bool) : Bool :=
  decide (Cond.fieldLink own i f.1 f.2.1 f.2.2.1 ∈ WS) || nF.any (fun q => decide (q.1 = own ∧ q.2.1 = i ∧ q.2.2.1 = f.1 ∧ q.2.2.2.1 = f.2.1 ∧ q.2.2.2.2.1 = f.2.2.1))
def mm_ty (c : Int32) (ty : FieldType) : Bool := match ty with
  | .int => decide (c = 0)
  | .boolean => decide (c = 1)
  | .object _ => decide (c = 3)
  | .array _ => decide (c = 3)
  | _ => false
def mm_fl (cl : List vw_C) (WS : List Cond) (nF : List mm_F) (own : String) (i ci k : Nat) : Bool := match cl[ci]? with
  | none => false
  | some q => decide (k < q.2.2) && mm_lk WS nF own i (q.2.1 k)
def mm_fp (cl : List vw_C) (WS : List Cond) (nF : List mm_F) (own nm : String) (i ci k : Nat) (c : Int32) : Bool := match cl[ci]? with
  | none => false
  | some q => decide (k < q.2.2) && (match parseFieldDescriptor (q.2.1 k).2.2.1 with
    | none => false
    | some ty => mm_ty c ty) && (if (q.2.1 k).2.2.2 = true then decide (nm = "<init>") && decide ((q.2.1 k).1 = own) && decide (Cond.fieldLink own i (q.2.1 k).1 (q.2.1 k).2.1 (q.2.1 k).2.2.1 ∈ WS) else mm_lk WS nF own i (q.2.1 k))
def mm_ml (WS : List Cond) (nM : List mm_N) (own : String) (i : Nat) (y : MethodName) : Bool :=
  decide (Cond.methodLink own i y ∈ WS) || nM.any (fun q => decide (q.1 = own ∧ q.2.1 = i ∧ q.2.2.1 = y))
def mm_my (WS : List Cond) (y : MethodName) (k : Nat) : Bool :=
  decide (y.cls ≠ "java/lang/invoke/MethodHandle") && decide (y.cls ≠ "java/lang/invoke/VarHandle") && decide ((parseMethodDescriptor y.desc).map (fun d => d.parameters.length) = some k) && decide (Cond.initialized y.cls ∈ WS)
def mm_sd (mi : Nat → mm_M) (cl : List vw_C) (WS : List Cond) (nF : List mm_F) (nM : List mm_N) (nm m pc : Nat) (E : mm_E) : Bool := match E.1 with
  | .iconst n => decide (E.2.1 = 1 ∧ Int32.ofInt n = E.2.2.2.2)
  | .bipush n => decide (E.2.1 = 2 ∧ (Int8.ofInt n).toInt32 = E.2.2.2.2)
  | .sipush n => decide (E.2.1 = 3 ∧ (Int16.ofInt n).toInt32 = E.2.2.2.2)
  | .ldc i => decide (E.2.1 = 2) && decide (Cond.constant (mm_y (mi m)).cls i E.2.2.2.2 ∈ WS)
  | .iload_n k => decide (E.2.1 = 1 ∧ (k : Nat) = E.2.2.1)
  | .iload k => decide (E.2.1 = 2 ∧ k = E.2.2.1)
  | .aload_n k => decide (E.2.1 = 1 ∧ (k : Nat) = E.2.2.1)
  | .aload k => decide (E.2.1 = 2 ∧ k = E.2.2.1)
  | .istore_n k => decide (E.2.1 = 1 ∧ (k : Nat) = E.2.2.1 ∧ E.2.2.1 < mm_n (mi m))
  | .istore k => decide (E.2.1 = 2 ∧ k = E.2.2.1 ∧ E.2.2.1 < mm_n (mi m))
  | .astore_n k => decide (E.2.1 = 1 ∧ (k : Nat) = E.2.2.1 ∧ E.2.2.1 < mm_n (mi m))
  | .astore k => decide (E.2.1 = 2 ∧ k = E.2.2.1 ∧ E.2.2.1 < mm_n (mi m))
  | .iinc k n => decide (E.2.1 = 3 ∧ k = E.2.2.1 ∧ E.2.2.1 < mm_n (mi m) ∧ Int32.ofInt n = E.2.2.2.2)
  | .ifCond _ off => decide (E.2.1 = 3 ∧ (pc : Int) + off = (E.2.2.1 : Int))
  | .if_icmp _ off => decide (E.2.1 = 3 ∧ (pc : Int) + off = (E.2.2.1 : Int))
  | .goto off => decide (E.2.1 = 3 ∧ (pc : Int) + off = (E.2.2.1 : Int))
  | .lookupswitch _ ps => (ps.toList.zip (ps.toList.drop 1)).all (fun (a, next) => a.1 < next.1)
  | .tableswitch _ _ _ _ => true
  | .getfield i => decide (E.2.1 = 3) && mm_fl cl WS nF (mm_y (mi m)).cls i E.2.2.1 E.2.2.2.1
  | .putfield i => decide (E.2.1 = 3) && mm_fp cl WS nF (mm_y (mi m)).cls (mm_y (mi m)).name i E.2.2.1 E.2.2.2.1 E.2.2.2.2
  | .new i => decide (E.2.1 = 3) && (match cl[E.2.2.1]? with
    | none => false
    | some q => decide (q.2.2 = E.2.2.2.1) && decide (Cond.classLink (mm_y (mi m)).cls i q.1 ∈ WS) && decide (Cond.instantiable q.1 q.2.2 ∈ WS) && decide (Cond.initialized q.1 ∈ WS))
  | .newarray ty => decide (E.2.1 = 2) && (decide (newarray.typeOf ty = .int) || decide (newarray.typeOf ty = .boolean) || decide (newarray.typeOf ty = .char)) && decide (Cond.arrayClass (newarray.typeOf ty) ∈ WS)
  | .invokespecial i => decide (E.2.1 = 3) && (if E.2.2.2.1 = 0 then decide (Cond.methodLink (mm_y (mi m)).cls i objectInit ∈ WS) && decide (Cond.instanceMethod objectInit ∈ WS)
    else decide (E.2.2.1 < nm) && decide ((mm_y (mi E.2.2.1)).name = "<init>") && decide (mm_r (mi E.2.2.1) = none) && decide (0 < mm_k (mi E.2.2.1)) && mm_ml WS nM (mm_y (mi m)).cls i (mm_y (mi E.2.2.1)) && mm_my WS (mm_y (mi E.2.2.1)) (mm_k (mi E.2.2.1) - 1) && decide (Cond.instanceMethod (mm_y (mi E.2.2.1)) ∈ WS))
  | .invokevirtual i => decide (E.2.1 = 3) && decide (E.2.2.1 < nm) && decide (0 < mm_k (mi E.2.2.1)) && mm_ml WS nM (mm_y (mi m)).cls i (mm_y (mi E.2.2.1)) && mm_my WS (mm_y (mi E.2.2.1)) (mm_k (mi E.2.2.1) - 1) && decide (Cond.instanceMethod (mm_y (mi E.2.2.1)) ∈ WS) && decide (Cond.selects (mm_y (mi E.2.2.1)).cls (mm_y (mi E.2.2.1)) (mm_y (mi E.2.2.1)) ∈ WS) && (match cl[mm_ci (mi E.2.2.1)]? with
    | none => false
    | some q => decide (q.1 = (mm_y (mi E.2.2.1)).cls))
  | .invokestatic i => decide (E.2.1 = 3) && (if E.2.2.2.1 = 0 then decide (Cond.methodLink (mm_y (mi m)).cls i arraycopyName ∈ WS) && decide (Cond.native arraycopyName ∈ WS) && decide (Cond.static arraycopyName ∈ WS) && decide (Cond.initialized "java/lang/System" ∈ WS)
    else decide (E.2.2.1 < nm) && mm_ml WS nM (mm_y (mi m)).cls i (mm_y (mi E.2.2.1)) && mm_my WS (mm_y (mi E.2.2.1)) (mm_k (mi E.2.2.1)) && decide (Cond.static (mm_y (mi E.2.2.1)) ∈ WS))
  | _ => decide (E.2.1 = 1)
def mm_ok (mi : Nat → mm_M) (cl : List vw_C) (WS : List Cond) (nF : List mm_F) (nM : List mm_N) (nm m pc : Nat) (E : mm_E) : Bool :=
  decide (decode (mm_b (mi m)) pc = .ok (E.1, E.2.1)) && mm_sd mi cl WS nF nM nm m pc E
def mm_okm (M : mm_M) : Bool := plainName (mm_y M).cls && decide (mm_n M ≤ 41) && decide (mm_k M ≤ mm_n M)
/-- the words of method y -/
def mm_cw (M : mm_M) : Cond := .code (mm_y M) (mm_b M) (mm_n M) (mm_r M)
def mm_ws (mi : Nat → mm_M) (WS : List Cond) (nm y : Nat) : List Cond := mm_cw (mi y) :: ((List.range nm).map (fun i => mm_cw (mi i)) ++ (Cond.code objectInit ⟨#[0xb1]⟩ 1 none :: WS))
/-! values, cells, locals: small facts -/
theorem mm_v_cat (b : Nat) (φ : Nat → Nat) (v : Value) : (mm_v b φ v).category = v.category := by cases v <;> rfl
theorem mm_v_ext {b n : Nat} {φ φ' : Nat → Nat} {v : Value} (hw : mm_wfv n v = true) (hp : ∀ k, k < n → φ' k = φ k) : mm_v b φ' v = mm_v b φ v := by
  cases v with
  | ref k =>
    have hk : k < n := Nat.le_of_ble_eq_true hw
    show Value.ref (φ' k) = Value.ref (φ k)
    rw [hp k hk]
  | _ => rfl
theorem mm_vs_ext {b n : Nat} {φ φ' : Nat → Nat} {l : List Value} (hw : l.all (mm_wfv n) = true) (hp : ∀ k, k < n → φ' k = φ k) : l.map (mm_v b φ') = l.map (mm_v b φ) :=
  List.map_congr_left fun v hv => mm_v_ext (List.all_eq_true.mp hw v hv) hp
theorem mm_c_ext {b n : Nat} {φ φ' : Nat → Nat} {dA : FieldType → ClassId} {c : mm_C} (hw : mm_wfc n c = true) (hp : ∀ k, k < n → φ' k = φ k) : mm_c b φ' dA c = mm_c b φ dA c := by
  cases c with
  | inl q => rfl
  | inr q =>
    show Sum.inr (q.1, q.2.map (mm_v b φ')) = Sum.inr (q.1, q.2.map (mm_v b φ))
    rw [mm_vs_ext hw hp]
theorem mm_w_get {b : Nat} {φ : Nat → Nat} {dA : FieldType → ClassId} {h : mm_H} (k : Nat) : (mm_w b φ dA h)[k]? = (h[k]?).map (fun c => (φ k, mm_c b φ dA c)) := by
  simp [mm_w]
theorem mm_w_len {b : Nat} {φ : Nat → Nat} {dA : FieldType → ClassId} {h : mm_H} : (mm_w b φ dA h).length = h.length := by simp [mm_w]
theorem mm_w_at {b : Nat} {φ : Nat → Nat} {dA : FieldType → ClassId} {h : mm_H} {o : Nat} {c : mm_C} (ho : h[o]? = some c) : (mm_w b φ dA h)[o]? = some (φ o, mm_c b φ dA c) := by
  rw [mm_w_get, ho]; rfl
theorem mm_w_set {b : Nat} {φ : Nat → Nat} {dA : FieldType → ClassId} {h : mm_H} {o : Nat} {c : mm_C} : (mm_w b φ dA h).set o (φ o, mm_c b φ dA c) = mm_w b φ dA (h.set o c) := by
  apply List.ext_getElem?
  intro k
  rw [mm_w_get, List.getElem?_set, List.getElem?_set, mm_w_get, mm_w_len]
  by_cases hk : o = k
  · subst hk
    by_cases hl : o < h.length
    · simp [hl]
    · simp [hl]
  · simp [hk]
theorem mm_w_app {b q : Nat} {φ : Nat → Nat} {dA : FieldType → ClassId} {h : mm_H} {c : mm_C} {e : va_E} (hw : h.all (mm_wfc h.length) = true) (hc : ∀ φ', mm_c b φ' dA c = e) : mm_w b (fun k => if k = h.length then q else φ k) dA (h ++ [c]) = mm_w b φ dA h ++ [(q, e)] := by
  apply List.ext_getElem?
  intro k
  rw [mm_w_get]
  by_cases hk : k < h.length
  · rw [List.getElem?_append_left hk, List.getElem?_append_left (by rw [mm_w_len]; exact hk), mm_w_get]
    cases hx : h[k]? with
    | none => rfl
    | some x =>
      have hx2 : mm_wfc h.length x = true := List.all_eq_true.mp hw x (List.mem_of_getElem? hx)
      show some (_, _) = some (_, _)
      rw [mm_c_ext hx2 (φ := φ) (fun j hj => if_neg (Nat.ne_of_lt hj)), if_neg (Nat.ne_of_lt hk)]
  · rw [List.getElem?_append_right (by omega), List.getElem?_append_right (by rw [mm_w_len]; omega), mm_w_len]
    by_cases hk2 : k = h.length
    · subst hk2
      simp [hc]
    · have hz : k - h.length ≠ 0 := by omega
      obtain ⟨j, hj⟩ : ∃ j, k - h.length = j + 1 := ⟨k - h.length - 1, by omega⟩
      rw [hj]
      rfl
theorem mm_l_mem {b : Nat} {φ : Nat → Nat} {L : mm_L} {q : Nat × Value} : q ∈ mm_l b φ L ↔ ∃ v, L[q.1]? = some (some v) ∧ v.category = 1 ∧ q.2 = mm_v b φ v := by
  obtain ⟨i, w⟩ := q
  simp only [mm_l, List.mem_filterMap, List.mem_range]
  constructor
  · rintro ⟨j, hj, h⟩
    split at h
    · rename_i v hv
      split at h
      · rename_i hc
        cases h
        exact ⟨v, hv, hc, rfl⟩
      · cases h
    · cases h
  · rintro ⟨v, hv, hc, hw⟩
    have hi : i < L.length := (List.getElem?_eq_some_iff.mp hv).1
    refine ⟨i, hi, ?_⟩
    rw [hv, hw]
    simp [hc]
theorem mm_lsub {ls : Array Slot} {n : Nat} {l1 l2 : List (Nat × Value)} (h : lv_has ls n l1) (hs : ∀ q ∈ l2, q ∈ l1) : lv_has ls n l2 := ⟨h.1, h.2.1, fun q hq => h.2.2 q (hs q hq)⟩
theorem mm_lget {b : Nat} {φ : Nat → Nat} {L : mm_L} {ls : Array Slot} {n a : Nat} {v : Value} (h : lv_has ls n (mm_l b φ L)) (hv : L[a]? = some (some v)) (hc : v.category = 1) : ls[a]? = some (.val (mm_v b φ v)) := h.2.2 (a, mm_v b φ v) (mm_l_mem.mpr ⟨v, hv, hc, rfl⟩)
theorem mm_lset {b : Nat} {φ : Nat → Nat} {L : mm_L} {a : Nat} {x : Value} : ∀ q ∈ mm_l b φ (L.set a (some x)), q ∈ (a, mm_v b φ x) :: (mm_l b φ L).filter (fun q => !(q.1 == a) && !(q.1 + 1 == a && q.2.category == 2)) := by
  intro q hq
  obtain ⟨v, hv, hc, hw⟩ := mm_l_mem.mp hq
  by_cases h : a = q.1
  · rw [List.getElem?_set, if_pos h] at hv
    split at hv
    · have e : x = v := Option.some.inj (Option.some.inj hv)
      subst e
      have : q = (a, mm_v b φ x) := Prod.ext h.symm hw
      rw [this]
      exact List.mem_cons_self
    · cases hv
  · rw [List.getElem?_set, if_neg h] at hv
    refine List.mem_cons_of_mem _ (List.mem_filter.mpr ⟨mm_l_mem.mpr ⟨v, hv, hc, hw⟩, ?_⟩)
    have hc2 : q.2.category = 1 := by rw [hw, mm_v_cat]; exact hc
    have h2 : ¬ q.1 = a := fun e => h e.symm
    simp [h2, hc2]
theorem mm_l_ext {b n : Nat} {φ φ' : Nat → Nat} {L : mm_L} (hw : L.all (mm_wfo n) = true) (hp : ∀ k, k < n → φ' k = φ k) : ∀ q ∈ mm_l b φ' L, q ∈ mm_l b φ L := by
  intro q hq
  obtain ⟨v, hv, hc, hw2⟩ := mm_l_mem.mp hq
  have h1 : mm_wfo n (some v) = true := List.all_eq_true.mp hw _ (List.mem_of_getElem? hv)
  exact mm_l_mem.mpr ⟨v, hv, hc, by rw [hw2, mm_v_ext h1 hp]⟩
theorem mm_in0_args {b : Nat} {φ : Nat → Nat} {as : List Value} {j : Nat} (hc : (as.all fun v => v.category == 1) = true) : ∀ q ∈ mm_l b φ (as.map some ++ List.replicate j none), q ∈ lv_args 0 (as.map (mm_v b φ)) := by
  have key : ∀ (as : List Value) (i : Nat), (as.all fun v => v.category == 1) = true → ∀ (k : Nat) (v : Value), as[k]? = some v → (i + k, mm_v b φ v) ∈ lv_args i (as.map (mm_v b φ)) := by
    intro as
    induction as with
    | nil => intro i _ k v h; simp at h
    | cons w ws ih =>
      intro i hc k v h
      simp only [List.all_cons, Bool.and_eq_true, beq_iff_eq] at hc
      rw [List.map_cons, lv_args, mm_v_cat, if_neg (by rw [hc.1]; decide)]
      cases k with
      | zero =>
        simp at h
        subst h
        exact List.mem_cons_self
      | succ k =>
        have h2 : ws[k]? = some v := by simpa using h
        have h3 := ih (i + 1) hc.2 k v h2
        rw [show i + (k + 1) = i + 1 + k by omega]
        exact List.mem_cons_of_mem _ h3
  intro q hq
  obtain ⟨v, hv, hcv, hw⟩ := mm_l_mem.mp hq
  have h1 : as[q.1]? = some v := by
    by_cases hl : q.1 < as.length
    · rw [List.getElem?_append_left (by simpa using hl), List.getElem?_map] at hv
      cases hx : as[q.1]? with
      | none => rw [hx] at hv; cases hv
      | some x => rw [hx] at hv; exact congrArg some (Option.some.inj (Option.some.inj hv))
    · rw [List.getElem?_append_right (by simpa using hl)] at hv
      have := List.eq_of_mem_replicate (List.mem_of_getElem? hv)
      cases this
  have h2 := key as 0 hc q.1 v h1
  rw [Nat.zero_add, ← hw] at h2
  exact h2
theorem mm_in0_len {b : Nat} {φ : Nat → Nat} {as : List Value} (hc : (as.all fun v => v.category == 1) = true) : (lg_sl (as.map (mm_v b φ))).length = as.length := by
  induction as with
  | nil => rfl
  | cons w ws ih =>
    simp only [List.all_cons, Bool.and_eq_true, beq_iff_eq] at hc
    have h1 : (mm_v b φ w).category = 1 := by rw [mm_v_cat]; exact hc.1
    have h2 : lg_sl ((w :: ws).map (mm_v b φ)) = .val (mm_v b φ w) :: lg_sl (ws.map (mm_v b φ)) := by
      simp [lg_sl, h1]
    rw [h2, List.length_cons, ih hc.2, List.length_cons]
theorem mm_cat_v {b : Nat} {φ : Nat → Nat} {st : List Value} (h : mm_cat st) : ((st.map (mm_v b φ)).map fun v => v.category).sum ≤ 8 := by
  have e : (st.map (mm_v b φ)).map (fun v => v.category) = st.map fun v => v.category := by
    rw [List.map_map]
    exact List.map_congr_left fun v _ => mm_v_cat b φ v
  rw [e]
  exact h
end
section
/-! the small machine's world in the machine -/
def mm_KK (D : va_G) (dA : FieldType → ClassId) (cl : List vw_C) (nF : List mm_F) (nM : List mm_N) (U : State) : Prop :=
  va_K D cl [(dA .int, .int), (dA .boolean, .boolean), (dA .char, .char)] U ∧ (∀ q ∈ nF, va_Nw (.fieldLinkNest q.1 q.2.1 q.2.2.1 q.2.2.2.1 q.2.2.2.2.1 q.2.2.2.2.2) U) ∧ (∀ q ∈ nM, va_Nw (.methodLinkNest q.1 q.2.1 q.2.2.1 q.2.2.2) U)
theorem mm_KK.warm {D : va_G} {dA : FieldType → ClassId} {cl : List vw_C} {nF : List mm_F} {nM : List mm_N} {s U : State} (hW : s.WarmedH U.vm) (h : mm_KK D dA cl nF nM s) : mm_KK D dA cl nF nM U :=
  ⟨va_K.moved hW.alike h.1, fun q hq => va_Nw.warmF hW (h.2.1 q hq), fun q hq => va_Nw.warmM hW (h.2.2 q hq)⟩
theorem mm_KK.same {D : va_G} {dA : FieldType → ClassId} {cl : List vw_C} {nF : List mm_F} {nM : List mm_N} {s U : State} (hv : s.vm = U.vm) (h : mm_KK D dA cl nF nM s) : mm_KK D dA cl nF nM U :=
  ⟨va_K.moved (by rw [hv]; exact Vm.Alike.refl _) h.1, fun q hq => va_Nw.same rfl hv (h.2.1 q hq), fun q hq => va_Nw.same rfl hv (h.2.2 q hq)⟩
def mm_Pc (D : va_G) (dA : FieldType → ClassId) (cl : List vw_C) (nF : List mm_F) (nM : List mm_N) (b : Nat) (xs : Nat × (Nat → Int32)) (φ : Nat → Nat) (h : mm_H) (as : List Value) (sz : Nat) : Array Value → State → Prop :=
  va_Pc (as.map (mm_v b φ)) (fun U => U.heap.size = sz ∧ va_P D cl (mm_w b φ dA h) U.heap ∧ mm_KK D dA cl nF nM U ∧ va_D (fun _ => True) (mm_w b φ dA h) ∧ va_X b xs.1 xs.2 U U.heap ∧ b < U.heap.size ∧ ∀ (k : Nat) (q : Nat × va_E), (mm_w b φ dA h)[k]? = some q → q.1 ≠ b)
theorem mm_Pc_blind {D : va_G} {dA : FieldType → ClassId} {cl : List vw_C} {nF : List mm_F} {nM : List mm_N} {b : Nat} {xs : Nat × (Nat → Int32)} {φ : Nat → Nat} {h : mm_H} {as : List Value} {sz : Nat} : FrameBlind (mm_Pc D dA cl nF nM b xs φ h as sz) := by
  intro a U g mk q
  obtain ⟨h0, h1, h2, h3, h4, h5, h6, h7⟩ := q
  exact ⟨h0, h1, h2, mm_KK.same (s := U) (U := U.calling g mk a) rfl h3, h4, va_X.moved (u := U) (U := U.calling g mk a) (Vm.Alike.refl U.vm) h5, h6, h7⟩
def mm_Qc (D : va_G) (dA : FieldType → ClassId) (cl : List vw_C) (b : Nat) (φ : Nat → Nat) (h : mm_H) (sz mc : Nat) (P : mm_H → Option Value → Prop) : Array Value → State → Outcome → State → Prop := fun _ st oc t =>
  ∃ (h' : mm_H) (r : Option Value) (φ' : Nat → Nat), (∀ k, k < h.length → φ' k = φ k) ∧ (mc = 0 → φ' = φ) ∧ h.length ≤ h'.length ∧ P h' r ∧ oc = .returned (r.map (mm_v b φ')) ∧ va_P D cl (mm_w b φ' dA h') t.heap ∧ va_D (va_A (mm_w b φ dA h) sz) (mm_w b φ' dA h') ∧ va_F (va_A (mm_w b φ dA h) sz) st t
def mm_rm (d : Nat) (M : mm_M) : Room := { frames := d, cells := mm_mc M, slots := mm_ms M, locals := 60 * d }
section MG
variable {p : Program} {l : Launch} {e : Env} {R : Room} {s : State} {m : MethodId} {args : Array Value} {below : List Frame} {meth : Method} {c : Code} {Q : State → Prop}
/-- from a state of the small machine the machine comes to Q -/
def mm_Go (p : Program) (l : Launch) (e : Env) (R : Room) (s : State) (m : MethodId) (args : Array Value) (below : List Frame) (meth : Method) (c : Code) (Q : State → Prop) (D : va_G) (dA : FieldType → ClassId) (cl : List vw_C) (b : Nat) (A : Nat → Prop) (φ0 : Nat → Nat) (n0 nL : Nat) : mm_K := fun pc L st h kc ks =>
  ∀ (φ : Nat → Nat) (H : Heap) (locs : List Loc) (ls : Array Slot), (∀ k, k < n0 → φ k = φ0 k) → (kc = 0 → φ = φ0) → n0 ≤ h.length → kc ≤ R.cells → ks ≤ R.slots → va_P D cl (mm_w b φ dA h) H → va_D A (mm_w b φ dA h) → va_S A s.heap H locs → lv_has ls nL (mm_l b φ L) → W p l e R s m args below meth c H locs kc ks Q (F0 m pc ls (st.map (mm_v b φ)))
theorem mm_callg {H : Heap} {locs : List Loc} {cells slots mc ms pc : Nat} {ls : Array Slot} {st0 rest : List Value} {Qa : State → Outcome → State → Prop} {free : Addr → Prop} (hr : va_Run p l e R s m args below meth c H locs cells slots mc ms (F0 m pc ls st0) rest Qa free)
    (kk : ∀ (v : Option Value) (st₀ t : State) (H1 : Heap) (Ls : List Loc), st₀.heap = H → Qa st₀ (.returned v) t → t.heap = H1 → (∀ q ∈ Ls, free q.base) → W p l e R s m args below meth c H1 (locs ++ Ls) (cells + mc) (slots + ms) Q (F0 m (pc + 3) ls (v.toList ++ rest))) : W p l e R s m args below meth c H locs cells slots Q (F0 m pc ls st0) := by
  intro T hT X
  obtain ⟨v, st₀, t, T', L, h0, X', hL, e1, e2, hq, st⟩ := hr T hT X
  obtain ⟨t2, a1, b1⟩ := kk v st₀ t T'.heap L h0 hq e1.symm hL T' rfl X'
  exact ⟨t2, st t2 a1, b1⟩
theorem mm_back {D : va_G} {dA : FieldType → ClassId} {cl : List vw_C} {b : Nat} {A : Nat → Prop} {φ0 φ : Nat → Nat} {n0 nL : Nat} {H : Heap} {locs : List Loc} {kc ks mc ms pc : Nat} {ls : Array Slot} {st0 rest : List Value} {h : mm_H} {L : mm_L} {av : Array Value} {Pk : mm_H → Option Value → Prop}
    (hr : va_Run p l e R s m args below meth c H locs kc ks mc ms (F0 m pc ls st0) (rest.map (mm_v b φ)) (mm_Qc D dA cl b φ h H.size mc Pk av) (va_A (mm_w b φ dA h) H.size))
    (hA : ∀ q, s.heap.size ≤ q → A q) (hk1 : kc + mc ≤ R.cells) (hk2 : ks + ms ≤ R.slots) (hwf : mc = 0 ∨ (L.all (mm_wfo h.length) && rest.all (mm_wfv h.length)) = true)
    (f0 : ∀ k, k < n0 → φ k = φ0 k) (g0 : kc = 0 → φ = φ0) (hn : n0 ≤ h.length) (hD : va_D A (mm_w b φ dA h)) (hS : va_S A s.heap H locs) (hl : lv_has ls nL (mm_l b φ L))
    (hgo : ∀ h' v, Pk h' v → mm_Go p l e R s m args below meth c Q D dA cl b A φ0 n0 nL (pc + 3) L (v.toList ++ rest) h' (kc + mc) (ks + ms)) : W p l e R s m args below meth c H locs kc ks Q (F0 m pc ls st0) := by
  refine mm_callg hr fun v st₀ t H1 Ls e0 hq e1 hL => ?_
  obtain ⟨h', r, φ', f1, f2, f3, hPk, hv, hP1, hD1, hF1, hF2⟩ := hq
  have hv : v = r.map (mm_v b φ') := Outcome.returned.inj hv
  subst hv
  rw [e1] at hP1 hF1 hF2
  rw [e0] at hF1 hF2
  have hfr : ∀ q, va_A (mm_w b φ dA h) H.size q → A q := fun q hq => by
    rcases hq with ⟨k, e, hk⟩ | hq
    · exact hD.2 k _ hk
    · exact hA q (Nat.le_trans hS.1 hq)
  have hrest : rest.map (mm_v b φ) = rest.map (mm_v b φ') := by
    rcases hwf with h0 | h0
    · rw [f2 h0]
    · exact (mm_vs_ext (Bool.and_eq_true_iff.mp h0).2 f1).symm
  have hl' : lv_has ls nL (mm_l b φ' L) := by
    rcases hwf with h0 | h0
    · rw [f2 h0]; exact hl
    · exact mm_lsub hl (mm_l_ext (Bool.and_eq_true_iff.mp h0).1 f1)
  have hst : (r.map (mm_v b φ')).toList ++ rest.map (mm_v b φ) = (r.toList ++ rest).map (mm_v b φ') := by
    rw [hrest, List.map_append]
    cases r <;> rfl
  rw [hst]
  refine hgo h' r hPk φ' H1 (locs ++ Ls) ls (fun k hk => (f1 k (Nat.lt_of_lt_of_le hk hn)).trans (f0 k hk)) (fun hz => ?_) (Nat.le_trans hn f3) hk1 hk2 hP1 (hD1.weaken (fun k q _ hq => hfr q.1 hq)) ⟨Nat.le_trans hS.1 hF1, fun q h1 h2 => ?_, fun q hq => ?_⟩ hl'
  · rw [f2 (by omega), g0 (by omega)]
  · rw [hF2 q (Nat.lt_of_lt_of_le h1 hS.1) (fun z => h2 (hfr q z))]
    exact hS.2.1 q h1 h2
  · rcases List.mem_append.mp hq with hq | hq
    · exact hS.2.2 q hq
    · exact hfr _ (hL q hq)
end MG
end
section
section MO
variable {p : Program} {l : Launch} {e : Env} {R : Room} {s : State} {m : MethodId} {args : Array Value} {below : List Frame} {meth : Method} {c : Code} {Q : State → Prop}
variable {D : va_G} {dA : FieldType → ClassId} {cl : List vw_C} {b : Nat} {A : Nat → Prop} {φ0 : Nat → Nat} {n0 : Nat}
variable {mi : Nat → mm_M} {tb : Nat → Nat → Option mm_E} {df : Nat → List Value} {WS Ts : List Cond} {nF : List mm_F} {nM : List mm_N} {nm w d : Nat} {xs : Nat × (Nat → Int32)}
theorem mm_tyI : ([(dA .int, .int), (dA .boolean, .boolean), (dA .char, .char)] : List (ClassId × FieldType))[0]? = some (dA .int, .int) := rfl
theorem mm_tyZ : ([(dA .int, .int), (dA .boolean, .boolean), (dA .char, .char)] : List (ClassId × FieldType))[1]? = some (dA .boolean, .boolean) := rfl
theorem mm_tyC : ([(dA .int, .int), (dA .boolean, .boolean), (dA .char, .char)] : List (ClassId × FieldType))[2]? = some (dA .char, .char) := rfl
/-- what the tables say of a class -/
theorem mm_okc_spec {dv : List Value} {q : vw_C} (h : mm_okc WS dv q = true) : (∀ x ∈ u_ws q.1 q.2.1 q.2.2, x ∈ WS) ∧ (∀ k, k < q.2.2 → parseFieldDescriptor (q.2.1 k).2.2.1 = some ((parseFieldDescriptor (q.2.1 k).2.2.1).getD .int)) ∧ (∀ a, a < q.2.2 → ∀ b, b < q.2.2 → a ≠ b → (q.2.1 a).2.1 ≠ (q.2.1 b).2.1) ∧ (∀ k, k < q.2.2 → defaultValue ((parseFieldDescriptor (q.2.1 k).2.2.1).getD .int) = vp_V dv k) ∧ (∀ v ∈ dv, v = .int 0 ∨ v = .null) := by
  simp only [mm_okc, Bool.and_eq_true, List.all_eq_true, List.mem_range, decide_eq_true_eq, Bool.or_eq_true] at h
  obtain ⟨⟨h1, h2⟩, h3⟩ := h
  refine ⟨fun x hx => ?_, fun k hk => ?_, fun a ha b hb hab => ?_, fun k hk => (h1 k hk).2, h3⟩
  · obtain ⟨k, hk, rfl⟩ := List.mem_map.mp hx
    exact (h1 k (List.mem_range.mp hk)).1.2
  · have := (h1 k hk).1.1
    obtain ⟨y, hy⟩ := Option.isSome_iff_exists.mp this
    rw [hy]
    rfl
  · rcases h2 a ha b hb with h | h
    · exact absurd h hab
    · exact h
theorem mm_fit_ok {b : Nat} {φ : Nat → Nat} {k : Int32} {v : Value} {ty : FieldType} (hf : mm_fit k v) (ht : mm_ty k ty = true) : narrow ty (mm_v b φ v) = mm_v b φ v ∧ fits ty (mm_v b φ v) = true := by
  cases v with
  | int x =>
    cases ty <;> simp [mm_ty] at ht <;> subst ht <;> simp [mm_fit] at hf
    · exact ⟨rfl, rfl⟩
    · rcases hf with rfl | rfl
      · show narrow .boolean (.int 0) = .int 0 ∧ fits .boolean (.int 0) = true
        decide
      · show narrow .boolean (.int 1) = .int 1 ∧ fits .boolean (.int 1) = true
        decide
  | ref o =>
    cases ty <;> simp [mm_ty] at ht <;> subst ht <;> simp [mm_fit] at hf
    · exact ⟨rfl, rfl⟩
    · exact ⟨rfl, rfl⟩
  | null =>
    cases ty <;> simp [mm_ty] at ht <;> subst ht <;> simp [mm_fit] at hf
    · exact ⟨rfl, rfl⟩
    · exact ⟨rfl, rfl⟩
  | _ => exact hf.elim
theorem mm_rcv_inv {h : mm_H} {ci : Nat} {as : List Value} (hr : mm_rcv h ci as) : ∃ o As fs, as = .ref o :: As ∧ h[o]? = some (.inr (ci, fs)) := by
  unfold mm_rcv at hr
  split at hr
  · rename_i o As
    split at hr
    · rename_i q hq
      subst hr
      exact ⟨o, As, q.2, rfl, hq⟩
    · exact hr.elim
  · exact hr.elim
theorem mm_stack {b k : Nat} {φ : Nat → Nat} {st As : List Value} {o : Nat} (h : (st.take k).reverse = .ref o :: As) : st.map (mm_v b φ) = (As.map (mm_v b φ)).reverse ++ .ref (φ o) :: (st.drop k).map (mm_v b φ) := by
  have h1 : st.take k = (Value.ref o :: As).reverse := by rw [← h, List.reverse_reverse]
  have h2 : st = (Value.ref o :: As).reverse ++ st.drop k := by rw [← h1, List.take_append_drop]
  have h3 : st.map (mm_v b φ) = ((Value.ref o :: As).reverse ++ st.drop k).map (mm_v b φ) := congrArg _ h2
  rw [h3]
  simp [mm_v]
theorem mm_stackS {b k : Nat} {φ : Nat → Nat} {st : List Value} : st.map (mm_v b φ) = ((st.take k).reverse.map (mm_v b φ)).reverse ++ (st.drop k).map (mm_v b φ) := by
  have h3 : st.map (mm_v b φ) = (st.take k ++ st.drop k).map (mm_v b φ) := by rw [List.take_append_drop]
  rw [h3]
  simp
theorem mm_ml_spec {own : String} {i : Nat} {y : MethodName} (h : mm_ml WS nM own i y = true) : Cond.methodLink own i y ∈ WS ∨ ∃ q ∈ nM, q.1 = own ∧ q.2.1 = i ∧ q.2.2.1 = y := by
  simpa only [mm_ml, Bool.or_eq_true, decide_eq_true_eq, List.any_eq_true] using h
theorem mm_my_spec {y : MethodName} {k : Nat} (h : mm_my WS y k = true) : (y.cls ≠ "java/lang/invoke/MethodHandle" ∧ y.cls ≠ "java/lang/invoke/VarHandle" ∧ (parseMethodDescriptor y.desc).map (fun d => d.parameters.length) = some k) ∧ Cond.initialized y.cls ∈ WS := by
  simp only [mm_my, Bool.and_eq_true, decide_eq_true_eq] at h
  exact ⟨⟨h.1.1.1, h.1.1.2, h.1.2⟩, h.2⟩
/-- the start of a callee, from where its caller stands -/
theorem mm_pre {φ : Nat → Nat} {h : mm_H} {H : Heap} {locs : List Loc} {as : List Value} (hKK : mm_KK D dA cl nF nM s) (hX : va_X b xs.1 xs.2 s s.heap) (hbl : b < s.heap.size) (hbA : ¬ A b) (hP : va_P D cl (mm_w b φ dA h) H) (hD : va_D A (mm_w b φ dA h)) (hS : va_S A s.heap H locs) {av : Array Value} (hav : av = (as.map (mm_v b φ)).toArray) : ∀ U : State, U.heap = H → s.WarmedH U.vm → mm_Pc D dA cl nF nM b xs φ h as H.size av U := by
  intro U hU hW
  exact ⟨hav, by rw [hU], by rw [hU]; exact hP, hKK.warm hW, hD.weaken (fun _ _ _ _ => trivial), by rw [hU]; exact (hX.kept (hS.2.1 b hbl hbA)).moved hW.alike, by rw [hU]; exact Nat.lt_of_lt_of_le hbl hS.1, fun k q hq e => hbA (e ▸ hD.2 k q hq)⟩
end MO
end
section
section MX
variable {p : Program} {l : Launch} {e : Env} {R : Room} {s : State} {m : MethodId} {args : Array Value} {below : List Frame} {meth : Method} {c : Code} {Q : State → Prop}
variable {D : va_G} {dA : FieldType → ClassId} {cl : List vw_C} {b : Nat} {A : Nat → Prop} {φ0 : Nat → Nat} {n0 : Nat}
variable {mi : Nat → mm_M} {tb : Nat → Nat → Option mm_E} {df : Nat → List Value} {WS Ts : List Cond} {nF : List mm_F} {nM : List mm_N} {nm w d : Nat} {xs : Nat × (Nat → Int32)}
/-- all that a walk of a method's body stands on, and that does not change in it -/
def mm_Cx (p : Program) (l : Launch) (R : Room) (s : State) (m : MethodId) (args : Array Value) (meth : Method) (c : Code) (D : va_G) (dA : FieldType → ClassId) (cl : List vw_C) (b : Nat) (A : Nat → Prop) (mi : Nat → mm_M) (df : Nat → List Value) (WS Ts : List Cond) (nF : List mm_F) (nM : List mm_N) (nm w d : Nat) (xs : Nat × (Nat → Int32)) : Prop :=
  (p.tables.exec = Jvm.exec ∧ c.code = mm_b (mi w) ∧ c.maxLocals = mm_n (mi w) ∧ s.vm.findClass (mm_y (mi w)).cls = some m.cls ∧ ∀ x ∈ Ts, x.before args s = true) ∧ (∀ x ∈ WS, x ∈ Ts) ∧ Cond.code objectInit ⟨#[0xb1]⟩ 1 none ∈ Ts ∧ (∀ y, y < nm → GoodIn Ts (mm_ws mi WS nm y)) ∧ (∀ y, y < nm → mm_okm (mi y) = true) ∧ (∀ ci q, cl[ci]? = some q → mm_okc WS (df ci) q = true) ∧
  mm_KK D dA cl nF nM s ∧ (∀ q, s.heap.size ≤ q → A q) ∧ va_X b xs.1 xs.2 s s.heap ∧ b < s.heap.size ∧ ¬ A b ∧ meth.name = (mm_y (mi w)).name ∧ d + 1 ≤ R.frames ∧ 60 * d + 60 ≤ R.locals
theorem mm_x_iconst (Z : mm_Cx p l R s m args meth c D dA cl b A mi df WS Ts nF nM nm w d xs) {K : mm_K} (hK : ∀ pc L st h kc ks, K pc L st h kc ks → mm_Go p l e R s m args below meth c Q D dA cl b A φ0 n0 (mm_n (mi w)) pc L st h kc ks) {len a bb pc kc ks : Nat} {k : Int32} {L : mm_L} {st : List Value} {h : mm_H} {n : Int} (hok : mm_ok mi cl WS nF nM nm w pc (.iconst n, len, a, bb, k) = true) (hE : K (pc + len) L (.int k :: st) h kc ks) : mm_Go p l e R s m args below meth c Q D dA cl b A φ0 n0 (mm_n (mi w)) pc L st h kc ks := by
  obtain ⟨⟨hx, hb, hml, hown, hts⟩, hWT, hoi, hG, hmi, hcl, hKK, hA, hX, hbl, hbA, hin, hRf, hRl⟩ := Z
  simp only [mm_ok, mm_sd, Bool.and_eq_true, decide_eq_true_eq] at hok
  obtain ⟨hd, h1, h2⟩ := hok
  subst h1
  intro φ H locs ls f0 g0 hn k1 k2 hP hD hS hl
  exact lv_iconst hx hb hd h2 (hK _ _ _ _ _ _ hE φ H locs ls f0 g0 hn k1 k2 hP hD hS hl)
theorem mm_x_bipush (Z : mm_Cx p l R s m args meth c D dA cl b A mi df WS Ts nF nM nm w d xs) {K : mm_K} (hK : ∀ pc L st h kc ks, K pc L st h kc ks → mm_Go p l e R s m args below meth c Q D dA cl b A φ0 n0 (mm_n (mi w)) pc L st h kc ks) {len a bb pc kc ks : Nat} {k : Int32} {L : mm_L} {st : List Value} {h : mm_H} {n : Int} (hok : mm_ok mi cl WS nF nM nm w pc (.bipush n, len, a, bb, k) = true) (hE : K (pc + len) L (.int k :: st) h kc ks) : mm_Go p l e R s m args below meth c Q D dA cl b A φ0 n0 (mm_n (mi w)) pc L st h kc ks := by
  obtain ⟨⟨hx, hb, hml, hown, hts⟩, hWT, hoi, hG, hmi, hcl, hKK, hA, hX, hbl, hbA, hin, hRf, hRl⟩ := Z
  simp only [mm_ok, mm_sd, Bool.and_eq_true, decide_eq_true_eq] at hok
  obtain ⟨hd, h1, h2⟩ := hok
  subst h1
  intro φ H locs ls f0 g0 hn k1 k2 hP hD hS hl
  exact lv_bipush hx hb hd h2 (hK _ _ _ _ _ _ hE φ H locs ls f0 g0 hn k1 k2 hP hD hS hl)
theorem mm_x_sipush (Z : mm_Cx p l R s m args meth c D dA cl b A mi df WS Ts nF nM nm w d xs) {K : mm_K} (hK : ∀ pc L st h kc ks, K pc L st h kc ks → mm_Go p l e R s m args below meth c Q D dA cl b A φ0 n0 (mm_n (mi w)) pc L st h kc ks) {len a bb pc kc ks : Nat} {k : Int32} {L : mm_L} {st : List Value} {h : mm_H} {n : Int} (hok : mm_ok mi cl WS nF nM nm w pc (.sipush n, len, a, bb, k) = true) (hE : K (pc + len) L (.int k :: st) h kc ks) : mm_Go p l e R s m args below meth c Q D dA cl b A φ0 n0 (mm_n (mi w)) pc L st h kc ks := by
  obtain ⟨⟨hx, hb, hml, hown, hts⟩, hWT, hoi, hG, hmi, hcl, hKK, hA, hX, hbl, hbA, hin, hRf, hRl⟩ := Z
  simp only [mm_ok, mm_sd, Bool.and_eq_true, decide_eq_true_eq] at hok
  obtain ⟨hd, h1, h2⟩ := hok
  subst h1
  intro φ H locs ls f0 g0 hn k1 k2 hP hD hS hl
  exact lv_sipush hx hb hd h2 (hK _ _ _ _ _ _ hE φ H locs ls f0 g0 hn k1 k2 hP hD hS hl)
theorem mm_x_ldc (Z : mm_Cx p l R s m args meth c D dA cl b A mi df WS Ts nF nM nm w d xs) {K : mm_K} (hK : ∀ pc L st h kc ks, K pc L st h kc ks → mm_Go p l e R s m args below meth c Q D dA cl b A φ0 n0 (mm_n (mi w)) pc L st h kc ks) {len a bb pc kc ks : Nat} {k : Int32} {L : mm_L} {st : List Value} {h : mm_H} {i : Nat} (hok : mm_ok mi cl WS nF nM nm w pc (.ldc i, len, a, bb, k) = true) (hE : K (pc + len) L (.int k :: st) h kc ks) : mm_Go p l e R s m args below meth c Q D dA cl b A φ0 n0 (mm_n (mi w)) pc L st h kc ks := by
  obtain ⟨⟨hx, hb, hml, hown, hts⟩, hWT, hoi, hG, hmi, hcl, hKK, hA, hX, hbl, hbA, hin, hRf, hRl⟩ := Z
  simp only [mm_ok, mm_sd, Bool.and_eq_true, decide_eq_true_eq] at hok
  obtain ⟨hd, h1, h2⟩ := hok
  subst h1
  intro φ H locs ls f0 g0 hn k1 k2 hP hD hS hl
  exact lv_ldc hx hb hown (hts _ (hWT _ h2)) hd (hK _ _ _ _ _ _ hE φ H locs ls f0 g0 hn k1 k2 hP hD hS hl)
theorem mm_x_iload_n (Z : mm_Cx p l R s m args meth c D dA cl b A mi df WS Ts nF nM nm w d xs) {K : mm_K} (hK : ∀ pc L st h kc ks, K pc L st h kc ks → mm_Go p l e R s m args below meth c Q D dA cl b A φ0 n0 (mm_n (mi w)) pc L st h kc ks) {len a bb pc kc ks : Nat} {k : Int32} {L : mm_L} {st : List Value} {h : mm_H} {i : Fin 4} (hok : mm_ok mi cl WS nF nM nm w pc (.iload_n i, len, a, bb, k) = true) (hE : mm_li L a fun x => K (pc + len) L (.int x :: st) h kc ks) : mm_Go p l e R s m args below meth c Q D dA cl b A φ0 n0 (mm_n (mi w)) pc L st h kc ks := by
  obtain ⟨⟨hx, hb, hml, hown, hts⟩, hWT, hoi, hG, hmi, hcl, hKK, hA, hX, hbl, hbA, hin, hRf, hRl⟩ := Z
  simp only [mm_ok, mm_sd, Bool.and_eq_true, decide_eq_true_eq] at hok
  obtain ⟨hd, h1, h2⟩ := hok
  subst h1
  obtain ⟨x, hx1, hE1⟩ := mm_li_inv hE
  intro φ H locs ls f0 g0 hn k1 k2 hP hD hS hl
  exact lv_iload_n (x := x) hx hb hd h2 (mm_lget hl hx1 rfl) (hK _ _ _ _ _ _ hE1 φ H locs ls f0 g0 hn k1 k2 hP hD hS hl)
theorem mm_x_iload (Z : mm_Cx p l R s m args meth c D dA cl b A mi df WS Ts nF nM nm w d xs) {K : mm_K} (hK : ∀ pc L st h kc ks, K pc L st h kc ks → mm_Go p l e R s m args below meth c Q D dA cl b A φ0 n0 (mm_n (mi w)) pc L st h kc ks) {len a bb pc kc ks : Nat} {k : Int32} {L : mm_L} {st : List Value} {h : mm_H} {i : Nat} (hok : mm_ok mi cl WS nF nM nm w pc (.iload i, len, a, bb, k) = true) (hE : mm_li L a fun x => K (pc + len) L (.int x :: st) h kc ks) : mm_Go p l e R s m args below meth c Q D dA cl b A φ0 n0 (mm_n (mi w)) pc L st h kc ks := by
  obtain ⟨⟨hx, hb, hml, hown, hts⟩, hWT, hoi, hG, hmi, hcl, hKK, hA, hX, hbl, hbA, hin, hRf, hRl⟩ := Z
  simp only [mm_ok, mm_sd, Bool.and_eq_true, decide_eq_true_eq] at hok
  obtain ⟨hd, h1, h2⟩ := hok
  subst h1
  subst h2
  obtain ⟨x, hx1, hE2⟩ := mm_li_inv hE
  intro φ H locs ls f0 g0 hn k1 k2 hP hD hS hl
  exact lv_iload (x := x) hx hb hd (mm_lget hl hx1 rfl) (hK _ _ _ _ _ _ hE2 φ H locs ls f0 g0 hn k1 k2 hP hD hS hl)
theorem mm_x_aload_n (Z : mm_Cx p l R s m args meth c D dA cl b A mi df WS Ts nF nM nm w d xs) {K : mm_K} (hK : ∀ pc L st h kc ks, K pc L st h kc ks → mm_Go p l e R s m args below meth c Q D dA cl b A φ0 n0 (mm_n (mi w)) pc L st h kc ks) {len a bb pc kc ks : Nat} {k : Int32} {L : mm_L} {st : List Value} {h : mm_H} {i : Fin 4} (hok : mm_ok mi cl WS nF nM nm w pc (.aload_n i, len, a, bb, k) = true) (hE : mm_lr L a fun v => K (pc + len) L (v :: st) h kc ks) : mm_Go p l e R s m args below meth c Q D dA cl b A φ0 n0 (mm_n (mi w)) pc L st h kc ks := by
  obtain ⟨⟨hx, hb, hml, hown, hts⟩, hWT, hoi, hG, hmi, hcl, hKK, hA, hX, hbl, hbA, hin, hRf, hRl⟩ := Z
  simp only [mm_ok, mm_sd, Bool.and_eq_true, decide_eq_true_eq] at hok
  obtain ⟨hd, h1, h2⟩ := hok
  subst h1
  obtain ⟨v, hx1, hv, hE3⟩ := mm_lr_inv hE
  intro φ H locs ls f0 g0 hn k1 k2 hP hD hS hl
  rcases hv with ⟨x, rfl⟩ | ⟨x, rfl⟩
  · exact lv_aload_n (x := φ x) hx hb hd h2 (mm_lget hl hx1 rfl) (hK _ _ _ _ _ _ hE3 φ H locs ls f0 g0 hn k1 k2 hP hD hS hl)
  · exact lv_aload_n (x := b) hx hb hd h2 (mm_lget hl hx1 rfl) (hK _ _ _ _ _ _ hE3 φ H locs ls f0 g0 hn k1 k2 hP hD hS hl)
theorem mm_x_aload (Z : mm_Cx p l R s m args meth c D dA cl b A mi df WS Ts nF nM nm w d xs) {K : mm_K} (hK : ∀ pc L st h kc ks, K pc L st h kc ks → mm_Go p l e R s m args below meth c Q D dA cl b A φ0 n0 (mm_n (mi w)) pc L st h kc ks) {len a bb pc kc ks : Nat} {k : Int32} {L : mm_L} {st : List Value} {h : mm_H} {i : Nat} (hok : mm_ok mi cl WS nF nM nm w pc (.aload i, len, a, bb, k) = true) (hE : mm_lr L a fun v => K (pc + len) L (v :: st) h kc ks) : mm_Go p l e R s m args below meth c Q D dA cl b A φ0 n0 (mm_n (mi w)) pc L st h kc ks := by
  obtain ⟨⟨hx, hb, hml, hown, hts⟩, hWT, hoi, hG, hmi, hcl, hKK, hA, hX, hbl, hbA, hin, hRf, hRl⟩ := Z
  simp only [mm_ok, mm_sd, Bool.and_eq_true, decide_eq_true_eq] at hok
  obtain ⟨hd, h1, h2⟩ := hok
  subst h1
  subst h2
  obtain ⟨v, hx1, hv, hE4⟩ := mm_lr_inv hE
  intro φ H locs ls f0 g0 hn k1 k2 hP hD hS hl
  rcases hv with ⟨x, rfl⟩ | ⟨x, rfl⟩
  · exact lv_aload (x := φ x) hx hb hd (mm_lget hl hx1 rfl) (hK _ _ _ _ _ _ hE4 φ H locs ls f0 g0 hn k1 k2 hP hD hS hl)
  · exact lv_aload (x := b) hx hb hd (mm_lget hl hx1 rfl) (hK _ _ _ _ _ _ hE4 φ H locs ls f0 g0 hn k1 k2 hP hD hS hl)
theorem mm_x_istore_n (Z : mm_Cx p l R s m args meth c D dA cl b A mi df WS Ts nF nM nm w d xs) {K : mm_K} (hK : ∀ pc L st h kc ks, K pc L st h kc ks → mm_Go p l e R s m args below meth c Q D dA cl b A φ0 n0 (mm_n (mi w)) pc L st h kc ks) {len a bb pc kc ks : Nat} {k : Int32} {L : mm_L} {st : List Value} {h : mm_H} {i : Fin 4} (hok : mm_ok mi cl WS nF nM nm w pc (.istore_n i, len, a, bb, k) = true) (hE : mm_s1 st fun x r => K (pc + len) (L.set a (some (.int x))) r h kc ks) : mm_Go p l e R s m args below meth c Q D dA cl b A φ0 n0 (mm_n (mi w)) pc L st h kc ks := by
  obtain ⟨⟨hx, hb, hml, hown, hts⟩, hWT, hoi, hG, hmi, hcl, hKK, hA, hX, hbl, hbA, hin, hRf, hRl⟩ := Z
  simp only [mm_ok, mm_sd, Bool.and_eq_true, decide_eq_true_eq] at hok
  obtain ⟨hd, h1, h2, h3⟩ := hok
  subst h1
  obtain ⟨x, r, rfl, hE5⟩ := mm_s1_inv hE
  intro φ H locs ls f0 g0 hn k1 k2 hP hD hS hl
  exact lv_istore_n hx hb hd h2 hl h3 rfl (fun ls' hl' => hK _ _ _ _ _ _ hE5 φ H locs ls' f0 g0 hn k1 k2 hP hD hS (mm_lsub hl' mm_lset))
theorem mm_x_istore (Z : mm_Cx p l R s m args meth c D dA cl b A mi df WS Ts nF nM nm w d xs) {K : mm_K} (hK : ∀ pc L st h kc ks, K pc L st h kc ks → mm_Go p l e R s m args below meth c Q D dA cl b A φ0 n0 (mm_n (mi w)) pc L st h kc ks) {len a bb pc kc ks : Nat} {k : Int32} {L : mm_L} {st : List Value} {h : mm_H} {i : Nat} (hok : mm_ok mi cl WS nF nM nm w pc (.istore i, len, a, bb, k) = true) (hE : mm_s1 st fun x r => K (pc + len) (L.set a (some (.int x))) r h kc ks) : mm_Go p l e R s m args below meth c Q D dA cl b A φ0 n0 (mm_n (mi w)) pc L st h kc ks := by
  obtain ⟨⟨hx, hb, hml, hown, hts⟩, hWT, hoi, hG, hmi, hcl, hKK, hA, hX, hbl, hbA, hin, hRf, hRl⟩ := Z
  simp only [mm_ok, mm_sd, Bool.and_eq_true, decide_eq_true_eq] at hok
  obtain ⟨hd, h1, h2, h3⟩ := hok
  subst h1
  subst h2
  obtain ⟨x, r, rfl, hE6⟩ := mm_s1_inv hE
  intro φ H locs ls f0 g0 hn k1 k2 hP hD hS hl
  exact lv_istore hx hb hd hl h3 rfl (fun ls' hl' => hK _ _ _ _ _ _ hE6 φ H locs ls' f0 g0 hn k1 k2 hP hD hS (mm_lsub hl' mm_lset))
theorem mm_x_astore_n (Z : mm_Cx p l R s m args meth c D dA cl b A mi df WS Ts nF nM nm w d xs) {K : mm_K} (hK : ∀ pc L st h kc ks, K pc L st h kc ks → mm_Go p l e R s m args below meth c Q D dA cl b A φ0 n0 (mm_n (mi w)) pc L st h kc ks) {len a bb pc kc ks : Nat} {k : Int32} {L : mm_L} {st : List Value} {h : mm_H} {i : Fin 4} (hok : mm_ok mi cl WS nF nM nm w pc (.astore_n i, len, a, bb, k) = true) (hE : mm_sr st fun x r => K (pc + len) (L.set a (some (.ref x))) r h kc ks) : mm_Go p l e R s m args below meth c Q D dA cl b A φ0 n0 (mm_n (mi w)) pc L st h kc ks := by
  obtain ⟨⟨hx, hb, hml, hown, hts⟩, hWT, hoi, hG, hmi, hcl, hKK, hA, hX, hbl, hbA, hin, hRf, hRl⟩ := Z
  simp only [mm_ok, mm_sd, Bool.and_eq_true, decide_eq_true_eq] at hok
  obtain ⟨hd, h1, h2, h3⟩ := hok
  subst h1
  obtain ⟨x, r, rfl, hE7⟩ := mm_sr_inv hE
  intro φ H locs ls f0 g0 hn k1 k2 hP hD hS hl
  exact lv_astore_n hx hb hd h2 hl h3 rfl (fun ls' hl' => hK _ _ _ _ _ _ hE7 φ H locs ls' f0 g0 hn k1 k2 hP hD hS (mm_lsub hl' mm_lset))
theorem mm_x_astore (Z : mm_Cx p l R s m args meth c D dA cl b A mi df WS Ts nF nM nm w d xs) {K : mm_K} (hK : ∀ pc L st h kc ks, K pc L st h kc ks → mm_Go p l e R s m args below meth c Q D dA cl b A φ0 n0 (mm_n (mi w)) pc L st h kc ks) {len a bb pc kc ks : Nat} {k : Int32} {L : mm_L} {st : List Value} {h : mm_H} {i : Nat} (hok : mm_ok mi cl WS nF nM nm w pc (.astore i, len, a, bb, k) = true) (hE : mm_sr st fun x r => K (pc + len) (L.set a (some (.ref x))) r h kc ks) : mm_Go p l e R s m args below meth c Q D dA cl b A φ0 n0 (mm_n (mi w)) pc L st h kc ks := by
  obtain ⟨⟨hx, hb, hml, hown, hts⟩, hWT, hoi, hG, hmi, hcl, hKK, hA, hX, hbl, hbA, hin, hRf, hRl⟩ := Z
  simp only [mm_ok, mm_sd, Bool.and_eq_true, decide_eq_true_eq] at hok
  obtain ⟨hd, h1, h2, h3⟩ := hok
  subst h1
  subst h2
  obtain ⟨x, r, rfl, hE8⟩ := mm_sr_inv hE
  intro φ H locs ls f0 g0 hn k1 k2 hP hD hS hl
  exact lv_astore hx hb hd hl h3 rfl (fun ls' hl' => hK _ _ _ _ _ _ hE8 φ H locs ls' f0 g0 hn k1 k2 hP hD hS (mm_lsub hl' mm_lset))
theorem mm_x_iinc (Z : mm_Cx p l R s m args meth c D dA cl b A mi df WS Ts nF nM nm w d xs) {K : mm_K} (hK : ∀ pc L st h kc ks, K pc L st h kc ks → mm_Go p l e R s m args below meth c Q D dA cl b A φ0 n0 (mm_n (mi w)) pc L st h kc ks) {len a bb pc kc ks : Nat} {k : Int32} {L : mm_L} {st : List Value} {h : mm_H} {i : Nat} {n : Int} (hok : mm_ok mi cl WS nF nM nm w pc (.iinc i n, len, a, bb, k) = true) (hE : mm_li L a fun x => K (pc + len) (L.set a (some (.int (x + k)))) st h kc ks) : mm_Go p l e R s m args below meth c Q D dA cl b A φ0 n0 (mm_n (mi w)) pc L st h kc ks := by
  obtain ⟨⟨hx, hb, hml, hown, hts⟩, hWT, hoi, hG, hmi, hcl, hKK, hA, hX, hbl, hbA, hin, hRf, hRl⟩ := Z
  simp only [mm_ok, mm_sd, Bool.and_eq_true, decide_eq_true_eq] at hok
  obtain ⟨hd, h1, h2, h3, h4⟩ := hok
  subst h1
  subst h2
  obtain ⟨x, hx1, hE9⟩ := mm_li_inv hE
  intro φ H locs ls f0 g0 hn k1 k2 hP hD hS hl
  obtain ⟨j, hj⟩ := List.getElem?_of_mem (mm_l_mem (b := b) (φ := φ) (q := (i, Value.int x)).mpr ⟨.int x, hx1, rfl, rfl⟩)
  exact lv_iinc (k := j) hx hb hd hl hj (by rw [h4]) h3 rfl (fun ls' hl' => hK _ _ _ _ _ _ hE9 φ H locs ls' f0 g0 hn k1 k2 hP hD hS (mm_lsub hl' mm_lset))
theorem mm_x_iadd (Z : mm_Cx p l R s m args meth c D dA cl b A mi df WS Ts nF nM nm w d xs) {K : mm_K} (hK : ∀ pc L st h kc ks, K pc L st h kc ks → mm_Go p l e R s m args below meth c Q D dA cl b A φ0 n0 (mm_n (mi w)) pc L st h kc ks) {len a bb pc kc ks : Nat} {k : Int32} {L : mm_L} {st : List Value} {h : mm_H}  (hok : mm_ok mi cl WS nF nM nm w pc (.iadd, len, a, bb, k) = true) (hE : mm_s2 st fun y x r => K (pc + len) L (.int (x + y) :: r) h kc ks) : mm_Go p l e R s m args below meth c Q D dA cl b A φ0 n0 (mm_n (mi w)) pc L st h kc ks := by
  obtain ⟨⟨hx, hb, hml, hown, hts⟩, hWT, hoi, hG, hmi, hcl, hKK, hA, hX, hbl, hbA, hin, hRf, hRl⟩ := Z
  simp only [mm_ok, mm_sd, Bool.and_eq_true, decide_eq_true_eq] at hok
  obtain ⟨hd, h1⟩ := hok
  subst h1
  obtain ⟨y, x, r, rfl, hE10⟩ := mm_s2_inv hE
  intro φ H locs ls f0 g0 hn k1 k2 hP hD hS hl
  exact lv_iadd hx hb hd (hK _ _ _ _ _ _ hE10 φ H locs ls f0 g0 hn k1 k2 hP hD hS hl)
theorem mm_x_isub (Z : mm_Cx p l R s m args meth c D dA cl b A mi df WS Ts nF nM nm w d xs) {K : mm_K} (hK : ∀ pc L st h kc ks, K pc L st h kc ks → mm_Go p l e R s m args below meth c Q D dA cl b A φ0 n0 (mm_n (mi w)) pc L st h kc ks) {len a bb pc kc ks : Nat} {k : Int32} {L : mm_L} {st : List Value} {h : mm_H}  (hok : mm_ok mi cl WS nF nM nm w pc (.isub, len, a, bb, k) = true) (hE : mm_s2 st fun y x r => K (pc + len) L (.int (x - y) :: r) h kc ks) : mm_Go p l e R s m args below meth c Q D dA cl b A φ0 n0 (mm_n (mi w)) pc L st h kc ks := by
  obtain ⟨⟨hx, hb, hml, hown, hts⟩, hWT, hoi, hG, hmi, hcl, hKK, hA, hX, hbl, hbA, hin, hRf, hRl⟩ := Z
  simp only [mm_ok, mm_sd, Bool.and_eq_true, decide_eq_true_eq] at hok
  obtain ⟨hd, h1⟩ := hok
  subst h1
  obtain ⟨y, x, r, rfl, hE11⟩ := mm_s2_inv hE
  intro φ H locs ls f0 g0 hn k1 k2 hP hD hS hl
  exact lv_isub hx hb hd (hK _ _ _ _ _ _ hE11 φ H locs ls f0 g0 hn k1 k2 hP hD hS hl)
theorem mm_x_imul (Z : mm_Cx p l R s m args meth c D dA cl b A mi df WS Ts nF nM nm w d xs) {K : mm_K} (hK : ∀ pc L st h kc ks, K pc L st h kc ks → mm_Go p l e R s m args below meth c Q D dA cl b A φ0 n0 (mm_n (mi w)) pc L st h kc ks) {len a bb pc kc ks : Nat} {k : Int32} {L : mm_L} {st : List Value} {h : mm_H}  (hok : mm_ok mi cl WS nF nM nm w pc (.imul, len, a, bb, k) = true) (hE : mm_s2 st fun y x r => K (pc + len) L (.int (x * y) :: r) h kc ks) : mm_Go p l e R s m args below meth c Q D dA cl b A φ0 n0 (mm_n (mi w)) pc L st h kc ks := by
  obtain ⟨⟨hx, hb, hml, hown, hts⟩, hWT, hoi, hG, hmi, hcl, hKK, hA, hX, hbl, hbA, hin, hRf, hRl⟩ := Z
  simp only [mm_ok, mm_sd, Bool.and_eq_true, decide_eq_true_eq] at hok
  obtain ⟨hd, h1⟩ := hok
  subst h1
  obtain ⟨y, x, r, rfl, hE12⟩ := mm_s2_inv hE
  intro φ H locs ls f0 g0 hn k1 k2 hP hD hS hl
  exact lv_imul hx hb hd (hK _ _ _ _ _ _ hE12 φ H locs ls f0 g0 hn k1 k2 hP hD hS hl)
theorem mm_x_iand (Z : mm_Cx p l R s m args meth c D dA cl b A mi df WS Ts nF nM nm w d xs) {K : mm_K} (hK : ∀ pc L st h kc ks, K pc L st h kc ks → mm_Go p l e R s m args below meth c Q D dA cl b A φ0 n0 (mm_n (mi w)) pc L st h kc ks) {len a bb pc kc ks : Nat} {k : Int32} {L : mm_L} {st : List Value} {h : mm_H}  (hok : mm_ok mi cl WS nF nM nm w pc (.iand, len, a, bb, k) = true) (hE : mm_s2 st fun y x r => K (pc + len) L (.int (x &&& y) :: r) h kc ks) : mm_Go p l e R s m args below meth c Q D dA cl b A φ0 n0 (mm_n (mi w)) pc L st h kc ks := by
  obtain ⟨⟨hx, hb, hml, hown, hts⟩, hWT, hoi, hG, hmi, hcl, hKK, hA, hX, hbl, hbA, hin, hRf, hRl⟩ := Z
  simp only [mm_ok, mm_sd, Bool.and_eq_true, decide_eq_true_eq] at hok
  obtain ⟨hd, h1⟩ := hok
  subst h1
  obtain ⟨y, x, r, rfl, hE13⟩ := mm_s2_inv hE
  intro φ H locs ls f0 g0 hn k1 k2 hP hD hS hl
  exact lv_iand hx hb hd (hK _ _ _ _ _ _ hE13 φ H locs ls f0 g0 hn k1 k2 hP hD hS hl)
theorem mm_x_ior (Z : mm_Cx p l R s m args meth c D dA cl b A mi df WS Ts nF nM nm w d xs) {K : mm_K} (hK : ∀ pc L st h kc ks, K pc L st h kc ks → mm_Go p l e R s m args below meth c Q D dA cl b A φ0 n0 (mm_n (mi w)) pc L st h kc ks) {len a bb pc kc ks : Nat} {k : Int32} {L : mm_L} {st : List Value} {h : mm_H}  (hok : mm_ok mi cl WS nF nM nm w pc (.ior, len, a, bb, k) = true) (hE : mm_s2 st fun y x r => K (pc + len) L (.int (x ||| y) :: r) h kc ks) : mm_Go p l e R s m args below meth c Q D dA cl b A φ0 n0 (mm_n (mi w)) pc L st h kc ks := by
  obtain ⟨⟨hx, hb, hml, hown, hts⟩, hWT, hoi, hG, hmi, hcl, hKK, hA, hX, hbl, hbA, hin, hRf, hRl⟩ := Z
  simp only [mm_ok, mm_sd, Bool.and_eq_true, decide_eq_true_eq] at hok
  obtain ⟨hd, h1⟩ := hok
  subst h1
  obtain ⟨y, x, r, rfl, hE14⟩ := mm_s2_inv hE
  intro φ H locs ls f0 g0 hn k1 k2 hP hD hS hl
  exact lv_ior hx hb hd (hK _ _ _ _ _ _ hE14 φ H locs ls f0 g0 hn k1 k2 hP hD hS hl)
theorem mm_x_ixor (Z : mm_Cx p l R s m args meth c D dA cl b A mi df WS Ts nF nM nm w d xs) {K : mm_K} (hK : ∀ pc L st h kc ks, K pc L st h kc ks → mm_Go p l e R s m args below meth c Q D dA cl b A φ0 n0 (mm_n (mi w)) pc L st h kc ks) {len a bb pc kc ks : Nat} {k : Int32} {L : mm_L} {st : List Value} {h : mm_H}  (hok : mm_ok mi cl WS nF nM nm w pc (.ixor, len, a, bb, k) = true) (hE : mm_s2 st fun y x r => K (pc + len) L (.int (x ^^^ y) :: r) h kc ks) : mm_Go p l e R s m args below meth c Q D dA cl b A φ0 n0 (mm_n (mi w)) pc L st h kc ks := by
  obtain ⟨⟨hx, hb, hml, hown, hts⟩, hWT, hoi, hG, hmi, hcl, hKK, hA, hX, hbl, hbA, hin, hRf, hRl⟩ := Z
  simp only [mm_ok, mm_sd, Bool.and_eq_true, decide_eq_true_eq] at hok
  obtain ⟨hd, h1⟩ := hok
  subst h1
  obtain ⟨y, x, r, rfl, hE15⟩ := mm_s2_inv hE
  intro φ H locs ls f0 g0 hn k1 k2 hP hD hS hl
  exact lv_ixor hx hb hd (hK _ _ _ _ _ _ hE15 φ H locs ls f0 g0 hn k1 k2 hP hD hS hl)
theorem mm_x_ishl (Z : mm_Cx p l R s m args meth c D dA cl b A mi df WS Ts nF nM nm w d xs) {K : mm_K} (hK : ∀ pc L st h kc ks, K pc L st h kc ks → mm_Go p l e R s m args below meth c Q D dA cl b A φ0 n0 (mm_n (mi w)) pc L st h kc ks) {len a bb pc kc ks : Nat} {k : Int32} {L : mm_L} {st : List Value} {h : mm_H}  (hok : mm_ok mi cl WS nF nM nm w pc (.ishl, len, a, bb, k) = true) (hE : mm_s2 st fun y x r => K (pc + len) L (.int (x <<< (y &&& 31)) :: r) h kc ks) : mm_Go p l e R s m args below meth c Q D dA cl b A φ0 n0 (mm_n (mi w)) pc L st h kc ks := by
  obtain ⟨⟨hx, hb, hml, hown, hts⟩, hWT, hoi, hG, hmi, hcl, hKK, hA, hX, hbl, hbA, hin, hRf, hRl⟩ := Z
  simp only [mm_ok, mm_sd, Bool.and_eq_true, decide_eq_true_eq] at hok
  obtain ⟨hd, h1⟩ := hok
  subst h1
  obtain ⟨y, x, r, rfl, hE16⟩ := mm_s2_inv hE
  intro φ H locs ls f0 g0 hn k1 k2 hP hD hS hl
  exact lv_ishl hx hb hd (hK _ _ _ _ _ _ hE16 φ H locs ls f0 g0 hn k1 k2 hP hD hS hl)
theorem mm_x_ishr (Z : mm_Cx p l R s m args meth c D dA cl b A mi df WS Ts nF nM nm w d xs) {K : mm_K} (hK : ∀ pc L st h kc ks, K pc L st h kc ks → mm_Go p l e R s m args below meth c Q D dA cl b A φ0 n0 (mm_n (mi w)) pc L st h kc ks) {len a bb pc kc ks : Nat} {k : Int32} {L : mm_L} {st : List Value} {h : mm_H}  (hok : mm_ok mi cl WS nF nM nm w pc (.ishr, len, a, bb, k) = true) (hE : mm_s2 st fun y x r => K (pc + len) L (.int (x >>> (y &&& 31)) :: r) h kc ks) : mm_Go p l e R s m args below meth c Q D dA cl b A φ0 n0 (mm_n (mi w)) pc L st h kc ks := by
  obtain ⟨⟨hx, hb, hml, hown, hts⟩, hWT, hoi, hG, hmi, hcl, hKK, hA, hX, hbl, hbA, hin, hRf, hRl⟩ := Z
  simp only [mm_ok, mm_sd, Bool.and_eq_true, decide_eq_true_eq] at hok
  obtain ⟨hd, h1⟩ := hok
  subst h1
  obtain ⟨y, x, r, rfl, hE17⟩ := mm_s2_inv hE
  intro φ H locs ls f0 g0 hn k1 k2 hP hD hS hl
  exact lv_ishr hx hb hd (hK _ _ _ _ _ _ hE17 φ H locs ls f0 g0 hn k1 k2 hP hD hS hl)
theorem mm_x_idiv (Z : mm_Cx p l R s m args meth c D dA cl b A mi df WS Ts nF nM nm w d xs) {K : mm_K} (hK : ∀ pc L st h kc ks, K pc L st h kc ks → mm_Go p l e R s m args below meth c Q D dA cl b A φ0 n0 (mm_n (mi w)) pc L st h kc ks) {len a bb pc kc ks : Nat} {k : Int32} {L : mm_L} {st : List Value} {h : mm_H}  (hok : mm_ok mi cl WS nF nM nm w pc (.idiv, len, a, bb, k) = true) (hE : mm_s2 st fun y x r => ¬ y = 0 ∧ K (pc + len) L (.int (x / y) :: r) h kc ks) : mm_Go p l e R s m args below meth c Q D dA cl b A φ0 n0 (mm_n (mi w)) pc L st h kc ks := by
  obtain ⟨⟨hx, hb, hml, hown, hts⟩, hWT, hoi, hG, hmi, hcl, hKK, hA, hX, hbl, hbA, hin, hRf, hRl⟩ := Z
  simp only [mm_ok, mm_sd, Bool.and_eq_true, decide_eq_true_eq] at hok
  obtain ⟨hd, h1⟩ := hok
  subst h1
  obtain ⟨y, x, r, rfl, hy, hE18⟩ := mm_s2_inv hE
  intro φ H locs ls f0 g0 hn k1 k2 hP hD hS hl
  exact lv_idiv hx hb hd hy (hK _ _ _ _ _ _ hE18 φ H locs ls f0 g0 hn k1 k2 hP hD hS hl)
theorem mm_x_irem (Z : mm_Cx p l R s m args meth c D dA cl b A mi df WS Ts nF nM nm w d xs) {K : mm_K} (hK : ∀ pc L st h kc ks, K pc L st h kc ks → mm_Go p l e R s m args below meth c Q D dA cl b A φ0 n0 (mm_n (mi w)) pc L st h kc ks) {len a bb pc kc ks : Nat} {k : Int32} {L : mm_L} {st : List Value} {h : mm_H}  (hok : mm_ok mi cl WS nF nM nm w pc (.irem, len, a, bb, k) = true) (hE : mm_s2 st fun y x r => ¬ y = 0 ∧ K (pc + len) L (.int (x - x / y * y) :: r) h kc ks) : mm_Go p l e R s m args below meth c Q D dA cl b A φ0 n0 (mm_n (mi w)) pc L st h kc ks := by
  obtain ⟨⟨hx, hb, hml, hown, hts⟩, hWT, hoi, hG, hmi, hcl, hKK, hA, hX, hbl, hbA, hin, hRf, hRl⟩ := Z
  simp only [mm_ok, mm_sd, Bool.and_eq_true, decide_eq_true_eq] at hok
  obtain ⟨hd, h1⟩ := hok
  subst h1
  obtain ⟨y, x, r, rfl, hy, hE19⟩ := mm_s2_inv hE
  intro φ H locs ls f0 g0 hn k1 k2 hP hD hS hl
  exact lv_irem hx hb hd hy (hK _ _ _ _ _ _ hE19 φ H locs ls f0 g0 hn k1 k2 hP hD hS hl)
theorem mm_x_ineg (Z : mm_Cx p l R s m args meth c D dA cl b A mi df WS Ts nF nM nm w d xs) {K : mm_K} (hK : ∀ pc L st h kc ks, K pc L st h kc ks → mm_Go p l e R s m args below meth c Q D dA cl b A φ0 n0 (mm_n (mi w)) pc L st h kc ks) {len a bb pc kc ks : Nat} {k : Int32} {L : mm_L} {st : List Value} {h : mm_H}  (hok : mm_ok mi cl WS nF nM nm w pc (.ineg, len, a, bb, k) = true) (hE : mm_s1 st fun x r => K (pc + len) L (.int (-x) :: r) h kc ks) : mm_Go p l e R s m args below meth c Q D dA cl b A φ0 n0 (mm_n (mi w)) pc L st h kc ks := by
  obtain ⟨⟨hx, hb, hml, hown, hts⟩, hWT, hoi, hG, hmi, hcl, hKK, hA, hX, hbl, hbA, hin, hRf, hRl⟩ := Z
  simp only [mm_ok, mm_sd, Bool.and_eq_true, decide_eq_true_eq] at hok
  obtain ⟨hd, h1⟩ := hok
  subst h1
  obtain ⟨x, r, rfl, hE20⟩ := mm_s1_inv hE
  intro φ H locs ls f0 g0 hn k1 k2 hP hD hS hl
  exact lv_ineg hx hb hd (hK _ _ _ _ _ _ hE20 φ H locs ls f0 g0 hn k1 k2 hP hD hS hl)
theorem mm_x_i2c (Z : mm_Cx p l R s m args meth c D dA cl b A mi df WS Ts nF nM nm w d xs) {K : mm_K} (hK : ∀ pc L st h kc ks, K pc L st h kc ks → mm_Go p l e R s m args below meth c Q D dA cl b A φ0 n0 (mm_n (mi w)) pc L st h kc ks) {len a bb pc kc ks : Nat} {k : Int32} {L : mm_L} {st : List Value} {h : mm_H}  (hok : mm_ok mi cl WS nF nM nm w pc (.i2c, len, a, bb, k) = true) (hE : mm_s1 st fun x r => K (pc + len) L (.int (x.toUInt32 % 65536).toInt32 :: r) h kc ks) : mm_Go p l e R s m args below meth c Q D dA cl b A φ0 n0 (mm_n (mi w)) pc L st h kc ks := by
  obtain ⟨⟨hx, hb, hml, hown, hts⟩, hWT, hoi, hG, hmi, hcl, hKK, hA, hX, hbl, hbA, hin, hRf, hRl⟩ := Z
  simp only [mm_ok, mm_sd, Bool.and_eq_true, decide_eq_true_eq] at hok
  obtain ⟨hd, h1⟩ := hok
  subst h1
  obtain ⟨x, r, rfl, hE21⟩ := mm_s1_inv hE
  intro φ H locs ls f0 g0 hn k1 k2 hP hD hS hl
  exact lv_i2c hx hb hd rfl (hK _ _ _ _ _ _ hE21 φ H locs ls f0 g0 hn k1 k2 hP hD hS hl)
theorem mm_x_dup (Z : mm_Cx p l R s m args meth c D dA cl b A mi df WS Ts nF nM nm w d xs) {K : mm_K} (hK : ∀ pc L st h kc ks, K pc L st h kc ks → mm_Go p l e R s m args below meth c Q D dA cl b A φ0 n0 (mm_n (mi w)) pc L st h kc ks) {len a bb pc kc ks : Nat} {k : Int32} {L : mm_L} {st : List Value} {h : mm_H}  (hok : mm_ok mi cl WS nF nM nm w pc (.dup, len, a, bb, k) = true) (hE : mm_sv st fun v r => v.category = 1 ∧ K (pc + len) L (v :: v :: r) h kc ks) : mm_Go p l e R s m args below meth c Q D dA cl b A φ0 n0 (mm_n (mi w)) pc L st h kc ks := by
  obtain ⟨⟨hx, hb, hml, hown, hts⟩, hWT, hoi, hG, hmi, hcl, hKK, hA, hX, hbl, hbA, hin, hRf, hRl⟩ := Z
  simp only [mm_ok, mm_sd, Bool.and_eq_true, decide_eq_true_eq] at hok
  obtain ⟨hd, h1⟩ := hok
  subst h1
  obtain ⟨v, r, rfl, c1, hE22⟩ := mm_sv_inv hE
  intro φ H locs ls f0 g0 hn k1 k2 hP hD hS hl
  exact lv_dup hx hb hd (by rw [mm_v_cat]; exact c1) (hK _ _ _ _ _ _ hE22 φ H locs ls f0 g0 hn k1 k2 hP hD hS hl)
theorem mm_x_pop (Z : mm_Cx p l R s m args meth c D dA cl b A mi df WS Ts nF nM nm w d xs) {K : mm_K} (hK : ∀ pc L st h kc ks, K pc L st h kc ks → mm_Go p l e R s m args below meth c Q D dA cl b A φ0 n0 (mm_n (mi w)) pc L st h kc ks) {len a bb pc kc ks : Nat} {k : Int32} {L : mm_L} {st : List Value} {h : mm_H}  (hok : mm_ok mi cl WS nF nM nm w pc (.pop, len, a, bb, k) = true) (hE : mm_sv st fun v r => v.category = 1 ∧ K (pc + len) L r h kc ks) : mm_Go p l e R s m args below meth c Q D dA cl b A φ0 n0 (mm_n (mi w)) pc L st h kc ks := by
  obtain ⟨⟨hx, hb, hml, hown, hts⟩, hWT, hoi, hG, hmi, hcl, hKK, hA, hX, hbl, hbA, hin, hRf, hRl⟩ := Z
  simp only [mm_ok, mm_sd, Bool.and_eq_true, decide_eq_true_eq] at hok
  obtain ⟨hd, h1⟩ := hok
  subst h1
  obtain ⟨v, r, rfl, c1, hE23⟩ := mm_sv_inv hE
  intro φ H locs ls f0 g0 hn k1 k2 hP hD hS hl
  exact lv_pop hx hb hd (by rw [mm_v_cat]; exact c1) (hK _ _ _ _ _ _ hE23 φ H locs ls f0 g0 hn k1 k2 hP hD hS hl)
theorem mm_x_dup_x1 (Z : mm_Cx p l R s m args meth c D dA cl b A mi df WS Ts nF nM nm w d xs) {K : mm_K} (hK : ∀ pc L st h kc ks, K pc L st h kc ks → mm_Go p l e R s m args below meth c Q D dA cl b A φ0 n0 (mm_n (mi w)) pc L st h kc ks) {len a bb pc kc ks : Nat} {k : Int32} {L : mm_L} {st : List Value} {h : mm_H}  (hok : mm_ok mi cl WS nF nM nm w pc (.dup_x1, len, a, bb, k) = true) (hE : mm_sv st fun v r => mm_sv r fun w r => v.category = 1 ∧ w.category = 1 ∧ K (pc + len) L (v :: w :: v :: r) h kc ks) : mm_Go p l e R s m args below meth c Q D dA cl b A φ0 n0 (mm_n (mi w)) pc L st h kc ks := by
  obtain ⟨⟨hx, hb, hml, hown, hts⟩, hWT, hoi, hG, hmi, hcl, hKK, hA, hX, hbl, hbA, hin, hRf, hRl⟩ := Z
  simp only [mm_ok, mm_sd, Bool.and_eq_true, decide_eq_true_eq] at hok
  obtain ⟨hd, h1⟩ := hok
  subst h1
  obtain ⟨v, r, rfl, hE24⟩ := mm_sv_inv hE
  obtain ⟨v2, r, rfl, c1, c2, hE25⟩ := mm_sv_inv hE24
  intro φ H locs ls f0 g0 hn k1 k2 hP hD hS hl
  exact lv_dup_x1 hx hb hd (by rw [mm_v_cat]; exact c1) (by rw [mm_v_cat]; exact c2) (hK _ _ _ _ _ _ hE25 φ H locs ls f0 g0 hn k1 k2 hP hD hS hl)
theorem mm_x_dup2 (Z : mm_Cx p l R s m args meth c D dA cl b A mi df WS Ts nF nM nm w d xs) {K : mm_K} (hK : ∀ pc L st h kc ks, K pc L st h kc ks → mm_Go p l e R s m args below meth c Q D dA cl b A φ0 n0 (mm_n (mi w)) pc L st h kc ks) {len a bb pc kc ks : Nat} {k : Int32} {L : mm_L} {st : List Value} {h : mm_H}  (hok : mm_ok mi cl WS nF nM nm w pc (.dup2, len, a, bb, k) = true) (hE : mm_sv st fun v r => mm_sv r fun w r => v.category = 1 ∧ w.category = 1 ∧ K (pc + len) L (v :: w :: v :: w :: r) h kc ks) : mm_Go p l e R s m args below meth c Q D dA cl b A φ0 n0 (mm_n (mi w)) pc L st h kc ks := by
  obtain ⟨⟨hx, hb, hml, hown, hts⟩, hWT, hoi, hG, hmi, hcl, hKK, hA, hX, hbl, hbA, hin, hRf, hRl⟩ := Z
  simp only [mm_ok, mm_sd, Bool.and_eq_true, decide_eq_true_eq] at hok
  obtain ⟨hd, h1⟩ := hok
  subst h1
  obtain ⟨v, r, rfl, hE26⟩ := mm_sv_inv hE
  obtain ⟨v2, r, rfl, c1, c2, hE27⟩ := mm_sv_inv hE26
  intro φ H locs ls f0 g0 hn k1 k2 hP hD hS hl
  exact lv_dup2_11 hx hb hd (by rw [mm_v_cat]; exact c1) (by rw [mm_v_cat]; exact c2) (hK _ _ _ _ _ _ hE27 φ H locs ls f0 g0 hn k1 k2 hP hD hS hl)
theorem mm_x_dup_x2 (Z : mm_Cx p l R s m args meth c D dA cl b A mi df WS Ts nF nM nm w d xs) {K : mm_K} (hK : ∀ pc L st h kc ks, K pc L st h kc ks → mm_Go p l e R s m args below meth c Q D dA cl b A φ0 n0 (mm_n (mi w)) pc L st h kc ks) {len a bb pc kc ks : Nat} {k : Int32} {L : mm_L} {st : List Value} {h : mm_H}  (hok : mm_ok mi cl WS nF nM nm w pc (.dup_x2, len, a, bb, k) = true) (hE : mm_sv st fun v r => mm_sv r fun w r => mm_sv r fun z r => v.category = 1 ∧ w.category = 1 ∧ z.category = 1 ∧ K (pc + len) L (v :: w :: z :: v :: r) h kc ks) : mm_Go p l e R s m args below meth c Q D dA cl b A φ0 n0 (mm_n (mi w)) pc L st h kc ks := by
  obtain ⟨⟨hx, hb, hml, hown, hts⟩, hWT, hoi, hG, hmi, hcl, hKK, hA, hX, hbl, hbA, hin, hRf, hRl⟩ := Z
  simp only [mm_ok, mm_sd, Bool.and_eq_true, decide_eq_true_eq] at hok
  obtain ⟨hd, h1⟩ := hok
  subst h1
  obtain ⟨v, r, rfl, hE28⟩ := mm_sv_inv hE
  obtain ⟨v2, r, rfl, hE29⟩ := mm_sv_inv hE28
  obtain ⟨v3, r, rfl, c1, c2, c3, hE30⟩ := mm_sv_inv hE29
  intro φ H locs ls f0 g0 hn k1 k2 hP hD hS hl
  exact lv_dup_x2 hx hb hd (by rw [mm_v_cat]; exact c1) (by rw [mm_v_cat]; exact c2) (by rw [mm_v_cat]; exact c3) (hK _ _ _ _ _ _ hE30 φ H locs ls f0 g0 hn k1 k2 hP hD hS hl)
theorem mm_x_ifCond (Z : mm_Cx p l R s m args meth c D dA cl b A mi df WS Ts nF nM nm w d xs) {K : mm_K} (hK : ∀ pc L st h kc ks, K pc L st h kc ks → mm_Go p l e R s m args below meth c Q D dA cl b A φ0 n0 (mm_n (mi w)) pc L st h kc ks) {len a bb pc kc ks : Nat} {k : Int32} {L : mm_L} {st : List Value} {h : mm_H} {cnd : Jvm.ClassFile.Cond} {off : Int} (hok : mm_ok mi cl WS nF nM nm w pc (.ifCond cnd off, len, a, bb, k) = true) (hE : mm_s1 st fun x r => (mm_cz cnd x → K a L r h kc ks) ∧ (¬ mm_cz cnd x → K (pc + len) L r h kc ks)) : mm_Go p l e R s m args below meth c Q D dA cl b A φ0 n0 (mm_n (mi w)) pc L st h kc ks := by
  obtain ⟨⟨hx, hb, hml, hown, hts⟩, hWT, hoi, hG, hmi, hcl, hKK, hA, hX, hbl, hbA, hin, hRf, hRl⟩ := Z
  simp only [mm_ok, mm_sd, Bool.and_eq_true, decide_eq_true_eq] at hok
  obtain ⟨hd, h1, h2⟩ := hok
  subst h1
  obtain ⟨x, r, rfl, hE31⟩ := mm_s1_inv hE
  intro φ H locs ls f0 g0 hn k1 k2 hP hD hS hl
  cases cnd with
  | eq => exact lv_if_eq hx hb hd h2 (fun hc => (hK _ _ _ _ _ _ (hE.1 hc) φ H locs ls f0 g0 hn k1 k2 hP hD hS hl)) (fun hc => (hK _ _ _ _ _ _ (hE.2 hc) φ H locs ls f0 g0 hn k1 k2 hP hD hS hl))
  | ne => exact lv_if_ne hx hb hd h2 (fun hc => (hK _ _ _ _ _ _ (hE.1 hc) φ H locs ls f0 g0 hn k1 k2 hP hD hS hl)) (fun hc => (hK _ _ _ _ _ _ (hE.2 (fun hn2 => hn2 hc)) φ H locs ls f0 g0 hn k1 k2 hP hD hS hl))
  | lt => exact lv_if_lt hx hb hd h2 (fun hc => (hK _ _ _ _ _ _ (hE.1 hc) φ H locs ls f0 g0 hn k1 k2 hP hD hS hl)) (fun hc => (hK _ _ _ _ _ _ (hE.2 hc) φ H locs ls f0 g0 hn k1 k2 hP hD hS hl))
  | ge => exact lv_if_ge hx hb hd h2 (fun hc => (hK _ _ _ _ _ _ (hE.1 hc) φ H locs ls f0 g0 hn k1 k2 hP hD hS hl)) (fun hc => (hK _ _ _ _ _ _ (hE.2 hc) φ H locs ls f0 g0 hn k1 k2 hP hD hS hl))
  | gt => exact lv_if_gt hx hb hd h2 (fun hc => (hK _ _ _ _ _ _ (hE.1 hc) φ H locs ls f0 g0 hn k1 k2 hP hD hS hl)) (fun hc => (hK _ _ _ _ _ _ (hE.2 hc) φ H locs ls f0 g0 hn k1 k2 hP hD hS hl))
  | le => exact lv_if_le hx hb hd h2 (fun hc => (hK _ _ _ _ _ _ (hE.1 hc) φ H locs ls f0 g0 hn k1 k2 hP hD hS hl)) (fun hc => (hK _ _ _ _ _ _ (hE.2 hc) φ H locs ls f0 g0 hn k1 k2 hP hD hS hl))
theorem mm_x_if_icmp (Z : mm_Cx p l R s m args meth c D dA cl b A mi df WS Ts nF nM nm w d xs) {K : mm_K} (hK : ∀ pc L st h kc ks, K pc L st h kc ks → mm_Go p l e R s m args below meth c Q D dA cl b A φ0 n0 (mm_n (mi w)) pc L st h kc ks) {len a bb pc kc ks : Nat} {k : Int32} {L : mm_L} {st : List Value} {h : mm_H} {cnd : Jvm.ClassFile.Cond} {off : Int} (hok : mm_ok mi cl WS nF nM nm w pc (.if_icmp cnd off, len, a, bb, k) = true) (hE : mm_s2 st fun y x r => (mm_cc cnd x y → K a L r h kc ks) ∧ (¬ mm_cc cnd x y → K (pc + len) L r h kc ks)) : mm_Go p l e R s m args below meth c Q D dA cl b A φ0 n0 (mm_n (mi w)) pc L st h kc ks := by
  obtain ⟨⟨hx, hb, hml, hown, hts⟩, hWT, hoi, hG, hmi, hcl, hKK, hA, hX, hbl, hbA, hin, hRf, hRl⟩ := Z
  simp only [mm_ok, mm_sd, Bool.and_eq_true, decide_eq_true_eq] at hok
  obtain ⟨hd, h1, h2⟩ := hok
  subst h1
  obtain ⟨y, x, r, rfl, hE32⟩ := mm_s2_inv hE
  intro φ H locs ls f0 g0 hn k1 k2 hP hD hS hl
  cases cnd with
  | eq => exact lv_icmp_eq hx hb hd h2 (fun hc => (hK _ _ _ _ _ _ (hE.1 hc) φ H locs ls f0 g0 hn k1 k2 hP hD hS hl)) (fun hc => (hK _ _ _ _ _ _ (hE.2 hc) φ H locs ls f0 g0 hn k1 k2 hP hD hS hl))
  | ne => exact lv_icmp_ne hx hb hd h2 (fun hc => (hK _ _ _ _ _ _ (hE.1 hc) φ H locs ls f0 g0 hn k1 k2 hP hD hS hl)) (fun hc => (hK _ _ _ _ _ _ (hE.2 (fun hn2 => hn2 hc)) φ H locs ls f0 g0 hn k1 k2 hP hD hS hl))
  | lt => exact lv_icmp_lt hx hb hd h2 (fun hc => (hK _ _ _ _ _ _ (hE.1 hc) φ H locs ls f0 g0 hn k1 k2 hP hD hS hl)) (fun hc => (hK _ _ _ _ _ _ (hE.2 hc) φ H locs ls f0 g0 hn k1 k2 hP hD hS hl))
  | ge => exact lv_icmp_ge hx hb hd h2 (fun hc => (hK _ _ _ _ _ _ (hE.1 hc) φ H locs ls f0 g0 hn k1 k2 hP hD hS hl)) (fun hc => (hK _ _ _ _ _ _ (hE.2 hc) φ H locs ls f0 g0 hn k1 k2 hP hD hS hl))
  | gt => exact lv_icmp_gt hx hb hd h2 (fun hc => (hK _ _ _ _ _ _ (hE.1 hc) φ H locs ls f0 g0 hn k1 k2 hP hD hS hl)) (fun hc => (hK _ _ _ _ _ _ (hE.2 hc) φ H locs ls f0 g0 hn k1 k2 hP hD hS hl))
  | le => exact lv_icmp_le hx hb hd h2 (fun hc => (hK _ _ _ _ _ _ (hE.1 hc) φ H locs ls f0 g0 hn k1 k2 hP hD hS hl)) (fun hc => (hK _ _ _ _ _ _ (hE.2 hc) φ H locs ls f0 g0 hn k1 k2 hP hD hS hl))
theorem mm_x_goto (Z : mm_Cx p l R s m args meth c D dA cl b A mi df WS Ts nF nM nm w d xs) {K : mm_K} (hK : ∀ pc L st h kc ks, K pc L st h kc ks → mm_Go p l e R s m args below meth c Q D dA cl b A φ0 n0 (mm_n (mi w)) pc L st h kc ks) {len a bb pc kc ks : Nat} {k : Int32} {L : mm_L} {st : List Value} {h : mm_H} {off : Int} (hok : mm_ok mi cl WS nF nM nm w pc (.goto off, len, a, bb, k) = true) (hE : K a L st h kc ks) : mm_Go p l e R s m args below meth c Q D dA cl b A φ0 n0 (mm_n (mi w)) pc L st h kc ks := by
  obtain ⟨⟨hx, hb, hml, hown, hts⟩, hWT, hoi, hG, hmi, hcl, hKK, hA, hX, hbl, hbA, hin, hRf, hRl⟩ := Z
  simp only [mm_ok, mm_sd, Bool.and_eq_true, decide_eq_true_eq] at hok
  obtain ⟨hd, h1, h2⟩ := hok
  subst h1
  intro φ H locs ls f0 g0 hn k1 k2 hP hD hS hl
  exact lv_goto hx hb hd h2 (hK _ _ _ _ _ _ hE φ H locs ls f0 g0 hn k1 k2 hP hD hS hl)
theorem mm_x_lookupswitch (Z : mm_Cx p l R s m args meth c D dA cl b A mi df WS Ts nF nM nm w d xs) {K : mm_K} (hK : ∀ pc L st h kc ks, K pc L st h kc ks → mm_Go p l e R s m args below meth c Q D dA cl b A φ0 n0 (mm_n (mi w)) pc L st h kc ks) {len a bb pc kc ks : Nat} {k : Int32} {L : mm_L} {st : List Value} {h : mm_H} {dd : Int} {ps : Array (Int × Int)} (hok : mm_ok mi cl WS nF nM nm w pc (.lookupswitch dd ps, len, a, bb, k) = true) (hE : mm_s1 st fun x r => ∃ t : Nat, (pc : Int) + Op.lookupswitch.offset ps.toList dd x.toInt = (t : Int) ∧ K t L r h kc ks) : mm_Go p l e R s m args below meth c Q D dA cl b A φ0 n0 (mm_n (mi w)) pc L st h kc ks := by
  obtain ⟨⟨hx, hb, hml, hown, hts⟩, hWT, hoi, hG, hmi, hcl, hKK, hA, hX, hbl, hbA, hin, hRf, hRl⟩ := Z
  simp only [mm_ok, mm_sd, Bool.and_eq_true, decide_eq_true_eq] at hok
  obtain ⟨hd, h1⟩ := hok
  obtain ⟨x, r, rfl, t, ht, hE33⟩ := mm_s1_inv hE
  intro φ H locs ls f0 g0 hn k1 k2 hP hD hS hl
  exact lv_lookup hx hb hd h1 rfl ht (hK _ _ _ _ _ _ hE33 φ H locs ls f0 g0 hn k1 k2 hP hD hS hl)
theorem mm_x_tableswitch (Z : mm_Cx p l R s m args meth c D dA cl b A mi df WS Ts nF nM nm w d xs) {K : mm_K} (hK : ∀ pc L st h kc ks, K pc L st h kc ks → mm_Go p l e R s m args below meth c Q D dA cl b A φ0 n0 (mm_n (mi w)) pc L st h kc ks) {len a bb pc kc ks : Nat} {k : Int32} {L : mm_L} {st : List Value} {h : mm_H} {dd lo hi : Int} {offs : Array Int} (hok : mm_ok mi cl WS nF nM nm w pc (.tableswitch dd lo hi offs, len, a, bb, k) = true) (hE : mm_s1 st fun x r => (x.toInt < lo ∨ hi < x.toInt → ∃ t : Nat, (pc : Int) + dd = (t : Int) ∧ K t L r h kc ks) ∧ (¬ x.toInt < lo → ¬ hi < x.toInt → ∃ (o : Int) (t : Nat), offs[(x.toInt - lo).toNat]? = some o ∧ (pc : Int) + o = (t : Int) ∧ K t L r h kc ks)) : mm_Go p l e R s m args below meth c Q D dA cl b A φ0 n0 (mm_n (mi w)) pc L st h kc ks := by
  obtain ⟨⟨hx, hb, hml, hown, hts⟩, hWT, hoi, hG, hmi, hcl, hKK, hA, hX, hbl, hbA, hin, hRf, hRl⟩ := Z
  simp only [mm_ok, mm_sd, Bool.and_eq_true, decide_eq_true_eq] at hok
  obtain ⟨hd, h1⟩ := hok
  obtain ⟨x, r, rfl, hE34⟩ := mm_s1_inv hE
  intro φ H locs ls f0 g0 hn k1 k2 hP hD hS hl
  by_cases hc : x.toInt < lo ∨ hi < x.toInt
  · obtain ⟨t, ht, hE35⟩ := hE34.1 hc
    exact lv_tableOut hx hb hd hc ht (hK _ _ _ _ _ _ hE35 φ H locs ls f0 g0 hn k1 k2 hP hD hS hl)
  · obtain ⟨o, t, ho, ht, hE36⟩ := hE34.2 (fun z => hc (Or.inl z)) (fun z => hc (Or.inr z))
    exact lv_tableIn hx hb hd (fun z => hc (Or.inl z)) (fun z => hc (Or.inr z)) ho ht (hK _ _ _ _ _ _ hE36 φ H locs ls f0 g0 hn k1 k2 hP hD hS hl)
theorem mm_x_getfield (Z : mm_Cx p l R s m args meth c D dA cl b A mi df WS Ts nF nM nm w d xs) {K : mm_K} (hK : ∀ pc L st h kc ks, K pc L st h kc ks → mm_Go p l e R s m args below meth c Q D dA cl b A φ0 n0 (mm_n (mi w)) pc L st h kc ks) {len a bb pc kc ks : Nat} {k : Int32} {L : mm_L} {st : List Value} {h : mm_H} {i : Nat} (hok : mm_ok mi cl WS nF nM nm w pc (.getfield i, len, a, bb, k) = true) (hE : mm_sr st fun o r => mm_ob h o fun ci fs => mm_fd fs bb fun v => ci = a ∧ K (pc + len) L (v :: r) h kc ks) : mm_Go p l e R s m args below meth c Q D dA cl b A φ0 n0 (mm_n (mi w)) pc L st h kc ks := by
  obtain ⟨⟨hx, hb, hml, hown, hts⟩, hWT, hoi, hG, hmi, hcl, hKK, hA, hX, hbl, hbA, hin, hRf, hRl⟩ := Z
  simp only [mm_ok, mm_sd, Bool.and_eq_true, decide_eq_true_eq] at hok
  obtain ⟨hd, h1, hfl⟩ := hok
  subst h1
  obtain ⟨o, r, rfl, hE37⟩ := mm_sr_inv hE
  obtain ⟨ci, fs, ho, hE38⟩ := mm_ob_inv hE37
  obtain ⟨v, hv, rfl, hE39⟩ := mm_fd_inv hE38
  unfold mm_fl at hfl
  split at hfl
  · cases hfl
  · rename_i q hq
    simp only [Bool.and_eq_true, decide_eq_true_eq, mm_lk, Bool.or_eq_true, List.any_eq_true] at hfl
    obtain ⟨hk, hlk⟩ := hfl
    obtain ⟨u1, u2, u3, u4, u5⟩ := mm_okc_spec (hcl _ _ hq)
    intro φ H locs ls f0 g0 hn k1 k2 hP hD hS hl
    have hfv : (fs.map (mm_v b φ))[bb]? = some (mm_v b φ v) := by rw [List.getElem?_map, hv]; rfl
    rcases hlk with hlk | ⟨q2, hq2, e1, e2, e3, e4, e5⟩
    · exact va_get (C := q.1) (T := q.2.1) (N := q.2.2) hx hb hts (fun x h9 => hWT _ (u1 x h9)) hown hKK.1 hP o (mm_w_at ho) hq bb hk (hts _ (hWT _ hlk)) (fun _ h9 => h9) hfv hd (hK _ _ _ _ _ _ hE39 φ H locs ls f0 g0 hn k1 k2 hP hD hS hl)
    · have hz := hKK.2.1 q2 hq2
      rw [e1, e2, e3, e4, e5] at hz
      exact va_getN (C := q.1) (T := q.2.1) (N := q.2.2) hx hb hts (fun x h9 => hWT _ (u1 x h9)) hown hKK.1 hP o (mm_w_at ho) hq bb hk (va_Nw.use rfl hz) (fun _ h9 => h9) hfv hd (hK _ _ _ _ _ _ hE39 φ H locs ls f0 g0 hn k1 k2 hP hD hS hl)
theorem mm_x_putfield (Z : mm_Cx p l R s m args meth c D dA cl b A mi df WS Ts nF nM nm w d xs) {K : mm_K} (hK : ∀ pc L st h kc ks, K pc L st h kc ks → mm_Go p l e R s m args below meth c Q D dA cl b A φ0 n0 (mm_n (mi w)) pc L st h kc ks) {len a bb pc kc ks : Nat} {k : Int32} {L : mm_L} {st : List Value} {h : mm_H} {i : Nat} (hok : mm_ok mi cl WS nF nM nm w pc (.putfield i, len, a, bb, k) = true) (hE : mm_sv st fun v r => mm_sr r fun o r => mm_ob h o fun ci fs => ci = a ∧ bb < fs.length ∧ mm_fit k v ∧ K (pc + len) L r (h.set o (.inr (ci, fs.set bb v))) kc ks) : mm_Go p l e R s m args below meth c Q D dA cl b A φ0 n0 (mm_n (mi w)) pc L st h kc ks := by
  obtain ⟨⟨hx, hb, hml, hown, hts⟩, hWT, hoi, hG, hmi, hcl, hKK, hA, hX, hbl, hbA, hin, hRf, hRl⟩ := Z
  simp only [mm_ok, mm_sd, Bool.and_eq_true, decide_eq_true_eq] at hok
  obtain ⟨hd, h1, hfl⟩ := hok
  subst h1
  obtain ⟨v, r, rfl, hE40⟩ := mm_sv_inv hE
  obtain ⟨o, r, rfl, hE41⟩ := mm_sr_inv hE40
  obtain ⟨ci, fs, ho, rfl, hlen, hfit, hE42⟩ := mm_ob_inv hE41
  unfold mm_fp at hfl
  split at hfl
  · cases hfl
  · rename_i q hq
    simp only [Bool.and_eq_true, decide_eq_true_eq] at hfl
    obtain ⟨⟨hk, hty⟩, hlk⟩ := hfl
    obtain ⟨u1, u2, u3, u4, u5⟩ := mm_okc_spec (hcl _ _ hq)
    split at hty
    · cases hty
    · rename_i ty hpd
      intro φ H locs ls f0 g0 hn k1 k2 hP hD hS hl
      obtain ⟨n1, n2⟩ := mm_fit_ok (b := b) (φ := φ) hfit hty
      have hset : (mm_w b φ dA h).set o (φ o, .inr (ci, (fs.map (mm_v b φ)).set bb (mm_v b φ v))) = mm_w b φ dA (h.set o (.inr (ci, fs.set bb v))) := by
        rw [← mm_w_set]
        show _ = (mm_w b φ dA h).set o (φ o, .inr (ci, (fs.set bb v).map (mm_v b φ)))
        rw [List.map_set]
      have kk : ∀ (H1 : Heap) (locs1 : List Loc), va_P D cl ((mm_w b φ dA h).set o (φ o, .inr (ci, (fs.map (mm_v b φ)).set bb (mm_v b φ v)))) H1 → va_D A ((mm_w b φ dA h).set o (φ o, .inr (ci, (fs.map (mm_v b φ)).set bb (mm_v b φ v)))) → va_S A s.heap H1 locs1 → W p l e R s m args below meth c H1 locs1 kc ks Q (F0 m (pc + 3) ls (r.map (mm_v b φ))) := by
        intro H1 locs1 hP1 hD1 hS1
        rw [hset] at hP1 hD1
        exact hK _ _ _ _ _ _ hE42 φ H1 locs1 ls f0 g0 (by rw [List.length_set]; exact hn) k1 k2 hP1 hD1 hS1 hl
      have hl2 : bb < (fs.map (mm_v b φ)).length := by rw [List.length_map]; exact hlen
      split at hlk
      · rename_i hfin
        simp only [Bool.and_eq_true, decide_eq_true_eq] at hlk
        exact va_putF (C := q.1) (T := q.2.1) (N := q.2.2) hx hb hts (fun x h9 => hWT _ (u1 x h9)) _ u2 u3 hown hKK.1 hP hD hS o (mm_w_at ho) hq bb hk (hts _ (hWT _ hlk.2)) (fun _ h9 => h9) hfin (hin.trans hlk.1.1) hlk.1.2 hpd n1 n2 hl2 hd kk
      · rename_i hfin
        have hfin : (q.2.1 bb).2.2.2 = false := by simpa using hfin
        simp only [mm_lk, Bool.or_eq_true, decide_eq_true_eq, List.any_eq_true] at hlk
        rcases hlk with hlk | ⟨q2, hq2, e1, e2, e3, e4, e5⟩
        · exact va_put (C := q.1) (T := q.2.1) (N := q.2.2) hx hb hts (fun x h9 => hWT _ (u1 x h9)) _ u2 u3 hown hKK.1 hP hD hS o (mm_w_at ho) hq bb hk (hts _ (hWT _ hlk)) (fun _ h9 => h9) hfin hpd n1 n2 hl2 hd kk
        · have hz := hKK.2.1 q2 hq2
          rw [e1, e2, e3, e4, e5] at hz
          exact va_putN (C := q.1) (T := q.2.1) (N := q.2.2) hx hb hts (fun x h9 => hWT _ (u1 x h9)) _ u2 u3 hown hKK.1 hP hD hS o (mm_w_at ho) hq bb hk (va_Nw.use rfl hz) (fun _ h9 => h9) hfin hpd n1 n2 hl2 hd kk
theorem mm_x_iaload (Z : mm_Cx p l R s m args meth c D dA cl b A mi df WS Ts nF nM nm w d xs) {K : mm_K} (hK : ∀ pc L st h kc ks, K pc L st h kc ks → mm_Go p l e R s m args below meth c Q D dA cl b A φ0 n0 (mm_n (mi w)) pc L st h kc ks) {len a bb pc kc ks : Nat} {k : Int32} {L : mm_L} {st : List Value} {h : mm_H}  (hok : mm_ok mi cl WS nF nM nm w pc (.iaload, len, a, bb, k) = true) (hE : mm_s1 st fun i r => mm_sx r (fun r => vp_in i xs.1 ∧ K (pc + len) L (.int (xs.2 i.toNatClampNeg) :: r) h kc ks) (fun o r => mm_ar h o fun ty n f => ty = .int ∧ vp_in i n ∧ K (pc + len) L (.int (f i.toNatClampNeg) :: r) h kc ks)) : mm_Go p l e R s m args below meth c Q D dA cl b A φ0 n0 (mm_n (mi w)) pc L st h kc ks := by
  obtain ⟨⟨hx, hb, hml, hown, hts⟩, hWT, hoi, hG, hmi, hcl, hKK, hA, hX, hbl, hbA, hin, hRf, hRl⟩ := Z
  simp only [mm_ok, mm_sd, Bool.and_eq_true, decide_eq_true_eq] at hok
  obtain ⟨hd, h1⟩ := hok
  subst h1
  obtain ⟨i, r, rfl, hE43⟩ := mm_s1_inv hE
  intro φ H locs ls f0 g0 hn k1 k2 hP hD hS hl
  rcases mm_sx_inv hE43 with ⟨z, r, rfl, hi, hE44⟩ | ⟨o, r, rfl, hE44⟩
  · exact va_sld (A := A) hx hb hX hbl hbA hS hi hd (hK _ _ _ _ _ _ hE44 φ H locs ls f0 g0 hn k1 k2 hP hD hS hl)
  · obtain ⟨ty, n, f, ho, rfl, hi, hE45⟩ := mm_ar_inv hE44
    exact va_iald hx hb hKK.1 hP o 0 (mm_w_at ho) mm_tyI hi hd (hK _ _ _ _ _ _ hE45 φ H locs ls f0 g0 hn k1 k2 hP hD hS hl)
theorem mm_x_baload (Z : mm_Cx p l R s m args meth c D dA cl b A mi df WS Ts nF nM nm w d xs) {K : mm_K} (hK : ∀ pc L st h kc ks, K pc L st h kc ks → mm_Go p l e R s m args below meth c Q D dA cl b A φ0 n0 (mm_n (mi w)) pc L st h kc ks) {len a bb pc kc ks : Nat} {k : Int32} {L : mm_L} {st : List Value} {h : mm_H}  (hok : mm_ok mi cl WS nF nM nm w pc (.baload, len, a, bb, k) = true) (hE : mm_s1 st fun i r => mm_sr r fun o r => mm_ar h o fun ty n f => ty = .boolean ∧ vp_in i n ∧ K (pc + len) L (.int (f i.toNatClampNeg) :: r) h kc ks) : mm_Go p l e R s m args below meth c Q D dA cl b A φ0 n0 (mm_n (mi w)) pc L st h kc ks := by
  obtain ⟨⟨hx, hb, hml, hown, hts⟩, hWT, hoi, hG, hmi, hcl, hKK, hA, hX, hbl, hbA, hin, hRf, hRl⟩ := Z
  simp only [mm_ok, mm_sd, Bool.and_eq_true, decide_eq_true_eq] at hok
  obtain ⟨hd, h1⟩ := hok
  subst h1
  obtain ⟨i, r, rfl, hE46⟩ := mm_s1_inv hE
  obtain ⟨o, r, rfl, hE47⟩ := mm_sr_inv hE46
  obtain ⟨ty, n, f, ho, rfl, hi, hE48⟩ := mm_ar_inv hE47
  intro φ H locs ls f0 g0 hn k1 k2 hP hD hS hl
  exact va_zald hx hb hKK.1 hP o 1 (mm_w_at ho) mm_tyZ hi hd (hK _ _ _ _ _ _ hE48 φ H locs ls f0 g0 hn k1 k2 hP hD hS hl)
theorem mm_x_caload (Z : mm_Cx p l R s m args meth c D dA cl b A mi df WS Ts nF nM nm w d xs) {K : mm_K} (hK : ∀ pc L st h kc ks, K pc L st h kc ks → mm_Go p l e R s m args below meth c Q D dA cl b A φ0 n0 (mm_n (mi w)) pc L st h kc ks) {len a bb pc kc ks : Nat} {k : Int32} {L : mm_L} {st : List Value} {h : mm_H}  (hok : mm_ok mi cl WS nF nM nm w pc (.caload, len, a, bb, k) = true) (hE : mm_s1 st fun i r => mm_sr r fun o r => mm_ar h o fun ty n f => ty = .char ∧ vp_in i n ∧ K (pc + len) L (.int (f i.toNatClampNeg) :: r) h kc ks) : mm_Go p l e R s m args below meth c Q D dA cl b A φ0 n0 (mm_n (mi w)) pc L st h kc ks := by
  obtain ⟨⟨hx, hb, hml, hown, hts⟩, hWT, hoi, hG, hmi, hcl, hKK, hA, hX, hbl, hbA, hin, hRf, hRl⟩ := Z
  simp only [mm_ok, mm_sd, Bool.and_eq_true, decide_eq_true_eq] at hok
  obtain ⟨hd, h1⟩ := hok
  subst h1
  obtain ⟨i, r, rfl, hE49⟩ := mm_s1_inv hE
  obtain ⟨o, r, rfl, hE50⟩ := mm_sr_inv hE49
  obtain ⟨ty, n, f, ho, rfl, hi, hE51⟩ := mm_ar_inv hE50
  intro φ H locs ls f0 g0 hn k1 k2 hP hD hS hl
  exact va_cald hx hb hKK.1 hP o 2 (mm_w_at ho) mm_tyC hi hd (hK _ _ _ _ _ _ hE51 φ H locs ls f0 g0 hn k1 k2 hP hD hS hl)
theorem mm_x_iastore (Z : mm_Cx p l R s m args meth c D dA cl b A mi df WS Ts nF nM nm w d xs) {K : mm_K} (hK : ∀ pc L st h kc ks, K pc L st h kc ks → mm_Go p l e R s m args below meth c Q D dA cl b A φ0 n0 (mm_n (mi w)) pc L st h kc ks) {len a bb pc kc ks : Nat} {k : Int32} {L : mm_L} {st : List Value} {h : mm_H}  (hok : mm_ok mi cl WS nF nM nm w pc (.iastore, len, a, bb, k) = true) (hE : mm_s2 st fun x i r => mm_sr r fun o r => mm_ar h o fun ty n f => ty = .int ∧ vp_in i n ∧ K (pc + len) L r (h.set o (.inl (.int, n, upd f i.toNatClampNeg x))) kc ks) : mm_Go p l e R s m args below meth c Q D dA cl b A φ0 n0 (mm_n (mi w)) pc L st h kc ks := by
  obtain ⟨⟨hx, hb, hml, hown, hts⟩, hWT, hoi, hG, hmi, hcl, hKK, hA, hX, hbl, hbA, hin, hRf, hRl⟩ := Z
  simp only [mm_ok, mm_sd, Bool.and_eq_true, decide_eq_true_eq] at hok
  obtain ⟨hd, h1⟩ := hok
  subst h1
  obtain ⟨x, i, r, rfl, hE52⟩ := mm_s2_inv hE
  obtain ⟨o, r, rfl, hE53⟩ := mm_sr_inv hE52
  obtain ⟨ty, n, f, ho, rfl, hi, hE54⟩ := mm_ar_inv hE53
  intro φ H locs ls f0 g0 hn k1 k2 hP hD hS hl
  have hset := mm_w_set (b := b) (φ := φ) (dA := dA) (h := h) (o := o) (c := .inl (.int, n, upd f i.toNatClampNeg x))
  exact va_iast hx hb hKK.1 hP hD hS o 0 (mm_w_at ho) mm_tyI hi hd (fun H1 locs1 hP1 hD1 hS1 => hK _ _ _ _ _ _ hE54 φ H1 locs1 ls f0 g0 (by rw [List.length_set]; exact hn) k1 k2 (by rw [← hset]; exact hP1) (by rw [← hset]; exact hD1) hS1 hl)
theorem mm_x_bastore (Z : mm_Cx p l R s m args meth c D dA cl b A mi df WS Ts nF nM nm w d xs) {K : mm_K} (hK : ∀ pc L st h kc ks, K pc L st h kc ks → mm_Go p l e R s m args below meth c Q D dA cl b A φ0 n0 (mm_n (mi w)) pc L st h kc ks) {len a bb pc kc ks : Nat} {k : Int32} {L : mm_L} {st : List Value} {h : mm_H}  (hok : mm_ok mi cl WS nF nM nm w pc (.bastore, len, a, bb, k) = true) (hE : mm_s2 st fun x i r => mm_sr r fun o r => mm_ar h o fun ty n f => ty = .boolean ∧ vp_in i n ∧ K (pc + len) L r (h.set o (.inl (.boolean, n, upd f i.toNatClampNeg (vp_nar .boolean x)))) kc ks) : mm_Go p l e R s m args below meth c Q D dA cl b A φ0 n0 (mm_n (mi w)) pc L st h kc ks := by
  obtain ⟨⟨hx, hb, hml, hown, hts⟩, hWT, hoi, hG, hmi, hcl, hKK, hA, hX, hbl, hbA, hin, hRf, hRl⟩ := Z
  simp only [mm_ok, mm_sd, Bool.and_eq_true, decide_eq_true_eq] at hok
  obtain ⟨hd, h1⟩ := hok
  subst h1
  obtain ⟨x, i, r, rfl, hE55⟩ := mm_s2_inv hE
  obtain ⟨o, r, rfl, hE56⟩ := mm_sr_inv hE55
  obtain ⟨ty, n, f, ho, rfl, hi, hE57⟩ := mm_ar_inv hE56
  intro φ H locs ls f0 g0 hn k1 k2 hP hD hS hl
  have hset := mm_w_set (b := b) (φ := φ) (dA := dA) (h := h) (o := o) (c := .inl (.boolean, n, upd f i.toNatClampNeg (vp_nar .boolean x)))
  exact va_zast hx hb hKK.1 hP hD hS o 1 (mm_w_at ho) mm_tyZ hi hd (fun H1 locs1 hP1 hD1 hS1 => hK _ _ _ _ _ _ hE57 φ H1 locs1 ls f0 g0 (by rw [List.length_set]; exact hn) k1 k2 (by rw [← hset]; exact hP1) (by rw [← hset]; exact hD1) hS1 hl)
theorem mm_x_castore (Z : mm_Cx p l R s m args meth c D dA cl b A mi df WS Ts nF nM nm w d xs) {K : mm_K} (hK : ∀ pc L st h kc ks, K pc L st h kc ks → mm_Go p l e R s m args below meth c Q D dA cl b A φ0 n0 (mm_n (mi w)) pc L st h kc ks) {len a bb pc kc ks : Nat} {k : Int32} {L : mm_L} {st : List Value} {h : mm_H}  (hok : mm_ok mi cl WS nF nM nm w pc (.castore, len, a, bb, k) = true) (hE : mm_s2 st fun x i r => mm_sr r fun o r => mm_ar h o fun ty n f => ty = .char ∧ vp_in i n ∧ K (pc + len) L r (h.set o (.inl (.char, n, upd f i.toNatClampNeg (vp_nar .char x)))) kc ks) : mm_Go p l e R s m args below meth c Q D dA cl b A φ0 n0 (mm_n (mi w)) pc L st h kc ks := by
  obtain ⟨⟨hx, hb, hml, hown, hts⟩, hWT, hoi, hG, hmi, hcl, hKK, hA, hX, hbl, hbA, hin, hRf, hRl⟩ := Z
  simp only [mm_ok, mm_sd, Bool.and_eq_true, decide_eq_true_eq] at hok
  obtain ⟨hd, h1⟩ := hok
  subst h1
  obtain ⟨x, i, r, rfl, hE58⟩ := mm_s2_inv hE
  obtain ⟨o, r, rfl, hE59⟩ := mm_sr_inv hE58
  obtain ⟨ty, n, f, ho, rfl, hi, hE60⟩ := mm_ar_inv hE59
  intro φ H locs ls f0 g0 hn k1 k2 hP hD hS hl
  have hset := mm_w_set (b := b) (φ := φ) (dA := dA) (h := h) (o := o) (c := .inl (.char, n, upd f i.toNatClampNeg (vp_nar .char x)))
  exact va_cast hx hb hKK.1 hP hD hS o 2 (mm_w_at ho) mm_tyC hi hd (fun H1 locs1 hP1 hD1 hS1 => hK _ _ _ _ _ _ hE60 φ H1 locs1 ls f0 g0 (by rw [List.length_set]; exact hn) k1 k2 (by rw [← hset]; exact hP1) (by rw [← hset]; exact hD1) hS1 hl)
theorem mm_x_arraylength (Z : mm_Cx p l R s m args meth c D dA cl b A mi df WS Ts nF nM nm w d xs) {K : mm_K} (hK : ∀ pc L st h kc ks, K pc L st h kc ks → mm_Go p l e R s m args below meth c Q D dA cl b A φ0 n0 (mm_n (mi w)) pc L st h kc ks) {len a bb pc kc ks : Nat} {k : Int32} {L : mm_L} {st : List Value} {h : mm_H}  (hok : mm_ok mi cl WS nF nM nm w pc (.arraylength, len, a, bb, k) = true) (hE : mm_sx st (fun r => K (pc + len) L (.int (Int32.ofNat xs.1) :: r) h kc ks) (fun o r => mm_ar h o fun ty n _ => (ty = .int ∨ ty = .boolean ∨ ty = .char) ∧ K (pc + len) L (.int (Int32.ofNat n) :: r) h kc ks)) : mm_Go p l e R s m args below meth c Q D dA cl b A φ0 n0 (mm_n (mi w)) pc L st h kc ks := by
  obtain ⟨⟨hx, hb, hml, hown, hts⟩, hWT, hoi, hG, hmi, hcl, hKK, hA, hX, hbl, hbA, hin, hRf, hRl⟩ := Z
  simp only [mm_ok, mm_sd, Bool.and_eq_true, decide_eq_true_eq] at hok
  obtain ⟨hd, h1⟩ := hok
  subst h1
  intro φ H locs ls f0 g0 hn k1 k2 hP hD hS hl
  rcases mm_sx_inv hE with ⟨z, r, rfl, hE61⟩ | ⟨o, r, rfl, hE61⟩
  · exact va_slen (A := A) hx hb hX hbl hbA hS hd (hK _ _ _ _ _ _ hE61 φ H locs ls f0 g0 hn k1 k2 hP hD hS hl)
  · obtain ⟨ty, n, f, ho, hty, hE62⟩ := mm_ar_inv hE61
    rcases hty with rfl | rfl | rfl
    · exact va_alen (x := (n, .inl f)) hx hb hKK.1 hP o 0 (mm_w_at ho) mm_tyI rfl hd (hK _ _ _ _ _ _ hE62 φ H locs ls f0 g0 hn k1 k2 hP hD hS hl)
    · exact va_alen (x := (n, .inl f)) hx hb hKK.1 hP o 1 (mm_w_at ho) mm_tyZ rfl hd (hK _ _ _ _ _ _ hE62 φ H locs ls f0 g0 hn k1 k2 hP hD hS hl)
    · exact va_alen (x := (n, .inl f)) hx hb hKK.1 hP o 2 (mm_w_at ho) mm_tyC rfl hd (hK _ _ _ _ _ _ hE62 φ H locs ls f0 g0 hn k1 k2 hP hD hS hl)
theorem mm_x_new (Z : mm_Cx p l R s m args meth c D dA cl b A mi df WS Ts nF nM nm w d xs) {K : mm_K} (hK : ∀ pc L st h kc ks, K pc L st h kc ks → mm_Go p l e R s m args below meth c Q D dA cl b A φ0 n0 (mm_n (mi w)) pc L st h kc ks) {len a bb pc kc ks : Nat} {k : Int32} {L : mm_L} {st : List Value} {h : mm_H} {i : Nat} (hok : mm_ok mi cl WS nF nM nm w pc (.new i, len, a, bb, k) = true) (hE : kc + 1 ≤ R.cells ∧ ks + bb ≤ R.slots ∧ (L.all (mm_wfo h.length) && st.all (mm_wfv h.length) && h.all (mm_wfc h.length)) = true ∧ K (pc + len) L (.ref h.length :: st) (h ++ [.inr (a, df a)]) (kc + 1) (ks + bb)) : mm_Go p l e R s m args below meth c Q D dA cl b A φ0 n0 (mm_n (mi w)) pc L st h kc ks := by
  obtain ⟨⟨hx, hb, hml, hown, hts⟩, hWT, hoi, hG, hmi, hcl, hKK, hA, hX, hbl, hbA, hin, hRf, hRl⟩ := Z
  simp only [mm_ok, mm_sd, Bool.and_eq_true, decide_eq_true_eq] at hok
  obtain ⟨hd, h1, hq⟩ := hok
  subst h1
  obtain ⟨c1, c2, hwf, hE63⟩ := hE
  simp only [Bool.and_eq_true] at hwf
  obtain ⟨⟨w1, w2⟩, w3⟩ := hwf
  split at hq
  · cases hq
  · rename_i q hq1
    simp only [Bool.and_eq_true, decide_eq_true_eq] at hq
    obtain ⟨⟨⟨e1, e2⟩, e3⟩, e4⟩ := hq
    subst e1
    obtain ⟨u1, u2, u3, u4, u5⟩ := mm_okc_spec (hcl _ _ hq1)
    intro φ H locs ls f0 g0 hn k1 k2 hP hD hS hl
    refine va_new (ci := a) (fs := df a) (C := q.1) (T := q.2.1) (N := q.2.2) hx hb hts (fun x h9 => hWT _ (u1 x h9)) (fun k => (parseFieldDescriptor (q.2.1 k).2.2.1).getD .int) u2 hown (hts _ (hWT _ e2)) (hts _ (hWT _ e3)) (hts _ (hWT _ e4)) hKK.1 hP hD hS hA hq1 u4 c1 c2 hd (fun z H1 hP1 hD1 hS1 => ?_)
    have hc : ∀ φ', mm_c b φ' dA (.inr (a, df a)) = .inr (a, df a) := by
      intro φ'
      have hm : (df a).map (mm_v b φ') = df a := by
        conv => rhs; rw [← List.map_id (df a)]
        exact List.map_congr_left (fun v hv => by rcases u5 v hv with rfl | rfl <;> rfl)
      show Sum.inr (a, (df a).map (mm_v b φ')) = _
      rw [hm]
    have hw := mm_w_app (b := b) (q := z) (φ := φ) (dA := dA) (h := h) (c := .inr (a, df a)) (e := .inr (a, df a)) w3 hc
    have hext : ∀ k, k < h.length → (fun k => if k = h.length then z else φ k) k = φ k := fun k hk => if_neg (Nat.ne_of_lt hk)
    have hst : Value.ref z :: st.map (mm_v b φ) = (Value.ref h.length :: st).map (mm_v b (fun k => if k = h.length then z else φ k)) := by
      rw [List.map_cons, mm_vs_ext w2 hext]
      show _ = Value.ref (if h.length = h.length then z else φ h.length) :: _
      rw [if_pos rfl]
    rw [hst]
    exact hK _ _ _ _ _ _ hE63 (fun k => if k = h.length then z else φ k) H1 locs ls (fun k hk => (hext k (Nat.lt_of_lt_of_le hk hn)).trans (f0 k hk)) (fun hz => absurd hz (Nat.succ_ne_zero _)) (by rw [List.length_append]; exact Nat.le_trans hn (Nat.le_add_right _ _)) c1 c2 (by rw [hw]; exact hP1) (by rw [hw]; exact hD1) hS1 (mm_lsub hl (mm_l_ext w1 hext))
theorem mm_newa {nn : Int32} {pc kc ks : Nat} {L : mm_L} {r : List Value} {h : mm_H} {at_ : ArrayType} {ty : FieldType} (Z : mm_Cx p l R s m args meth c D dA cl b A mi df WS Ts nF nM nm w d xs) {K : mm_K} (hK : ∀ pc L st h kc ks, K pc L st h kc ks → mm_Go p l e R s m args below meth c Q D dA cl b A φ0 n0 (mm_n (mi w)) pc L st h kc ks) (hd : decode (mm_b (mi w)) pc = .ok (.newarray at_, 2)) (hty : newarray.typeOf at_ = ty) (harr : Cond.arrayClass (newarray.typeOf at_) ∈ WS) (hpr : va_RA s (dA ty) ty) (huq : ∀ cA, va_RA s cA ty → cA = dA ty) (hdv : defaultValue ty = .int 0) (hcb : componentBytes ty ≤ 4)
    (hE : ¬ nn < 0 ∧ nn.toNatClampNeg ≤ 1000000 ∧ kc + 1 ≤ R.cells ∧ ks + nn.toNatClampNeg ≤ R.slots ∧ (L.all (mm_wfo h.length) && r.all (mm_wfv h.length) && h.all (mm_wfc h.length)) = true ∧ K (pc + 2) L (.ref h.length :: r) (h ++ [.inl (ty, nn.toNatClampNeg, fun _ => 0)]) (kc + 1) (ks + nn.toNatClampNeg)) : mm_Go p l e R s m args below meth c Q D dA cl b A φ0 n0 (mm_n (mi w)) pc L (.int nn :: r) h kc ks := by
  obtain ⟨⟨hx, hb, hml, hown, hts⟩, hWT, hoi, hG, hmi, hcl, hKK, hA, hX, hbl, hbA, hin, hRf, hRl⟩ := Z
  obtain ⟨c0, c1, c2, c3, hwf, hE64⟩ := hE
  simp only [Bool.and_eq_true] at hwf
  obtain ⟨⟨w1, w2⟩, w3⟩ := hwf
  intro φ H locs ls f0 g0 hn k1 k2 hP hD hS hl
  refine va_newa (a0 := (nn.toNatClampNeg, .inl (fun _ => 0))) hx hb (hts _ (hWT _ harr)) hty hKK.1 hP hD hS hA (fun cA => by rw [vp_cell_i, hdv]) c0 rfl (Nat.le_trans (Nat.mul_le_mul c1 hcb) (by decide)) c2 c3 hd (fun z cA H1 hK1 hP1 hD1 hS1 => ?_)
  have hcA : cA = dA ty := huq cA (hK1.2 3 (cA, ty) rfl).2
  subst hcA
  have hw := mm_w_app (b := b) (q := z) (φ := φ) (dA := dA) (h := h) (c := .inl (ty, nn.toNatClampNeg, fun _ => 0)) (e := .inl (dA ty, nn.toNatClampNeg, .inl (fun _ => 0))) w3 (fun _ => rfl)
  have hext : ∀ k, k < h.length → (fun k => if k = h.length then z else φ k) k = φ k := fun k hk => if_neg (Nat.ne_of_lt hk)
  have hst : Value.ref z :: r.map (mm_v b φ) = (Value.ref h.length :: r).map (mm_v b (fun k => if k = h.length then z else φ k)) := by
    rw [List.map_cons, mm_vs_ext w2 hext]
    show _ = Value.ref (if h.length = h.length then z else φ h.length) :: _
    rw [if_pos rfl]
  show W p l e R s m args below meth c H1 locs (kc + 1) (ks + nn.toNatClampNeg) Q (F0 m (pc + 2) ls (Value.ref z :: r.map (mm_v b φ)))
  rw [hst]
  exact hK _ _ _ _ _ _ hE64 (fun k => if k = h.length then z else φ k) H1 locs ls (fun k hk => (hext k (Nat.lt_of_lt_of_le hk hn)).trans (f0 k hk)) (fun hz => absurd hz (Nat.succ_ne_zero _)) (by rw [List.length_append]; exact Nat.le_trans hn (Nat.le_add_right _ _)) c2 c3 (by rw [hw]; exact hP1) (by rw [hw]; exact hD1) hS1 (mm_lsub hl (mm_l_ext w1 hext))
theorem mm_x_newarray (Z : mm_Cx p l R s m args meth c D dA cl b A mi df WS Ts nF nM nm w d xs) {K : mm_K} (hK : ∀ pc L st h kc ks, K pc L st h kc ks → mm_Go p l e R s m args below meth c Q D dA cl b A φ0 n0 (mm_n (mi w)) pc L st h kc ks) {len a bb pc kc ks : Nat} {k : Int32} {L : mm_L} {st : List Value} {h : mm_H} {at_ : ArrayType} (hok : mm_ok mi cl WS nF nM nm w pc (.newarray at_, len, a, bb, k) = true) (hE : mm_s1 st fun n r => ¬ n < 0 ∧ n.toNatClampNeg ≤ 1000000 ∧ kc + 1 ≤ R.cells ∧ ks + n.toNatClampNeg ≤ R.slots ∧ (L.all (mm_wfo h.length) && r.all (mm_wfv h.length) && h.all (mm_wfc h.length)) = true ∧ K (pc + len) L (.ref h.length :: r) (h ++ [.inl (newarray.typeOf at_, n.toNatClampNeg, fun _ => 0)]) (kc + 1) (ks + n.toNatClampNeg)) : mm_Go p l e R s m args below meth c Q D dA cl b A φ0 n0 (mm_n (mi w)) pc L st h kc ks := by
  obtain ⟨⟨hx, hb, hml, hown, hts⟩, hWT, hoi, hG, hmi, hcl, hKK, hA, hX, hbl, hbA, hin, hRf, hRl⟩ := Z
  simp only [mm_ok, mm_sd, Bool.and_eq_true, decide_eq_true_eq] at hok
  obtain ⟨hd, ⟨h1, h2⟩, h3⟩ := hok
  subst h1
  obtain ⟨nn, r, rfl, hE65⟩ := mm_s1_inv hE
  have Z : mm_Cx p l R s m args meth c D dA cl b A mi df WS Ts nF nM nm w d xs := ⟨⟨hx, hb, hml, hown, hts⟩, hWT, hoi, hG, hmi, hcl, hKK, hA, hX, hbl, hbA, hin, hRf, hRl⟩
  simp only [Bool.or_eq_true, decide_eq_true_eq] at h2
  rcases h2 with (h2 | h2) | h2
  · rw [h2] at hE65
    exact mm_newa Z hK hd h2 h3 (hKK.1.2 0 _ mm_tyI).2 (fun cA hc => Option.some.inj ((show s.vm.findClass _ = some cA from hc).symm.trans (show s.vm.findClass _ = some (dA .int) from (hKK.1.2 0 _ mm_tyI).2))) rfl (by decide) hE65
  · rw [h2] at hE65
    exact mm_newa Z hK hd h2 h3 (hKK.1.2 1 _ mm_tyZ).2 (fun cA hc => Option.some.inj ((show s.vm.findClass _ = some cA from hc).symm.trans (show s.vm.findClass _ = some (dA .boolean) from (hKK.1.2 1 _ mm_tyZ).2))) rfl (by decide) hE65
  · rw [h2] at hE65
    exact mm_newa Z hK hd h2 h3 (hKK.1.2 2 _ mm_tyC).2 (fun cA hc => Option.some.inj ((show s.vm.findClass _ = some cA from hc).symm.trans (show s.vm.findClass _ = some (dA .char) from (hKK.1.2 2 _ mm_tyC).2))) rfl (by decide) hE65
end MX
end
section
section MC
variable {p : Program} {l : Launch} {e : Env} {R : Room} {s : State} {m : MethodId} {args : Array Value} {below : List Frame} {meth : Method} {c : Code} {Q : State → Prop}
variable {D : va_G} {dA : FieldType → ClassId} {cl : List vw_C} {b : Nat} {A : Nat → Prop} {φ0 : Nat → Nat} {n0 : Nat}
variable {mi : Nat → mm_M} {tb : Nat → Nat → Option mm_E} {df : Nat → List Value} {WS Ts : List Cond} {nF : List mm_F} {nM : List mm_N} {nm w d : Nat} {xs : Nat × (Nat → Int32)}
/-- what is known of a callee -/
def mm_Ct (l : Launch) (D : va_G) (dA : FieldType → ClassId) (cl : List vw_C) (b : Nat) (mi : Nat → mm_M) (WS : List Cond) (nF : List mm_F) (nM : List mm_N) (nm d : Nat) (xs : Nat × (Nat → Int32)) (C : Nat → mm_H → List Value → (mm_H → Option Value → Prop) → Prop) : Prop :=
  ∀ y h as Pk, y < nm → C y h as Pk → ∀ φ sz, Met l (mm_y (mi y)) (mm_ws mi WS nm y) (mm_rm d (mi y)) (mm_Pc D dA cl nF nM b xs φ h as sz) (mm_Qc D dA cl b φ h sz (mm_mc (mi y)) Pk) (mm_mc (mi y)) (mm_ms (mi y)) (va_A (mm_w b φ dA h) sz)
theorem mm_room {y : Nat} (hm : mm_okm (mi y) = true) (hRf : d + 1 ≤ R.frames) (hRl : 60 * d + 60 ≤ R.locals) : (mm_rm d (mi y)).frames + 1 ≤ R.frames ∧ 8 + (mm_n (mi y) + 11) + (mm_rm d (mi y)).locals ≤ R.locals := by
  simp only [mm_okm, Bool.and_eq_true, decide_eq_true_eq] at hm
  have h1 := hm.1.2
  refine ⟨hRf, ?_⟩
  show 8 + (mm_n (mi y) + 11) + 60 * d ≤ R.locals
  omega
theorem mm_x_objinit (Z : mm_Cx p l R s m args meth c D dA cl b A mi df WS Ts nF nM nm w d xs) {K : mm_K} (hK : ∀ pc L st h kc ks, K pc L st h kc ks → mm_Go p l e R s m args below meth c Q D dA cl b A φ0 n0 (mm_n (mi w)) pc L st h kc ks) {pc kc ks i : Nat} {L : mm_L} {st : List Value} {h : mm_H} (hd : decode (mm_b (mi w)) pc = .ok (.invokespecial i, 3)) (h1 : Cond.methodLink (mm_y (mi w)).cls i objectInit ∈ WS) (h2 : Cond.instanceMethod objectInit ∈ WS)
    (hE : mm_sr st fun _ r => mm_cat r ∧ K (pc + 3) L r h kc ks) : mm_Go p l e R s m args below meth c Q D dA cl b A φ0 n0 (mm_n (mi w)) pc L st h kc ks := by
  obtain ⟨⟨hx, hb, hml, hown, hts⟩, hWT, hoi, hG, hmi, hcl, hKK, hA, hX, hbl, hbA, hin, hRf, hRl⟩ := Z
  obtain ⟨o, r, rfl, hc, hE1⟩ := mm_sr_inv hE
  intro φ H locs ls f0 g0 hn k1 k2 hP hD hS hl
  have hc2 := mm_cat_v (b := b) (φ := φ) hc
  exact W.objInit hx hb hown (hts _ (hWT _ h1)) (hts _ (hWT _ h2)) (hts _ hoi) (g := F0 m pc ls ((Value.ref o :: r).map (mm_v b φ))) rfl (by rw [hml]; exact hl.1) (a := φ o) (rest := r.map (mm_v b φ)) rfl hd (by omega) (by show 2 * 0 + _ + 12 ≤ _; omega) (hK _ _ _ _ _ _ hE1 φ H locs ls f0 g0 hn k1 k2 hP hD hS hl)
theorem mm_x_static (Z : mm_Cx p l R s m args meth c D dA cl b A mi df WS Ts nF nM nm w d xs) {K : mm_K} (hK : ∀ pc L st h kc ks, K pc L st h kc ks → mm_Go p l e R s m args below meth c Q D dA cl b A φ0 n0 (mm_n (mi w)) pc L st h kc ks) {C : Nat → mm_H → List Value → (mm_H → Option Value → Prop) → Prop} (hC : mm_Ct l D dA cl b mi WS nF nM nm d xs C) {y pc kc ks i : Nat} {L : mm_L} {st : List Value} {h : mm_H} (hd : decode (mm_b (mi w)) pc = .ok (.invokestatic i, 3)) (hy : y < nm) (hml0 : mm_ml WS nM (mm_y (mi w)).cls i (mm_y (mi y)) = true) (hmy : mm_my WS (mm_y (mi y)) (mm_k (mi y)) = true) (hst0 : Cond.static (mm_y (mi y)) ∈ WS)
    (hE : mm_cl mi C (R.cells, R.slots) K y (pc + 3) L st h kc ks) : mm_Go p l e R s m args below meth c Q D dA cl b A φ0 n0 (mm_n (mi w)) pc L st h kc ks := by
  obtain ⟨⟨hx, hb, hml, hown, hts⟩, hWT, hoi, hG, hmi, hcl, hKK, hA, hX, hbl, hbA, hin, hRf, hRl⟩ := Z
  obtain ⟨e1, e2, e3, e4, e5, hCy⟩ := hE
  obtain ⟨hyd, hini⟩ := mm_my_spec hmy
  intro φ H locs ls f0 g0 hn k1 k2 hP hD hS hl
  have hM := hC y h _ _ hy hCy φ H.size
  have hR := mm_room (hmi y hy) hRf hRl
  have hlen : ((st.take (mm_k (mi y))).reverse.map (mm_v b φ)).length = mm_k (mi y) := by
    rw [List.length_map, List.length_reverse, List.length_take]
    omega
  have hpre : PreS s H (mm_Pc D dA cl nF nM b xs φ h (st.take (mm_k (mi y))).reverse H.size) ((st.take (mm_k (mi y))).reverse.map (mm_v b φ)) := ⟨mm_Pc_blind, mm_pre hKK hX hbl hbA hP hD hS rfl⟩
  have hrm := mm_cat_v (b := b) (φ := φ) e2
  rcases mm_ml_spec hml0 with hlk | ⟨q2, hq2, r1, r2, r3⟩
  · exact mm_back (va_runS (nL := mm_n (mi w)) (g := F0 m pc ls (st.map (mm_v b φ))) (rest := (st.drop (mm_k (mi y))).map (mm_v b φ)) ⟨hx, hb, hml, hown, hts⟩ hM ⟨callB_of (mm_k (mi y)) hts (hG y hy) rfl rfl rfl (hts _ (hWT _ hini)) (hts _ (hWT _ hlk)) hyd hR, hts _ (hWT _ hst0)⟩ hpre rfl hlen hl.1 mm_stackS (lv_room hrm) hd ⟨e3, e4⟩) hA e3 e4 e5 f0 g0 hn hD hS hl (fun h' v hv => hK _ _ _ _ _ _ hv)
  · have hz := hKK.2.2 q2 hq2
    rw [r1, r2, r3] at hz
    exact mm_back (va_runSN (nL := mm_n (mi w)) (g := F0 m pc ls (st.map (mm_v b φ))) (rest := (st.drop (mm_k (mi y))).map (mm_v b φ)) ⟨hx, hb, hml, hown, hts⟩ hM ⟨va_cnB (mm_k (mi y)) hts (hG y hy) rfl rfl rfl hz (hts _ (hWT _ hini)) hyd hR, hts _ (hWT _ hst0), trivial⟩ hpre rfl hlen hl.1 mm_stackS (lv_room hrm) hd ⟨e3, e4⟩) hA e3 e4 e5 f0 g0 hn hD hS hl (fun h' v hv => hK _ _ _ _ _ _ hv)
theorem mm_x_virtual (Z : mm_Cx p l R s m args meth c D dA cl b A mi df WS Ts nF nM nm w d xs) {K : mm_K} (hK : ∀ pc L st h kc ks, K pc L st h kc ks → mm_Go p l e R s m args below meth c Q D dA cl b A φ0 n0 (mm_n (mi w)) pc L st h kc ks) {C : Nat → mm_H → List Value → (mm_H → Option Value → Prop) → Prop} (hC : mm_Ct l D dA cl b mi WS nF nM nm d xs C) {y pc kc ks i : Nat} {L : mm_L} {st : List Value} {h : mm_H} {q : vw_C} (hd : decode (mm_b (mi w)) pc = .ok (.invokevirtual i, 3)) (hy : y < nm) (hk0 : 0 < mm_k (mi y)) (hml0 : mm_ml WS nM (mm_y (mi w)).cls i (mm_y (mi y)) = true) (hmy : mm_my WS (mm_y (mi y)) (mm_k (mi y) - 1) = true) (hinst : Cond.instanceMethod (mm_y (mi y)) ∈ WS) (hsel : Cond.selects (mm_y (mi y)).cls (mm_y (mi y)) (mm_y (mi y)) ∈ WS) (hq : cl[mm_ci (mi y)]? = some q) (hqc : q.1 = (mm_y (mi y)).cls)
    (hrc : mm_rcv h (mm_ci (mi y)) (st.take (mm_k (mi y))).reverse) (hE : mm_cl mi C (R.cells, R.slots) K y (pc + 3) L st h kc ks) : mm_Go p l e R s m args below meth c Q D dA cl b A φ0 n0 (mm_n (mi w)) pc L st h kc ks := by
  obtain ⟨⟨hx, hb, hml, hown, hts⟩, hWT, hoi, hG, hmi, hcl, hKK, hA, hX, hbl, hbA, hin, hRf, hRl⟩ := Z
  obtain ⟨e1, e2, e3, e4, e5, hCy⟩ := hE
  obtain ⟨hyd, hini⟩ := mm_my_spec hmy
  obtain ⟨o, As, fs, has, ho⟩ := mm_rcv_inv hrc
  intro φ H locs ls f0 g0 hn k1 k2 hP hD hS hl
  have hM := hC y h _ _ hy hCy φ H.size
  have hR := mm_room (hmi y hy) hRf hRl
  have hlen : (As.map (mm_v b φ)).length = mm_k (mi y) - 1 := by
    have h1 : ((st.take (mm_k (mi y))).reverse).length = mm_k (mi y) := by
      rw [List.length_reverse, List.length_take]
      omega
    rw [has, List.length_cons] at h1
    rw [List.length_map]
    omega
  have hpre : PreV s H (mm_y (mi y)).cls (φ o) (mm_Pc D dA cl nF nM b xs φ h (st.take (mm_k (mi y))).reverse H.size) (As.map (mm_v b φ)) :=
    ⟨mm_Pc_blind, by rw [← hqc]; exact va_recv hKK.1 hP hq (mm_w_at ho), mm_pre hKK hX hbl hbA hP hD hS (by rw [has]; rfl)⟩
  have hrm := mm_cat_v (b := b) (φ := φ) e2
  rcases mm_ml_spec hml0 with hlk | ⟨q2, hq2, r1, r2, r3⟩
  · exact mm_back (va_runV (nL := mm_n (mi w)) (g := F0 m pc ls (st.map (mm_v b φ))) (rest := (st.drop (mm_k (mi y))).map (mm_v b φ)) ⟨hx, hb, hml, hown, hts⟩ hM ⟨callB_of (mm_k (mi y) - 1) hts (hG y hy) rfl rfl rfl (hts _ (hWT _ hini)) (hts _ (hWT _ hlk)) hyd hR, hts _ (hWT _ hinst), hts _ (hWT _ hsel)⟩ hpre rfl hlen hl.1 (mm_stack has) (lv_room hrm) hd ⟨e3, e4⟩) hA e3 e4 e5 f0 g0 hn hD hS hl (fun h' v hv => hK _ _ _ _ _ _ hv)
  · have hz := hKK.2.2 q2 hq2
    rw [r1, r2, r3] at hz
    exact mm_back (va_runVN (nL := mm_n (mi w)) (g := F0 m pc ls (st.map (mm_v b φ))) (rest := (st.drop (mm_k (mi y))).map (mm_v b φ)) ⟨hx, hb, hml, hown, hts⟩ hM ⟨va_cnB (mm_k (mi y) - 1) hts (hG y hy) rfl rfl rfl hz (hts _ (hWT _ hini)) hyd hR, hts _ (hWT _ hinst), hts _ (hWT _ hsel)⟩ hpre rfl hlen hl.1 (mm_stack has) (lv_room hrm) hd ⟨e3, e4⟩) hA e3 e4 e5 f0 g0 hn hD hS hl (fun h' v hv => hK _ _ _ _ _ _ hv)
theorem mm_x_special (Z : mm_Cx p l R s m args meth c D dA cl b A mi df WS Ts nF nM nm w d xs) {K : mm_K} (hK : ∀ pc L st h kc ks, K pc L st h kc ks → mm_Go p l e R s m args below meth c Q D dA cl b A φ0 n0 (mm_n (mi w)) pc L st h kc ks) {C : Nat → mm_H → List Value → (mm_H → Option Value → Prop) → Prop} (hC : mm_Ct l D dA cl b mi WS nF nM nm d xs C) {y pc kc ks i : Nat} {L : mm_L} {st : List Value} {h : mm_H} (hd : decode (mm_b (mi w)) pc = .ok (.invokespecial i, 3)) (hy : y < nm) (hyn : (mm_y (mi y)).name = "<init>") (hyr : mm_r (mi y) = none) (hk0 : 0 < mm_k (mi y)) (hml0 : mm_ml WS nM (mm_y (mi w)).cls i (mm_y (mi y)) = true) (hmy : mm_my WS (mm_y (mi y)) (mm_k (mi y) - 1) = true) (hinst : Cond.instanceMethod (mm_y (mi y)) ∈ WS)
    (hrc : ∃ o As, (st.take (mm_k (mi y))).reverse = .ref o :: As) (hE : mm_cl mi C (R.cells, R.slots) K y (pc + 3) L st h kc ks) : mm_Go p l e R s m args below meth c Q D dA cl b A φ0 n0 (mm_n (mi w)) pc L st h kc ks := by
  obtain ⟨⟨hx, hb, hml, hown, hts⟩, hWT, hoi, hG, hmi, hcl, hKK, hA, hX, hbl, hbA, hin, hRf, hRl⟩ := Z
  obtain ⟨e1, e2, e3, e4, e5, hCy⟩ := hE
  obtain ⟨hyd, hini⟩ := mm_my_spec hmy
  obtain ⟨o, As, has⟩ := hrc
  intro φ H locs ls f0 g0 hn k1 k2 hP hD hS hl
  have hM := hC y h _ _ hy hCy φ H.size
  have hR := mm_room (hmi y hy) hRf hRl
  have hlen : (As.map (mm_v b φ)).length = mm_k (mi y) - 1 := by
    have h1 : ((st.take (mm_k (mi y))).reverse).length = mm_k (mi y) := by
      rw [List.length_reverse, List.length_take]
      omega
    rw [has, List.length_cons] at h1
    rw [List.length_map]
    omega
  have hpre : PreS s H (mm_Pc D dA cl nF nM b xs φ h (st.take (mm_k (mi y))).reverse H.size) (Value.ref (φ o) :: As.map (mm_v b φ)) := ⟨mm_Pc_blind, mm_pre hKK hX hbl hbA hP hD hS (by rw [has]; rfl)⟩
  have hrm := mm_cat_v (b := b) (φ := φ) e2
  have hw : mm_ws mi WS nm y = Cond.code (mm_y (mi y)) (mm_b (mi y)) (mm_n (mi y)) none :: ((List.range nm).map (fun i => mm_cw (mi i)) ++ (Cond.code objectInit ⟨#[0xb1]⟩ 1 none :: WS)) := by
    show mm_cw (mi y) :: _ = _
    unfold mm_cw
    rw [hyr]
  rcases mm_ml_spec hml0 with hlk | ⟨q2, hq2, r1, r2, r3⟩
  · exact mm_back (va_runI (nL := mm_n (mi w)) (g := F0 m pc ls (st.map (mm_v b φ))) (rest := (st.drop (mm_k (mi y))).map (mm_v b φ)) ⟨hx, hb, hml, hown, hts⟩ hM ⟨callB_of (mm_k (mi y) - 1) hts (hG y hy) hw rfl rfl (hts _ (hWT _ hini)) (hts _ (hWT _ hlk)) hyd hR, hyn, hts _ (hWT _ hinst)⟩ hpre rfl hlen hl.1 (mm_stack has) (lv_room hrm) hd ⟨e3, e4⟩) hA e3 e4 e5 f0 g0 hn hD hS hl (fun h' v hv => hK _ _ _ _ _ _ hv)
  · have hz := hKK.2.2 q2 hq2
    rw [r1, r2, r3] at hz
    exact mm_back (va_runIN (nL := mm_n (mi w)) (g := F0 m pc ls (st.map (mm_v b φ))) (rest := (st.drop (mm_k (mi y))).map (mm_v b φ)) ⟨hx, hb, hml, hown, hts⟩ hM ⟨va_cnB (mm_k (mi y) - 1) hts (hG y hy) hw rfl rfl hz (hts _ (hWT _ hini)) hyd hR, hyn, hts _ (hWT _ hinst)⟩ hpre rfl hlen hl.1 (mm_stack has) (lv_room hrm) hd ⟨e3, e4⟩) hA e3 e4 e5 f0 g0 hn hD hS hl (fun h' v hv => hK _ _ _ _ _ _ hv)
theorem mm_x_copy (Z : mm_Cx p l R s m args meth c D dA cl b A mi df WS Ts nF nM nm w d xs) {K : mm_K} (hK : ∀ pc L st h kc ks, K pc L st h kc ks → mm_Go p l e R s m args below meth c Q D dA cl b A φ0 n0 (mm_n (mi w)) pc L st h kc ks) {pc kc ks i : Nat} {L : mm_L} {st : List Value} {h : mm_H} (hd : decode (mm_b (mi w)) pc = .ok (.invokestatic i, 3)) (h1 : Cond.methodLink (mm_y (mi w)).cls i arraycopyName ∈ WS) (h2 : Cond.native arraycopyName ∈ WS) (h3 : Cond.static arraycopyName ∈ WS) (h4 : Cond.initialized "java/lang/System" ∈ WS)
    (hE : mm_s2 st fun n dp r => mm_sr r fun o1 r => mm_s1 r fun sp r => mm_sr r fun o0 r => mm_ar h o0 fun ty n0 f => mm_ar h o1 fun ty1 n1 g => (ty = .int ∨ ty = .boolean ∨ ty = .char) ∧ ty1 = ty ∧ ¬ sp < 0 ∧ ¬ dp < 0 ∧ ¬ n < 0 ∧ sp.toNatClampNeg + n.toNatClampNeg ≤ n0 ∧ dp.toNatClampNeg + n.toNatClampNeg ≤ n1 ∧ (∀ i, i < n.toNatClampNeg → fits ty (.int (f (sp.toNatClampNeg + i))) = true) ∧ mm_cat r ∧ K (pc + 3) L r (h.set o1 (.inl (ty, n1, va_cpy f g sp.toNatClampNeg dp.toNatClampNeg n.toNatClampNeg))) kc ks) : mm_Go p l e R s m args below meth c Q D dA cl b A φ0 n0 (mm_n (mi w)) pc L st h kc ks := by
  obtain ⟨⟨hx, hb, hml, hown, hts⟩, hWT, hoi, hG, hmi, hcl, hKK, hA, hX, hbl, hbA, hin, hRf, hRl⟩ := Z
  obtain ⟨n, dp, r, rfl, hE2⟩ := mm_s2_inv hE
  obtain ⟨o1, r, rfl, hE3⟩ := mm_sr_inv hE2
  obtain ⟨sp, r, rfl, hE4⟩ := mm_s1_inv hE3
  obtain ⟨o0, r, rfl, hE5⟩ := mm_sr_inv hE4
  obtain ⟨ty, m0, f, ho0, hE6⟩ := mm_ar_inv hE5
  obtain ⟨ty1, m1, g, ho1, hty, rfl, j1, j2, j3, j4, j5, j6, hc, hE7⟩ := mm_ar_inv hE6
  intro φ H locs ls f0 g0 hn k1 k2 hP hD hS hl
  have hc2 := mm_cat_v (b := b) (φ := φ) hc
  obtain ⟨t0, ht0, hpr⟩ : ∃ t0, ([(dA .int, .int), (dA .boolean, .boolean), (dA .char, .char)] : List (ClassId × FieldType))[t0]? = some (dA ty1, ty1) ∧ refKind ty1 = false := by
    rcases hty with rfl | rfl | rfl
    · exact ⟨0, rfl, rfl⟩
    · exact ⟨1, rfl, rfl⟩
    · exact ⟨2, rfl, rfl⟩
  have hset := mm_w_set (b := b) (φ := φ) (dA := dA) (h := h) (o := o1) (c := .inl (ty1, m1, va_cpy f g sp.toNatClampNeg dp.toNatClampNeg n.toNatClampNeg))
  have hnf : nativeFrameWords "java/lang/System" "arraycopy" 5 + 11 ≤ 52 := by decide
  exact va_copyi hx hb (by rw [hml]; exact hl.1.symm) hown (hts _ (hWT _ h1)) (hts _ (hWT _ h2)) (hts _ (hWT _ h3)) (hts _ (hWT _ h4)) hKK.1 hP hD hS o0 o1 t0 t0 (mm_w_at ho0) (mm_w_at ho1) ht0 ht0 hpr j1 j2 j3 j4 j5 j6 (by omega) (by omega) hd (fun H1 locs1 hP1 hD1 hS1 => hK _ _ _ _ _ _ hE7 φ H1 locs1 ls f0 g0 (by rw [List.length_set]; exact hn) k1 k2 (by rw [← hset]; exact hP1) (by rw [← hset]; exact hD1) hS1 hl)
end MC
end
section
section MM9
variable {p : Program} {l : Launch} {e : Env} {R : Room} {s : State} {m : MethodId} {args : Array Value} {below : List Frame} {meth : Method} {c : Code} {Q : State → Prop}
variable {D : va_G} {dA : FieldType → ClassId} {cl : List vw_C} {b : Nat} {A : Nat → Prop} {φ0 : Nat → Nat} {n0 : Nat}
variable {mi : Nat → mm_M} {tb : Nat → Nat → Option mm_E} {df : Nat → List Value} {WS Ts : List Cond} {nF : List mm_F} {nM : List mm_N} {nm w d : Nat} {xs : Nat × (Nat → Int32)}
/-- a method's end: which instruction, with what answer -/
def mm_Ret (rt : Option FieldType) (I : Instr) (v : Option Value) : Prop :=
  (I = .return_ ∧ v = none ∧ rt = none) ∨ (∃ x ty, I = .ireturn ∧ v = some (.int x) ∧ rt = some ty ∧ narrow ty (.int x) = .int x) ∨ (∃ x ty, I = .areturn ∧ v = some (.ref x) ∧ rt = some ty ∧ ((∃ n, ty = .object n) ∨ ∃ t, ty = .array t))
set_option maxHeartbeats 4000000 in
set_option maxRecDepth 100000 in
theorem mm_one_go (Z : mm_Cx p l R s m args meth c D dA cl b A mi df WS Ts nF nM nm w d xs) {C : Nat → mm_H → List Value → (mm_H → Option Value → Prop) → Prop} (hC : mm_Ct l D dA cl b mi WS nF nM nm d xs C) {P : mm_H → Option Value → Nat → Nat → Prop}
    (hend : ∀ I v pc L h kc ks, mm_Ret (mm_r (mi w)) I v → decode (mm_b (mi w)) pc = .ok (I, 1) → (∃ j, n0 ≤ j ∧ P (h.take j) v kc ks) → mm_Go p l e R s m args below meth c Q D dA cl b A φ0 n0 (mm_n (mi w)) pc L v.toList h kc ks)
    (htb : ∀ pc E, tb w pc = some E → mm_ok mi cl WS nF nM nm w pc E = true) {K : mm_K} (hK : ∀ pc L st h kc ks, K pc L st h kc ks → mm_Go p l e R s m args below meth c Q D dA cl b A φ0 n0 (mm_n (mi w)) pc L st h kc ks) {pc kc ks : Nat} {L : mm_L} {st : List Value} {h : mm_H} (hE : mm_one mi tb df C xs (R.cells, R.slots) P n0 w K pc L st h kc ks) : mm_Go p l e R s m args below meth c Q D dA cl b A φ0 n0 (mm_n (mi w)) pc L st h kc ks := by
  unfold mm_one at hE
  split at hE
  · exact hE.elim
  · rename_i E hEq
    have hok := htb pc E hEq
    obtain ⟨I, len, a, bb, k⟩ := E
    dsimp only at hE
    cases I with
    | iconst z0 =>
      dsimp only [mm_ex] at hE
      exact mm_x_iconst Z hK hok hE
    | bipush z0 =>
      dsimp only [mm_ex] at hE
      exact mm_x_bipush Z hK hok hE
    | sipush z0 =>
      dsimp only [mm_ex] at hE
      exact mm_x_sipush Z hK hok hE
    | ldc z0 =>
      dsimp only [mm_ex] at hE
      exact mm_x_ldc Z hK hok hE
    | iload_n z0 =>
      dsimp only [mm_ex] at hE
      exact mm_x_iload_n Z hK hok hE
    | iload z0 =>
      dsimp only [mm_ex] at hE
      exact mm_x_iload Z hK hok hE
    | aload_n z0 =>
      dsimp only [mm_ex] at hE
      exact mm_x_aload_n Z hK hok hE
    | aload z0 =>
      dsimp only [mm_ex] at hE
      exact mm_x_aload Z hK hok hE
    | istore_n z0 =>
      dsimp only [mm_ex] at hE
      exact mm_x_istore_n Z hK hok hE
    | istore z0 =>
      dsimp only [mm_ex] at hE
      exact mm_x_istore Z hK hok hE
    | astore_n z0 =>
      dsimp only [mm_ex] at hE
      exact mm_x_astore_n Z hK hok hE
    | astore z0 =>
      dsimp only [mm_ex] at hE
      exact mm_x_astore Z hK hok hE
    | iinc z0 z1 =>
      dsimp only [mm_ex] at hE
      exact mm_x_iinc Z hK hok hE
    | iadd =>
      dsimp only [mm_ex] at hE
      exact mm_x_iadd Z hK hok hE
    | isub =>
      dsimp only [mm_ex] at hE
      exact mm_x_isub Z hK hok hE
    | imul =>
      dsimp only [mm_ex] at hE
      exact mm_x_imul Z hK hok hE
    | iand =>
      dsimp only [mm_ex] at hE
      exact mm_x_iand Z hK hok hE
    | ior =>
      dsimp only [mm_ex] at hE
      exact mm_x_ior Z hK hok hE
    | ixor =>
      dsimp only [mm_ex] at hE
      exact mm_x_ixor Z hK hok hE
    | ishl =>
      dsimp only [mm_ex] at hE
      exact mm_x_ishl Z hK hok hE
    | ishr =>
      dsimp only [mm_ex] at hE
      exact mm_x_ishr Z hK hok hE
    | idiv =>
      dsimp only [mm_ex] at hE
      exact mm_x_idiv Z hK hok hE
    | irem =>
      dsimp only [mm_ex] at hE
      exact mm_x_irem Z hK hok hE
    | ineg =>
      dsimp only [mm_ex] at hE
      exact mm_x_ineg Z hK hok hE
    | i2c =>
      dsimp only [mm_ex] at hE
      exact mm_x_i2c Z hK hok hE
    | dup =>
      dsimp only [mm_ex] at hE
      exact mm_x_dup Z hK hok hE
    | pop =>
      dsimp only [mm_ex] at hE
      exact mm_x_pop Z hK hok hE
    | dup_x1 =>
      dsimp only [mm_ex] at hE
      exact mm_x_dup_x1 Z hK hok hE
    | dup2 =>
      dsimp only [mm_ex] at hE
      exact mm_x_dup2 Z hK hok hE
    | dup_x2 =>
      dsimp only [mm_ex] at hE
      exact mm_x_dup_x2 Z hK hok hE
    | ifCond z0 z1 =>
      dsimp only [mm_ex] at hE
      exact mm_x_ifCond Z hK hok hE
    | if_icmp z0 z1 =>
      dsimp only [mm_ex] at hE
      exact mm_x_if_icmp Z hK hok hE
    | goto z0 =>
      dsimp only [mm_ex] at hE
      exact mm_x_goto Z hK hok hE
    | lookupswitch z0 z1 =>
      dsimp only [mm_ex] at hE
      exact mm_x_lookupswitch Z hK hok hE
    | tableswitch z0 z1 z2 z3 =>
      dsimp only [mm_ex] at hE
      exact mm_x_tableswitch Z hK hok hE
    | getfield z0 =>
      dsimp only [mm_ex] at hE
      exact mm_x_getfield Z hK hok hE
    | putfield z0 =>
      dsimp only [mm_ex] at hE
      exact mm_x_putfield Z hK hok hE
    | iaload =>
      dsimp only [mm_ex] at hE
      exact mm_x_iaload Z hK hok hE
    | baload =>
      dsimp only [mm_ex] at hE
      exact mm_x_baload Z hK hok hE
    | caload =>
      dsimp only [mm_ex] at hE
      exact mm_x_caload Z hK hok hE
    | iastore =>
      dsimp only [mm_ex] at hE
      exact mm_x_iastore Z hK hok hE
    | bastore =>
      dsimp only [mm_ex] at hE
      exact mm_x_bastore Z hK hok hE
    | castore =>
      dsimp only [mm_ex] at hE
      exact mm_x_castore Z hK hok hE
    | arraylength =>
      dsimp only [mm_ex] at hE
      exact mm_x_arraylength Z hK hok hE
    | new z0 =>
      dsimp only [mm_ex] at hE
      exact mm_x_new Z hK hok hE
    | newarray z0 =>
      dsimp only [mm_ex] at hE
      exact mm_x_newarray Z hK hok hE
    | invokespecial i =>
      dsimp only [mm_ex] at hE
      obtain ⟨hE0, hE1⟩ := hE
      simp only [mm_ok, mm_sd, Bool.and_eq_true, decide_eq_true_eq] at hok
      obtain ⟨hd, h1, hok⟩ := hok
      subst h1
      by_cases hbb : bb = 0
      · rw [if_pos hbb] at hok
        simp only [Bool.and_eq_true, decide_eq_true_eq] at hok
        exact mm_x_objinit Z hK hd hok.1 hok.2 (hE0 hbb)
      · rw [if_neg hbb] at hok
        simp only [Bool.and_eq_true, decide_eq_true_eq] at hok
        obtain ⟨⟨⟨⟨⟨⟨q1, q2⟩, q3⟩, q4⟩, q5⟩, q6⟩, q7⟩ := hok
        exact mm_x_special Z hK hC hd q1 q2 q3 q4 q5 q6 q7 (hE1 hbb).1 (hE1 hbb).2
    | invokevirtual i =>
      dsimp only [mm_ex] at hE
      obtain ⟨hE0, hE1⟩ := hE
      simp only [mm_ok, mm_sd, Bool.and_eq_true, decide_eq_true_eq] at hok
      obtain ⟨hd, ⟨⟨⟨⟨⟨⟨h1, q1⟩, q2⟩, q3⟩, q4⟩, q5⟩, q6⟩, q7⟩ := hok
      subst h1
      split at q7
      · cases q7
      · rename_i q hq
        exact mm_x_virtual Z hK hC hd q1 q2 q3 q4 q5 q6 hq (by simpa using q7) hE0 hE1
    | invokestatic i =>
      dsimp only [mm_ex] at hE
      obtain ⟨hE0, hE1⟩ := hE
      simp only [mm_ok, mm_sd, Bool.and_eq_true, decide_eq_true_eq] at hok
      obtain ⟨hd, h1, hok⟩ := hok
      subst h1
      by_cases hbb : bb = 0
      · rw [if_pos hbb] at hok
        simp only [Bool.and_eq_true, decide_eq_true_eq] at hok
        exact mm_x_copy Z hK hd hok.1.1.1 hok.1.1.2 hok.1.2 hok.2 (hE0 hbb)
      · rw [if_neg hbb] at hok
        simp only [Bool.and_eq_true, decide_eq_true_eq] at hok
        exact mm_x_static Z hK hC hd hok.1.1.1 hok.1.1.2 hok.1.2 hok.2 (hE1 hbb)
    | return_ =>
      dsimp only [mm_ex] at hE
      obtain ⟨h0, h1, h2⟩ := hE
      simp only [mm_ok, mm_sd, Bool.and_eq_true, decide_eq_true_eq] at hok
      obtain ⟨hd, h3⟩ := hok
      subst h3
      subst h0
      exact hend _ none pc L h kc ks (Or.inl ⟨rfl, rfl, h1⟩) hd h2
    | ireturn =>
      dsimp only [mm_ex] at hE
      obtain ⟨x, r, rfl, rfl, ⟨ty, h1, h2⟩, h3⟩ := mm_s1_inv hE
      simp only [mm_ok, mm_sd, Bool.and_eq_true, decide_eq_true_eq] at hok
      obtain ⟨hd, h4⟩ := hok
      subst h4
      exact hend _ (some (.int x)) pc L h kc ks (Or.inr (Or.inl ⟨x, ty, rfl, rfl, h1, h2⟩)) hd h3
    | areturn =>
      dsimp only [mm_ex] at hE
      obtain ⟨x, r, rfl, rfl, ⟨ty, h1, h2⟩, h3⟩ := mm_sr_inv hE
      simp only [mm_ok, mm_sd, Bool.and_eq_true, decide_eq_true_eq] at hok
      obtain ⟨hd, h4⟩ := hok
      subst h4
      exact hend _ (some (.ref x)) pc L h kc ks (Or.inr (Or.inr ⟨x, ty, rfl, rfl, h1, h2⟩)) hd h3
    | _ => exact (show False from hE).elim
theorem mm_run_go (Z : mm_Cx p l R s m args meth c D dA cl b A mi df WS Ts nF nM nm w d xs) {C : Nat → mm_H → List Value → (mm_H → Option Value → Prop) → Prop} (hC : mm_Ct l D dA cl b mi WS nF nM nm d xs C) {P : mm_H → Option Value → Nat → Nat → Prop}
    (hend : ∀ I v pc L h kc ks, mm_Ret (mm_r (mi w)) I v → decode (mm_b (mi w)) pc = .ok (I, 1) → (∃ j, n0 ≤ j ∧ P (h.take j) v kc ks) → mm_Go p l e R s m args below meth c Q D dA cl b A φ0 n0 (mm_n (mi w)) pc L v.toList h kc ks)
    (htb : ∀ pc E, tb w pc = some E → mm_ok mi cl WS nF nM nm w pc E = true) {pc kc ks : Nat} {L : mm_L} {st : List Value} {h : mm_H} (hE : mm_run mi tb df C xs (R.cells, R.slots) P n0 w pc L st h kc ks) : mm_Go p l e R s m args below meth c Q D dA cl b A φ0 n0 (mm_n (mi w)) pc L st h kc ks :=
  hE (mm_Go p l e R s m args below meth c Q D dA cl b A φ0 n0 (mm_n (mi w))) (fun _ _ _ _ _ _ h1 => mm_one_go Z hC hend htb (fun _ _ _ _ _ _ h2 => h2) h1)
end MM9
/-- THE TIE: what the small machine comes to in method y, the machine comes to -/
theorem mm_met (l : Launch) (D : va_G) (dA : FieldType → ClassId) (cl : List vw_C) (b : Nat) (mi : Nat → mm_M) (tb : Nat → Nat → Option mm_E) (df : Nat → List Value) (WS : List Cond) (nF : List mm_F) (nM : List mm_N) (nm : Nat) (xs : Nat × (Nat → Int32))
    (hWS : ∀ x ∈ WS, goodWord x = true) (hmi : ∀ y, y < nm → mm_okm (mi y) = true) (hcl : ∀ ci q, cl[ci]? = some q → mm_okc WS (df ci) q = true) (htb : ∀ w, w < nm → ∀ pc E, tb w pc = some E → mm_ok mi cl WS nF nM nm w pc E = true) : ∀ d, mm_Ct l D dA cl b mi WS nF nM nm d xs (mm_call mi tb df xs d) := by
  intro d
  induction d with
  | zero => intro y h as Pk _ hC; exact hC.elim
  | succ d ih =>
    intro y h as Pk hy hC φ sz
    obtain ⟨hlen, hcat, hrun⟩ := hC
    have hokm := hmi y hy
    simp only [mm_okm, Bool.and_eq_true, decide_eq_true_eq] at hokm
    refine Met.ofW (cc := mm_b (mi y)) (maxL := mm_n (mi y)) (ret := mm_r (mi y)) hokm.1.1 rfl ?_
    intro p e s m args below meth c s₁ B hml hv
    obtain ⟨rfl, hsz, hP, hKK, hD0, hX, hbl, hnb⟩ := hv
    have hx := B.exec
    have hb := B.bytes
    have hr := B.returns
    have hts := atoms_spec (ws := mm_ws mi WS nm y) B.pre
    have hown : s.vm.findClass (mm_y (mi y)).cls = some m.cls := findClass_of_methodNamed B.named
    have hlocks := B.notSynchronized
    have hin : meth.name = (mm_y (mi y)).name := (name_of_methodNamed B.named B.method).1
    subst hsz
    have hD := hD0.self (sz := s.heap.size)
    have hA : ∀ q : Nat, s.heap.size ≤ q → va_A (mm_w b φ dA h) s.heap.size q := fun q h => Or.inr h
    have hbA : ¬ va_A (mm_w b φ dA h) s.heap.size b := by
      rintro (⟨k, e, hk⟩ | hq)
      · exact hnb k _ hk rfl
      · omega
    have hS : va_S (va_A (mm_w b φ dA h) s.heap.size) s.heap s.heap [] := va_S.rf
    have hl := lv_entry (as.map (mm_v b φ)) (n := mm_n (mi y)) (by rw [mm_in0_len hcat, hlen]; exact hokm.2)
    rw [lg_entry_eq]
    generalize (lg_sl (as.map (mm_v b φ)) ++ List.replicate (mm_n (mi y) - (lg_sl (as.map (mm_v b φ))).length) Slot.unset).toArray = ls at hl ⊢
    have hl2 : lv_has ls (mm_n (mi y)) (mm_l b φ (mm_in0 (mi y) as)) := mm_lsub hl (mm_in0_args hcat)
    have hcode : ∀ i, i < nm → mm_cw (mi i) ∈ (List.range nm).map (fun i => mm_cw (mi i)) := fun i hi => List.mem_map.mpr ⟨i, List.mem_range.mpr hi, rfl⟩
    have hG : ∀ z, z < nm → GoodIn (mm_ws mi WS nm y) (mm_ws mi WS nm z) := by
      intro z hz x hxz
      rcases List.mem_cons.mp hxz with rfl | hxz
      · exact ⟨List.mem_cons_of_mem _ (List.mem_append_left _ (hcode z hz)), Or.inl rfl⟩
      · refine ⟨List.mem_cons_of_mem _ hxz, ?_⟩
        rcases List.mem_append.mp hxz with hxz | hxz
        · obtain ⟨i, -, rfl⟩ := List.mem_map.mp hxz
          exact Or.inl rfl
        · rcases List.mem_cons.mp hxz with rfl | hxz
          · exact Or.inl rfl
          · exact good_of_word (hWS x hxz)
    have Z : mm_Cx p l (headSpec (mm_ws mi WS nm y) (mm_rm (d + 1) (mi y))).room s m (as.map (mm_v b φ)).toArray meth c D dA cl b (va_A (mm_w b φ dA h) s.heap.size) mi df WS (mm_ws mi WS nm y) nF nM nm y d xs :=
      ⟨⟨hx, hb, hml, hown, hts⟩, fun x hxw => List.mem_cons_of_mem _ (List.mem_append_right _ (List.mem_cons_of_mem _ hxw)), List.mem_cons_of_mem _ (List.mem_append_right _ List.mem_cons_self), hG, hmi, hcl, hKK, hA, hX, hbl, hbA, hin, Nat.le_refl _, by show 60 * d + 60 ≤ 60 * (d + 1); omega⟩
    refine mm_run_go (Q := MQ below (mm_Qc D dA cl b φ h s.heap.size (mm_mc (mi y)) Pk) (as.map (mm_v b φ)).toArray s (mm_mc (mi y)) (mm_ms (mi y)) (va_A (mm_w b φ dA h) s.heap.size)) (φ0 := φ) Z ih ?_ (htb y hy) hrun φ s.heap [] ls (fun _ _ => rfl) (fun _ => rfl) (Nat.le_refl _) (Nat.zero_le _) (Nat.zero_le _) hP hD hS hl2
    intro I v pc L h' kc ks hret hd hj φ' H locs ls' f0 g0 hn k1 k2 hP1 hD1 hS1 hl1
    obtain ⟨j, hj1, hj2⟩ := hj
    have key : ∀ t : State, t.heap = H → mm_Qc D dA cl b φ h s.heap.size (mm_mc (mi y)) Pk (as.map (mm_v b φ)).toArray s (.returned (v.map (mm_v b φ'))) t := by
      intro t ht
      have hsub : ∀ (k : Nat) (q : Nat × va_E), (mm_w b φ' dA (h'.take j))[k]? = some q → (mm_w b φ' dA h')[k]? = some q := by
        intro k q hq
        rw [mm_w_get] at hq ⊢
        by_cases hkj : k < j
        · rw [List.getElem?_take_of_lt hkj] at hq
          exact hq
        · rw [List.getElem?_take_eq_none (Nat.not_lt.mp hkj)] at hq
          cases hq
      refine ⟨h'.take j, v, φ', f0, fun hz => g0 ?_, ?_, hj2, rfl, fun k q hq => ?_, ⟨fun i k x z hi hk hxz => hD1.1 i k x z (hsub i x hi) (hsub k z hk) hxz, fun k q hq => hD1.2 k q (hsub k q hq)⟩, ?_⟩
      · have : kc ≤ mm_mc (mi y) := k1
        omega
      · rw [List.length_take]
        omega
      · rw [ht]
        exact hP1 k q (hsub k q hq)
      · exact hS1.F ht
    refine W.widen (k := mm_mc (mi y)) (n := mm_ms (mi y)) k1 k2 ?_
    rcases hret with ⟨rfl, rfl, hrt⟩ | ⟨x, ty, rfl, rfl, hrt, hnar⟩ | ⟨x, ty, rfl, rfl, hrt, hrf⟩
    · exact W.vret hx hb (hr.trans hrt) (fun t ht _ => key t ht) hS1.2.2 hd
    · exact W.zret hx hb (hr.trans hrt) hnar (fun t ht _ => key t ht) hS1.2.2 hd
    · exact W.aret hx hb (hr.trans hrt) hrf (Or.inr ⟨_, rfl⟩) (fun t ht _ => key t ht) hS1.2.2 hd
end
section
section EV
variable {mi : Nat → mm_M} {tb : Nat → Nat → Option mm_E} {df : Nat → List Value} {C : Nat → mm_H → List Value → (mm_H → Option Value → Prop) → Prop} {xs : Nat × (Nat → Int32)} {cap : Nat × Nat} {P : mm_H → Option Value → Nat → Nat → Prop} {n0 m : Nat}
variable {pc kc ks len a b : Nat} {c : Int32} {L : mm_L} {st r : List Value} {h : mm_H}
theorem ev_go (hC : mm_Cm C) {I : Instr} (hE : tb m pc = some (I, len, a, b, c)) (k : mm_ex mi df C xs cap P n0 m (mm_run mi tb df C xs cap P n0 m) I len a b c pc L st h kc ks) : mm_run mi tb df C xs cap P n0 m pc L st h kc ks := by
  refine mm_run_in hC ?_
  unfold mm_one
  rw [hE]
  exact k
theorem ev_iconst (hC : mm_Cm C) {i : Int} (hE : tb m pc = some (.iconst i, len, a, b, c))  (k : mm_run mi tb df C xs cap P n0 m (pc + len) L (.int c :: st) h kc ks) : mm_run mi tb df C xs cap P n0 m pc L st h kc ks := ev_go hC hE k
theorem ev_bipush (hC : mm_Cm C) {i : Int} (hE : tb m pc = some (.bipush i, len, a, b, c))  (k : mm_run mi tb df C xs cap P n0 m (pc + len) L (.int c :: st) h kc ks) : mm_run mi tb df C xs cap P n0 m pc L st h kc ks := ev_go hC hE k
theorem ev_sipush (hC : mm_Cm C) {i : Int} (hE : tb m pc = some (.sipush i, len, a, b, c))  (k : mm_run mi tb df C xs cap P n0 m (pc + len) L (.int c :: st) h kc ks) : mm_run mi tb df C xs cap P n0 m pc L st h kc ks := ev_go hC hE k
theorem ev_ldc (hC : mm_Cm C) {i : Nat} (hE : tb m pc = some (.ldc i, len, a, b, c))  (k : mm_run mi tb df C xs cap P n0 m (pc + len) L (.int c :: st) h kc ks) : mm_run mi tb df C xs cap P n0 m pc L st h kc ks := ev_go hC hE k
theorem ev_iload_n (hC : mm_Cm C) {i : Fin 4} {x : Int32} (hE : tb m pc = some (.iload_n i, len, a, b, c)) (hl : L[a]? = some (some (.int x))) (k : mm_run mi tb df C xs cap P n0 m (pc + len) L (.int x :: st) h kc ks) : mm_run mi tb df C xs cap P n0 m pc L st h kc ks := ev_go hC hE (by show mm_li L a _; unfold mm_li; rw [hl]; exact k)
theorem ev_iload (hC : mm_Cm C) {i : Nat} {x : Int32} (hE : tb m pc = some (.iload i, len, a, b, c)) (hl : L[a]? = some (some (.int x))) (k : mm_run mi tb df C xs cap P n0 m (pc + len) L (.int x :: st) h kc ks) : mm_run mi tb df C xs cap P n0 m pc L st h kc ks := ev_go hC hE (by show mm_li L a _; unfold mm_li; rw [hl]; exact k)
theorem ev_aload_n (hC : mm_Cm C) {i : Fin 4} {x : Nat} (hE : tb m pc = some (.aload_n i, len, a, b, c)) (hl : L[a]? = some (some (.ref x))) (k : mm_run mi tb df C xs cap P n0 m (pc + len) L (.ref x :: st) h kc ks) : mm_run mi tb df C xs cap P n0 m pc L st h kc ks := ev_go hC hE (by dsimp only [mm_ex, mm_s1, mm_s2, mm_sr, mm_sx, mm_sv, mm_lr, mm_li, mm_ob, mm_ar, mm_fd]; rw [hl]; exact k)
theorem ev_aload_nX (hC : mm_Cm C) {i : Fin 4} {x : Nat} (hE : tb m pc = some (.aload_n i, len, a, b, c)) (hl : L[a]? = some (some (.retAddr x))) (k : mm_run mi tb df C xs cap P n0 m (pc + len) L (.retAddr x :: st) h kc ks) : mm_run mi tb df C xs cap P n0 m pc L st h kc ks := ev_go hC hE (by dsimp only [mm_ex, mm_s1, mm_s2, mm_sr, mm_sx, mm_sv, mm_lr, mm_li, mm_ob, mm_ar, mm_fd]; rw [hl]; exact k)
theorem ev_aload (hC : mm_Cm C) {i : Nat} {x : Nat} (hE : tb m pc = some (.aload i, len, a, b, c)) (hl : L[a]? = some (some (.ref x))) (k : mm_run mi tb df C xs cap P n0 m (pc + len) L (.ref x :: st) h kc ks) : mm_run mi tb df C xs cap P n0 m pc L st h kc ks := ev_go hC hE (by dsimp only [mm_ex, mm_s1, mm_s2, mm_sr, mm_sx, mm_sv, mm_lr, mm_li, mm_ob, mm_ar, mm_fd]; rw [hl]; exact k)
theorem ev_aloadX (hC : mm_Cm C) {i : Nat} {x : Nat} (hE : tb m pc = some (.aload i, len, a, b, c)) (hl : L[a]? = some (some (.retAddr x))) (k : mm_run mi tb df C xs cap P n0 m (pc + len) L (.retAddr x :: st) h kc ks) : mm_run mi tb df C xs cap P n0 m pc L st h kc ks := ev_go hC hE (by dsimp only [mm_ex, mm_s1, mm_s2, mm_sr, mm_sx, mm_sv, mm_lr, mm_li, mm_ob, mm_ar, mm_fd]; rw [hl]; exact k)
theorem ev_istore_n (hC : mm_Cm C) {i : Fin 4} {x : Int32} (hE : tb m pc = some (.istore_n i, len, a, b, c))  (k : mm_run mi tb df C xs cap P n0 m (pc + len) (L.set a (some (.int x))) st h kc ks) : mm_run mi tb df C xs cap P n0 m pc L (.int x :: st) h kc ks := ev_go hC hE k
theorem ev_istore (hC : mm_Cm C) {i : Nat} {x : Int32} (hE : tb m pc = some (.istore i, len, a, b, c))  (k : mm_run mi tb df C xs cap P n0 m (pc + len) (L.set a (some (.int x))) st h kc ks) : mm_run mi tb df C xs cap P n0 m pc L (.int x :: st) h kc ks := ev_go hC hE k
theorem ev_astore_n (hC : mm_Cm C) {i : Fin 4} {x : Nat} (hE : tb m pc = some (.astore_n i, len, a, b, c))  (k : mm_run mi tb df C xs cap P n0 m (pc + len) (L.set a (some (.ref x))) st h kc ks) : mm_run mi tb df C xs cap P n0 m pc L (.ref x :: st) h kc ks := ev_go hC hE k
theorem ev_astore (hC : mm_Cm C) {i : Nat} {x : Nat} (hE : tb m pc = some (.astore i, len, a, b, c))  (k : mm_run mi tb df C xs cap P n0 m (pc + len) (L.set a (some (.ref x))) st h kc ks) : mm_run mi tb df C xs cap P n0 m pc L (.ref x :: st) h kc ks := ev_go hC hE k
theorem ev_iinc (hC : mm_Cm C) {i : Nat} {n : Int} {x : Int32} (hE : tb m pc = some (.iinc i n, len, a, b, c)) (hl : L[a]? = some (some (.int x))) (k : mm_run mi tb df C xs cap P n0 m (pc + len) (L.set a (some (.int (x + c)))) st h kc ks) : mm_run mi tb df C xs cap P n0 m pc L st h kc ks := ev_go hC hE (by show mm_li L a _; unfold mm_li; rw [hl]; exact k)
theorem ev_iadd (hC : mm_Cm C) {x y : Int32} (hE : tb m pc = some (.iadd, len, a, b, c))  (k : mm_run mi tb df C xs cap P n0 m (pc + len) L (.int (x + y) :: st) h kc ks) : mm_run mi tb df C xs cap P n0 m pc L (.int y :: .int x :: st) h kc ks := ev_go hC hE k
theorem ev_isub (hC : mm_Cm C) {x y : Int32} (hE : tb m pc = some (.isub, len, a, b, c))  (k : mm_run mi tb df C xs cap P n0 m (pc + len) L (.int (x - y) :: st) h kc ks) : mm_run mi tb df C xs cap P n0 m pc L (.int y :: .int x :: st) h kc ks := ev_go hC hE k
theorem ev_imul (hC : mm_Cm C) {x y : Int32} (hE : tb m pc = some (.imul, len, a, b, c))  (k : mm_run mi tb df C xs cap P n0 m (pc + len) L (.int (x * y) :: st) h kc ks) : mm_run mi tb df C xs cap P n0 m pc L (.int y :: .int x :: st) h kc ks := ev_go hC hE k
theorem ev_iand (hC : mm_Cm C) {x y : Int32} (hE : tb m pc = some (.iand, len, a, b, c))  (k : mm_run mi tb df C xs cap P n0 m (pc + len) L (.int (x &&& y) :: st) h kc ks) : mm_run mi tb df C xs cap P n0 m pc L (.int y :: .int x :: st) h kc ks := ev_go hC hE k
theorem ev_ior (hC : mm_Cm C) {x y : Int32} (hE : tb m pc = some (.ior, len, a, b, c))  (k : mm_run mi tb df C xs cap P n0 m (pc + len) L (.int (x ||| y) :: st) h kc ks) : mm_run mi tb df C xs cap P n0 m pc L (.int y :: .int x :: st) h kc ks := ev_go hC hE k
theorem ev_ixor (hC : mm_Cm C) {x y : Int32} (hE : tb m pc = some (.ixor, len, a, b, c))  (k : mm_run mi tb df C xs cap P n0 m (pc + len) L (.int (x ^^^ y) :: st) h kc ks) : mm_run mi tb df C xs cap P n0 m pc L (.int y :: .int x :: st) h kc ks := ev_go hC hE k
theorem ev_ishl (hC : mm_Cm C) {x y : Int32} (hE : tb m pc = some (.ishl, len, a, b, c))  (k : mm_run mi tb df C xs cap P n0 m (pc + len) L (.int (x <<< (y &&& 31)) :: st) h kc ks) : mm_run mi tb df C xs cap P n0 m pc L (.int y :: .int x :: st) h kc ks := ev_go hC hE k
theorem ev_ishr (hC : mm_Cm C) {x y : Int32} (hE : tb m pc = some (.ishr, len, a, b, c))  (k : mm_run mi tb df C xs cap P n0 m (pc + len) L (.int (x >>> (y &&& 31)) :: st) h kc ks) : mm_run mi tb df C xs cap P n0 m pc L (.int y :: .int x :: st) h kc ks := ev_go hC hE k
theorem ev_idiv (hC : mm_Cm C) {x y : Int32} (hE : tb m pc = some (.idiv, len, a, b, c)) (hy : ¬ y = 0) (k : mm_run mi tb df C xs cap P n0 m (pc + len) L (.int (x / y) :: st) h kc ks) : mm_run mi tb df C xs cap P n0 m pc L (.int y :: .int x :: st) h kc ks := ev_go hC hE ⟨hy, k⟩
theorem ev_irem (hC : mm_Cm C) {x y : Int32} (hE : tb m pc = some (.irem, len, a, b, c)) (hy : ¬ y = 0) (k : mm_run mi tb df C xs cap P n0 m (pc + len) L (.int (x - x / y * y) :: st) h kc ks) : mm_run mi tb df C xs cap P n0 m pc L (.int y :: .int x :: st) h kc ks := ev_go hC hE ⟨hy, k⟩
theorem ev_ineg (hC : mm_Cm C) {x : Int32} (hE : tb m pc = some (.ineg, len, a, b, c))  (k : mm_run mi tb df C xs cap P n0 m (pc + len) L (.int (-x) :: st) h kc ks) : mm_run mi tb df C xs cap P n0 m pc L (.int x :: st) h kc ks := ev_go hC hE k
theorem ev_i2c (hC : mm_Cm C) {x : Int32} (hE : tb m pc = some (.i2c, len, a, b, c))  (k : mm_run mi tb df C xs cap P n0 m (pc + len) L (.int (x.toUInt32 % 65536).toInt32 :: st) h kc ks) : mm_run mi tb df C xs cap P n0 m pc L (.int x :: st) h kc ks := ev_go hC hE k
theorem ev_dup (hC : mm_Cm C) {v : Value} (hE : tb m pc = some (.dup, len, a, b, c)) (hv : v.category = 1) (k : mm_run mi tb df C xs cap P n0 m (pc + len) L (v :: v :: st) h kc ks) : mm_run mi tb df C xs cap P n0 m pc L (v :: st) h kc ks := ev_go hC hE ⟨hv, k⟩
theorem ev_pop (hC : mm_Cm C) {v : Value} (hE : tb m pc = some (.pop, len, a, b, c)) (hv : v.category = 1) (k : mm_run mi tb df C xs cap P n0 m (pc + len) L st h kc ks) : mm_run mi tb df C xs cap P n0 m pc L (v :: st) h kc ks := ev_go hC hE ⟨hv, k⟩
theorem ev_dup_x1 (hC : mm_Cm C) {v w : Value} (hE : tb m pc = some (.dup_x1, len, a, b, c)) (hv : v.category = 1) (hw : w.category = 1) (k : mm_run mi tb df C xs cap P n0 m (pc + len) L (v :: w :: v :: st) h kc ks) : mm_run mi tb df C xs cap P n0 m pc L (v :: w :: st) h kc ks := ev_go hC hE ⟨hv, hw, k⟩
theorem ev_dup2 (hC : mm_Cm C) {v w : Value} (hE : tb m pc = some (.dup2, len, a, b, c)) (hv : v.category = 1) (hw : w.category = 1) (k : mm_run mi tb df C xs cap P n0 m (pc + len) L (v :: w :: v :: w :: st) h kc ks) : mm_run mi tb df C xs cap P n0 m pc L (v :: w :: st) h kc ks := ev_go hC hE ⟨hv, hw, k⟩
theorem ev_dup_x2 (hC : mm_Cm C) {v w z : Value} (hE : tb m pc = some (.dup_x2, len, a, b, c)) (hv : v.category = 1) (hw : w.category = 1) (hz : z.category = 1) (k : mm_run mi tb df C xs cap P n0 m (pc + len) L (v :: w :: z :: v :: st) h kc ks) : mm_run mi tb df C xs cap P n0 m pc L (v :: w :: z :: st) h kc ks := ev_go hC hE ⟨hv, hw, hz, k⟩
theorem ev_if_eq (hC : mm_Cm C) {off : Int} {x : Int32} (hE : tb m pc = some (.ifCond .eq off, len, a, b, c)) (k1 : x = 0 → mm_run mi tb df C xs cap P n0 m a L st h kc ks) (k2 : ¬ (x = 0) → mm_run mi tb df C xs cap P n0 m (pc + len) L st h kc ks) : mm_run mi tb df C xs cap P n0 m pc L (.int x :: st) h kc ks := ev_go hC hE ⟨k1, k2⟩
theorem ev_icmp_eq (hC : mm_Cm C) {off : Int} {x y : Int32} (hE : tb m pc = some (.if_icmp .eq off, len, a, b, c)) (k1 : x = y → mm_run mi tb df C xs cap P n0 m a L st h kc ks) (k2 : ¬ (x = y) → mm_run mi tb df C xs cap P n0 m (pc + len) L st h kc ks) : mm_run mi tb df C xs cap P n0 m pc L (.int y :: .int x :: st) h kc ks := ev_go hC hE ⟨k1, k2⟩
theorem ev_if_ne (hC : mm_Cm C) {off : Int} {x : Int32} (hE : tb m pc = some (.ifCond .ne off, len, a, b, c)) (k1 : ¬ x = 0 → mm_run mi tb df C xs cap P n0 m a L st h kc ks) (k2 : ¬ (¬ x = 0) → mm_run mi tb df C xs cap P n0 m (pc + len) L st h kc ks) : mm_run mi tb df C xs cap P n0 m pc L (.int x :: st) h kc ks := ev_go hC hE ⟨k1, k2⟩
theorem ev_icmp_ne (hC : mm_Cm C) {off : Int} {x y : Int32} (hE : tb m pc = some (.if_icmp .ne off, len, a, b, c)) (k1 : ¬ x = y → mm_run mi tb df C xs cap P n0 m a L st h kc ks) (k2 : ¬ (¬ x = y) → mm_run mi tb df C xs cap P n0 m (pc + len) L st h kc ks) : mm_run mi tb df C xs cap P n0 m pc L (.int y :: .int x :: st) h kc ks := ev_go hC hE ⟨k1, k2⟩
theorem ev_if_lt (hC : mm_Cm C) {off : Int} {x : Int32} (hE : tb m pc = some (.ifCond .lt off, len, a, b, c)) (k1 : x < 0 → mm_run mi tb df C xs cap P n0 m a L st h kc ks) (k2 : ¬ (x < 0) → mm_run mi tb df C xs cap P n0 m (pc + len) L st h kc ks) : mm_run mi tb df C xs cap P n0 m pc L (.int x :: st) h kc ks := ev_go hC hE ⟨k1, k2⟩
theorem ev_icmp_lt (hC : mm_Cm C) {off : Int} {x y : Int32} (hE : tb m pc = some (.if_icmp .lt off, len, a, b, c)) (k1 : x < y → mm_run mi tb df C xs cap P n0 m a L st h kc ks) (k2 : ¬ (x < y) → mm_run mi tb df C xs cap P n0 m (pc + len) L st h kc ks) : mm_run mi tb df C xs cap P n0 m pc L (.int y :: .int x :: st) h kc ks := ev_go hC hE ⟨k1, k2⟩
theorem ev_if_ge (hC : mm_Cm C) {off : Int} {x : Int32} (hE : tb m pc = some (.ifCond .ge off, len, a, b, c)) (k1 : 0 ≤ x → mm_run mi tb df C xs cap P n0 m a L st h kc ks) (k2 : ¬ (0 ≤ x) → mm_run mi tb df C xs cap P n0 m (pc + len) L st h kc ks) : mm_run mi tb df C xs cap P n0 m pc L (.int x :: st) h kc ks := ev_go hC hE ⟨k1, k2⟩
theorem ev_icmp_ge (hC : mm_Cm C) {off : Int} {x y : Int32} (hE : tb m pc = some (.if_icmp .ge off, len, a, b, c)) (k1 : y ≤ x → mm_run mi tb df C xs cap P n0 m a L st h kc ks) (k2 : ¬ (y ≤ x) → mm_run mi tb df C xs cap P n0 m (pc + len) L st h kc ks) : mm_run mi tb df C xs cap P n0 m pc L (.int y :: .int x :: st) h kc ks := ev_go hC hE ⟨k1, k2⟩
theorem ev_if_gt (hC : mm_Cm C) {off : Int} {x : Int32} (hE : tb m pc = some (.ifCond .gt off, len, a, b, c)) (k1 : 0 < x → mm_run mi tb df C xs cap P n0 m a L st h kc ks) (k2 : ¬ (0 < x) → mm_run mi tb df C xs cap P n0 m (pc + len) L st h kc ks) : mm_run mi tb df C xs cap P n0 m pc L (.int x :: st) h kc ks := ev_go hC hE ⟨k1, k2⟩
theorem ev_icmp_gt (hC : mm_Cm C) {off : Int} {x y : Int32} (hE : tb m pc = some (.if_icmp .gt off, len, a, b, c)) (k1 : y < x → mm_run mi tb df C xs cap P n0 m a L st h kc ks) (k2 : ¬ (y < x) → mm_run mi tb df C xs cap P n0 m (pc + len) L st h kc ks) : mm_run mi tb df C xs cap P n0 m pc L (.int y :: .int x :: st) h kc ks := ev_go hC hE ⟨k1, k2⟩
theorem ev_if_le (hC : mm_Cm C) {off : Int} {x : Int32} (hE : tb m pc = some (.ifCond .le off, len, a, b, c)) (k1 : x ≤ 0 → mm_run mi tb df C xs cap P n0 m a L st h kc ks) (k2 : ¬ (x ≤ 0) → mm_run mi tb df C xs cap P n0 m (pc + len) L st h kc ks) : mm_run mi tb df C xs cap P n0 m pc L (.int x :: st) h kc ks := ev_go hC hE ⟨k1, k2⟩
theorem ev_icmp_le (hC : mm_Cm C) {off : Int} {x y : Int32} (hE : tb m pc = some (.if_icmp .le off, len, a, b, c)) (k1 : x ≤ y → mm_run mi tb df C xs cap P n0 m a L st h kc ks) (k2 : ¬ (x ≤ y) → mm_run mi tb df C xs cap P n0 m (pc + len) L st h kc ks) : mm_run mi tb df C xs cap P n0 m pc L (.int y :: .int x :: st) h kc ks := ev_go hC hE ⟨k1, k2⟩
theorem ev_goto (hC : mm_Cm C) {off : Int} (hE : tb m pc = some (.goto off, len, a, b, c)) (k : mm_run mi tb df C xs cap P n0 m a L st h kc ks) : mm_run mi tb df C xs cap P n0 m pc L st h kc ks := ev_go hC hE k
theorem ev_lookup (hC : mm_Cm C) {d : Int} {ps : Array (Int × Int)} {x : Int32} (t : Nat) (hE : tb m pc = some (.lookupswitch d ps, len, a, b, c)) (ht : (pc : Int) + Op.lookupswitch.offset ps.toList d x.toInt = (t : Int)) (k : mm_run mi tb df C xs cap P n0 m t L st h kc ks) : mm_run mi tb df C xs cap P n0 m pc L (.int x :: st) h kc ks := ev_go hC hE ⟨t, ht, k⟩
theorem ev_tableOut (hC : mm_Cm C) {d lo hi : Int} {offs : Array Int} {x : Int32} (t : Nat) (hE : tb m pc = some (.tableswitch d lo hi offs, len, a, b, c)) (hc : x.toInt < lo ∨ hi < x.toInt) (ht : (pc : Int) + d = (t : Int)) (k : mm_run mi tb df C xs cap P n0 m t L st h kc ks) : mm_run mi tb df C xs cap P n0 m pc L (.int x :: st) h kc ks := ev_go hC hE ⟨fun _ => ⟨t, ht, k⟩, fun h1 h2 => (hc.elim h1 h2).elim⟩
theorem ev_tableIn (hC : mm_Cm C) {d lo hi o : Int} {offs : Array Int} {x : Int32} (t : Nat) (hE : tb m pc = some (.tableswitch d lo hi offs, len, a, b, c)) (h1 : ¬ x.toInt < lo) (h2 : ¬ hi < x.toInt) (ho : offs[(x.toInt - lo).toNat]? = some o) (ht : (pc : Int) + o = (t : Int)) (k : mm_run mi tb df C xs cap P n0 m t L st h kc ks) : mm_run mi tb df C xs cap P n0 m pc L (.int x :: st) h kc ks := ev_go hC hE ⟨fun hc => (hc.elim h1 h2).elim, fun _ _ => ⟨o, t, ho, ht, k⟩⟩
theorem ev_getfield (hC : mm_Cm C) {i o : Nat} {fs : List Value} {v : Value} (hE : tb m pc = some (.getfield i, len, a, b, c)) (ho : h[o]? = some (.inr (a, fs))) (hv : fs[b]? = some v) (k : mm_run mi tb df C xs cap P n0 m (pc + len) L (v :: st) h kc ks) : mm_run mi tb df C xs cap P n0 m pc L (.ref o :: st) h kc ks := ev_go hC hE (by dsimp only [mm_ex, mm_s1, mm_s2, mm_sr, mm_sx, mm_sv, mm_lr, mm_li, mm_ob, mm_ar, mm_fd]; rw [ho]; dsimp only; rw [hv]; exact ⟨rfl, k⟩)
theorem ev_putfield (hC : mm_Cm C) {i o : Nat} {fs : List Value} {v : Value} (hE : tb m pc = some (.putfield i, len, a, b, c)) (ho : h[o]? = some (.inr (a, fs))) (hb : b < fs.length) (hf : mm_fit c v) (k : mm_run mi tb df C xs cap P n0 m (pc + len) L st (h.set o (.inr (a, fs.set b v))) kc ks) : mm_run mi tb df C xs cap P n0 m pc L (v :: .ref o :: st) h kc ks := ev_go hC hE (by dsimp only [mm_ex, mm_s1, mm_s2, mm_sr, mm_sx, mm_sv, mm_lr, mm_li, mm_ob, mm_ar, mm_fd]; rw [ho]; exact ⟨rfl, hb, hf, k⟩)
theorem ev_ialoadX (hC : mm_Cm C) {z : Nat} {i : Int32} (hE : tb m pc = some (.iaload, len, a, b, c)) (hi : vp_in i xs.1) (k : mm_run mi tb df C xs cap P n0 m (pc + len) L (.int (xs.2 i.toNatClampNeg) :: st) h kc ks) : mm_run mi tb df C xs cap P n0 m pc L (.int i :: .retAddr z :: st) h kc ks := ev_go hC hE ⟨hi, k⟩
theorem ev_iaload (hC : mm_Cm C) {o n : Nat} {f : Nat → Int32} {i : Int32} (hE : tb m pc = some (.iaload, len, a, b, c)) (ho : h[o]? = some (.inl (.int, n, f))) (hi : vp_in i n) (k : mm_run mi tb df C xs cap P n0 m (pc + len) L (.int (f i.toNatClampNeg) :: st) h kc ks) : mm_run mi tb df C xs cap P n0 m pc L (.int i :: .ref o :: st) h kc ks := ev_go hC hE (by dsimp only [mm_ex, mm_s1, mm_s2, mm_sr, mm_sx, mm_sv, mm_lr, mm_li, mm_ob, mm_ar, mm_fd]; rw [ho]; exact ⟨rfl, hi, k⟩)
theorem ev_baload (hC : mm_Cm C) {o n : Nat} {f : Nat → Int32} {i : Int32} (hE : tb m pc = some (.baload, len, a, b, c)) (ho : h[o]? = some (.inl (.boolean, n, f))) (hi : vp_in i n) (k : mm_run mi tb df C xs cap P n0 m (pc + len) L (.int (f i.toNatClampNeg) :: st) h kc ks) : mm_run mi tb df C xs cap P n0 m pc L (.int i :: .ref o :: st) h kc ks := ev_go hC hE (by dsimp only [mm_ex, mm_s1, mm_s2, mm_sr, mm_sx, mm_sv, mm_lr, mm_li, mm_ob, mm_ar, mm_fd]; rw [ho]; exact ⟨rfl, hi, k⟩)
theorem ev_caload (hC : mm_Cm C) {o n : Nat} {f : Nat → Int32} {i : Int32} (hE : tb m pc = some (.caload, len, a, b, c)) (ho : h[o]? = some (.inl (.char, n, f))) (hi : vp_in i n) (k : mm_run mi tb df C xs cap P n0 m (pc + len) L (.int (f i.toNatClampNeg) :: st) h kc ks) : mm_run mi tb df C xs cap P n0 m pc L (.int i :: .ref o :: st) h kc ks := ev_go hC hE (by dsimp only [mm_ex, mm_s1, mm_s2, mm_sr, mm_sx, mm_sv, mm_lr, mm_li, mm_ob, mm_ar, mm_fd]; rw [ho]; exact ⟨rfl, hi, k⟩)
theorem ev_iastore (hC : mm_Cm C) {o n : Nat} {f : Nat → Int32} {i x : Int32} (hE : tb m pc = some (.iastore, len, a, b, c)) (ho : h[o]? = some (.inl (.int, n, f))) (hi : vp_in i n) (k : mm_run mi tb df C xs cap P n0 m (pc + len) L st (h.set o (.inl (.int, n, upd f i.toNatClampNeg x))) kc ks) : mm_run mi tb df C xs cap P n0 m pc L (.int x :: .int i :: .ref o :: st) h kc ks := ev_go hC hE (by dsimp only [mm_ex, mm_s1, mm_s2, mm_sr, mm_sx, mm_sv, mm_lr, mm_li, mm_ob, mm_ar, mm_fd]; rw [ho]; exact ⟨rfl, hi, k⟩)
theorem ev_bastore (hC : mm_Cm C) {o n : Nat} {f : Nat → Int32} {i x : Int32} (hE : tb m pc = some (.bastore, len, a, b, c)) (ho : h[o]? = some (.inl (.boolean, n, f))) (hi : vp_in i n) (k : mm_run mi tb df C xs cap P n0 m (pc + len) L st (h.set o (.inl (.boolean, n, upd f i.toNatClampNeg (vp_nar .boolean x)))) kc ks) : mm_run mi tb df C xs cap P n0 m pc L (.int x :: .int i :: .ref o :: st) h kc ks := ev_go hC hE (by dsimp only [mm_ex, mm_s1, mm_s2, mm_sr, mm_sx, mm_sv, mm_lr, mm_li, mm_ob, mm_ar, mm_fd]; rw [ho]; exact ⟨rfl, hi, k⟩)
theorem ev_castore (hC : mm_Cm C) {o n : Nat} {f : Nat → Int32} {i x : Int32} (hE : tb m pc = some (.castore, len, a, b, c)) (ho : h[o]? = some (.inl (.char, n, f))) (hi : vp_in i n) (k : mm_run mi tb df C xs cap P n0 m (pc + len) L st (h.set o (.inl (.char, n, upd f i.toNatClampNeg (vp_nar .char x)))) kc ks) : mm_run mi tb df C xs cap P n0 m pc L (.int x :: .int i :: .ref o :: st) h kc ks := ev_go hC hE (by dsimp only [mm_ex, mm_s1, mm_s2, mm_sr, mm_sx, mm_sv, mm_lr, mm_li, mm_ob, mm_ar, mm_fd]; rw [ho]; exact ⟨rfl, hi, k⟩)
theorem ev_arraylengthX (hC : mm_Cm C) {z : Nat} (hE : tb m pc = some (.arraylength, len, a, b, c))  (k : mm_run mi tb df C xs cap P n0 m (pc + len) L (.int (Int32.ofNat xs.1) :: st) h kc ks) : mm_run mi tb df C xs cap P n0 m pc L (.retAddr z :: st) h kc ks := ev_go hC hE k
theorem ev_arraylength (hC : mm_Cm C) {o n : Nat} {ty : FieldType} {f : Nat → Int32} (hE : tb m pc = some (.arraylength, len, a, b, c)) (ho : h[o]? = some (.inl (ty, n, f))) (ht : ty = .int ∨ ty = .boolean ∨ ty = .char) (k : mm_run mi tb df C xs cap P n0 m (pc + len) L (.int (Int32.ofNat n) :: st) h kc ks) : mm_run mi tb df C xs cap P n0 m pc L (.ref o :: st) h kc ks := ev_go hC hE (by dsimp only [mm_ex, mm_s1, mm_s2, mm_sr, mm_sx, mm_sv, mm_lr, mm_li, mm_ob, mm_ar, mm_fd]; rw [ho]; exact ⟨ht, k⟩)
theorem ev_new (hC : mm_Cm C) {i : Nat} (hE : tb m pc = some (.new i, len, a, b, c)) (h1 : kc + 1 ≤ cap.1) (h2 : ks + b ≤ cap.2) (hw : (L.all (mm_wfo h.length) && st.all (mm_wfv h.length) && h.all (mm_wfc h.length)) = true) (k : mm_run mi tb df C xs cap P n0 m (pc + len) L (.ref h.length :: st) (h ++ [.inr (a, df a)]) (kc + 1) (ks + b)) : mm_run mi tb df C xs cap P n0 m pc L st h kc ks := ev_go hC hE ⟨h1, h2, hw, k⟩
theorem ev_newarray (hC : mm_Cm C) {ty : ArrayType} {n : Int32} (hE : tb m pc = some (.newarray ty, len, a, b, c)) (h0 : ¬ n < 0) (hn : n.toNatClampNeg ≤ 1000000) (h1 : kc + 1 ≤ cap.1) (h2 : ks + n.toNatClampNeg ≤ cap.2) (hw : (L.all (mm_wfo h.length) && st.all (mm_wfv h.length) && h.all (mm_wfc h.length)) = true) (k : mm_run mi tb df C xs cap P n0 m (pc + len) L (.ref h.length :: st) (h ++ [.inl (newarray.typeOf ty, n.toNatClampNeg, fun _ => 0)]) (kc + 1) (ks + n.toNatClampNeg)) : mm_run mi tb df C xs cap P n0 m pc L (.int n :: st) h kc ks := ev_go hC hE ⟨h0, hn, h1, h2, hw, k⟩
theorem ev_objinit (hC : mm_Cm C) {i x : Nat} (hE : tb m pc = some (.invokespecial i, len, a, 0, c)) (hc : mm_cat st) (k : mm_run mi tb df C xs cap P n0 m (pc + len) L st h kc ks) : mm_run mi tb df C xs cap P n0 m pc L (.ref x :: st) h kc ks := ev_go hC hE ⟨fun _ => ⟨hc, k⟩, fun z => absurd rfl z⟩
theorem ev_static (hC : mm_Cm C) {i : Nat} (hE : tb m pc = some (.invokestatic i, len, a, 1, c)) (h1 : mm_k (mi a) ≤ st.length) (h2 : mm_cat (st.drop (mm_k (mi a)))) (h3 : kc + mm_mc (mi a) ≤ cap.1) (h4 : ks + mm_ms (mi a) ≤ cap.2) (h5 : mm_mc (mi a) = 0 ∨ (L.all (mm_wfo h.length) && (st.drop (mm_k (mi a))).all (mm_wfv h.length)) = true) {Q : mm_H → Option Value → Prop} (hc : C a h (st.take (mm_k (mi a))).reverse Q) (k : ∀ h' v, Q h' v → mm_run mi tb df C xs cap P n0 m (pc + len) L (v.toList ++ st.drop (mm_k (mi a))) h' (kc + mm_mc (mi a)) (ks + mm_ms (mi a))) : mm_run mi tb df C xs cap P n0 m pc L st h kc ks := ev_go hC hE ⟨fun z => absurd z (by decide), fun _ => ⟨h1, h2, h3, h4, h5, hC _ _ _ _ _ k hc⟩⟩
theorem ev_virtual (hC : mm_Cm C) {i : Nat} (hE : tb m pc = some (.invokevirtual i, len, a, b, c)) (hr : mm_rcv h (mm_ci (mi a)) (st.take (mm_k (mi a))).reverse) (h1 : mm_k (mi a) ≤ st.length) (h2 : mm_cat (st.drop (mm_k (mi a)))) (h3 : kc + mm_mc (mi a) ≤ cap.1) (h4 : ks + mm_ms (mi a) ≤ cap.2) (h5 : mm_mc (mi a) = 0 ∨ (L.all (mm_wfo h.length) && (st.drop (mm_k (mi a))).all (mm_wfv h.length)) = true) {Q : mm_H → Option Value → Prop} (hc : C a h (st.take (mm_k (mi a))).reverse Q) (k : ∀ h' v, Q h' v → mm_run mi tb df C xs cap P n0 m (pc + len) L (v.toList ++ st.drop (mm_k (mi a))) h' (kc + mm_mc (mi a)) (ks + mm_ms (mi a))) : mm_run mi tb df C xs cap P n0 m pc L st h kc ks := ev_go hC hE ⟨hr, h1, h2, h3, h4, h5, hC _ _ _ _ _ k hc⟩
theorem ev_special (hC : mm_Cm C) {i : Nat} (hE : tb m pc = some (.invokespecial i, len, a, 1, c)) (hr : ∃ o As, (st.take (mm_k (mi a))).reverse = .ref o :: As) (h1 : mm_k (mi a) ≤ st.length) (h2 : mm_cat (st.drop (mm_k (mi a)))) (h3 : kc + mm_mc (mi a) ≤ cap.1) (h4 : ks + mm_ms (mi a) ≤ cap.2) (h5 : mm_mc (mi a) = 0 ∨ (L.all (mm_wfo h.length) && (st.drop (mm_k (mi a))).all (mm_wfv h.length)) = true) {Q : mm_H → Option Value → Prop} (hc : C a h (st.take (mm_k (mi a))).reverse Q) (k : ∀ h' v, Q h' v → mm_run mi tb df C xs cap P n0 m (pc + len) L (v.toList ++ st.drop (mm_k (mi a))) h' (kc + mm_mc (mi a)) (ks + mm_ms (mi a))) : mm_run mi tb df C xs cap P n0 m pc L st h kc ks := ev_go hC hE ⟨fun z => absurd z (by decide), fun _ => ⟨hr, h1, h2, h3, h4, h5, hC _ _ _ _ _ k hc⟩⟩
theorem ev_return (hC : mm_Cm C) (hE : tb m pc = some (.return_, len, a, b, c)) (hr : mm_r (mi m) = none) (j : Nat) (hj : n0 ≤ j) (k : P (h.take j) none kc ks) : mm_run mi tb df C xs cap P n0 m pc L [] h kc ks := ev_go hC hE ⟨rfl, hr, j, hj, k⟩
theorem ev_ireturn (hC : mm_Cm C) {v : Int32} {ty : FieldType} (hE : tb m pc = some (.ireturn, len, a, b, c)) (hr : mm_r (mi m) = some ty) (hv : narrow ty (.int v) = .int v) (j : Nat) (hj : n0 ≤ j) (k : P (h.take j) (some (.int v)) kc ks) : mm_run mi tb df C xs cap P n0 m pc L [.int v] h kc ks := ev_go hC hE ⟨rfl, ⟨ty, hr, hv⟩, j, hj, k⟩
end EV
end
section
/-! the tables, written by a program out of javap's listing and the tables' words -/
def tF_0 : u_T := fun k => match k with
  | 0 => ("ReplayedBeans", "kinds", "LReplayedBeans$Kinds;", true)
  | 1 => ("ReplayedBeans", "beans", "LReplayedBeans$Beans;", true)
  | 2 => ("ReplayedBeans", "reach", "LReplayedBeans$Reach;", true)
  | 3 => ("ReplayedBeans", "pairing", "LReplayedBeans$Pairing;", true)
  | 4 => ("ReplayedBeans", "text", "LReplayedBeans$Text;", true)
  | 5 => ("ReplayedBeans", "writer", "LReplayedBeans$Writer;", true)
  | 6 => ("ReplayedBeans", "grammar", "LReplayedBeans$Grammar;", true)
  | _ => ("ReplayedBeans", "replay", "LReplayedBeans$Replay;", true)
def tF_1 : u_T := fun k => match k with
  | 0 => ("ReplayedBeans$Kinds", "defined", "[Z", true)
  | 1 => ("ReplayedBeans$Kinds", "numbers", "[I", true)
  | 2 => ("ReplayedBeans$Kinds", "links", "[I", true)
  | 3 => ("ReplayedBeans$Kinds", "first", "[I", true)
  | 4 => ("ReplayedBeans$Kinds", "least", "[I", true)
  | _ => ("ReplayedBeans$Kinds", "greatest", "[I", true)
def tF_2 : u_T := fun k => match k with
  | 0 => ("ReplayedBeans$Beans", "kinds", "LReplayedBeans$Kinds;", true)
  | 1 => ("ReplayedBeans$Beans", "kindRow", "[I", true)
  | 2 => ("ReplayedBeans$Beans", "numberRow", "[I", true)
  | 3 => ("ReplayedBeans$Beans", "linkRow", "[I", true)
  | _ => ("ReplayedBeans$Beans", "size", "I", false)
def tF_3 : u_T := fun k => match k with
  | 0 => ("ReplayedBeans$Reach", "beans", "LReplayedBeans$Beans;", true)
  | 1 => ("ReplayedBeans$Reach", "order", "[I", true)
  | 2 => ("ReplayedBeans$Reach", "seen", "[Z", true)
  | _ => ("ReplayedBeans$Reach", "found", "I", false)
def tF_4 : u_T := fun k => match k with
  | 0 => ("ReplayedBeans$Pairing", "beans", "LReplayedBeans$Beans;", true)
  | 1 => ("ReplayedBeans$Pairing", "order", "[I", true)
  | 2 => ("ReplayedBeans$Pairing", "rightOf", "[I", true)
  | 3 => ("ReplayedBeans$Pairing", "leftOf", "[I", true)
  | _ => ("ReplayedBeans$Pairing", "paired", "I", false)
def tF_5 : u_T := fun k => match k with
  | 0 => ("ReplayedBeans$Text", "characters", "[C", true)
  | _ => ("ReplayedBeans$Text", "size", "I", false)
def tF_6 : u_T := fun k => match k with
  | 0 => ("ReplayedBeans$Writer", "kinds", "LReplayedBeans$Kinds;", true)
  | 1 => ("ReplayedBeans$Writer", "beans", "LReplayedBeans$Beans;", true)
  | 2 => ("ReplayedBeans$Writer", "reach", "LReplayedBeans$Reach;", true)
  | 3 => ("ReplayedBeans$Writer", "draft", "LReplayedBeans$Text;", true)
  | 4 => ("ReplayedBeans$Writer", "linksTo", "[I", true)
  | 5 => ("ReplayedBeans$Writer", "idOf", "[I", true)
  | 6 => ("ReplayedBeans$Writer", "begun", "[Z", true)
  | 7 => ("ReplayedBeans$Writer", "root", "I", false)
  | 8 => ("ReplayedBeans$Writer", "ids", "I", false)
  | 9 => ("ReplayedBeans$Writer", "tooDeep", "Z", false)
  | _ => ("ReplayedBeans$Writer", "tooLong", "Z", false)
def tF_7 : u_T := fun k => match k with
  | 0 => ("ReplayedBeans$Grammar", "text", "LReplayedBeans$Text;", true)
  | 1 => ("ReplayedBeans$Grammar", "due", "I", false)
  | 2 => ("ReplayedBeans$Grammar", "open", "I", false)
  | _ => ("ReplayedBeans$Grammar", "digitsLeft", "I", false)
def tF_8 : u_T := fun k => match k with
  | 0 => ("ReplayedBeans$Replay", "beans", "LReplayedBeans$Beans;", true)
  | 1 => ("ReplayedBeans$Replay", "text", "LReplayedBeans$Text;", true)
  | 2 => ("ReplayedBeans$Replay", "named", "[I", true)
  | 3 => ("ReplayedBeans$Replay", "failedPlaces", "[I", true)
  | 4 => ("ReplayedBeans$Replay", "failed", "I", false)
  | _ => ("ReplayedBeans$Replay", "place", "I", false)
def tF_9 : u_T := fun k => match k with
  | 0 => ("ReplayedBeansModel", "defined", "[Z", true)
  | 1 => ("ReplayedBeansModel", "numbers", "[I", true)
  | 2 => ("ReplayedBeansModel", "links", "[I", true)
  | 3 => ("ReplayedBeansModel", "first", "[I", true)
  | 4 => ("ReplayedBeansModel", "least", "[I", true)
  | 5 => ("ReplayedBeansModel", "greatest", "[I", true)
  | 6 => ("ReplayedBeansModel", "objects", "I", false)
  | 7 => ("ReplayedBeansModel", "kinds", "[I", true)
  | 8 => ("ReplayedBeansModel", "value", "[I", true)
  | 9 => ("ReplayedBeansModel", "to", "[I", true)
  | 10 => ("ReplayedBeansModel", "text", "[I", true)
  | 11 => ("ReplayedBeansModel", "size", "I", false)
  | 12 => ("ReplayedBeansModel", "out", "[I", true)
  | 13 => ("ReplayedBeansModel", "outSize", "I", false)
  | 14 => ("ReplayedBeansModel", "reach", "[Z", true)
  | 15 => ("ReplayedBeansModel", "pair", "[I", true)
  | 16 => ("ReplayedBeansModel", "back", "[I", true)
  | 17 => ("ReplayedBeansModel", "id", "[I", true)
  | 18 => ("ReplayedBeansModel", "begun", "[Z", true)
  | 19 => ("ReplayedBeansModel", "ids", "I", false)
  | 20 => ("ReplayedBeansModel", "depth", "I", false)
  | 21 => ("ReplayedBeansModel", "open", "[I", true)
  | 22 => ("ReplayedBeansModel", "going", "[I", true)
  | 23 => ("ReplayedBeansModel", "where", "[I", true)
  | 24 => ("ReplayedBeansModel", "state", "I", false)
  | 25 => ("ReplayedBeansModel", "figures", "I", false)
  | 26 => ("ReplayedBeansModel", "amount", "I", false)
  | 27 => ("ReplayedBeansModel", "minus", "Z", false)
  | 28 => ("ReplayedBeansModel", "property", "I", false)
  | 29 => ("ReplayedBeansModel", "propertyPlace", "I", false)
  | 30 => ("ReplayedBeansModel", "begin", "I", false)
  | 31 => ("ReplayedBeansModel", "mark", "I", false)
  | 32 => ("ReplayedBeansModel", "outermost", "I", false)
  | 33 => ("ReplayedBeansModel", "named", "[I", true)
  | 34 => ("ReplayedBeansModel", "failed", "I", false)
  | _ => ("ReplayedBeansModel", "failure", "[I", true)
def tcl : List vw_C := [("ReplayedBeans", tF_0, 8), ("ReplayedBeans$Kinds", tF_1, 6), ("ReplayedBeans$Beans", tF_2, 5), ("ReplayedBeans$Reach", tF_3, 4), ("ReplayedBeans$Pairing", tF_4, 5), ("ReplayedBeans$Text", tF_5, 2), ("ReplayedBeans$Writer", tF_6, 11), ("ReplayedBeans$Grammar", tF_7, 4), ("ReplayedBeans$Replay", tF_8, 6), ("ReplayedBeansModel", tF_9, 36)]
def tdf (ci : Nat) : List Value := match ci with
  | 0 => [.null, .null, .null, .null, .null, .null, .null, .null]
  | 1 => [.null, .null, .null, .null, .null, .null]
  | 2 => [.null, .null, .null, .null, .int 0]
  | 3 => [.null, .null, .null, .int 0]
  | 4 => [.null, .null, .null, .null, .int 0]
  | 5 => [.null, .int 0]
  | 6 => [.null, .null, .null, .null, .null, .null, .null, .int 0, .int 0, .int 0, .int 0]
  | 7 => [.null, .int 0, .int 0, .int 0]
  | 8 => [.null, .null, .null, .null, .int 0, .int 0]
  | 9 => [.null, .null, .null, .null, .null, .null, .int 0, .null, .null, .null, .null, .int 0, .null, .int 0, .null, .null, .null, .null, .null, .int 0, .int 0, .null, .null, .null, .int 0, .int 0, .int 0, .int 0, .int 0, .int 0, .int 0, .int 0, .int 0, .null, .int 0, .null]
  | _ => []
def tnF : List mm_F := [("ReplayedBeans", 90, "ReplayedBeans$Beans", "size", "I", "ReplayedBeans"), ("ReplayedBeans$Writer", 80, "ReplayedBeans$Reach", "order", "[I", "ReplayedBeans"), ("ReplayedBeans$Writer", 77, "ReplayedBeans$Reach", "found", "I", "ReplayedBeans"), ("ReplayedBeans", 114, "ReplayedBeans$Reach", "found", "I", "ReplayedBeans"), ("ReplayedBeans$Writer", 41, "ReplayedBeans$Text", "size", "I", "ReplayedBeans"), ("ReplayedBeans$Grammar", 25, "ReplayedBeans$Text", "size", "I", "ReplayedBeans"), ("ReplayedBeans", 141, "ReplayedBeans$Text", "size", "I", "ReplayedBeans"), ("ReplayedBeans", 135, "ReplayedBeans$Writer", "draft", "LReplayedBeans$Text;", "ReplayedBeans"), ("ReplayedBeans", 128, "ReplayedBeans$Writer", "tooDeep", "Z", "ReplayedBeans"), ("ReplayedBeans", 132, "ReplayedBeans$Writer", "tooLong", "Z", "ReplayedBeans"), ("ReplayedBeans", 155, "ReplayedBeans$Replay", "failed", "I", "ReplayedBeans")]
def tnM : List mm_N := [("ReplayedBeans", 43, ⟨"ReplayedBeans$Text", "<init>", "()V"⟩, "ReplayedBeans"), ("ReplayedBeans$Writer", 11, ⟨"ReplayedBeans$Text", "<init>", "()V"⟩, "ReplayedBeans")]
def tws_0 : List Cond := [(Cond.initialized "ReplayedBeansLaw"), (Cond.initialized "ReplayedBeans"), (Cond.initialized "ReplayedBeans$Kinds"), (Cond.initialized "java/util/Arrays"), (Cond.initialized "ReplayedBeans$Beans"), (Cond.initialized "ReplayedBeans$Reach"), (Cond.initialized "ReplayedBeans$Pairing"), (Cond.initialized "ReplayedBeans$Text"), (Cond.initialized "ReplayedBeans$Writer"), (Cond.initialized "ReplayedBeans$Grammar"), (Cond.initialized "ReplayedBeans$Replay"), (Cond.initialized "ReplayedBeansModel"), (Cond.initialized "java/lang/System"), (Cond.classLink "ReplayedBeansLaw" 7 "ReplayedBeans"), (Cond.instantiable "ReplayedBeans" 8), (Cond.methodLink "ReplayedBeansLaw" 9 ⟨"ReplayedBeans", "<init>", "()V"⟩), (Cond.instanceMethod ⟨"ReplayedBeans", "<init>", "()V"⟩), (Cond.methodLink "ReplayedBeans" 1 ⟨"java/lang/Object", "<init>", "()V"⟩), (Cond.instanceMethod ⟨"java/lang/Object", "<init>", "()V"⟩), (Cond.classLink "ReplayedBeans" 7 "ReplayedBeans$Kinds"), (Cond.instantiable "ReplayedBeans$Kinds" 6), (Cond.methodLink "ReplayedBeans" 9 ⟨"ReplayedBeans$Kinds", "<init>", "()V"⟩), (Cond.instanceMethod ⟨"ReplayedBeans$Kinds", "<init>", "()V"⟩), (Cond.methodLink "ReplayedBeans$Kinds" 3 ⟨"java/lang/Object", "<init>", "()V"⟩), (Cond.methodLink "ReplayedBeans$Kinds" 31 ⟨"java/util/Arrays", "fill", "([II)V"⟩), (Cond.static ⟨"java/util/Arrays", "fill", "([II)V"⟩), (Cond.fieldLink "ReplayedBeans$Kinds" 9 "ReplayedBeans$Kinds" "defined" "[Z"), (Cond.fieldLink "ReplayedBeans$Kinds" 15 "ReplayedBeans$Kinds" "numbers" "[I"), (Cond.fieldLink "ReplayedBeans$Kinds" 19 "ReplayedBeans$Kinds" "links" "[I"), (Cond.fieldLink "ReplayedBeans$Kinds" 22 "ReplayedBeans$Kinds" "first" "[I"), (Cond.fieldLink "ReplayedBeans$Kinds" 25 "ReplayedBeans$Kinds" "least" "[I"), (Cond.fieldLink "ReplayedBeans$Kinds" 28 "ReplayedBeans$Kinds" "greatest" "[I"), (Cond.laysFinal "ReplayedBeans$Kinds" "ReplayedBeans$Kinds" "defined" "[Z"), (Cond.laysFinal "ReplayedBeans$Kinds" "ReplayedBeans$Kinds" "numbers" "[I"), (Cond.laysFinal "ReplayedBeans$Kinds" "ReplayedBeans$Kinds" "links" "[I"), (Cond.laysFinal "ReplayedBeans$Kinds" "ReplayedBeans$Kinds" "first" "[I"), (Cond.laysFinal "ReplayedBeans$Kinds" "ReplayedBeans$Kinds" "least" "[I"), (Cond.laysFinal "ReplayedBeans$Kinds" "ReplayedBeans$Kinds" "greatest" "[I"), (Cond.arrayClass FieldType.boolean), (Cond.arrayClass FieldType.int), (Cond.classLink "ReplayedBeans" 16 "ReplayedBeans$Beans"), (Cond.instantiable "ReplayedBeans$Beans" 5), (Cond.methodLink "ReplayedBeans" 18 ⟨"ReplayedBeans$Beans", "<init>", "(LReplayedBeans$Kinds;)V"⟩), (Cond.instanceMethod ⟨"ReplayedBeans$Beans", "<init>", "(LReplayedBeans$Kinds;)V"⟩), (Cond.methodLink "ReplayedBeans$Beans" 3 ⟨"java/lang/Object", "<init>", "()V"⟩), (Cond.fieldLink "ReplayedBeans$Beans" 21 "ReplayedBeans$Beans" "kinds" "LReplayedBeans$Kinds;"), (Cond.fieldLink "ReplayedBeans$Beans" 9 "ReplayedBeans$Beans" "kindRow" "[I"), (Cond.fieldLink "ReplayedBeans$Beans" 15 "ReplayedBeans$Beans" "numberRow" "[I"), (Cond.fieldLink "ReplayedBeans$Beans" 18 "ReplayedBeans$Beans" "linkRow" "[I"), (Cond.fieldLink "ReplayedBeans$Beans" 25 "ReplayedBeans$Beans" "size" "I"), (Cond.laysFinal "ReplayedBeans$Beans" "ReplayedBeans$Beans" "kinds" "LReplayedBeans$Kinds;"), (Cond.laysFinal "ReplayedBeans$Beans" "ReplayedBeans$Beans" "kindRow" "[I"), (Cond.laysFinal "ReplayedBeans$Beans" "ReplayedBeans$Beans" "numberRow" "[I"), (Cond.laysFinal "ReplayedBeans$Beans" "ReplayedBeans$Beans" "linkRow" "[I"), (Cond.lays "ReplayedBeans$Beans" "ReplayedBeans$Beans" "size" "I"), (Cond.classLink "ReplayedBeans" 25 "ReplayedBeans$Reach"), (Cond.instantiable "ReplayedBeans$Reach" 4), (Cond.methodLink "ReplayedBeans" 27 ⟨"ReplayedBeans$Reach", "<init>", "(LReplayedBeans$Beans;)V"⟩), (Cond.instanceMethod ⟨"ReplayedBeans$Reach", "<init>", "(LReplayedBeans$Beans;)V"⟩), (Cond.methodLink "ReplayedBeans$Reach" 3 ⟨"java/lang/Object", "<init>", "()V"⟩)]
def tws_1 : List Cond := [(Cond.fieldLink "ReplayedBeans$Reach" 19 "ReplayedBeans$Reach" "beans" "LReplayedBeans$Beans;"), (Cond.fieldLink "ReplayedBeans$Reach" 9 "ReplayedBeans$Reach" "order" "[I"), (Cond.fieldLink "ReplayedBeans$Reach" 15 "ReplayedBeans$Reach" "seen" "[Z"), (Cond.fieldLink "ReplayedBeans$Reach" 23 "ReplayedBeans$Reach" "found" "I"), (Cond.laysFinal "ReplayedBeans$Reach" "ReplayedBeans$Reach" "beans" "LReplayedBeans$Beans;"), (Cond.laysFinal "ReplayedBeans$Reach" "ReplayedBeans$Reach" "order" "[I"), (Cond.laysFinal "ReplayedBeans$Reach" "ReplayedBeans$Reach" "seen" "[Z"), (Cond.lays "ReplayedBeans$Reach" "ReplayedBeans$Reach" "found" "I"), (Cond.classLink "ReplayedBeans" 34 "ReplayedBeans$Pairing"), (Cond.instantiable "ReplayedBeans$Pairing" 5), (Cond.methodLink "ReplayedBeans" 36 ⟨"ReplayedBeans$Pairing", "<init>", "(LReplayedBeans$Beans;)V"⟩), (Cond.instanceMethod ⟨"ReplayedBeans$Pairing", "<init>", "(LReplayedBeans$Beans;)V"⟩), (Cond.methodLink "ReplayedBeans$Pairing" 3 ⟨"java/lang/Object", "<init>", "()V"⟩), (Cond.fieldLink "ReplayedBeans$Pairing" 21 "ReplayedBeans$Pairing" "beans" "LReplayedBeans$Beans;"), (Cond.fieldLink "ReplayedBeans$Pairing" 9 "ReplayedBeans$Pairing" "order" "[I"), (Cond.fieldLink "ReplayedBeans$Pairing" 15 "ReplayedBeans$Pairing" "rightOf" "[I"), (Cond.fieldLink "ReplayedBeans$Pairing" 18 "ReplayedBeans$Pairing" "leftOf" "[I"), (Cond.fieldLink "ReplayedBeans$Pairing" 37 "ReplayedBeans$Pairing" "paired" "I"), (Cond.laysFinal "ReplayedBeans$Pairing" "ReplayedBeans$Pairing" "beans" "LReplayedBeans$Beans;"), (Cond.laysFinal "ReplayedBeans$Pairing" "ReplayedBeans$Pairing" "order" "[I"), (Cond.laysFinal "ReplayedBeans$Pairing" "ReplayedBeans$Pairing" "rightOf" "[I"), (Cond.laysFinal "ReplayedBeans$Pairing" "ReplayedBeans$Pairing" "leftOf" "[I"), (Cond.lays "ReplayedBeans$Pairing" "ReplayedBeans$Pairing" "paired" "I"), (Cond.classLink "ReplayedBeans" 41 "ReplayedBeans$Text"), (Cond.instantiable "ReplayedBeans$Text" 2), (Cond.instanceMethod ⟨"ReplayedBeans$Text", "<init>", "()V"⟩), (Cond.methodLink "ReplayedBeans$Text" 3 ⟨"java/lang/Object", "<init>", "()V"⟩), (Cond.fieldLink "ReplayedBeans$Text" 9 "ReplayedBeans$Text" "characters" "[C"), (Cond.fieldLink "ReplayedBeans$Text" 15 "ReplayedBeans$Text" "size" "I"), (Cond.laysFinal "ReplayedBeans$Text" "ReplayedBeans$Text" "characters" "[C"), (Cond.lays "ReplayedBeans$Text" "ReplayedBeans$Text" "size" "I"), (Cond.arrayClass FieldType.char), (Cond.classLink "ReplayedBeans" 48 "ReplayedBeans$Writer"), (Cond.instantiable "ReplayedBeans$Writer" 11), (Cond.methodLink "ReplayedBeans" 50 ⟨"ReplayedBeans$Writer", "<init>", "(LReplayedBeans$Kinds;LReplayedBeans$Beans;LReplayedBeans$Reach;)V"⟩), (Cond.instanceMethod ⟨"ReplayedBeans$Writer", "<init>", "(LReplayedBeans$Kinds;LReplayedBeans$Beans;LReplayedBeans$Reach;)V"⟩), (Cond.methodLink "ReplayedBeans$Writer" 3 ⟨"java/lang/Object", "<init>", "()V"⟩), (Cond.classLink "ReplayedBeans$Writer" 9 "ReplayedBeans$Text"), (Cond.fieldLink "ReplayedBeans$Writer" 29 "ReplayedBeans$Writer" "kinds" "LReplayedBeans$Kinds;"), (Cond.fieldLink "ReplayedBeans$Writer" 33 "ReplayedBeans$Writer" "beans" "LReplayedBeans$Beans;"), (Cond.fieldLink "ReplayedBeans$Writer" 37 "ReplayedBeans$Writer" "reach" "LReplayedBeans$Reach;"), (Cond.fieldLink "ReplayedBeans$Writer" 12 "ReplayedBeans$Writer" "draft" "LReplayedBeans$Text;"), (Cond.fieldLink "ReplayedBeans$Writer" 18 "ReplayedBeans$Writer" "linksTo" "[I"), (Cond.fieldLink "ReplayedBeans$Writer" 22 "ReplayedBeans$Writer" "idOf" "[I"), (Cond.fieldLink "ReplayedBeans$Writer" 25 "ReplayedBeans$Writer" "begun" "[Z"), (Cond.fieldLink "ReplayedBeans$Writer" 45 "ReplayedBeans$Writer" "root" "I"), (Cond.fieldLink "ReplayedBeans$Writer" 48 "ReplayedBeans$Writer" "ids" "I"), (Cond.fieldLink "ReplayedBeans$Writer" 51 "ReplayedBeans$Writer" "tooDeep" "Z"), (Cond.fieldLink "ReplayedBeans$Writer" 55 "ReplayedBeans$Writer" "tooLong" "Z"), (Cond.laysFinal "ReplayedBeans$Writer" "ReplayedBeans$Writer" "kinds" "LReplayedBeans$Kinds;"), (Cond.laysFinal "ReplayedBeans$Writer" "ReplayedBeans$Writer" "beans" "LReplayedBeans$Beans;"), (Cond.laysFinal "ReplayedBeans$Writer" "ReplayedBeans$Writer" "reach" "LReplayedBeans$Reach;"), (Cond.laysFinal "ReplayedBeans$Writer" "ReplayedBeans$Writer" "draft" "LReplayedBeans$Text;"), (Cond.laysFinal "ReplayedBeans$Writer" "ReplayedBeans$Writer" "linksTo" "[I"), (Cond.laysFinal "ReplayedBeans$Writer" "ReplayedBeans$Writer" "idOf" "[I"), (Cond.laysFinal "ReplayedBeans$Writer" "ReplayedBeans$Writer" "begun" "[Z"), (Cond.lays "ReplayedBeans$Writer" "ReplayedBeans$Writer" "root" "I"), (Cond.lays "ReplayedBeans$Writer" "ReplayedBeans$Writer" "ids" "I"), (Cond.lays "ReplayedBeans$Writer" "ReplayedBeans$Writer" "tooDeep" "Z"), (Cond.lays "ReplayedBeans$Writer" "ReplayedBeans$Writer" "tooLong" "Z")]
def tws_2 : List Cond := [(Cond.classLink "ReplayedBeans" 57 "ReplayedBeans$Grammar"), (Cond.instantiable "ReplayedBeans$Grammar" 4), (Cond.methodLink "ReplayedBeans" 59 ⟨"ReplayedBeans$Grammar", "<init>", "(LReplayedBeans$Text;)V"⟩), (Cond.instanceMethod ⟨"ReplayedBeans$Grammar", "<init>", "(LReplayedBeans$Text;)V"⟩), (Cond.methodLink "ReplayedBeans$Grammar" 3 ⟨"java/lang/Object", "<init>", "()V"⟩), (Cond.fieldLink "ReplayedBeans$Grammar" 9 "ReplayedBeans$Grammar" "text" "LReplayedBeans$Text;"), (Cond.fieldLink "ReplayedBeans$Grammar" 15 "ReplayedBeans$Grammar" "due" "I"), (Cond.fieldLink "ReplayedBeans$Grammar" 19 "ReplayedBeans$Grammar" "open" "I"), (Cond.fieldLink "ReplayedBeans$Grammar" 22 "ReplayedBeans$Grammar" "digitsLeft" "I"), (Cond.laysFinal "ReplayedBeans$Grammar" "ReplayedBeans$Grammar" "text" "LReplayedBeans$Text;"), (Cond.lays "ReplayedBeans$Grammar" "ReplayedBeans$Grammar" "due" "I"), (Cond.lays "ReplayedBeans$Grammar" "ReplayedBeans$Grammar" "open" "I"), (Cond.lays "ReplayedBeans$Grammar" "ReplayedBeans$Grammar" "digitsLeft" "I"), (Cond.classLink "ReplayedBeans" 66 "ReplayedBeans$Replay"), (Cond.instantiable "ReplayedBeans$Replay" 6), (Cond.methodLink "ReplayedBeans" 68 ⟨"ReplayedBeans$Replay", "<init>", "(LReplayedBeans$Beans;LReplayedBeans$Text;)V"⟩), (Cond.instanceMethod ⟨"ReplayedBeans$Replay", "<init>", "(LReplayedBeans$Beans;LReplayedBeans$Text;)V"⟩), (Cond.methodLink "ReplayedBeans$Replay" 3 ⟨"java/lang/Object", "<init>", "()V"⟩), (Cond.fieldLink "ReplayedBeans$Replay" 18 "ReplayedBeans$Replay" "beans" "LReplayedBeans$Beans;"), (Cond.fieldLink "ReplayedBeans$Replay" 22 "ReplayedBeans$Replay" "text" "LReplayedBeans$Text;"), (Cond.fieldLink "ReplayedBeans$Replay" 9 "ReplayedBeans$Replay" "named" "[I"), (Cond.fieldLink "ReplayedBeans$Replay" 15 "ReplayedBeans$Replay" "failedPlaces" "[I"), (Cond.fieldLink "ReplayedBeans$Replay" 32 "ReplayedBeans$Replay" "failed" "I"), (Cond.fieldLink "ReplayedBeans$Replay" 36 "ReplayedBeans$Replay" "place" "I"), (Cond.laysFinal "ReplayedBeans$Replay" "ReplayedBeans$Replay" "beans" "LReplayedBeans$Beans;"), (Cond.laysFinal "ReplayedBeans$Replay" "ReplayedBeans$Replay" "text" "LReplayedBeans$Text;"), (Cond.laysFinal "ReplayedBeans$Replay" "ReplayedBeans$Replay" "named" "[I"), (Cond.laysFinal "ReplayedBeans$Replay" "ReplayedBeans$Replay" "failedPlaces" "[I"), (Cond.lays "ReplayedBeans$Replay" "ReplayedBeans$Replay" "failed" "I"), (Cond.lays "ReplayedBeans$Replay" "ReplayedBeans$Replay" "place" "I"), (Cond.fieldLink "ReplayedBeans" 10 "ReplayedBeans" "kinds" "LReplayedBeans$Kinds;"), (Cond.fieldLink "ReplayedBeans" 21 "ReplayedBeans" "beans" "LReplayedBeans$Beans;"), (Cond.fieldLink "ReplayedBeans" 30 "ReplayedBeans" "reach" "LReplayedBeans$Reach;"), (Cond.fieldLink "ReplayedBeans" 37 "ReplayedBeans" "pairing" "LReplayedBeans$Pairing;"), (Cond.fieldLink "ReplayedBeans" 44 "ReplayedBeans" "text" "LReplayedBeans$Text;"), (Cond.fieldLink "ReplayedBeans" 53 "ReplayedBeans" "writer" "LReplayedBeans$Writer;"), (Cond.fieldLink "ReplayedBeans" 62 "ReplayedBeans" "grammar" "LReplayedBeans$Grammar;"), (Cond.fieldLink "ReplayedBeans" 71 "ReplayedBeans" "replay" "LReplayedBeans$Replay;"), (Cond.laysFinal "ReplayedBeans" "ReplayedBeans" "kinds" "LReplayedBeans$Kinds;"), (Cond.laysFinal "ReplayedBeans" "ReplayedBeans" "beans" "LReplayedBeans$Beans;"), (Cond.laysFinal "ReplayedBeans" "ReplayedBeans" "reach" "LReplayedBeans$Reach;"), (Cond.laysFinal "ReplayedBeans" "ReplayedBeans" "pairing" "LReplayedBeans$Pairing;"), (Cond.laysFinal "ReplayedBeans" "ReplayedBeans" "text" "LReplayedBeans$Text;"), (Cond.laysFinal "ReplayedBeans" "ReplayedBeans" "writer" "LReplayedBeans$Writer;"), (Cond.laysFinal "ReplayedBeans" "ReplayedBeans" "grammar" "LReplayedBeans$Grammar;"), (Cond.laysFinal "ReplayedBeans" "ReplayedBeans" "replay" "LReplayedBeans$Replay;"), (Cond.methodLink "ReplayedBeansLaw" 13 ⟨"ReplayedBeans", "define", "(III)Z"⟩), (Cond.instanceMethod ⟨"ReplayedBeans", "define", "(III)Z"⟩), (Cond.selects "ReplayedBeans" ⟨"ReplayedBeans", "define", "(III)Z"⟩ ⟨"ReplayedBeans", "define", "(III)Z"⟩), (Cond.methodLink "ReplayedBeans" 75 ⟨"ReplayedBeans$Kinds", "introduce", "(III)Z"⟩), (Cond.instanceMethod ⟨"ReplayedBeans$Kinds", "introduce", "(III)Z"⟩), (Cond.selects "ReplayedBeans$Kinds" ⟨"ReplayedBeans$Kinds", "introduce", "(III)Z"⟩ ⟨"ReplayedBeans$Kinds", "introduce", "(III)Z"⟩), (Cond.methodLink "ReplayedBeansLaw" 18 ⟨"ReplayedBeans", "values", "(IIIII)Z"⟩), (Cond.instanceMethod ⟨"ReplayedBeans", "values", "(IIIII)Z"⟩), (Cond.selects "ReplayedBeans" ⟨"ReplayedBeans", "values", "(IIIII)Z"⟩ ⟨"ReplayedBeans", "values", "(IIIII)Z"⟩), (Cond.methodLink "ReplayedBeans" 79 ⟨"ReplayedBeans$Kinds", "bound", "(IIIII)Z"⟩), (Cond.instanceMethod ⟨"ReplayedBeans$Kinds", "bound", "(IIIII)Z"⟩), (Cond.selects "ReplayedBeans$Kinds" ⟨"ReplayedBeans$Kinds", "bound", "(IIIII)Z"⟩ ⟨"ReplayedBeans$Kinds", "bound", "(IIIII)Z"⟩), (Cond.methodLink "ReplayedBeans$Kinds" 37 ⟨"ReplayedBeans$Kinds", "hasNumber", "(II)Z"⟩), (Cond.instanceMethod ⟨"ReplayedBeans$Kinds", "hasNumber", "(II)Z"⟩)]
def tws_3 : List Cond := [(Cond.selects "ReplayedBeans$Kinds" ⟨"ReplayedBeans$Kinds", "hasNumber", "(II)Z"⟩ ⟨"ReplayedBeans$Kinds", "hasNumber", "(II)Z"⟩), (Cond.constant "ReplayedBeans$Kinds" 41 (-99999 : Int32)), (Cond.constant "ReplayedBeans$Kinds" 42 (99999 : Int32)), (Cond.methodLink "ReplayedBeansLaw" 23 ⟨"ReplayedBeans", "make", "(I)I"⟩), (Cond.instanceMethod ⟨"ReplayedBeans", "make", "(I)I"⟩), (Cond.selects "ReplayedBeans" ⟨"ReplayedBeans", "make", "(I)I"⟩ ⟨"ReplayedBeans", "make", "(I)I"⟩), (Cond.methodLink "ReplayedBeans" 83 ⟨"ReplayedBeans$Beans", "add", "(I)I"⟩), (Cond.instanceMethod ⟨"ReplayedBeans$Beans", "add", "(I)I"⟩), (Cond.selects "ReplayedBeans$Beans" ⟨"ReplayedBeans$Beans", "add", "(I)I"⟩ ⟨"ReplayedBeans$Beans", "add", "(I)I"⟩), (Cond.methodLink "ReplayedBeans$Beans" 29 ⟨"ReplayedBeans$Kinds", "isDefined", "(I)Z"⟩), (Cond.instanceMethod ⟨"ReplayedBeans$Kinds", "isDefined", "(I)Z"⟩), (Cond.selects "ReplayedBeans$Kinds" ⟨"ReplayedBeans$Kinds", "isDefined", "(I)Z"⟩ ⟨"ReplayedBeans$Kinds", "isDefined", "(I)Z"⟩), (Cond.methodLink "ReplayedBeans$Beans" 35 ⟨"ReplayedBeans$Kinds", "defaultOf", "(II)I"⟩), (Cond.instanceMethod ⟨"ReplayedBeans$Kinds", "defaultOf", "(II)I"⟩), (Cond.selects "ReplayedBeans$Kinds" ⟨"ReplayedBeans$Kinds", "defaultOf", "(II)I"⟩ ⟨"ReplayedBeans$Kinds", "defaultOf", "(II)I"⟩), (Cond.methodLink "ReplayedBeansLaw" 28 ⟨"ReplayedBeans", "clear", "()V"⟩), (Cond.instanceMethod ⟨"ReplayedBeans", "clear", "()V"⟩), (Cond.selects "ReplayedBeans" ⟨"ReplayedBeans", "clear", "()V"⟩ ⟨"ReplayedBeans", "clear", "()V"⟩), (Cond.methodLink "ReplayedBeans" 87 ⟨"ReplayedBeans$Beans", "removeAll", "()V"⟩), (Cond.instanceMethod ⟨"ReplayedBeans$Beans", "removeAll", "()V"⟩), (Cond.selects "ReplayedBeans$Beans" ⟨"ReplayedBeans$Beans", "removeAll", "()V"⟩ ⟨"ReplayedBeans$Beans", "removeAll", "()V"⟩), (Cond.methodLink "ReplayedBeansLaw" 32 ⟨"ReplayedBeans", "count", "()I"⟩), (Cond.instanceMethod ⟨"ReplayedBeans", "count", "()I"⟩), (Cond.selects "ReplayedBeans" ⟨"ReplayedBeans", "count", "()I"⟩ ⟨"ReplayedBeans", "count", "()I"⟩), (Cond.methodLink "ReplayedBeansLaw" 37 ⟨"ReplayedBeans", "kind", "(I)I"⟩), (Cond.instanceMethod ⟨"ReplayedBeans", "kind", "(I)I"⟩), (Cond.selects "ReplayedBeans" ⟨"ReplayedBeans", "kind", "(I)I"⟩ ⟨"ReplayedBeans", "kind", "(I)I"⟩), (Cond.methodLink "ReplayedBeans" 94 ⟨"ReplayedBeans$Beans", "kindOf", "(I)I"⟩), (Cond.instanceMethod ⟨"ReplayedBeans$Beans", "kindOf", "(I)I"⟩), (Cond.selects "ReplayedBeans$Beans" ⟨"ReplayedBeans$Beans", "kindOf", "(I)I"⟩ ⟨"ReplayedBeans$Beans", "kindOf", "(I)I"⟩), (Cond.methodLink "ReplayedBeans$Beans" 39 ⟨"ReplayedBeans$Beans", "isThere", "(I)Z"⟩), (Cond.instanceMethod ⟨"ReplayedBeans$Beans", "isThere", "(I)Z"⟩), (Cond.selects "ReplayedBeans$Beans" ⟨"ReplayedBeans$Beans", "isThere", "(I)Z"⟩ ⟨"ReplayedBeans$Beans", "isThere", "(I)Z"⟩), (Cond.methodLink "ReplayedBeansLaw" 41 ⟨"ReplayedBeans", "setNumber", "(III)Z"⟩), (Cond.instanceMethod ⟨"ReplayedBeans", "setNumber", "(III)Z"⟩), (Cond.selects "ReplayedBeans" ⟨"ReplayedBeans", "setNumber", "(III)Z"⟩ ⟨"ReplayedBeans", "setNumber", "(III)Z"⟩), (Cond.methodLink "ReplayedBeans" 97 ⟨"ReplayedBeans$Beans", "putNumber", "(III)Z"⟩), (Cond.instanceMethod ⟨"ReplayedBeans$Beans", "putNumber", "(III)Z"⟩), (Cond.selects "ReplayedBeans$Beans" ⟨"ReplayedBeans$Beans", "putNumber", "(III)Z"⟩ ⟨"ReplayedBeans$Beans", "putNumber", "(III)Z"⟩), (Cond.methodLink "ReplayedBeans$Beans" 42 ⟨"ReplayedBeans$Beans", "kindOf", "(I)I"⟩), (Cond.methodLink "ReplayedBeans$Beans" 46 ⟨"ReplayedBeans$Kinds", "allows", "(III)Z"⟩), (Cond.instanceMethod ⟨"ReplayedBeans$Kinds", "allows", "(III)Z"⟩), (Cond.selects "ReplayedBeans$Kinds" ⟨"ReplayedBeans$Kinds", "allows", "(III)Z"⟩ ⟨"ReplayedBeans$Kinds", "allows", "(III)Z"⟩), (Cond.methodLink "ReplayedBeansLaw" 45 ⟨"ReplayedBeans", "setLink", "(III)Z"⟩), (Cond.instanceMethod ⟨"ReplayedBeans", "setLink", "(III)Z"⟩), (Cond.selects "ReplayedBeans" ⟨"ReplayedBeans", "setLink", "(III)Z"⟩ ⟨"ReplayedBeans", "setLink", "(III)Z"⟩), (Cond.methodLink "ReplayedBeans" 100 ⟨"ReplayedBeans$Beans", "putLink", "(III)Z"⟩), (Cond.instanceMethod ⟨"ReplayedBeans$Beans", "putLink", "(III)Z"⟩), (Cond.selects "ReplayedBeans$Beans" ⟨"ReplayedBeans$Beans", "putLink", "(III)Z"⟩ ⟨"ReplayedBeans$Beans", "putLink", "(III)Z"⟩), (Cond.methodLink "ReplayedBeans$Beans" 50 ⟨"ReplayedBeans$Kinds", "hasLink", "(II)Z"⟩), (Cond.instanceMethod ⟨"ReplayedBeans$Kinds", "hasLink", "(II)Z"⟩), (Cond.selects "ReplayedBeans$Kinds" ⟨"ReplayedBeans$Kinds", "hasLink", "(II)Z"⟩ ⟨"ReplayedBeans$Kinds", "hasLink", "(II)Z"⟩), (Cond.methodLink "ReplayedBeansLaw" 49 ⟨"ReplayedBeans", "number", "(II)I"⟩), (Cond.instanceMethod ⟨"ReplayedBeans", "number", "(II)I"⟩), (Cond.selects "ReplayedBeans" ⟨"ReplayedBeans", "number", "(II)I"⟩ ⟨"ReplayedBeans", "number", "(II)I"⟩), (Cond.methodLink "ReplayedBeans" 103 ⟨"ReplayedBeans$Beans", "numberOf", "(II)I"⟩), (Cond.instanceMethod ⟨"ReplayedBeans$Beans", "numberOf", "(II)I"⟩), (Cond.selects "ReplayedBeans$Beans" ⟨"ReplayedBeans$Beans", "numberOf", "(II)I"⟩ ⟨"ReplayedBeans$Beans", "numberOf", "(II)I"⟩), (Cond.methodLink "ReplayedBeans$Beans" 54 ⟨"ReplayedBeans$Kinds", "hasNumber", "(II)Z"⟩), (Cond.methodLink "ReplayedBeansLaw" 54 ⟨"ReplayedBeans", "link", "(II)I"⟩)]
def tws_4 : List Cond := [(Cond.instanceMethod ⟨"ReplayedBeans", "link", "(II)I"⟩), (Cond.selects "ReplayedBeans" ⟨"ReplayedBeans", "link", "(II)I"⟩ ⟨"ReplayedBeans", "link", "(II)I"⟩), (Cond.methodLink "ReplayedBeans" 107 ⟨"ReplayedBeans$Beans", "linkOf", "(II)I"⟩), (Cond.instanceMethod ⟨"ReplayedBeans$Beans", "linkOf", "(II)I"⟩), (Cond.selects "ReplayedBeans$Beans" ⟨"ReplayedBeans$Beans", "linkOf", "(II)I"⟩ ⟨"ReplayedBeans$Beans", "linkOf", "(II)I"⟩), (Cond.methodLink "ReplayedBeansLaw" 58 ⟨"ReplayedBeans", "reachable", "(I)I"⟩), (Cond.instanceMethod ⟨"ReplayedBeans", "reachable", "(I)I"⟩), (Cond.selects "ReplayedBeans" ⟨"ReplayedBeans", "reachable", "(I)I"⟩ ⟨"ReplayedBeans", "reachable", "(I)I"⟩), (Cond.methodLink "ReplayedBeans" 110 ⟨"ReplayedBeans$Reach", "spreadFrom", "(I)V"⟩), (Cond.instanceMethod ⟨"ReplayedBeans$Reach", "spreadFrom", "(I)V"⟩), (Cond.selects "ReplayedBeans$Reach" ⟨"ReplayedBeans$Reach", "spreadFrom", "(I)V"⟩ ⟨"ReplayedBeans$Reach", "spreadFrom", "(I)V"⟩), (Cond.methodLink "ReplayedBeans$Reach" 27 ⟨"ReplayedBeans$Reach", "visit", "(I)V"⟩), (Cond.instanceMethod ⟨"ReplayedBeans$Reach", "visit", "(I)V"⟩), (Cond.methodLink "ReplayedBeans$Reach" 37 ⟨"ReplayedBeans$Beans", "isThere", "(I)Z"⟩), (Cond.methodLink "ReplayedBeans$Reach" 31 ⟨"ReplayedBeans$Beans", "linkOf", "(II)I"⟩), (Cond.methodLink "ReplayedBeansLaw" 62 ⟨"ReplayedBeans", "alike", "(II)Z"⟩), (Cond.instanceMethod ⟨"ReplayedBeans", "alike", "(II)Z"⟩), (Cond.selects "ReplayedBeans" ⟨"ReplayedBeans", "alike", "(II)Z"⟩ ⟨"ReplayedBeans", "alike", "(II)Z"⟩), (Cond.methodLink "ReplayedBeans" 117 ⟨"ReplayedBeans$Pairing", "pairsUp", "(II)Z"⟩), (Cond.instanceMethod ⟨"ReplayedBeans$Pairing", "pairsUp", "(II)Z"⟩), (Cond.selects "ReplayedBeans$Pairing" ⟨"ReplayedBeans$Pairing", "pairsUp", "(II)Z"⟩ ⟨"ReplayedBeans$Pairing", "pairsUp", "(II)Z"⟩), (Cond.methodLink "ReplayedBeans$Pairing" 25 ⟨"ReplayedBeans$Beans", "isThere", "(I)Z"⟩), (Cond.methodLink "ReplayedBeans$Pairing" 31 ⟨"java/util/Arrays", "fill", "([II)V"⟩), (Cond.methodLink "ReplayedBeans$Pairing" 41 ⟨"ReplayedBeans$Pairing", "join", "(II)Z"⟩), (Cond.instanceMethod ⟨"ReplayedBeans$Pairing", "join", "(II)Z"⟩), (Cond.methodLink "ReplayedBeans$Pairing" 55 ⟨"ReplayedBeans$Beans", "sameKindAndNumbers", "(II)Z"⟩), (Cond.instanceMethod ⟨"ReplayedBeans$Beans", "sameKindAndNumbers", "(II)Z"⟩), (Cond.selects "ReplayedBeans$Beans" ⟨"ReplayedBeans$Beans", "sameKindAndNumbers", "(II)Z"⟩ ⟨"ReplayedBeans$Beans", "sameKindAndNumbers", "(II)Z"⟩), (Cond.methodLink "ReplayedBeans$Beans" 57 ⟨"ReplayedBeans$Beans", "numberOf", "(II)I"⟩), (Cond.methodLink "ReplayedBeans$Pairing" 45 ⟨"ReplayedBeans$Pairing", "linksPairUp", "(II)Z"⟩), (Cond.instanceMethod ⟨"ReplayedBeans$Pairing", "linksPairUp", "(II)Z"⟩), (Cond.methodLink "ReplayedBeans$Pairing" 48 ⟨"ReplayedBeans$Beans", "linkOf", "(II)I"⟩), (Cond.methodLink "ReplayedBeans$Pairing" 52 ⟨"ReplayedBeans$Pairing", "joinOrBothNone", "(II)Z"⟩), (Cond.instanceMethod ⟨"ReplayedBeans$Pairing", "joinOrBothNone", "(II)Z"⟩), (Cond.methodLink "ReplayedBeansLaw" 67 ⟨"ReplayedBeans", "write", "(I)I"⟩), (Cond.instanceMethod ⟨"ReplayedBeans", "write", "(I)I"⟩), (Cond.selects "ReplayedBeans" ⟨"ReplayedBeans", "write", "(I)I"⟩ ⟨"ReplayedBeans", "write", "(I)I"⟩), (Cond.methodLink "ReplayedBeans" 121 ⟨"ReplayedBeans$Beans", "isThere", "(I)Z"⟩), (Cond.methodLink "ReplayedBeans" 125 ⟨"ReplayedBeans$Writer", "draftFrom", "(I)V"⟩), (Cond.instanceMethod ⟨"ReplayedBeans$Writer", "draftFrom", "(I)V"⟩), (Cond.selects "ReplayedBeans$Writer" ⟨"ReplayedBeans$Writer", "draftFrom", "(I)V"⟩ ⟨"ReplayedBeans$Writer", "draftFrom", "(I)V"⟩), (Cond.methodLink "ReplayedBeans$Writer" 58 ⟨"ReplayedBeans$Writer", "countLinks", "()V"⟩), (Cond.instanceMethod ⟨"ReplayedBeans$Writer", "countLinks", "()V"⟩), (Cond.methodLink "ReplayedBeans$Writer" 65 ⟨"java/util/Arrays", "fill", "([II)V"⟩), (Cond.methodLink "ReplayedBeans$Writer" 71 ⟨"ReplayedBeans$Reach", "spreadFrom", "(I)V"⟩), (Cond.methodLink "ReplayedBeans$Writer" 83 ⟨"ReplayedBeans$Beans", "linkOf", "(II)I"⟩), (Cond.methodLink "ReplayedBeans$Writer" 89 ⟨"ReplayedBeans$Beans", "isThere", "(I)Z"⟩), (Cond.methodLink "ReplayedBeans$Writer" 61 ⟨"ReplayedBeans$Writer", "putObject", "(II)V"⟩), (Cond.instanceMethod ⟨"ReplayedBeans$Writer", "putObject", "(II)V"⟩), (Cond.methodLink "ReplayedBeans$Writer" 93 ⟨"ReplayedBeans$Writer", "put", "(C)V"⟩), (Cond.instanceMethod ⟨"ReplayedBeans$Writer", "put", "(C)V"⟩), (Cond.methodLink "ReplayedBeans$Writer" 122 ⟨"ReplayedBeans$Text", "add", "(C)Z"⟩), (Cond.instanceMethod ⟨"ReplayedBeans$Text", "add", "(C)Z"⟩), (Cond.selects "ReplayedBeans$Text" ⟨"ReplayedBeans$Text", "add", "(C)Z"⟩ ⟨"ReplayedBeans$Text", "add", "(C)Z"⟩), (Cond.methodLink "ReplayedBeans$Writer" 97 ⟨"ReplayedBeans$Beans", "kindOf", "(I)I"⟩), (Cond.methodLink "ReplayedBeans$Writer" 101 ⟨"ReplayedBeans$Writer", "isShared", "(I)Z"⟩), (Cond.instanceMethod ⟨"ReplayedBeans$Writer", "isShared", "(I)Z"⟩), (Cond.methodLink "ReplayedBeans$Writer" 104 ⟨"ReplayedBeans$Writer", "putWhole", "(I)V"⟩), (Cond.instanceMethod ⟨"ReplayedBeans$Writer", "putWhole", "(I)V"⟩), (Cond.methodLink "ReplayedBeans$Writer" 107 ⟨"ReplayedBeans$Writer", "putNumbers", "(I)V"⟩)]
def tws_5 : List Cond := [(Cond.instanceMethod ⟨"ReplayedBeans$Writer", "putNumbers", "(I)V"⟩), (Cond.methodLink "ReplayedBeans$Writer" 114 ⟨"ReplayedBeans$Beans", "numberOf", "(II)I"⟩), (Cond.methodLink "ReplayedBeans$Writer" 117 ⟨"ReplayedBeans$Kinds", "defaultOf", "(II)I"⟩), (Cond.methodLink "ReplayedBeans$Writer" 110 ⟨"ReplayedBeans$Writer", "putLinkStatement", "(III)V"⟩), (Cond.instanceMethod ⟨"ReplayedBeans$Writer", "putLinkStatement", "(III)V"⟩), (Cond.methodLink "ReplayedBeans" 138 ⟨"ReplayedBeans$Text", "copyFrom", "(LReplayedBeans$Text;)V"⟩), (Cond.instanceMethod ⟨"ReplayedBeans$Text", "copyFrom", "(LReplayedBeans$Text;)V"⟩), (Cond.selects "ReplayedBeans$Text" ⟨"ReplayedBeans$Text", "copyFrom", "(LReplayedBeans$Text;)V"⟩ ⟨"ReplayedBeans$Text", "copyFrom", "(LReplayedBeans$Text;)V"⟩), (Cond.methodLink "ReplayedBeans$Text" 19 ⟨"java/lang/System", "arraycopy", "(Ljava/lang/Object;ILjava/lang/Object;II)V"⟩), (Cond.static ⟨"java/lang/System", "arraycopy", "(Ljava/lang/Object;ILjava/lang/Object;II)V"⟩), (Cond.native ⟨"java/lang/System", "arraycopy", "(Ljava/lang/Object;ILjava/lang/Object;II)V"⟩), (Cond.methodLink "ReplayedBeansLaw" 71 ⟨"ReplayedBeans", "type", "(C)Z"⟩), (Cond.instanceMethod ⟨"ReplayedBeans", "type", "(C)Z"⟩), (Cond.selects "ReplayedBeans" ⟨"ReplayedBeans", "type", "(C)Z"⟩ ⟨"ReplayedBeans", "type", "(C)Z"⟩), (Cond.methodLink "ReplayedBeans" 142 ⟨"ReplayedBeans$Text", "add", "(C)Z"⟩), (Cond.methodLink "ReplayedBeansLaw" 76 ⟨"ReplayedBeans", "wipe", "()V"⟩), (Cond.instanceMethod ⟨"ReplayedBeans", "wipe", "()V"⟩), (Cond.selects "ReplayedBeans" ⟨"ReplayedBeans", "wipe", "()V"⟩ ⟨"ReplayedBeans", "wipe", "()V"⟩), (Cond.methodLink "ReplayedBeansLaw" 80 ⟨"ReplayedBeans", "length", "()I"⟩), (Cond.instanceMethod ⟨"ReplayedBeans", "length", "()I"⟩), (Cond.selects "ReplayedBeans" ⟨"ReplayedBeans", "length", "()I"⟩ ⟨"ReplayedBeans", "length", "()I"⟩), (Cond.methodLink "ReplayedBeansLaw" 84 ⟨"ReplayedBeans", "at", "(I)I"⟩), (Cond.instanceMethod ⟨"ReplayedBeans", "at", "(I)I"⟩), (Cond.selects "ReplayedBeans" ⟨"ReplayedBeans", "at", "(I)I"⟩ ⟨"ReplayedBeans", "at", "(I)I"⟩), (Cond.methodLink "ReplayedBeans" 145 ⟨"ReplayedBeans$Text", "codeAt", "(I)I"⟩), (Cond.instanceMethod ⟨"ReplayedBeans$Text", "codeAt", "(I)I"⟩), (Cond.selects "ReplayedBeans$Text" ⟨"ReplayedBeans$Text", "codeAt", "(I)I"⟩ ⟨"ReplayedBeans$Text", "codeAt", "(I)I"⟩), (Cond.methodLink "ReplayedBeansLaw" 88 ⟨"ReplayedBeans", "read", "()I"⟩), (Cond.instanceMethod ⟨"ReplayedBeans", "read", "()I"⟩), (Cond.selects "ReplayedBeans" ⟨"ReplayedBeans", "read", "()I"⟩ ⟨"ReplayedBeans", "read", "()I"⟩), (Cond.methodLink "ReplayedBeans" 148 ⟨"ReplayedBeans$Grammar", "wrongPlace", "()I"⟩), (Cond.instanceMethod ⟨"ReplayedBeans$Grammar", "wrongPlace", "()I"⟩), (Cond.selects "ReplayedBeans$Grammar" ⟨"ReplayedBeans$Grammar", "wrongPlace", "()I"⟩ ⟨"ReplayedBeans$Grammar", "wrongPlace", "()I"⟩), (Cond.methodLink "ReplayedBeans$Grammar" 30 ⟨"ReplayedBeans$Text", "codeAt", "(I)I"⟩), (Cond.methodLink "ReplayedBeans$Grammar" 34 ⟨"ReplayedBeans$Grammar", "dueAfter", "(I)I"⟩), (Cond.instanceMethod ⟨"ReplayedBeans$Grammar", "dueAfter", "(I)I"⟩), (Cond.methodLink "ReplayedBeans$Grammar" 37 ⟨"ReplayedBeans$Grammar", "opened", "()I"⟩), (Cond.instanceMethod ⟨"ReplayedBeans$Grammar", "opened", "()I"⟩), (Cond.methodLink "ReplayedBeans$Grammar" 41 ⟨"ReplayedBeans$Grammar", "idDigits", "()I"⟩), (Cond.instanceMethod ⟨"ReplayedBeans$Grammar", "idDigits", "()I"⟩), (Cond.methodLink "ReplayedBeans$Grammar" 44 ⟨"ReplayedBeans$Grammar", "afterBody", "(I)I"⟩), (Cond.instanceMethod ⟨"ReplayedBeans$Grammar", "afterBody", "(I)I"⟩), (Cond.methodLink "ReplayedBeans$Grammar" 57 ⟨"ReplayedBeans$Grammar", "isProperty", "(I)Z"⟩), (Cond.static ⟨"ReplayedBeans$Grammar", "isProperty", "(I)Z"⟩), (Cond.methodLink "ReplayedBeans$Grammar" 60 ⟨"ReplayedBeans$Grammar", "isNumberLetter", "(I)Z"⟩), (Cond.static ⟨"ReplayedBeans$Grammar", "isNumberLetter", "(I)Z"⟩), (Cond.methodLink "ReplayedBeans$Grammar" 63 ⟨"ReplayedBeans$Grammar", "closed", "()I"⟩), (Cond.instanceMethod ⟨"ReplayedBeans$Grammar", "closed", "()I"⟩), (Cond.methodLink "ReplayedBeans$Grammar" 47 ⟨"ReplayedBeans$Grammar", "afterDigit", "(I)I"⟩), (Cond.instanceMethod ⟨"ReplayedBeans$Grammar", "afterDigit", "(I)I"⟩), (Cond.methodLink "ReplayedBeans$Grammar" 53 ⟨"ReplayedBeans$Grammar", "isDigit", "(I)Z"⟩), (Cond.static ⟨"ReplayedBeans$Grammar", "isDigit", "(I)Z"⟩), (Cond.methodLink "ReplayedBeans$Grammar" 50 ⟨"ReplayedBeans$Grammar", "afterLinkValue", "(I)I"⟩), (Cond.instanceMethod ⟨"ReplayedBeans$Grammar", "afterLinkValue", "(I)I"⟩), (Cond.methodLink "ReplayedBeans" 152 ⟨"ReplayedBeans$Replay", "run", "()I"⟩), (Cond.instanceMethod ⟨"ReplayedBeans$Replay", "run", "()I"⟩), (Cond.selects "ReplayedBeans$Replay" ⟨"ReplayedBeans$Replay", "run", "()I"⟩ ⟨"ReplayedBeans$Replay", "run", "()I"⟩), (Cond.methodLink "ReplayedBeans$Replay" 26 ⟨"java/util/Arrays", "fill", "([II)V"⟩), (Cond.methodLink "ReplayedBeans$Replay" 39 ⟨"ReplayedBeans$Replay", "replayObject", "(I)I"⟩), (Cond.instanceMethod ⟨"ReplayedBeans$Replay", "replayObject", "(I)I"⟩)]
def tws_6 : List Cond := [(Cond.methodLink "ReplayedBeans$Replay" 43 ⟨"ReplayedBeans$Text", "codeAt", "(I)I"⟩), (Cond.methodLink "ReplayedBeans$Replay" 48 ⟨"ReplayedBeans$Beans", "add", "(I)I"⟩), (Cond.methodLink "ReplayedBeans$Replay" 53 ⟨"ReplayedBeans$Replay", "fail", "(I)V"⟩), (Cond.instanceMethod ⟨"ReplayedBeans$Replay", "fail", "(I)V"⟩), (Cond.methodLink "ReplayedBeans$Replay" 57 ⟨"ReplayedBeans$Replay", "replayNaming", "(I)V"⟩), (Cond.instanceMethod ⟨"ReplayedBeans$Replay", "replayNaming", "(I)V"⟩), (Cond.methodLink "ReplayedBeans$Replay" 70 ⟨"ReplayedBeans$Replay", "replayDigits", "(I)I"⟩), (Cond.instanceMethod ⟨"ReplayedBeans$Replay", "replayDigits", "(I)I"⟩), (Cond.methodLink "ReplayedBeans$Replay" 93 ⟨"ReplayedBeans$Grammar", "isDigit", "(I)Z"⟩), (Cond.methodLink "ReplayedBeans$Replay" 60 ⟨"ReplayedBeans$Grammar", "isProperty", "(I)Z"⟩), (Cond.methodLink "ReplayedBeans$Replay" 66 ⟨"ReplayedBeans$Replay", "replayStatement", "(II)V"⟩), (Cond.instanceMethod ⟨"ReplayedBeans$Replay", "replayStatement", "(II)V"⟩), (Cond.methodLink "ReplayedBeans$Replay" 73 ⟨"ReplayedBeans$Grammar", "isNumberLetter", "(I)Z"⟩), (Cond.methodLink "ReplayedBeans$Replay" 76 ⟨"ReplayedBeans$Replay", "replayNumber", "()I"⟩), (Cond.instanceMethod ⟨"ReplayedBeans$Replay", "replayNumber", "()I"⟩), (Cond.methodLink "ReplayedBeans$Replay" 80 ⟨"ReplayedBeans$Beans", "putNumber", "(III)Z"⟩), (Cond.methodLink "ReplayedBeans$Replay" 84 ⟨"ReplayedBeans$Replay", "replayLinkValue", "(I)I"⟩), (Cond.instanceMethod ⟨"ReplayedBeans$Replay", "replayLinkValue", "(I)I"⟩), (Cond.methodLink "ReplayedBeans$Replay" 90 ⟨"ReplayedBeans$Replay", "orFailed", "(I)I"⟩), (Cond.instanceMethod ⟨"ReplayedBeans$Replay", "orFailed", "(I)I"⟩), (Cond.methodLink "ReplayedBeans$Replay" 87 ⟨"ReplayedBeans$Beans", "putLink", "(III)Z"⟩), (Cond.methodLink "ReplayedBeansLaw" 92 ⟨"ReplayedBeans", "failures", "()I"⟩), (Cond.instanceMethod ⟨"ReplayedBeans", "failures", "()I"⟩), (Cond.selects "ReplayedBeans" ⟨"ReplayedBeans", "failures", "()I"⟩ ⟨"ReplayedBeans", "failures", "()I"⟩), (Cond.methodLink "ReplayedBeansLaw" 96 ⟨"ReplayedBeans", "failure", "(I)I"⟩), (Cond.instanceMethod ⟨"ReplayedBeans", "failure", "(I)I"⟩), (Cond.selects "ReplayedBeans" ⟨"ReplayedBeans", "failure", "(I)I"⟩ ⟨"ReplayedBeans", "failure", "(I)I"⟩), (Cond.methodLink "ReplayedBeans" 158 ⟨"ReplayedBeans$Replay", "failedPlace", "(I)I"⟩), (Cond.instanceMethod ⟨"ReplayedBeans$Replay", "failedPlace", "(I)I"⟩), (Cond.selects "ReplayedBeans$Replay" ⟨"ReplayedBeans$Replay", "failedPlace", "(I)I"⟩ ⟨"ReplayedBeans$Replay", "failedPlace", "(I)I"⟩), (Cond.classLink "ReplayedBeansLaw" 10 "ReplayedBeansModel"), (Cond.instantiable "ReplayedBeansModel" 36), (Cond.methodLink "ReplayedBeansLaw" 12 ⟨"ReplayedBeansModel", "<init>", "()V"⟩), (Cond.instanceMethod ⟨"ReplayedBeansModel", "<init>", "()V"⟩), (Cond.methodLink "ReplayedBeansModel" 1 ⟨"java/lang/Object", "<init>", "()V"⟩), (Cond.fieldLink "ReplayedBeansModel" 7 "ReplayedBeansModel" "defined" "[Z"), (Cond.fieldLink "ReplayedBeansModel" 13 "ReplayedBeansModel" "numbers" "[I"), (Cond.fieldLink "ReplayedBeansModel" 17 "ReplayedBeansModel" "links" "[I"), (Cond.fieldLink "ReplayedBeansModel" 20 "ReplayedBeansModel" "first" "[I"), (Cond.fieldLink "ReplayedBeansModel" 23 "ReplayedBeansModel" "least" "[I"), (Cond.fieldLink "ReplayedBeansModel" 26 "ReplayedBeansModel" "greatest" "[I"), (Cond.fieldLink "ReplayedBeansModel" 80 "ReplayedBeansModel" "objects" "I"), (Cond.fieldLink "ReplayedBeansModel" 29 "ReplayedBeansModel" "kinds" "[I"), (Cond.fieldLink "ReplayedBeansModel" 32 "ReplayedBeansModel" "value" "[I"), (Cond.fieldLink "ReplayedBeansModel" 35 "ReplayedBeansModel" "to" "[I"), (Cond.fieldLink "ReplayedBeansModel" 38 "ReplayedBeansModel" "text" "[I"), (Cond.fieldLink "ReplayedBeansModel" 138 "ReplayedBeansModel" "size" "I"), (Cond.fieldLink "ReplayedBeansModel" 41 "ReplayedBeansModel" "out" "[I"), (Cond.fieldLink "ReplayedBeansModel" 115 "ReplayedBeansModel" "outSize" "I"), (Cond.fieldLink "ReplayedBeansModel" 44 "ReplayedBeansModel" "reach" "[Z"), (Cond.fieldLink "ReplayedBeansModel" 47 "ReplayedBeansModel" "pair" "[I"), (Cond.fieldLink "ReplayedBeansModel" 50 "ReplayedBeansModel" "back" "[I"), (Cond.fieldLink "ReplayedBeansModel" 53 "ReplayedBeansModel" "id" "[I"), (Cond.fieldLink "ReplayedBeansModel" 56 "ReplayedBeansModel" "begun" "[Z"), (Cond.fieldLink "ReplayedBeansModel" 128 "ReplayedBeansModel" "ids" "I"), (Cond.fieldLink "ReplayedBeansModel" 122 "ReplayedBeansModel" "depth" "I"), (Cond.fieldLink "ReplayedBeansModel" 59 "ReplayedBeansModel" "open" "[I"), (Cond.fieldLink "ReplayedBeansModel" 62 "ReplayedBeansModel" "going" "[I"), (Cond.fieldLink "ReplayedBeansModel" 65 "ReplayedBeansModel" "where" "[I"), (Cond.fieldLink "ReplayedBeansModel" 141 "ReplayedBeansModel" "state" "I")]
def tws_7 : List Cond := [(Cond.fieldLink "ReplayedBeansModel" 151 "ReplayedBeansModel" "figures" "I"), (Cond.fieldLink "ReplayedBeansModel" 163 "ReplayedBeansModel" "amount" "I"), (Cond.fieldLink "ReplayedBeansModel" 182 "ReplayedBeansModel" "minus" "Z"), (Cond.fieldLink "ReplayedBeansModel" 179 "ReplayedBeansModel" "property" "I"), (Cond.fieldLink "ReplayedBeansModel" 186 "ReplayedBeansModel" "propertyPlace" "I"), (Cond.fieldLink "ReplayedBeansModel" 189 "ReplayedBeansModel" "begin" "I"), (Cond.fieldLink "ReplayedBeansModel" 173 "ReplayedBeansModel" "mark" "I"), (Cond.fieldLink "ReplayedBeansModel" 199 "ReplayedBeansModel" "outermost" "I"), (Cond.fieldLink "ReplayedBeansModel" 68 "ReplayedBeansModel" "named" "[I"), (Cond.fieldLink "ReplayedBeansModel" 170 "ReplayedBeansModel" "failed" "I"), (Cond.fieldLink "ReplayedBeansModel" 71 "ReplayedBeansModel" "failure" "[I"), (Cond.laysFinal "ReplayedBeansModel" "ReplayedBeansModel" "defined" "[Z"), (Cond.laysFinal "ReplayedBeansModel" "ReplayedBeansModel" "numbers" "[I"), (Cond.laysFinal "ReplayedBeansModel" "ReplayedBeansModel" "links" "[I"), (Cond.laysFinal "ReplayedBeansModel" "ReplayedBeansModel" "first" "[I"), (Cond.laysFinal "ReplayedBeansModel" "ReplayedBeansModel" "least" "[I"), (Cond.laysFinal "ReplayedBeansModel" "ReplayedBeansModel" "greatest" "[I"), (Cond.lays "ReplayedBeansModel" "ReplayedBeansModel" "objects" "I"), (Cond.laysFinal "ReplayedBeansModel" "ReplayedBeansModel" "kinds" "[I"), (Cond.laysFinal "ReplayedBeansModel" "ReplayedBeansModel" "value" "[I"), (Cond.laysFinal "ReplayedBeansModel" "ReplayedBeansModel" "to" "[I"), (Cond.laysFinal "ReplayedBeansModel" "ReplayedBeansModel" "text" "[I"), (Cond.lays "ReplayedBeansModel" "ReplayedBeansModel" "size" "I"), (Cond.laysFinal "ReplayedBeansModel" "ReplayedBeansModel" "out" "[I"), (Cond.lays "ReplayedBeansModel" "ReplayedBeansModel" "outSize" "I"), (Cond.laysFinal "ReplayedBeansModel" "ReplayedBeansModel" "reach" "[Z"), (Cond.laysFinal "ReplayedBeansModel" "ReplayedBeansModel" "pair" "[I"), (Cond.laysFinal "ReplayedBeansModel" "ReplayedBeansModel" "back" "[I"), (Cond.laysFinal "ReplayedBeansModel" "ReplayedBeansModel" "id" "[I"), (Cond.laysFinal "ReplayedBeansModel" "ReplayedBeansModel" "begun" "[Z"), (Cond.lays "ReplayedBeansModel" "ReplayedBeansModel" "ids" "I"), (Cond.lays "ReplayedBeansModel" "ReplayedBeansModel" "depth" "I"), (Cond.laysFinal "ReplayedBeansModel" "ReplayedBeansModel" "open" "[I"), (Cond.laysFinal "ReplayedBeansModel" "ReplayedBeansModel" "going" "[I"), (Cond.laysFinal "ReplayedBeansModel" "ReplayedBeansModel" "where" "[I"), (Cond.lays "ReplayedBeansModel" "ReplayedBeansModel" "state" "I"), (Cond.lays "ReplayedBeansModel" "ReplayedBeansModel" "figures" "I"), (Cond.lays "ReplayedBeansModel" "ReplayedBeansModel" "amount" "I"), (Cond.lays "ReplayedBeansModel" "ReplayedBeansModel" "minus" "Z"), (Cond.lays "ReplayedBeansModel" "ReplayedBeansModel" "property" "I"), (Cond.lays "ReplayedBeansModel" "ReplayedBeansModel" "propertyPlace" "I"), (Cond.lays "ReplayedBeansModel" "ReplayedBeansModel" "begin" "I"), (Cond.lays "ReplayedBeansModel" "ReplayedBeansModel" "mark" "I"), (Cond.lays "ReplayedBeansModel" "ReplayedBeansModel" "outermost" "I"), (Cond.laysFinal "ReplayedBeansModel" "ReplayedBeansModel" "named" "[I"), (Cond.lays "ReplayedBeansModel" "ReplayedBeansModel" "failed" "I"), (Cond.laysFinal "ReplayedBeansModel" "ReplayedBeansModel" "failure" "[I"), (Cond.methodLink "ReplayedBeansLaw" 17 ⟨"ReplayedBeansModel", "define", "(III)Z"⟩), (Cond.instanceMethod ⟨"ReplayedBeansModel", "define", "(III)Z"⟩), (Cond.selects "ReplayedBeansModel" ⟨"ReplayedBeansModel", "define", "(III)Z"⟩ ⟨"ReplayedBeansModel", "define", "(III)Z"⟩), (Cond.methodLink "ReplayedBeansLaw" 22 ⟨"ReplayedBeansModel", "values", "(IIIII)Z"⟩), (Cond.instanceMethod ⟨"ReplayedBeansModel", "values", "(IIIII)Z"⟩), (Cond.selects "ReplayedBeansModel" ⟨"ReplayedBeansModel", "values", "(IIIII)Z"⟩ ⟨"ReplayedBeansModel", "values", "(IIIII)Z"⟩), (Cond.methodLink "ReplayedBeansModel" 74 ⟨"ReplayedBeansModel", "isKind", "(I)Z"⟩), (Cond.instanceMethod ⟨"ReplayedBeansModel", "isKind", "(I)Z"⟩), (Cond.constant "ReplayedBeansModel" 78 (-99999 : Int32)), (Cond.constant "ReplayedBeansModel" 79 (99999 : Int32)), (Cond.methodLink "ReplayedBeansLaw" 27 ⟨"ReplayedBeansModel", "make", "(I)I"⟩), (Cond.instanceMethod ⟨"ReplayedBeansModel", "make", "(I)I"⟩), (Cond.selects "ReplayedBeansModel" ⟨"ReplayedBeansModel", "make", "(I)I"⟩ ⟨"ReplayedBeansModel", "make", "(I)I"⟩)]
def tws_8 : List Cond := [(Cond.methodLink "ReplayedBeansLaw" 31 ⟨"ReplayedBeansModel", "clear", "()V"⟩), (Cond.instanceMethod ⟨"ReplayedBeansModel", "clear", "()V"⟩), (Cond.selects "ReplayedBeansModel" ⟨"ReplayedBeansModel", "clear", "()V"⟩ ⟨"ReplayedBeansModel", "clear", "()V"⟩), (Cond.methodLink "ReplayedBeansLaw" 36 ⟨"ReplayedBeansModel", "count", "()I"⟩), (Cond.instanceMethod ⟨"ReplayedBeansModel", "count", "()I"⟩), (Cond.selects "ReplayedBeansModel" ⟨"ReplayedBeansModel", "count", "()I"⟩ ⟨"ReplayedBeansModel", "count", "()I"⟩), (Cond.methodLink "ReplayedBeansLaw" 40 ⟨"ReplayedBeansModel", "kind", "(I)I"⟩), (Cond.instanceMethod ⟨"ReplayedBeansModel", "kind", "(I)I"⟩), (Cond.selects "ReplayedBeansModel" ⟨"ReplayedBeansModel", "kind", "(I)I"⟩ ⟨"ReplayedBeansModel", "kind", "(I)I"⟩), (Cond.methodLink "ReplayedBeansModel" 84 ⟨"ReplayedBeansModel", "isObject", "(I)Z"⟩), (Cond.instanceMethod ⟨"ReplayedBeansModel", "isObject", "(I)Z"⟩), (Cond.methodLink "ReplayedBeansLaw" 44 ⟨"ReplayedBeansModel", "setNumber", "(III)Z"⟩), (Cond.instanceMethod ⟨"ReplayedBeansModel", "setNumber", "(III)Z"⟩), (Cond.selects "ReplayedBeansModel" ⟨"ReplayedBeansModel", "setNumber", "(III)Z"⟩ ⟨"ReplayedBeansModel", "setNumber", "(III)Z"⟩), (Cond.methodLink "ReplayedBeansModel" 87 ⟨"ReplayedBeansModel", "hasNumber", "(II)Z"⟩), (Cond.instanceMethod ⟨"ReplayedBeansModel", "hasNumber", "(II)Z"⟩), (Cond.methodLink "ReplayedBeansModel" 91 ⟨"ReplayedBeansModel", "inRange", "(III)Z"⟩), (Cond.instanceMethod ⟨"ReplayedBeansModel", "inRange", "(III)Z"⟩), (Cond.methodLink "ReplayedBeansLaw" 48 ⟨"ReplayedBeansModel", "setLink", "(III)Z"⟩), (Cond.instanceMethod ⟨"ReplayedBeansModel", "setLink", "(III)Z"⟩), (Cond.selects "ReplayedBeansModel" ⟨"ReplayedBeansModel", "setLink", "(III)Z"⟩ ⟨"ReplayedBeansModel", "setLink", "(III)Z"⟩), (Cond.methodLink "ReplayedBeansModel" 95 ⟨"ReplayedBeansModel", "hasLink", "(II)Z"⟩), (Cond.instanceMethod ⟨"ReplayedBeansModel", "hasLink", "(II)Z"⟩), (Cond.methodLink "ReplayedBeansLaw" 53 ⟨"ReplayedBeansModel", "number", "(II)I"⟩), (Cond.instanceMethod ⟨"ReplayedBeansModel", "number", "(II)I"⟩), (Cond.selects "ReplayedBeansModel" ⟨"ReplayedBeansModel", "number", "(II)I"⟩ ⟨"ReplayedBeansModel", "number", "(II)I"⟩), (Cond.methodLink "ReplayedBeansLaw" 57 ⟨"ReplayedBeansModel", "link", "(II)I"⟩), (Cond.instanceMethod ⟨"ReplayedBeansModel", "link", "(II)I"⟩), (Cond.selects "ReplayedBeansModel" ⟨"ReplayedBeansModel", "link", "(II)I"⟩ ⟨"ReplayedBeansModel", "link", "(II)I"⟩), (Cond.methodLink "ReplayedBeansLaw" 61 ⟨"ReplayedBeansModel", "reachable", "(I)I"⟩), (Cond.instanceMethod ⟨"ReplayedBeansModel", "reachable", "(I)I"⟩), (Cond.selects "ReplayedBeansModel" ⟨"ReplayedBeansModel", "reachable", "(I)I"⟩ ⟨"ReplayedBeansModel", "reachable", "(I)I"⟩), (Cond.methodLink "ReplayedBeansModel" 102 ⟨"ReplayedBeansModel", "spread", "(I)I"⟩), (Cond.instanceMethod ⟨"ReplayedBeansModel", "spread", "(I)I"⟩), (Cond.methodLink "ReplayedBeansModel" 98 ⟨"ReplayedBeansModel", "link", "(II)I"⟩), (Cond.methodLink "ReplayedBeansLaw" 66 ⟨"ReplayedBeansModel", "alike", "(II)Z"⟩), (Cond.instanceMethod ⟨"ReplayedBeansModel", "alike", "(II)Z"⟩), (Cond.selects "ReplayedBeansModel" ⟨"ReplayedBeansModel", "alike", "(II)Z"⟩ ⟨"ReplayedBeansModel", "alike", "(II)Z"⟩), (Cond.methodLink "ReplayedBeansModel" 109 ⟨"ReplayedBeansModel", "join", "(II)Z"⟩), (Cond.instanceMethod ⟨"ReplayedBeansModel", "join", "(II)Z"⟩), (Cond.methodLink "ReplayedBeansModel" 112 ⟨"ReplayedBeansModel", "sameNumbers", "(II)Z"⟩), (Cond.instanceMethod ⟨"ReplayedBeansModel", "sameNumbers", "(II)Z"⟩), (Cond.methodLink "ReplayedBeansModel" 106 ⟨"ReplayedBeansModel", "number", "(II)I"⟩), (Cond.methodLink "ReplayedBeansLaw" 70 ⟨"ReplayedBeansModel", "write", "(I)I"⟩), (Cond.instanceMethod ⟨"ReplayedBeansModel", "write", "(I)I"⟩), (Cond.selects "ReplayedBeansModel" ⟨"ReplayedBeansModel", "write", "(I)I"⟩ ⟨"ReplayedBeansModel", "write", "(I)I"⟩), (Cond.methodLink "ReplayedBeansModel" 134 ⟨"ReplayedBeansModel", "beginObject", "(II)V"⟩), (Cond.instanceMethod ⟨"ReplayedBeansModel", "beginObject", "(II)V"⟩), (Cond.methodLink "ReplayedBeansModel" 118 ⟨"ReplayedBeansModel", "put", "(I)V"⟩), (Cond.instanceMethod ⟨"ReplayedBeansModel", "put", "(I)V"⟩), (Cond.methodLink "ReplayedBeansModel" 125 ⟨"ReplayedBeansModel", "leading", "(I)I"⟩), (Cond.instanceMethod ⟨"ReplayedBeansModel", "leading", "(I)I"⟩), (Cond.methodLink "ReplayedBeansModel" 131 ⟨"ReplayedBeansModel", "putNumber", "(I)V"⟩), (Cond.instanceMethod ⟨"ReplayedBeansModel", "putNumber", "(I)V"⟩), (Cond.methodLink "ReplayedBeansLaw" 75 ⟨"ReplayedBeansModel", "type", "(C)Z"⟩), (Cond.instanceMethod ⟨"ReplayedBeansModel", "type", "(C)Z"⟩), (Cond.selects "ReplayedBeansModel" ⟨"ReplayedBeansModel", "type", "(C)Z"⟩ ⟨"ReplayedBeansModel", "type", "(C)Z"⟩), (Cond.methodLink "ReplayedBeansLaw" 79 ⟨"ReplayedBeansModel", "wipe", "()V"⟩), (Cond.instanceMethod ⟨"ReplayedBeansModel", "wipe", "()V"⟩), (Cond.selects "ReplayedBeansModel" ⟨"ReplayedBeansModel", "wipe", "()V"⟩ ⟨"ReplayedBeansModel", "wipe", "()V"⟩)]
def tws_9 : List Cond := [(Cond.methodLink "ReplayedBeansLaw" 83 ⟨"ReplayedBeansModel", "length", "()I"⟩), (Cond.instanceMethod ⟨"ReplayedBeansModel", "length", "()I"⟩), (Cond.selects "ReplayedBeansModel" ⟨"ReplayedBeansModel", "length", "()I"⟩ ⟨"ReplayedBeansModel", "length", "()I"⟩), (Cond.methodLink "ReplayedBeansLaw" 87 ⟨"ReplayedBeansModel", "at", "(I)I"⟩), (Cond.instanceMethod ⟨"ReplayedBeansModel", "at", "(I)I"⟩), (Cond.selects "ReplayedBeansModel" ⟨"ReplayedBeansModel", "at", "(I)I"⟩ ⟨"ReplayedBeansModel", "at", "(I)I"⟩), (Cond.methodLink "ReplayedBeansLaw" 91 ⟨"ReplayedBeansModel", "read", "()I"⟩), (Cond.instanceMethod ⟨"ReplayedBeansModel", "read", "()I"⟩), (Cond.selects "ReplayedBeansModel" ⟨"ReplayedBeansModel", "read", "()I"⟩ ⟨"ReplayedBeansModel", "read", "()I"⟩), (Cond.methodLink "ReplayedBeansModel" 209 ⟨"ReplayedBeansModel", "go", "(Z)I"⟩), (Cond.instanceMethod ⟨"ReplayedBeansModel", "go", "(Z)I"⟩), (Cond.methodLink "ReplayedBeansModel" 202 ⟨"ReplayedBeansModel", "after", "(IZ)I"⟩), (Cond.instanceMethod ⟨"ReplayedBeansModel", "after", "(IZ)I"⟩), (Cond.methodLink "ReplayedBeansModel" 144 ⟨"ReplayedBeansModel", "inside", "(IZ)I"⟩), (Cond.instanceMethod ⟨"ReplayedBeansModel", "inside", "(IZ)I"⟩), (Cond.methodLink "ReplayedBeansModel" 154 ⟨"ReplayedBeansModel", "settle", "()V"⟩), (Cond.instanceMethod ⟨"ReplayedBeansModel", "settle", "()V"⟩), (Cond.methodLink "ReplayedBeansModel" 157 ⟨"ReplayedBeansModel", "name", "()V"⟩), (Cond.instanceMethod ⟨"ReplayedBeansModel", "name", "()V"⟩), (Cond.methodLink "ReplayedBeansModel" 176 ⟨"ReplayedBeansModel", "fail", "(I)V"⟩), (Cond.instanceMethod ⟨"ReplayedBeansModel", "fail", "(I)V"⟩), (Cond.methodLink "ReplayedBeansModel" 160 ⟨"ReplayedBeansModel", "assignNumber", "()V"⟩), (Cond.instanceMethod ⟨"ReplayedBeansModel", "assignNumber", "()V"⟩), (Cond.methodLink "ReplayedBeansModel" 166 ⟨"ReplayedBeansModel", "assignLink", "(IZ)V"⟩), (Cond.instanceMethod ⟨"ReplayedBeansModel", "assignLink", "(IZ)V"⟩), (Cond.methodLink "ReplayedBeansModel" 148 ⟨"ReplayedBeansModel", "figure", "(I)Z"⟩), (Cond.static ⟨"ReplayedBeansModel", "figure", "(I)Z"⟩), (Cond.methodLink "ReplayedBeansModel" 205 ⟨"ReplayedBeansModel", "note", "(IIIZ)V"⟩), (Cond.instanceMethod ⟨"ReplayedBeansModel", "note", "(IIIZ)V"⟩), (Cond.methodLink "ReplayedBeansModel" 192 ⟨"ReplayedBeansModel", "make", "(I)I"⟩), (Cond.methodLink "ReplayedBeansModel" 195 ⟨"ReplayedBeansModel", "close", "(Z)V"⟩), (Cond.instanceMethod ⟨"ReplayedBeansModel", "close", "(Z)V"⟩), (Cond.methodLink "ReplayedBeansLaw" 95 ⟨"ReplayedBeansModel", "failures", "()I"⟩), (Cond.instanceMethod ⟨"ReplayedBeansModel", "failures", "()I"⟩), (Cond.selects "ReplayedBeansModel" ⟨"ReplayedBeansModel", "failures", "()I"⟩ ⟨"ReplayedBeansModel", "failures", "()I"⟩), (Cond.methodLink "ReplayedBeansLaw" 99 ⟨"ReplayedBeansModel", "failure", "(I)I"⟩), (Cond.instanceMethod ⟨"ReplayedBeansModel", "failure", "(I)I"⟩), (Cond.selects "ReplayedBeansModel" ⟨"ReplayedBeansModel", "failure", "(I)I"⟩ ⟨"ReplayedBeansModel", "failure", "(I)I"⟩), (Cond.selects "ReplayedBeans$Reach" ⟨"ReplayedBeans$Reach", "visit", "(I)V"⟩ ⟨"ReplayedBeans$Reach", "visit", "(I)V"⟩), (Cond.selects "ReplayedBeans$Pairing" ⟨"ReplayedBeans$Pairing", "join", "(II)Z"⟩ ⟨"ReplayedBeans$Pairing", "join", "(II)Z"⟩), (Cond.selects "ReplayedBeans$Pairing" ⟨"ReplayedBeans$Pairing", "linksPairUp", "(II)Z"⟩ ⟨"ReplayedBeans$Pairing", "linksPairUp", "(II)Z"⟩), (Cond.selects "ReplayedBeans$Pairing" ⟨"ReplayedBeans$Pairing", "joinOrBothNone", "(II)Z"⟩ ⟨"ReplayedBeans$Pairing", "joinOrBothNone", "(II)Z"⟩), (Cond.selects "ReplayedBeans$Writer" ⟨"ReplayedBeans$Writer", "countLinks", "()V"⟩ ⟨"ReplayedBeans$Writer", "countLinks", "()V"⟩), (Cond.selects "ReplayedBeans$Writer" ⟨"ReplayedBeans$Writer", "putObject", "(II)V"⟩ ⟨"ReplayedBeans$Writer", "putObject", "(II)V"⟩), (Cond.selects "ReplayedBeans$Writer" ⟨"ReplayedBeans$Writer", "put", "(C)V"⟩ ⟨"ReplayedBeans$Writer", "put", "(C)V"⟩), (Cond.selects "ReplayedBeans$Writer" ⟨"ReplayedBeans$Writer", "isShared", "(I)Z"⟩ ⟨"ReplayedBeans$Writer", "isShared", "(I)Z"⟩), (Cond.selects "ReplayedBeans$Writer" ⟨"ReplayedBeans$Writer", "putWhole", "(I)V"⟩ ⟨"ReplayedBeans$Writer", "putWhole", "(I)V"⟩), (Cond.selects "ReplayedBeans$Writer" ⟨"ReplayedBeans$Writer", "putNumbers", "(I)V"⟩ ⟨"ReplayedBeans$Writer", "putNumbers", "(I)V"⟩), (Cond.selects "ReplayedBeans$Writer" ⟨"ReplayedBeans$Writer", "putLinkStatement", "(III)V"⟩ ⟨"ReplayedBeans$Writer", "putLinkStatement", "(III)V"⟩), (Cond.selects "ReplayedBeans$Grammar" ⟨"ReplayedBeans$Grammar", "dueAfter", "(I)I"⟩ ⟨"ReplayedBeans$Grammar", "dueAfter", "(I)I"⟩), (Cond.selects "ReplayedBeans$Grammar" ⟨"ReplayedBeans$Grammar", "opened", "()I"⟩ ⟨"ReplayedBeans$Grammar", "opened", "()I"⟩), (Cond.selects "ReplayedBeans$Grammar" ⟨"ReplayedBeans$Grammar", "idDigits", "()I"⟩ ⟨"ReplayedBeans$Grammar", "idDigits", "()I"⟩), (Cond.selects "ReplayedBeans$Grammar" ⟨"ReplayedBeans$Grammar", "afterBody", "(I)I"⟩ ⟨"ReplayedBeans$Grammar", "afterBody", "(I)I"⟩), (Cond.selects "ReplayedBeans$Grammar" ⟨"ReplayedBeans$Grammar", "closed", "()I"⟩ ⟨"ReplayedBeans$Grammar", "closed", "()I"⟩), (Cond.selects "ReplayedBeans$Grammar" ⟨"ReplayedBeans$Grammar", "afterDigit", "(I)I"⟩ ⟨"ReplayedBeans$Grammar", "afterDigit", "(I)I"⟩), (Cond.selects "ReplayedBeans$Grammar" ⟨"ReplayedBeans$Grammar", "afterLinkValue", "(I)I"⟩ ⟨"ReplayedBeans$Grammar", "afterLinkValue", "(I)I"⟩), (Cond.selects "ReplayedBeans$Replay" ⟨"ReplayedBeans$Replay", "replayObject", "(I)I"⟩ ⟨"ReplayedBeans$Replay", "replayObject", "(I)I"⟩), (Cond.selects "ReplayedBeans$Replay" ⟨"ReplayedBeans$Replay", "fail", "(I)V"⟩ ⟨"ReplayedBeans$Replay", "fail", "(I)V"⟩), (Cond.selects "ReplayedBeans$Replay" ⟨"ReplayedBeans$Replay", "replayNaming", "(I)V"⟩ ⟨"ReplayedBeans$Replay", "replayNaming", "(I)V"⟩), (Cond.selects "ReplayedBeans$Replay" ⟨"ReplayedBeans$Replay", "replayDigits", "(I)I"⟩ ⟨"ReplayedBeans$Replay", "replayDigits", "(I)I"⟩)]
def tws_10 : List Cond := [(Cond.selects "ReplayedBeans$Replay" ⟨"ReplayedBeans$Replay", "replayStatement", "(II)V"⟩ ⟨"ReplayedBeans$Replay", "replayStatement", "(II)V"⟩), (Cond.selects "ReplayedBeans$Replay" ⟨"ReplayedBeans$Replay", "replayNumber", "()I"⟩ ⟨"ReplayedBeans$Replay", "replayNumber", "()I"⟩), (Cond.selects "ReplayedBeans$Replay" ⟨"ReplayedBeans$Replay", "replayLinkValue", "(I)I"⟩ ⟨"ReplayedBeans$Replay", "replayLinkValue", "(I)I"⟩), (Cond.selects "ReplayedBeans$Replay" ⟨"ReplayedBeans$Replay", "orFailed", "(I)I"⟩ ⟨"ReplayedBeans$Replay", "orFailed", "(I)I"⟩), (Cond.selects "ReplayedBeansModel" ⟨"ReplayedBeansModel", "isKind", "(I)Z"⟩ ⟨"ReplayedBeansModel", "isKind", "(I)Z"⟩), (Cond.selects "ReplayedBeansModel" ⟨"ReplayedBeansModel", "isObject", "(I)Z"⟩ ⟨"ReplayedBeansModel", "isObject", "(I)Z"⟩), (Cond.selects "ReplayedBeansModel" ⟨"ReplayedBeansModel", "hasNumber", "(II)Z"⟩ ⟨"ReplayedBeansModel", "hasNumber", "(II)Z"⟩), (Cond.selects "ReplayedBeansModel" ⟨"ReplayedBeansModel", "inRange", "(III)Z"⟩ ⟨"ReplayedBeansModel", "inRange", "(III)Z"⟩), (Cond.selects "ReplayedBeansModel" ⟨"ReplayedBeansModel", "hasLink", "(II)Z"⟩ ⟨"ReplayedBeansModel", "hasLink", "(II)Z"⟩), (Cond.selects "ReplayedBeansModel" ⟨"ReplayedBeansModel", "spread", "(I)I"⟩ ⟨"ReplayedBeansModel", "spread", "(I)I"⟩), (Cond.selects "ReplayedBeansModel" ⟨"ReplayedBeansModel", "join", "(II)Z"⟩ ⟨"ReplayedBeansModel", "join", "(II)Z"⟩), (Cond.selects "ReplayedBeansModel" ⟨"ReplayedBeansModel", "sameNumbers", "(II)Z"⟩ ⟨"ReplayedBeansModel", "sameNumbers", "(II)Z"⟩), (Cond.selects "ReplayedBeansModel" ⟨"ReplayedBeansModel", "beginObject", "(II)V"⟩ ⟨"ReplayedBeansModel", "beginObject", "(II)V"⟩), (Cond.selects "ReplayedBeansModel" ⟨"ReplayedBeansModel", "put", "(I)V"⟩ ⟨"ReplayedBeansModel", "put", "(I)V"⟩), (Cond.selects "ReplayedBeansModel" ⟨"ReplayedBeansModel", "leading", "(I)I"⟩ ⟨"ReplayedBeansModel", "leading", "(I)I"⟩), (Cond.selects "ReplayedBeansModel" ⟨"ReplayedBeansModel", "putNumber", "(I)V"⟩ ⟨"ReplayedBeansModel", "putNumber", "(I)V"⟩), (Cond.selects "ReplayedBeansModel" ⟨"ReplayedBeansModel", "go", "(Z)I"⟩ ⟨"ReplayedBeansModel", "go", "(Z)I"⟩), (Cond.selects "ReplayedBeansModel" ⟨"ReplayedBeansModel", "after", "(IZ)I"⟩ ⟨"ReplayedBeansModel", "after", "(IZ)I"⟩), (Cond.selects "ReplayedBeansModel" ⟨"ReplayedBeansModel", "inside", "(IZ)I"⟩ ⟨"ReplayedBeansModel", "inside", "(IZ)I"⟩), (Cond.selects "ReplayedBeansModel" ⟨"ReplayedBeansModel", "settle", "()V"⟩ ⟨"ReplayedBeansModel", "settle", "()V"⟩), (Cond.selects "ReplayedBeansModel" ⟨"ReplayedBeansModel", "name", "()V"⟩ ⟨"ReplayedBeansModel", "name", "()V"⟩), (Cond.selects "ReplayedBeansModel" ⟨"ReplayedBeansModel", "fail", "(I)V"⟩ ⟨"ReplayedBeansModel", "fail", "(I)V"⟩), (Cond.selects "ReplayedBeansModel" ⟨"ReplayedBeansModel", "assignNumber", "()V"⟩ ⟨"ReplayedBeansModel", "assignNumber", "()V"⟩), (Cond.selects "ReplayedBeansModel" ⟨"ReplayedBeansModel", "assignLink", "(IZ)V"⟩ ⟨"ReplayedBeansModel", "assignLink", "(IZ)V"⟩), (Cond.selects "ReplayedBeansModel" ⟨"ReplayedBeansModel", "note", "(IIIZ)V"⟩ ⟨"ReplayedBeansModel", "note", "(IIIZ)V"⟩), (Cond.selects "ReplayedBeansModel" ⟨"ReplayedBeansModel", "close", "(Z)V"⟩ ⟨"ReplayedBeansModel", "close", "(Z)V"⟩)]
def tws : List Cond := tws_0 ++ (tws_1 ++ (tws_2 ++ (tws_3 ++ (tws_4 ++ (tws_5 ++ (tws_6 ++ (tws_7 ++ (tws_8 ++ (tws_9 ++ (tws_10))))))))))
def tm_0 : mm_M := (⟨"java/util/Arrays", "fill", "([II)V"⟩, prog_13_method_103_code, 4, none, 2, 99, 0, 0)
def tm_1 : mm_M := (⟨"ReplayedBeans", "<init>", "()V"⟩, prog_1_method_1_code, 1, none, 1, 0, 30, 1429)
def tm_2 : mm_M := (⟨"ReplayedBeans", "define", "(III)Z"⟩, prog_1_method_2_code, 4, (some .boolean), 4, 0, 0, 0)
def tm_3 : mm_M := (⟨"ReplayedBeans", "values", "(IIIII)Z"⟩, prog_1_method_3_code, 6, (some .boolean), 6, 0, 0, 0)
def tm_4 : mm_M := (⟨"ReplayedBeans", "make", "(I)I"⟩, prog_1_method_4_code, 2, (some .int), 2, 0, 0, 0)
def tm_5 : mm_M := (⟨"ReplayedBeans", "clear", "()V"⟩, prog_1_method_5_code, 1, none, 1, 0, 0, 0)
def tm_6 : mm_M := (⟨"ReplayedBeans", "count", "()I"⟩, prog_1_method_6_code, 1, (some .int), 1, 0, 0, 0)
def tm_7 : mm_M := (⟨"ReplayedBeans", "kind", "(I)I"⟩, prog_1_method_7_code, 2, (some .int), 2, 0, 0, 0)
def tm_8 : mm_M := (⟨"ReplayedBeans", "setNumber", "(III)Z"⟩, prog_1_method_8_code, 4, (some .boolean), 4, 0, 0, 0)
def tm_9 : mm_M := (⟨"ReplayedBeans", "setLink", "(III)Z"⟩, prog_1_method_9_code, 4, (some .boolean), 4, 0, 0, 0)
def tm_10 : mm_M := (⟨"ReplayedBeans", "number", "(II)I"⟩, prog_1_method_10_code, 3, (some .int), 3, 0, 0, 0)
def tm_11 : mm_M := (⟨"ReplayedBeans", "link", "(II)I"⟩, prog_1_method_11_code, 3, (some .int), 3, 0, 0, 0)
def tm_12 : mm_M := (⟨"ReplayedBeans", "reachable", "(I)I"⟩, prog_1_method_12_code, 2, (some .int), 2, 0, 0, 0)
def tm_13 : mm_M := (⟨"ReplayedBeans", "alike", "(II)Z"⟩, prog_1_method_13_code, 3, (some .boolean), 3, 0, 0, 0)
def tm_14 : mm_M := (⟨"ReplayedBeans", "write", "(I)I"⟩, prog_1_method_14_code, 2, (some .int), 2, 0, 0, 0)
def tm_15 : mm_M := (⟨"ReplayedBeans", "type", "(C)Z"⟩, prog_1_method_15_code, 2, (some .boolean), 2, 0, 0, 0)
def tm_16 : mm_M := (⟨"ReplayedBeans", "wipe", "()V"⟩, prog_1_method_16_code, 1, none, 1, 0, 0, 0)
def tm_17 : mm_M := (⟨"ReplayedBeans", "length", "()I"⟩, prog_1_method_17_code, 1, (some .int), 1, 0, 0, 0)
def tm_18 : mm_M := (⟨"ReplayedBeans", "at", "(I)I"⟩, prog_1_method_18_code, 2, (some .int), 2, 0, 0, 0)
def tm_19 : mm_M := (⟨"ReplayedBeans", "read", "()I"⟩, prog_1_method_19_code, 2, (some .int), 1, 0, 0, 0)
def tm_20 : mm_M := (⟨"ReplayedBeans", "failures", "()I"⟩, prog_1_method_20_code, 1, (some .int), 1, 0, 0, 0)
def tm_21 : mm_M := (⟨"ReplayedBeans", "failure", "(I)I"⟩, prog_1_method_21_code, 2, (some .int), 2, 0, 0, 0)
def tm_22 : mm_M := (⟨"ReplayedBeans$Kinds", "<init>", "()V"⟩, prog_4_method_1_code, 1, none, 1, 1, 6, 48)
def tm_23 : mm_M := (⟨"ReplayedBeans$Kinds", "isDefined", "(I)Z"⟩, prog_4_method_2_code, 2, (some .boolean), 2, 1, 0, 0)
def tm_24 : mm_M := (⟨"ReplayedBeans$Kinds", "hasNumber", "(II)Z"⟩, prog_4_method_3_code, 3, (some .boolean), 3, 1, 0, 0)
def tm_25 : mm_M := (⟨"ReplayedBeans$Kinds", "hasLink", "(II)Z"⟩, prog_4_method_4_code, 3, (some .boolean), 3, 1, 0, 0)
def tm_26 : mm_M := (⟨"ReplayedBeans$Kinds", "introduce", "(III)Z"⟩, prog_4_method_5_code, 4, (some .boolean), 4, 1, 0, 0)
def tm_27 : mm_M := (⟨"ReplayedBeans$Kinds", "bound", "(IIIII)Z"⟩, prog_4_method_6_code, 7, (some .boolean), 6, 1, 0, 0)
def tm_28 : mm_M := (⟨"ReplayedBeans$Kinds", "defaultOf", "(II)I"⟩, prog_4_method_7_code, 3, (some .int), 3, 1, 0, 0)
def tm_29 : mm_M := (⟨"ReplayedBeans$Kinds", "allows", "(III)Z"⟩, prog_4_method_8_code, 5, (some .boolean), 4, 1, 0, 0)
def tm_30 : mm_M := (⟨"ReplayedBeans$Beans", "<init>", "(LReplayedBeans$Kinds;)V"⟩, prog_2_method_1_code, 2, none, 2, 2, 3, 144)
def tm_31 : mm_M := (⟨"ReplayedBeans$Beans", "isThere", "(I)Z"⟩, prog_2_method_2_code, 2, (some .boolean), 2, 2, 0, 0)
def tm_32 : mm_M := (⟨"ReplayedBeans$Beans", "add", "(I)I"⟩, prog_2_method_3_code, 4, (some .int), 2, 2, 0, 0)
def tm_33 : mm_M := (⟨"ReplayedBeans$Beans", "removeAll", "()V"⟩, prog_2_method_4_code, 1, none, 1, 2, 0, 0)
def tm_34 : mm_M := (⟨"ReplayedBeans$Beans", "kindOf", "(I)I"⟩, prog_2_method_5_code, 2, (some .int), 2, 2, 0, 0)
def tm_35 : mm_M := (⟨"ReplayedBeans$Beans", "putNumber", "(III)Z"⟩, prog_2_method_6_code, 4, (some .boolean), 4, 2, 0, 0)
def tm_36 : mm_M := (⟨"ReplayedBeans$Beans", "putLink", "(III)Z"⟩, prog_2_method_7_code, 4, (some .boolean), 4, 2, 0, 0)
def tm_37 : mm_M := (⟨"ReplayedBeans$Beans", "numberOf", "(II)I"⟩, prog_2_method_8_code, 3, (some .int), 3, 2, 0, 0)
def tm_38 : mm_M := (⟨"ReplayedBeans$Beans", "linkOf", "(II)I"⟩, prog_2_method_9_code, 3, (some .int), 3, 2, 0, 0)
def tm_39 : mm_M := (⟨"ReplayedBeans$Beans", "sameKindAndNumbers", "(II)Z"⟩, prog_2_method_10_code, 4, (some .boolean), 3, 2, 0, 0)
def tm_40 : mm_M := (⟨"ReplayedBeans$Reach", "<init>", "(LReplayedBeans$Beans;)V"⟩, prog_6_method_1_code, 2, none, 2, 3, 2, 48)
def tm_41 : mm_M := (⟨"ReplayedBeans$Reach", "spreadFrom", "(I)V"⟩, prog_6_method_2_code, 4, none, 2, 3, 0, 0)
def tm_42 : mm_M := (⟨"ReplayedBeans$Reach", "visit", "(I)V"⟩, prog_6_method_3_code, 2, none, 2, 3, 0, 0)
def tm_43 : mm_M := (⟨"ReplayedBeans$Pairing", "<init>", "(LReplayedBeans$Beans;)V"⟩, prog_5_method_1_code, 2, none, 2, 4, 3, 72)
def tm_44 : mm_M := (⟨"ReplayedBeans$Pairing", "pairsUp", "(II)Z"⟩, prog_5_method_2_code, 5, (some .boolean), 3, 4, 0, 0)
def tm_45 : mm_M := (⟨"ReplayedBeans$Pairing", "linksPairUp", "(II)Z"⟩, prog_5_method_3_code, 4, (some .boolean), 3, 4, 0, 0)
def tm_46 : mm_M := (⟨"ReplayedBeans$Pairing", "joinOrBothNone", "(II)Z"⟩, prog_5_method_4_code, 3, (some .boolean), 3, 4, 0, 0)
def tm_47 : mm_M := (⟨"ReplayedBeans$Pairing", "join", "(II)Z"⟩, prog_5_method_5_code, 3, (some .boolean), 3, 4, 0, 0)
def tm_48 : mm_M := (⟨"ReplayedBeans$Text", "<init>", "()V"⟩, prog_8_method_1_code, 1, none, 1, 5, 1, 300)
def tm_49 : mm_M := (⟨"ReplayedBeans$Text", "add", "(C)Z"⟩, prog_8_method_2_code, 2, (some .boolean), 2, 5, 0, 0)
def tm_50 : mm_M := (⟨"ReplayedBeans$Text", "codeAt", "(I)I"⟩, prog_8_method_3_code, 2, (some .int), 2, 5, 0, 0)
def tm_51 : mm_M := (⟨"ReplayedBeans$Text", "copyFrom", "(LReplayedBeans$Text;)V"⟩, prog_8_method_4_code, 2, none, 2, 5, 0, 0)
def tm_52 : mm_M := (⟨"ReplayedBeans$Writer", "<init>", "(LReplayedBeans$Kinds;LReplayedBeans$Beans;LReplayedBeans$Reach;)V"⟩, prog_9_method_1_code, 4, none, 4, 6, 5, 374)
def tm_53 : mm_M := (⟨"ReplayedBeans$Writer", "draftFrom", "(I)V"⟩, prog_9_method_2_code, 3, none, 2, 6, 0, 0)
def tm_54 : mm_M := (⟨"ReplayedBeans$Writer", "countLinks", "()V"⟩, prog_9_method_3_code, 4, none, 1, 6, 0, 0)
def tm_55 : mm_M := (⟨"ReplayedBeans$Writer", "isShared", "(I)Z"⟩, prog_9_method_4_code, 2, (some .boolean), 2, 6, 0, 0)
def tm_56 : mm_M := (⟨"ReplayedBeans$Writer", "putObject", "(II)V"⟩, prog_9_method_5_code, 5, none, 3, 6, 0, 0)
def tm_57 : mm_M := (⟨"ReplayedBeans$Writer", "putNumbers", "(I)V"⟩, prog_9_method_6_code, 5, none, 2, 6, 0, 0)
def tm_58 : mm_M := (⟨"ReplayedBeans$Writer", "putLinkStatement", "(III)V"⟩, prog_9_method_7_code, 4, none, 4, 6, 0, 0)
def tm_59 : mm_M := (⟨"ReplayedBeans$Writer", "putWhole", "(I)V"⟩, prog_9_method_8_code, 5, none, 2, 6, 0, 0)
def tm_60 : mm_M := (⟨"ReplayedBeans$Writer", "put", "(C)V"⟩, prog_9_method_9_code, 2, none, 2, 6, 0, 0)
def tm_61 : mm_M := (⟨"ReplayedBeans$Grammar", "<init>", "(LReplayedBeans$Text;)V"⟩, prog_3_method_1_code, 2, none, 2, 7, 0, 0)
def tm_62 : mm_M := (⟨"ReplayedBeans$Grammar", "wrongPlace", "()I"⟩, prog_3_method_2_code, 2, (some .int), 1, 7, 0, 0)
def tm_63 : mm_M := (⟨"ReplayedBeans$Grammar", "dueAfter", "(I)I"⟩, prog_3_method_3_code, 2, (some .int), 2, 7, 0, 0)
def tm_64 : mm_M := (⟨"ReplayedBeans$Grammar", "opened", "()I"⟩, prog_3_method_4_code, 1, (some .int), 1, 7, 0, 0)
def tm_65 : mm_M := (⟨"ReplayedBeans$Grammar", "closed", "()I"⟩, prog_3_method_5_code, 1, (some .int), 1, 7, 0, 0)
def tm_66 : mm_M := (⟨"ReplayedBeans$Grammar", "idDigits", "()I"⟩, prog_3_method_6_code, 1, (some .int), 1, 7, 0, 0)
def tm_67 : mm_M := (⟨"ReplayedBeans$Grammar", "afterDigit", "(I)I"⟩, prog_3_method_7_code, 2, (some .int), 2, 7, 0, 0)
def tm_68 : mm_M := (⟨"ReplayedBeans$Grammar", "afterBody", "(I)I"⟩, prog_3_method_8_code, 2, (some .int), 2, 7, 0, 0)
def tm_69 : mm_M := (⟨"ReplayedBeans$Grammar", "afterLinkValue", "(I)I"⟩, prog_3_method_9_code, 2, (some .int), 2, 7, 0, 0)
def tm_70 : mm_M := (⟨"ReplayedBeans$Grammar", "isDigit", "(I)Z"⟩, prog_3_method_10_code, 1, (some .boolean), 1, 7, 0, 0)
def tm_71 : mm_M := (⟨"ReplayedBeans$Grammar", "isNumberLetter", "(I)Z"⟩, prog_3_method_11_code, 1, (some .boolean), 1, 7, 0, 0)
def tm_72 : mm_M := (⟨"ReplayedBeans$Grammar", "isProperty", "(I)Z"⟩, prog_3_method_12_code, 1, (some .boolean), 1, 7, 0, 0)
def tm_73 : mm_M := (⟨"ReplayedBeans$Replay", "<init>", "(LReplayedBeans$Beans;LReplayedBeans$Text;)V"⟩, prog_7_method_1_code, 3, none, 3, 8, 2, 400)
def tm_74 : mm_M := (⟨"ReplayedBeans$Replay", "run", "()I"⟩, prog_7_method_2_code, 1, (some .int), 1, 8, 0, 0)
def tm_75 : mm_M := (⟨"ReplayedBeans$Replay", "failedPlace", "(I)I"⟩, prog_7_method_3_code, 2, (some .int), 2, 8, 0, 0)
def tm_76 : mm_M := (⟨"ReplayedBeans$Replay", "fail", "(I)V"⟩, prog_7_method_4_code, 2, none, 2, 8, 0, 0)
def tm_77 : mm_M := (⟨"ReplayedBeans$Replay", "replayObject", "(I)I"⟩, prog_7_method_5_code, 4, (some .int), 2, 8, 0, 0)
def tm_78 : mm_M := (⟨"ReplayedBeans$Replay", "replayNaming", "(I)V"⟩, prog_7_method_6_code, 4, none, 2, 8, 0, 0)
def tm_79 : mm_M := (⟨"ReplayedBeans$Replay", "replayStatement", "(II)V"⟩, prog_7_method_7_code, 6, none, 3, 8, 0, 0)
def tm_80 : mm_M := (⟨"ReplayedBeans$Replay", "replayNumber", "()I"⟩, prog_7_method_8_code, 3, (some .int), 1, 8, 0, 0)
def tm_81 : mm_M := (⟨"ReplayedBeans$Replay", "replayLinkValue", "(I)I"⟩, prog_7_method_9_code, 3, (some .int), 2, 8, 0, 0)
def tm_82 : mm_M := (⟨"ReplayedBeans$Replay", "orFailed", "(I)I"⟩, prog_7_method_10_code, 2, (some .int), 2, 8, 0, 0)
def tm_83 : mm_M := (⟨"ReplayedBeans$Replay", "replayDigits", "(I)I"⟩, prog_7_method_11_code, 4, (some .int), 2, 8, 0, 0)
def tm_84 : mm_M := (⟨"ReplayedBeansModel", "<init>", "()V"⟩, prog_11_method_1_code, 1, none, 1, 9, 21, 1387)
def tm_85 : mm_M := (⟨"ReplayedBeansModel", "isKind", "(I)Z"⟩, prog_11_method_2_code, 2, (some .boolean), 2, 9, 0, 0)
def tm_86 : mm_M := (⟨"ReplayedBeansModel", "define", "(III)Z"⟩, prog_11_method_3_code, 5, (some .boolean), 4, 9, 0, 0)
def tm_87 : mm_M := (⟨"ReplayedBeansModel", "values", "(IIIII)Z"⟩, prog_11_method_4_code, 6, (some .boolean), 6, 9, 0, 0)
def tm_88 : mm_M := (⟨"ReplayedBeansModel", "isObject", "(I)Z"⟩, prog_11_method_5_code, 2, (some .boolean), 2, 9, 0, 0)
def tm_89 : mm_M := (⟨"ReplayedBeansModel", "hasNumber", "(II)Z"⟩, prog_11_method_6_code, 3, (some .boolean), 3, 9, 0, 0)
def tm_90 : mm_M := (⟨"ReplayedBeansModel", "hasLink", "(II)Z"⟩, prog_11_method_7_code, 3, (some .boolean), 3, 9, 0, 0)
def tm_91 : mm_M := (⟨"ReplayedBeansModel", "make", "(I)I"⟩, prog_11_method_8_code, 3, (some .int), 2, 9, 0, 0)
def tm_92 : mm_M := (⟨"ReplayedBeansModel", "clear", "()V"⟩, prog_11_method_9_code, 1, none, 1, 9, 0, 0)
def tm_93 : mm_M := (⟨"ReplayedBeansModel", "count", "()I"⟩, prog_11_method_10_code, 1, (some .int), 1, 9, 0, 0)
def tm_94 : mm_M := (⟨"ReplayedBeansModel", "kind", "(I)I"⟩, prog_11_method_11_code, 2, (some .int), 2, 9, 0, 0)
def tm_95 : mm_M := (⟨"ReplayedBeansModel", "inRange", "(III)Z"⟩, prog_11_method_12_code, 5, (some .boolean), 4, 9, 0, 0)
def tm_96 : mm_M := (⟨"ReplayedBeansModel", "setNumber", "(III)Z"⟩, prog_11_method_13_code, 4, (some .boolean), 4, 9, 0, 0)
def tm_97 : mm_M := (⟨"ReplayedBeansModel", "setLink", "(III)Z"⟩, prog_11_method_14_code, 4, (some .boolean), 4, 9, 0, 0)
def tm_98 : mm_M := (⟨"ReplayedBeansModel", "number", "(II)I"⟩, prog_11_method_15_code, 3, (some .int), 3, 9, 0, 0)
def tm_99 : mm_M := (⟨"ReplayedBeansModel", "link", "(II)I"⟩, prog_11_method_16_code, 3, (some .int), 3, 9, 0, 0)
def tm_100 : mm_M := (⟨"ReplayedBeansModel", "spread", "(I)I"⟩, prog_11_method_17_code, 7, (some .int), 2, 9, 0, 0)
def tm_101 : mm_M := (⟨"ReplayedBeansModel", "reachable", "(I)I"⟩, prog_11_method_18_code, 2, (some .int), 2, 9, 0, 0)
def tm_102 : mm_M := (⟨"ReplayedBeansModel", "join", "(II)Z"⟩, prog_11_method_19_code, 3, (some .boolean), 3, 9, 0, 0)
def tm_103 : mm_M := (⟨"ReplayedBeansModel", "sameNumbers", "(II)Z"⟩, prog_11_method_20_code, 5, (some .boolean), 3, 9, 0, 0)
def tm_104 : mm_M := (⟨"ReplayedBeansModel", "alike", "(II)Z"⟩, prog_11_method_21_code, 7, (some .boolean), 3, 9, 0, 0)
def tm_105 : mm_M := (⟨"ReplayedBeansModel", "put", "(I)V"⟩, prog_11_method_22_code, 2, none, 2, 9, 0, 0)
def tm_106 : mm_M := (⟨"ReplayedBeansModel", "putNumber", "(I)V"⟩, prog_11_method_23_code, 4, none, 2, 9, 0, 0)
def tm_107 : mm_M := (⟨"ReplayedBeansModel", "leading", "(I)I"⟩, prog_11_method_24_code, 5, (some .int), 2, 9, 0, 0)
def tm_108 : mm_M := (⟨"ReplayedBeansModel", "beginObject", "(II)V"⟩, prog_11_method_25_code, 4, none, 3, 9, 0, 0)
def tm_109 : mm_M := (⟨"ReplayedBeansModel", "write", "(I)I"⟩, prog_11_method_26_code, 6, (some .int), 2, 9, 0, 0)
def tm_110 : mm_M := (⟨"ReplayedBeansModel", "type", "(C)Z"⟩, prog_11_method_27_code, 2, (some .boolean), 2, 9, 0, 0)
def tm_111 : mm_M := (⟨"ReplayedBeansModel", "wipe", "()V"⟩, prog_11_method_28_code, 1, none, 1, 9, 0, 0)
def tm_112 : mm_M := (⟨"ReplayedBeansModel", "length", "()I"⟩, prog_11_method_29_code, 1, (some .int), 1, 9, 0, 0)
def tm_113 : mm_M := (⟨"ReplayedBeansModel", "at", "(I)I"⟩, prog_11_method_30_code, 2, (some .int), 2, 9, 0, 0)
def tm_114 : mm_M := (⟨"ReplayedBeansModel", "figure", "(I)Z"⟩, prog_11_method_31_code, 1, (some .boolean), 1, 9, 0, 0)
def tm_115 : mm_M := (⟨"ReplayedBeansModel", "after", "(IZ)I"⟩, prog_11_method_32_code, 3, (some .int), 3, 9, 0, 0)
def tm_116 : mm_M := (⟨"ReplayedBeansModel", "inside", "(IZ)I"⟩, prog_11_method_33_code, 5, (some .int), 3, 9, 0, 0)
def tm_117 : mm_M := (⟨"ReplayedBeansModel", "settle", "()V"⟩, prog_11_method_34_code, 1, none, 1, 9, 0, 0)
def tm_118 : mm_M := (⟨"ReplayedBeansModel", "fail", "(I)V"⟩, prog_11_method_35_code, 2, none, 2, 9, 0, 0)
def tm_119 : mm_M := (⟨"ReplayedBeansModel", "name", "()V"⟩, prog_11_method_36_code, 2, none, 1, 9, 0, 0)
def tm_120 : mm_M := (⟨"ReplayedBeansModel", "assignNumber", "()V"⟩, prog_11_method_37_code, 4, none, 1, 9, 0, 0)
def tm_121 : mm_M := (⟨"ReplayedBeansModel", "assignLink", "(IZ)V"⟩, prog_11_method_38_code, 5, none, 3, 9, 0, 0)
def tm_122 : mm_M := (⟨"ReplayedBeansModel", "note", "(IIIZ)V"⟩, prog_11_method_39_code, 5, none, 5, 9, 0, 0)
def tm_123 : mm_M := (⟨"ReplayedBeansModel", "close", "(Z)V"⟩, prog_11_method_40_code, 3, none, 2, 9, 0, 0)
def tm_124 : mm_M := (⟨"ReplayedBeansModel", "go", "(Z)I"⟩, prog_11_method_41_code, 4, (some .int), 2, 9, 0, 0)
def tm_125 : mm_M := (⟨"ReplayedBeansModel", "read", "()I"⟩, prog_11_method_42_code, 3, (some .int), 1, 9, 0, 0)
def tm_126 : mm_M := (⟨"ReplayedBeansModel", "failures", "()I"⟩, prog_11_method_43_code, 1, (some .int), 1, 9, 0, 0)
def tm_127 : mm_M := (⟨"ReplayedBeansModel", "failure", "(I)I"⟩, prog_11_method_44_code, 2, (some .int), 2, 9, 0, 0)
def tm_128 : mm_M := (⟨"ReplayedBeansLaw", "law", "([I)Z"⟩, code, 4, (some .boolean), 1, 99, 0, 0)
def tmi (i : Nat) : mm_M := cond (Nat.blt i 64) (cond (Nat.blt i 32) (cond (Nat.blt i 16) (cond (Nat.blt i 8) (cond (Nat.blt i 4) (cond (Nat.blt i 2) (cond (Nat.blt i 1) (tm_0) (tm_1)) (cond (Nat.blt i 3) (tm_2) (tm_3))) (cond (Nat.blt i 6) (cond (Nat.blt i 5) (tm_4) (tm_5)) (cond (Nat.blt i 7) (tm_6) (tm_7)))) (cond (Nat.blt i 12) (cond (Nat.blt i 10) (cond (Nat.blt i 9) (tm_8) (tm_9)) (cond (Nat.blt i 11) (tm_10) (tm_11))) (cond (Nat.blt i 14) (cond (Nat.blt i 13) (tm_12) (tm_13)) (cond (Nat.blt i 15) (tm_14) (tm_15))))) (cond (Nat.blt i 24) (cond (Nat.blt i 20) (cond (Nat.blt i 18) (cond (Nat.blt i 17) (tm_16) (tm_17)) (cond (Nat.blt i 19) (tm_18) (tm_19))) (cond (Nat.blt i 22) (cond (Nat.blt i 21) (tm_20) (tm_21)) (cond (Nat.blt i 23) (tm_22) (tm_23)))) (cond (Nat.blt i 28) (cond (Nat.blt i 26) (cond (Nat.blt i 25) (tm_24) (tm_25)) (cond (Nat.blt i 27) (tm_26) (tm_27))) (cond (Nat.blt i 30) (cond (Nat.blt i 29) (tm_28) (tm_29)) (cond (Nat.blt i 31) (tm_30) (tm_31)))))) (cond (Nat.blt i 48) (cond (Nat.blt i 40) (cond (Nat.blt i 36) (cond (Nat.blt i 34) (cond (Nat.blt i 33) (tm_32) (tm_33)) (cond (Nat.blt i 35) (tm_34) (tm_35))) (cond (Nat.blt i 38) (cond (Nat.blt i 37) (tm_36) (tm_37)) (cond (Nat.blt i 39) (tm_38) (tm_39)))) (cond (Nat.blt i 44) (cond (Nat.blt i 42) (cond (Nat.blt i 41) (tm_40) (tm_41)) (cond (Nat.blt i 43) (tm_42) (tm_43))) (cond (Nat.blt i 46) (cond (Nat.blt i 45) (tm_44) (tm_45)) (cond (Nat.blt i 47) (tm_46) (tm_47))))) (cond (Nat.blt i 56) (cond (Nat.blt i 52) (cond (Nat.blt i 50) (cond (Nat.blt i 49) (tm_48) (tm_49)) (cond (Nat.blt i 51) (tm_50) (tm_51))) (cond (Nat.blt i 54) (cond (Nat.blt i 53) (tm_52) (tm_53)) (cond (Nat.blt i 55) (tm_54) (tm_55)))) (cond (Nat.blt i 60) (cond (Nat.blt i 58) (cond (Nat.blt i 57) (tm_56) (tm_57)) (cond (Nat.blt i 59) (tm_58) (tm_59))) (cond (Nat.blt i 62) (cond (Nat.blt i 61) (tm_60) (tm_61)) (cond (Nat.blt i 63) (tm_62) (tm_63))))))) (cond (Nat.blt i 96) (cond (Nat.blt i 80) (cond (Nat.blt i 72) (cond (Nat.blt i 68) (cond (Nat.blt i 66) (cond (Nat.blt i 65) (tm_64) (tm_65)) (cond (Nat.blt i 67) (tm_66) (tm_67))) (cond (Nat.blt i 70) (cond (Nat.blt i 69) (tm_68) (tm_69)) (cond (Nat.blt i 71) (tm_70) (tm_71)))) (cond (Nat.blt i 76) (cond (Nat.blt i 74) (cond (Nat.blt i 73) (tm_72) (tm_73)) (cond (Nat.blt i 75) (tm_74) (tm_75))) (cond (Nat.blt i 78) (cond (Nat.blt i 77) (tm_76) (tm_77)) (cond (Nat.blt i 79) (tm_78) (tm_79))))) (cond (Nat.blt i 88) (cond (Nat.blt i 84) (cond (Nat.blt i 82) (cond (Nat.blt i 81) (tm_80) (tm_81)) (cond (Nat.blt i 83) (tm_82) (tm_83))) (cond (Nat.blt i 86) (cond (Nat.blt i 85) (tm_84) (tm_85)) (cond (Nat.blt i 87) (tm_86) (tm_87)))) (cond (Nat.blt i 92) (cond (Nat.blt i 90) (cond (Nat.blt i 89) (tm_88) (tm_89)) (cond (Nat.blt i 91) (tm_90) (tm_91))) (cond (Nat.blt i 94) (cond (Nat.blt i 93) (tm_92) (tm_93)) (cond (Nat.blt i 95) (tm_94) (tm_95)))))) (cond (Nat.blt i 112) (cond (Nat.blt i 104) (cond (Nat.blt i 100) (cond (Nat.blt i 98) (cond (Nat.blt i 97) (tm_96) (tm_97)) (cond (Nat.blt i 99) (tm_98) (tm_99))) (cond (Nat.blt i 102) (cond (Nat.blt i 101) (tm_100) (tm_101)) (cond (Nat.blt i 103) (tm_102) (tm_103)))) (cond (Nat.blt i 108) (cond (Nat.blt i 106) (cond (Nat.blt i 105) (tm_104) (tm_105)) (cond (Nat.blt i 107) (tm_106) (tm_107))) (cond (Nat.blt i 110) (cond (Nat.blt i 109) (tm_108) (tm_109)) (cond (Nat.blt i 111) (tm_110) (tm_111))))) (cond (Nat.blt i 120) (cond (Nat.blt i 116) (cond (Nat.blt i 114) (cond (Nat.blt i 113) (tm_112) (tm_113)) (cond (Nat.blt i 115) (tm_114) (tm_115))) (cond (Nat.blt i 118) (cond (Nat.blt i 117) (tm_116) (tm_117)) (cond (Nat.blt i 119) (tm_118) (tm_119)))) (cond (Nat.blt i 124) (cond (Nat.blt i 122) (cond (Nat.blt i 121) (tm_120) (tm_121)) (cond (Nat.blt i 123) (tm_122) (tm_123))) (cond (Nat.blt i 126) (cond (Nat.blt i 125) (tm_124) (tm_125)) (cond (Nat.blt i 127) (tm_126) (cond (Nat.blt i 128) (tm_127) (tm_128))))))))
end
