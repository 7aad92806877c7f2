section
/-! The small machine: what a method does over cells that are numbered by the order in which they were made. One theorem (mm_met) ties it to the machine itself: what the small machine comes to, the method comes to. -/
abbrev mm_C : Type := (FieldType × Nat × (Nat → Int32)) ⊕ (Nat × List Value)
abbrev mm_H : Type := List mm_C
/-- an instruction, its length, two numbers, an int: what the tables made of its operands -/
abbrev mm_E : Type := Instr × Nat × Nat × Nat × Int32
/-- a method: name, bytes, locals, return type, how many arguments (with the receiver), its class's number, cells and slots that it may make -/
abbrev mm_M : Type := MethodName × ByteArray × Nat × Option FieldType × Nat × Nat × Nat × Nat
abbrev mm_y (M : mm_M) : MethodName := M.1
abbrev mm_b (M : mm_M) : ByteArray := M.2.1
abbrev mm_n (M : mm_M) : Nat := M.2.2.1
abbrev mm_r (M : mm_M) : Option FieldType := M.2.2.2.1
abbrev mm_k (M : mm_M) : Nat := M.2.2.2.2.1
abbrev mm_ci (M : mm_M) : Nat := M.2.2.2.2.2.1
abbrev mm_mc (M : mm_M) : Nat := M.2.2.2.2.2.2.1
abbrev mm_ms (M : mm_M) : Nat := M.2.2.2.2.2.2.2
abbrev mm_L : Type := List (Option Value)
/-- a value of the small machine in the machine: cells by their addresses; retAddr stands for the script -/
def mm_v (b : Nat) (φ : Nat → Nat) (v : Value) : Value := match v with
  | .ref k => .ref (φ k)
  | .retAddr _ => .ref b
  | w => w
def mm_c (b : Nat) (φ : Nat → Nat) (dA : FieldType → ClassId) (c : mm_C) : va_E := match c with
  | .inl q => .inl (dA q.1, q.2.1, .inl q.2.2)
  | .inr q => .inr (q.1, q.2.map (mm_v b φ))
def mm_w (b : Nat) (φ : Nat → Nat) (dA : FieldType → ClassId) (h : mm_H) : va_W := h.mapIdx (fun i c => (φ i, mm_c b φ dA c))
def mm_l (b : Nat) (φ : Nat → Nat) (L : mm_L) : List (Nat × Value) := (List.range L.length).filterMap (fun i => match L[i]? with
  | some (some v) => if v.category = 1 then some (i, mm_v b φ v) else none
  | _ => none)
def mm_wfv (n : Nat) (v : Value) : Bool := match v with
  | .ref k => Nat.blt k n
  | _ => true
def mm_wfo (n : Nat) (o : Option Value) : Bool := match o with
  | some v => mm_wfv n v
  | none => true
def mm_wfc (n : Nat) (c : mm_C) : Bool := match c with
  | .inl _ => true
  | .inr q => q.2.all (mm_wfv n)
def mm_cat (st : List Value) : Prop := (st.map fun v => v.category).sum ≤ 8
/-- may a field of this kind (0 int, 1 boolean, 3 a reference) keep the value? -/
def mm_fit (c : Int32) (v : Value) : Prop := match v with
  | .int x => c = 0 ∨ (c = 1 ∧ (x = 0 ∨ x = 1))
  | .ref _ => c = 3
  | .null => c = 3
  | _ => False
def mm_cz (cnd : Jvm.ClassFile.Cond) (x : Int32) : Prop := match cnd with
  | .eq => x = 0
  | .ne => ¬ x = 0
  | .lt => x < 0
  | .ge => 0 ≤ x
  | .gt => 0 < x
  | .le => x ≤ 0
def mm_cc (cnd : Jvm.ClassFile.Cond) (x y : Int32) : Prop := match cnd with
  | .eq => x = y
  | .ne => ¬ x = y
  | .lt => x < y
  | .ge => y ≤ x
  | .gt => y < x
  | .le => x ≤ y
abbrev mm_K : Type := Nat → mm_L → List Value → mm_H → Nat → Nat → Prop
/-- a call: arguments off the stack, the callee, on with what it came to -/
def mm_cl (mi : Nat → mm_M) (C : Nat → mm_H → List Value → (mm_H → Option Value → Prop) → Prop) (cap : Nat × Nat) (K : mm_K) (y nx : Nat) (L : mm_L) (st : List Value) (h : mm_H) (kc ks : Nat) : Prop :=
  mm_k (mi y) ≤ st.length ∧ mm_cat (st.drop (mm_k (mi y))) ∧ kc + mm_mc (mi y) ≤ cap.1 ∧ ks + mm_ms (mi y) ≤ cap.2 ∧ (mm_mc (mi y) = 0 ∨ (L.all (mm_wfo h.length) && (st.drop (mm_k (mi y))).all (mm_wfv h.length)) = true) ∧
  C y h (st.take (mm_k (mi y))).reverse (fun h' v => K nx L (v.toList ++ st.drop (mm_k (mi y))) h' (kc + mm_mc (mi y)) (ks + mm_ms (mi y)))
def mm_rcv (h : mm_H) (ci : Nat) (as : List Value) : Prop := match as with
  | .ref o :: _ => (match h[o]? with
    | some (.inr q) => q.1 = ci
    | _ => False)
  | _ => False
/-! what lies on the stack, in a local, in a cell -/
def mm_s1 (st : List Value) (k : Int32 → List Value → Prop) : Prop := match st with
  | .int x :: r => k x r
  | _ => False
def mm_s2 (st : List Value) (k : Int32 → Int32 → List Value → Prop) : Prop := match st with
  | .int y :: .int x :: r => k y x r
  | _ => False
def mm_sr (st : List Value) (k : Nat → List Value → Prop) : Prop := match st with
  | .ref o :: r => k o r
  | _ => False
def mm_sv (st : List Value) (k : Value → List Value → Prop) : Prop := match st with
  | v :: r => k v r
  | [] => False
def mm_sx (st : List Value) (k : List Value → Prop) (k0 : Nat → List Value → Prop) : Prop := match st with
  | .retAddr _ :: r => k r
  | .ref o :: r => k0 o r
  | _ => False
def mm_li (L : mm_L) (a : Nat) (k : Int32 → Prop) : Prop := match L[a]? with
  | some (some (.int x)) => k x
  | _ => False
def mm_lr (L : mm_L) (a : Nat) (k : Value → Prop) : Prop := match L[a]? with
  | some (some (.ref x)) => k (.ref x)
  | some (some (.retAddr x)) => k (.retAddr x)
  | _ => False
def mm_ob (h : mm_H) (o : Nat) (k : Nat → List Value → Prop) : Prop := match h[o]? with
  | some (.inr q) => k q.1 q.2
  | _ => False
def mm_ar (h : mm_H) (o : Nat) (k : FieldType → Nat → (Nat → Int32) → Prop) : Prop := match h[o]? with
  | some (.inl q) => k q.1 q.2.1 q.2.2
  | _ => False
def mm_fd (fs : List Value) (b : Nat) (k : Value → Prop) : Prop := match fs[b]? with
  | some v => k v
  | none => False
theorem mm_s1_inv {st : List Value} {k : Int32 → List Value → Prop} (h : mm_s1 st k) : ∃ x r, st = .int x :: r ∧ k x r := by
  unfold mm_s1 at h
  split at h
  · exact ⟨_, _, rfl, h⟩
  · exact h.elim
theorem mm_s2_inv {st : List Value} {k : Int32 → Int32 → List Value → Prop} (h : mm_s2 st k) : ∃ y x r, st = .int y :: .int x :: r ∧ k y x r := by
  unfold mm_s2 at h
  split at h
  · exact ⟨_, _, _, rfl, h⟩
  · exact h.elim
theorem mm_sr_inv {st : List Value} {k : Nat → List Value → Prop} (h : mm_sr st k) : ∃ o r, st = .ref o :: r ∧ k o r := by
  unfold mm_sr at h
  split at h
  · exact ⟨_, _, rfl, h⟩
  · exact h.elim
theorem mm_sv_inv {st : List Value} {k : Value → List Value → Prop} (h : mm_sv st k) : ∃ v r, st = v :: r ∧ k v r := by
  unfold mm_sv at h
  split at h
  · exact ⟨_, _, rfl, h⟩
  · exact h.elim
theorem mm_sx_inv {st : List Value} {k : List Value → Prop} {k0 : Nat → List Value → Prop} (h : mm_sx st k k0) : (∃ z r, st = .retAddr z :: r ∧ k r) ∨ (∃ o r, st = .ref o :: r ∧ k0 o r) := by
  unfold mm_sx at h
  split at h
  · exact Or.inl ⟨_, _, rfl, h⟩
  · exact Or.inr ⟨_, _, rfl, h⟩
  · exact h.elim
theorem mm_li_inv {L : mm_L} {a : Nat} {k : Int32 → Prop} (h : mm_li L a k) : ∃ x, L[a]? = some (some (.int x)) ∧ k x := by
  unfold mm_li at h
  split at h
  · rename_i x hx
    exact ⟨x, hx, h⟩
  · exact h.elim
theorem mm_lr_inv {L : mm_L} {a : Nat} {k : Value → Prop} (h : mm_lr L a k) : ∃ v, L[a]? = some (some v) ∧ ((∃ x, v = .ref x) ∨ ∃ x, v = .retAddr x) ∧ k v := by
  unfold mm_lr at h
  split at h
  · rename_i x hx
    exact ⟨_, hx, Or.inl ⟨x, rfl⟩, h⟩
  · rename_i x hx
    exact ⟨_, hx, Or.inr ⟨x, rfl⟩, h⟩
  · exact h.elim
theorem mm_ob_inv {h : mm_H} {o : Nat} {k : Nat → List Value → Prop} (hh : mm_ob h o k) : ∃ ci fs, h[o]? = some (.inr (ci, fs)) ∧ k ci fs := by
  unfold mm_ob at hh
  split at hh
  · rename_i q hq
    exact ⟨q.1, q.2, hq, hh⟩
  · exact hh.elim
theorem mm_ar_inv {h : mm_H} {o : Nat} {k : FieldType → Nat → (Nat → Int32) → Prop} (hh : mm_ar h o k) : ∃ ty n f, h[o]? = some (.inl (ty, n, f)) ∧ k ty n f := by
  unfold mm_ar at hh
  split at hh
  · rename_i q hq
    exact ⟨q.1, q.2.1, q.2.2, hq, hh⟩
  · exact hh.elim
theorem mm_fd_inv {fs : List Value} {b : Nat} {k : Value → Prop} (h : mm_fd fs b k) : ∃ v, fs[b]? = some v ∧ k v := by
  unfold mm_fd at h
  split at h
  · rename_i v hv
    exact ⟨v, hv, h⟩
  · exact h.elim
/-- one instruction: K is what comes behind it, P what holds at the method's end -/
def mm_ex (mi : Nat → mm_M) (df : Nat → List Value) (C : Nat → mm_H → List Value → (mm_H → Option Value → Prop) → Prop) (xs : Nat × (Nat → Int32)) (cap : Nat × Nat) (P : mm_H → Option Value → Nat → Nat → Prop) (n0 m : Nat) (K : mm_K) (I : Instr) (len a b : Nat) (c : Int32) (pc : Nat) (L : mm_L) (st : List Value) (h : mm_H) (kc ks : Nat) : Prop :=
  match I with
  | .iconst _ => K (pc + len) L (.int c :: st) h kc ks
  | .bipush _ => K (pc + len) L (.int c :: st) h kc ks
  | .sipush _ => K (pc + len) L (.int c :: st) h kc ks
  | .ldc _ => K (pc + len) L (.int c :: st) h kc ks
  | .iload_n _ => mm_li L a fun x => K (pc + len) L (.int x :: st) h kc ks
  | .iload _ => mm_li L a fun x => K (pc + len) L (.int x :: st) h kc ks
  | .aload_n _ => mm_lr L a fun v => K (pc + len) L (v :: st) h kc ks
  | .aload _ => mm_lr L a fun v => K (pc + len) L (v :: st) h kc ks
  | .istore_n _ => mm_s1 st fun x r => K (pc + len) (L.set a (some (.int x))) r h kc ks
  | .istore _ => mm_s1 st fun x r => K (pc + len) (L.set a (some (.int x))) r h kc ks
  | .astore_n _ => mm_sr st fun x r => K (pc + len) (L.set a (some (.ref x))) r h kc ks
  | .astore _ => mm_sr st fun x r => K (pc + len) (L.set a (some (.ref x))) r h kc ks
  | .iinc _ _ => mm_li L a fun x => K (pc + len) (L.set a (some (.int (x + c)))) st h kc ks
  | .iadd => mm_s2 st fun y x r => K (pc + len) L (.int (x + y) :: r) h kc ks
  | .isub => mm_s2 st fun y x r => K (pc + len) L (.int (x - y) :: r) h kc ks
  | .imul => mm_s2 st fun y x r => K (pc + len) L (.int (x * y) :: r) h kc ks
  | .iand => mm_s2 st fun y x r => K (pc + len) L (.int (x &&& y) :: r) h kc ks
  | .ior => mm_s2 st fun y x r => K (pc + len) L (.int (x ||| y) :: r) h kc ks
  | .ixor => mm_s2 st fun y x r => K (pc + len) L (.int (x ^^^ y) :: r) h kc ks
  | .ishl => mm_s2 st fun y x r => K (pc + len) L (.int (x <<< (y &&& 31)) :: r) h kc ks
  | .ishr => mm_s2 st fun y x r => K (pc + len) L (.int (x >>> (y &&& 31)) :: r) h kc ks
  | .idiv => mm_s2 st fun y x r => ¬ y = 0 ∧ K (pc + len) L (.int (x / y) :: r) h kc ks
  | .irem => mm_s2 st fun y x r => ¬ y = 0 ∧ K (pc + len) L (.int (x - x / y * y) :: r) h kc ks
  | .ineg => mm_s1 st fun x r => K (pc + len) L (.int (-x) :: r) h kc ks
  | .i2c => mm_s1 st fun x r => K (pc + len) L (.int (x.toUInt32 % 65536).toInt32 :: r) h kc ks
  | .dup => mm_sv st fun v r => v.category = 1 ∧ K (pc + len) L (v :: v :: r) h kc ks
  | .pop => mm_sv st fun v r => v.category = 1 ∧ K (pc + len) L r h kc ks
  | .dup_x1 => mm_sv st fun v r => mm_sv r fun w r => v.category = 1 ∧ w.category = 1 ∧ K (pc + len) L (v :: w :: v :: r) h kc ks
  | .dup2 => mm_sv st fun v r => mm_sv r fun w r => v.category = 1 ∧ w.category = 1 ∧ K (pc + len) L (v :: w :: v :: w :: r) h kc ks
  | .dup_x2 => mm_sv st fun v r => mm_sv r fun w r => mm_sv r fun z r => v.category = 1 ∧ w.category = 1 ∧ z.category = 1 ∧ K (pc + len) L (v :: w :: z :: v :: r) h kc ks
  | .ifCond cnd _ => mm_s1 st fun x r => (mm_cz cnd x → K a L r h kc ks) ∧ (¬ mm_cz cnd x → K (pc + len) L r h kc ks)
  | .if_icmp cnd _ => mm_s2 st fun y x r => (mm_cc cnd x y → K a L r h kc ks) ∧ (¬ mm_cc cnd x y → K (pc + len) L r h kc ks)
  | .goto _ => K a L st h kc ks
  | .lookupswitch d ps => mm_s1 st fun x r => ∃ t : Nat, (pc : Int) + Op.lookupswitch.offset ps.toList d x.toInt = (t : Int) ∧ K t L r h kc ks
  | .tableswitch d lo hi offs => mm_s1 st fun x r => (x.toInt < lo ∨ hi < x.toInt → ∃ t : Nat, (pc : Int) + d = (t : Int) ∧ K t L r h kc ks) ∧ (¬ x.toInt < lo → ¬ hi < x.toInt → ∃ (o : Int) (t : Nat), offs[(x.toInt - lo).toNat]? = some o ∧ (pc : Int) + o = (t : Int) ∧ K t L r h kc ks)
  | .getfield _ => mm_sr st fun o r => mm_ob h o fun ci fs => mm_fd fs b fun v => ci = a ∧ K (pc + len) L (v :: r) h kc ks
  | .putfield _ => mm_sv st fun v r => mm_sr r fun o r => mm_ob h o fun ci fs => ci = a ∧ b < fs.length ∧ mm_fit c v ∧ K (pc + len) L r (h.set o (.inr (ci, fs.set b v))) kc ks
  | .iaload => mm_s1 st fun i r => mm_sx r (fun r => vp_in i xs.1 ∧ K (pc + len) L (.int (xs.2 i.toNatClampNeg) :: r) h kc ks) (fun o r => mm_ar h o fun ty n f => ty = .int ∧ vp_in i n ∧ K (pc + len) L (.int (f i.toNatClampNeg) :: r) h kc ks)
  | .baload => mm_s1 st fun i r => mm_sr r fun o r => mm_ar h o fun ty n f => ty = .boolean ∧ vp_in i n ∧ K (pc + len) L (.int (f i.toNatClampNeg) :: r) h kc ks
  | .caload => mm_s1 st fun i r => mm_sr r fun o r => mm_ar h o fun ty n f => ty = .char ∧ vp_in i n ∧ K (pc + len) L (.int (f i.toNatClampNeg) :: r) h kc ks
  | .iastore => mm_s2 st fun x i r => mm_sr r fun o r => mm_ar h o fun ty n f => ty = .int ∧ vp_in i n ∧ K (pc + len) L r (h.set o (.inl (.int, n, upd f i.toNatClampNeg x))) kc ks
  | .bastore => mm_s2 st fun x i r => mm_sr r fun o r => mm_ar h o fun ty n f => ty = .boolean ∧ vp_in i n ∧ K (pc + len) L r (h.set o (.inl (.boolean, n, upd f i.toNatClampNeg (vp_nar .boolean x)))) kc ks
  | .castore => mm_s2 st fun x i r => mm_sr r fun o r => mm_ar h o fun ty n f => ty = .char ∧ vp_in i n ∧ K (pc + len) L r (h.set o (.inl (.char, n, upd f i.toNatClampNeg (vp_nar .char x)))) kc ks
  | .arraylength => mm_sx st (fun r => K (pc + len) L (.int (Int32.ofNat xs.1) :: r) h kc ks) (fun o r => mm_ar h o fun ty n _ => (ty = .int ∨ ty = .boolean ∨ ty = .char) ∧ K (pc + len) L (.int (Int32.ofNat n) :: r) h kc ks)
  | .new _ => kc + 1 ≤ cap.1 ∧ ks + b ≤ cap.2 ∧ (L.all (mm_wfo h.length) && st.all (mm_wfv h.length) && h.all (mm_wfc h.length)) = true ∧ K (pc + len) L (.ref h.length :: st) (h ++ [.inr (a, df a)]) (kc + 1) (ks + b)
  | .newarray ty => mm_s1 st fun n r => ¬ n < 0 ∧ n.toNatClampNeg ≤ 1000000 ∧ kc + 1 ≤ cap.1 ∧ ks + n.toNatClampNeg ≤ cap.2 ∧ (L.all (mm_wfo h.length) && r.all (mm_wfv h.length) && h.all (mm_wfc h.length)) = true ∧ K (pc + len) L (.ref h.length :: r) (h ++ [.inl (newarray.typeOf ty, n.toNatClampNeg, fun _ => 0)]) (kc + 1) (ks + n.toNatClampNeg)
  | .invokespecial _ => (b = 0 → mm_sr st fun _ r => mm_cat r ∧ K (pc + len) L r h kc ks) ∧ (¬ b = 0 → (∃ o As, (st.take (mm_k (mi a))).reverse = .ref o :: As) ∧ mm_cl mi C cap K a (pc + len) L st h kc ks)
  | .invokevirtual _ => mm_rcv h (mm_ci (mi a)) (st.take (mm_k (mi a))).reverse ∧ mm_cl mi C cap K a (pc + len) L st h kc ks
  | .invokestatic _ => (b = 0 → mm_s2 st fun n dp r => mm_sr r fun o1 r => mm_s1 r fun sp r => mm_sr r fun o0 r => mm_ar h o0 fun ty n0 f => mm_ar h o1 fun ty1 n1 g => (ty = .int ∨ ty = .boolean ∨ ty = .char) ∧ ty1 = ty ∧ ¬ sp < 0 ∧ ¬ dp < 0 ∧ ¬ n < 0 ∧ sp.toNatClampNeg + n.toNatClampNeg ≤ n0 ∧ dp.toNatClampNeg + n.toNatClampNeg ≤ n1 ∧ (∀ i, i < n.toNatClampNeg → fits ty (.int (f (sp.toNatClampNeg + i))) = true) ∧ mm_cat r ∧ K (pc + len) L r (h.set o1 (.inl (ty, n1, va_cpy f g sp.toNatClampNeg dp.toNatClampNeg n.toNatClampNeg))) kc ks) ∧ (¬ b = 0 → mm_cl mi C cap K a (pc + len) L st h kc ks)
  | .return_ => st = [] ∧ mm_r (mi m) = none ∧ ∃ j, n0 ≤ j ∧ P (h.take j) none kc ks
  | .ireturn => mm_s1 st fun v r => r = [] ∧ (∃ ty, mm_r (mi m) = some ty ∧ narrow ty (.int v) = .int v) ∧ ∃ j, n0 ≤ j ∧ P (h.take j) (some (.int v)) kc ks
  | .areturn => mm_sr st fun v r => r = [] ∧ (∃ ty, mm_r (mi m) = some ty ∧ ((∃ n, ty = .object n) ∨ ∃ t, ty = .array t)) ∧ ∃ j, n0 ≤ j ∧ P (h.take j) (some (.ref v)) kc ks
  | _ => False
def mm_one (mi : Nat → mm_M) (tb : Nat → Nat → Option mm_E) (df : Nat → List Value) (C : Nat → mm_H → List Value → (mm_H → Option Value → Prop) → Prop) (xs : Nat × (Nat → Int32)) (cap : Nat × Nat) (P : mm_H → Option Value → Nat → Nat → Prop) (n0 m : Nat) (K : mm_K) (pc : Nat) (L : mm_L) (st : List Value) (h : mm_H) (kc ks : Nat) : Prop :=
  match tb m pc with
  | none => False
  | some E => mm_ex mi df C xs cap P n0 m K E.1 E.2.1 E.2.2.1 E.2.2.2.1 E.2.2.2.2 pc L st h kc ks
/-- the least that the instructions close -/
def mm_run (mi : Nat → mm_M) (tb : Nat → Nat → Option mm_E) (df : Nat → List Value) (C : Nat → mm_H → List Value → (mm_H → Option Value → Prop) → Prop) (xs : Nat × (Nat → Int32)) (cap : Nat × Nat) (P : mm_H → Option Value → Nat → Nat → Prop) (n0 m : Nat) : mm_K := fun pc L st h kc ks =>
  ∀ X : mm_K, (∀ pc L st h kc ks, mm_one mi tb df C xs cap P n0 m X pc L st h kc ks → X pc L st h kc ks) → X pc L st h kc ks
def mm_in0 (M : mm_M) (as : List Value) : mm_L := as.map some ++ List.replicate (mm_n M - as.length) none
/-- what method y comes to, with at most d frames on top of one another -/
def mm_call (mi : Nat → mm_M) (tb : Nat → Nat → Option mm_E) (df : Nat → List Value) (xs : Nat × (Nat → Int32)) : Nat → Nat → mm_H → List Value → (mm_H → Option Value → Prop) → Prop
  | 0 => fun _ _ _ _ => False
  | d + 1 => fun y h as P => as.length = mm_k (mi y) ∧ (as.all fun v => v.category == 1) = true ∧ mm_run mi tb df (mm_call mi tb df xs d) xs (mm_mc (mi y), mm_ms (mi y)) (fun h' r _ _ => P h' r) h.length y 0 (mm_in0 (mi y) as) [] h 0 0
def mm_Cm (C : Nat → mm_H → List Value → (mm_H → Option Value → Prop) → Prop) : Prop := ∀ y h as P P', (∀ h' v, P h' v → P' h' v) → C y h as P → C y h as P'
theorem mm_cl_mono {mi : Nat → mm_M} {C : Nat → mm_H → List Value → (mm_H → Option Value → Prop) → Prop} {cap : Nat × Nat} {K K' : mm_K} {y nx : Nat} {L : mm_L} {st : List Value} {h : mm_H} {kc ks : Nat} (hC : mm_Cm C) (hK : ∀ pc L st h kc ks, K pc L st h kc ks → K' pc L st h kc ks) (hE : mm_cl mi C cap K y nx L st h kc ks) : mm_cl mi C cap K' y nx L st h kc ks := by
  obtain ⟨e1, e2, e3, e4, e5, e6⟩ := hE
  exact ⟨e1, e2, e3, e4, e5, hC _ _ _ _ _ (fun h' v hv => hK _ _ _ _ _ _ hv) e6⟩
set_option maxHeartbeats 4000000 in
theorem mm_ex_mono {mi : Nat → mm_M} {df : Nat → List Value} {C : Nat → mm_H → List Value → (mm_H → Option Value → Prop) → Prop} {xs : Nat × (Nat → Int32)} {cap : Nat × Nat} {P P' : mm_H → Option Value → Nat → Nat → Prop} {n0 m : Nat} {K K' : mm_K} (hC : mm_Cm C) (hP : ∀ h v kc ks, P h v kc ks → P' h v kc ks) (hK : ∀ pc L st h kc ks, K pc L st h kc ks → K' pc L st h kc ks) {I : Instr} {len a b : Nat} {c : Int32} {pc : Nat} {L : mm_L} {st : List Value} {h : mm_H} {kc ks : Nat} (hE : mm_ex mi df C xs cap P n0 m K I len a b c pc L st h kc ks) : mm_ex mi df C xs cap P' n0 m K' I len a b c pc L st h kc ks := by
  cases I with
  | iconst z0 =>
    dsimp only [mm_ex] at hE ⊢
    exact hK _ _ _ _ _ _ hE
  | bipush z0 =>
    dsimp only [mm_ex] at hE ⊢
    exact hK _ _ _ _ _ _ hE
  | sipush z0 =>
    dsimp only [mm_ex] at hE ⊢
    exact hK _ _ _ _ _ _ hE
  | ldc z0 =>
    dsimp only [mm_ex] at hE ⊢
    exact hK _ _ _ _ _ _ hE
  | iload_n z0 =>
    dsimp only [mm_ex] at hE ⊢
    obtain ⟨x, h1, hE1⟩ := mm_li_inv hE
    show mm_li L a _
    unfold mm_li
    rw [h1]
    exact hK _ _ _ _ _ _ hE1
  | iload z0 =>
    dsimp only [mm_ex] at hE ⊢
    obtain ⟨x, h1, hE2⟩ := mm_li_inv hE
    show mm_li L a _
    unfold mm_li
    rw [h1]
    exact hK _ _ _ _ _ _ hE2
  | aload_n z0 =>
    dsimp only [mm_ex] at hE ⊢
    obtain ⟨v, h1, h2, hE3⟩ := mm_lr_inv hE
    show mm_lr L a _
    unfold mm_lr
    rw [h1]
    rcases h2 with ⟨x, rfl⟩ | ⟨x, rfl⟩ <;> exact hK _ _ _ _ _ _ hE3
  | aload z0 =>
    dsimp only [mm_ex] at hE ⊢
    obtain ⟨v, h1, h2, hE4⟩ := mm_lr_inv hE
    show mm_lr L a _
    unfold mm_lr
    rw [h1]
    rcases h2 with ⟨x, rfl⟩ | ⟨x, rfl⟩ <;> exact hK _ _ _ _ _ _ hE4
  | istore_n z0 =>
    dsimp only [mm_ex] at hE ⊢
    obtain ⟨x, r, rfl, hE5⟩ := mm_s1_inv hE
    exact hK _ _ _ _ _ _ hE5
  | istore z0 =>
    dsimp only [mm_ex] at hE ⊢
    obtain ⟨x, r, rfl, hE6⟩ := mm_s1_inv hE
    exact hK _ _ _ _ _ _ hE6
  | astore_n z0 =>
    dsimp only [mm_ex] at hE ⊢
    obtain ⟨x, r, rfl, hE7⟩ := mm_sr_inv hE
    exact hK _ _ _ _ _ _ hE7
  | astore z0 =>
    dsimp only [mm_ex] at hE ⊢
    obtain ⟨x, r, rfl, hE8⟩ := mm_sr_inv hE
    exact hK _ _ _ _ _ _ hE8
  | iinc z0 z1 =>
    dsimp only [mm_ex] at hE ⊢
    obtain ⟨x, h1, hE9⟩ := mm_li_inv hE
    show mm_li L a _
    unfold mm_li
    rw [h1]
    exact hK _ _ _ _ _ _ hE9
  | iadd =>
    dsimp only [mm_ex] at hE ⊢
    obtain ⟨y, x, r, rfl, hE10⟩ := mm_s2_inv hE
    exact hK _ _ _ _ _ _ hE10
  | isub =>
    dsimp only [mm_ex] at hE ⊢
    obtain ⟨y, x, r, rfl, hE11⟩ := mm_s2_inv hE
    exact hK _ _ _ _ _ _ hE11
  | imul =>
    dsimp only [mm_ex] at hE ⊢
    obtain ⟨y, x, r, rfl, hE12⟩ := mm_s2_inv hE
    exact hK _ _ _ _ _ _ hE12
  | iand =>
    dsimp only [mm_ex] at hE ⊢
    obtain ⟨y, x, r, rfl, hE13⟩ := mm_s2_inv hE
    exact hK _ _ _ _ _ _ hE13
  | ior =>
    dsimp only [mm_ex] at hE ⊢
    obtain ⟨y, x, r, rfl, hE14⟩ := mm_s2_inv hE
    exact hK _ _ _ _ _ _ hE14
  | ixor =>
    dsimp only [mm_ex] at hE ⊢
    obtain ⟨y, x, r, rfl, hE15⟩ := mm_s2_inv hE
    exact hK _ _ _ _ _ _ hE15
  | ishl =>
    dsimp only [mm_ex] at hE ⊢
    obtain ⟨y, x, r, rfl, hE16⟩ := mm_s2_inv hE
    exact hK _ _ _ _ _ _ hE16
  | ishr =>
    dsimp only [mm_ex] at hE ⊢
    obtain ⟨y, x, r, rfl, hE17⟩ := mm_s2_inv hE
    exact hK _ _ _ _ _ _ hE17
  | idiv =>
    dsimp only [mm_ex] at hE ⊢
    obtain ⟨y, x, r, rfl, h1, hE18⟩ := mm_s2_inv hE
    exact ⟨h1, hK _ _ _ _ _ _ hE18⟩
  | irem =>
    dsimp only [mm_ex] at hE ⊢
    obtain ⟨y, x, r, rfl, h1, hE19⟩ := mm_s2_inv hE
    exact ⟨h1, hK _ _ _ _ _ _ hE19⟩
  | ineg =>
    dsimp only [mm_ex] at hE ⊢
    obtain ⟨x, r, rfl, hE20⟩ := mm_s1_inv hE
    exact hK _ _ _ _ _ _ hE20
  | i2c =>
    dsimp only [mm_ex] at hE ⊢
    obtain ⟨x, r, rfl, hE21⟩ := mm_s1_inv hE
    exact hK _ _ _ _ _ _ hE21
  | dup =>
    dsimp only [mm_ex] at hE ⊢
    obtain ⟨v, r, rfl, h1, hE22⟩ := mm_sv_inv hE
    exact ⟨h1, hK _ _ _ _ _ _ hE22⟩
  | pop =>
    dsimp only [mm_ex] at hE ⊢
    obtain ⟨v, r, rfl, h1, hE23⟩ := mm_sv_inv hE
    exact ⟨h1, hK _ _ _ _ _ _ hE23⟩
  | dup_x1 =>
    dsimp only [mm_ex] at hE ⊢
    obtain ⟨v, r, rfl, hE24⟩ := mm_sv_inv hE
    obtain ⟨v2, r, rfl, h1, h2, hE25⟩ := mm_sv_inv hE24
    exact ⟨h1, h2, hK _ _ _ _ _ _ hE25⟩
  | dup2 =>
    dsimp only [mm_ex] at hE ⊢
    obtain ⟨v, r, rfl, hE26⟩ := mm_sv_inv hE
    obtain ⟨v2, r, rfl, h1, h2, hE27⟩ := mm_sv_inv hE26
    exact ⟨h1, h2, hK _ _ _ _ _ _ hE27⟩
  | dup_x2 =>
    dsimp only [mm_ex] at hE ⊢
    obtain ⟨v, r, rfl, hE28⟩ := mm_sv_inv hE
    obtain ⟨v2, r, rfl, hE29⟩ := mm_sv_inv hE28
    obtain ⟨v3, r, rfl, h1, h2, h3, hE30⟩ := mm_sv_inv hE29
    exact ⟨h1, h2, h3, hK _ _ _ _ _ _ hE30⟩
  | ifCond z0 z1 =>
    dsimp only [mm_ex] at hE ⊢
    obtain ⟨x, r, rfl, h1, h2⟩ := mm_s1_inv hE
    exact ⟨fun z => hK _ _ _ _ _ _ (h1 z), fun z => hK _ _ _ _ _ _ (h2 z)⟩
  | if_icmp z0 z1 =>
    dsimp only [mm_ex] at hE ⊢
    obtain ⟨y, x, r, rfl, h1, h2⟩ := mm_s2_inv hE
    exact ⟨fun z => hK _ _ _ _ _ _ (h1 z), fun z => hK _ _ _ _ _ _ (h2 z)⟩
  | goto z0 =>
    dsimp only [mm_ex] at hE ⊢
    exact hK _ _ _ _ _ _ hE
  | lookupswitch z0 z1 =>
    dsimp only [mm_ex] at hE ⊢
    obtain ⟨x, r, rfl, q, h1, hE31⟩ := mm_s1_inv hE
    exact ⟨q, h1, hK _ _ _ _ _ _ hE31⟩
  | tableswitch z0 z1 z2 z3 =>
    dsimp only [mm_ex] at hE ⊢
    obtain ⟨x, r, rfl, h1, h2⟩ := mm_s1_inv hE
    exact ⟨fun z => (h1 z).imp fun q hq => ⟨hq.1, hK _ _ _ _ _ _ hq.2⟩, fun z z' => (h2 z z').imp fun o ho => ho.imp fun q hq => ⟨hq.1, hq.2.1, hK _ _ _ _ _ _ hq.2.2⟩⟩
  | getfield z0 =>
    dsimp only [mm_ex] at hE ⊢
    obtain ⟨o, r, rfl, hE32⟩ := mm_sr_inv hE
    obtain ⟨ci, fs, h1, hE33⟩ := mm_ob_inv hE32
    obtain ⟨v, h2, h3, hE34⟩ := mm_fd_inv hE33
    dsimp only [mm_s1, mm_s2, mm_sr, mm_sx, mm_sv]
    show mm_ob h o _
    unfold mm_ob
    rw [h1]
    show mm_fd fs b _
    unfold mm_fd
    rw [h2]
    exact ⟨h3, hK _ _ _ _ _ _ hE34⟩
  | putfield z0 =>
    dsimp only [mm_ex] at hE ⊢
    obtain ⟨v, r, rfl, hE35⟩ := mm_sv_inv hE
    obtain ⟨o, r, rfl, hE36⟩ := mm_sr_inv hE35
    obtain ⟨ci, fs, h1, h2, h3, h4, hE37⟩ := mm_ob_inv hE36
    dsimp only [mm_s1, mm_s2, mm_sr, mm_sx, mm_sv]
    show mm_ob h o _
    unfold mm_ob
    rw [h1]
    exact ⟨h2, h3, h4, hK _ _ _ _ _ _ hE37⟩
  | iaload =>
    dsimp only [mm_ex] at hE ⊢
    obtain ⟨i, r, rfl, hE38⟩ := mm_s1_inv hE
    rcases mm_sx_inv hE38 with ⟨z, r, rfl, h1, hE39⟩ | ⟨o, r, rfl, hE39⟩
    · exact ⟨h1, hK _ _ _ _ _ _ hE39⟩
    · obtain ⟨ty, n, f, h1, h2, h3, hE40⟩ := mm_ar_inv hE39
      dsimp only [mm_s1, mm_s2, mm_sr, mm_sx, mm_sv]
      show mm_ar h o _
      unfold mm_ar
      rw [h1]
      exact ⟨h2, h3, hK _ _ _ _ _ _ hE40⟩
  | baload =>
    dsimp only [mm_ex] at hE ⊢
    obtain ⟨i, r, rfl, hE41⟩ := mm_s1_inv hE
    obtain ⟨o, r, rfl, hE42⟩ := mm_sr_inv hE41
    obtain ⟨ty, n, f, h1, h2, h3, hE43⟩ := mm_ar_inv hE42
    dsimp only [mm_s1, mm_s2, mm_sr, mm_sx, mm_sv]
    show mm_ar h o _
    unfold mm_ar
    rw [h1]
    exact ⟨h2, h3, hK _ _ _ _ _ _ hE43⟩
  | caload =>
    dsimp only [mm_ex] at hE ⊢
    obtain ⟨i, r, rfl, hE44⟩ := mm_s1_inv hE
    obtain ⟨o, r, rfl, hE45⟩ := mm_sr_inv hE44
    obtain ⟨ty, n, f, h1, h2, h3, hE46⟩ := mm_ar_inv hE45
    dsimp only [mm_s1, mm_s2, mm_sr, mm_sx, mm_sv]
    show mm_ar h o _
    unfold mm_ar
    rw [h1]
    exact ⟨h2, h3, hK _ _ _ _ _ _ hE46⟩
  | iastore =>
    dsimp only [mm_ex] at hE ⊢
    obtain ⟨x, i, r, rfl, hE47⟩ := mm_s2_inv hE
    obtain ⟨o, r, rfl, hE48⟩ := mm_sr_inv hE47
    obtain ⟨ty, n, f, h1, h2, h3, hE49⟩ := mm_ar_inv hE48
    dsimp only [mm_s1, mm_s2, mm_sr, mm_sx, mm_sv]
    show mm_ar h o _
    unfold mm_ar
    rw [h1]
    exact ⟨h2, h3, hK _ _ _ _ _ _ hE49⟩
  | bastore =>
    dsimp only [mm_ex] at hE ⊢
    obtain ⟨x, i, r, rfl, hE50⟩ := mm_s2_inv hE
    obtain ⟨o, r, rfl, hE51⟩ := mm_sr_inv hE50
    obtain ⟨ty, n, f, h1, h2, h3, hE52⟩ := mm_ar_inv hE51
    dsimp only [mm_s1, mm_s2, mm_sr, mm_sx, mm_sv]
    show mm_ar h o _
    unfold mm_ar
    rw [h1]
    exact ⟨h2, h3, hK _ _ _ _ _ _ hE52⟩
  | castore =>
    dsimp only [mm_ex] at hE ⊢
    obtain ⟨x, i, r, rfl, hE53⟩ := mm_s2_inv hE
    obtain ⟨o, r, rfl, hE54⟩ := mm_sr_inv hE53
    obtain ⟨ty, n, f, h1, h2, h3, hE55⟩ := mm_ar_inv hE54
    dsimp only [mm_s1, mm_s2, mm_sr, mm_sx, mm_sv]
    show mm_ar h o _
    unfold mm_ar
    rw [h1]
    exact ⟨h2, h3, hK _ _ _ _ _ _ hE55⟩
  | arraylength =>
    dsimp only [mm_ex] at hE ⊢
    rcases mm_sx_inv hE with ⟨z, r, rfl, hE56⟩ | ⟨o, r, rfl, hE56⟩
    · exact hK _ _ _ _ _ _ hE56
    · obtain ⟨ty, n, f, h1, h2, hE57⟩ := mm_ar_inv hE56
      dsimp only [mm_s1, mm_s2, mm_sr, mm_sx, mm_sv]
      show mm_ar h o _
      unfold mm_ar
      rw [h1]
      exact ⟨h2, hK _ _ _ _ _ _ hE57⟩
  | new z0 =>
    dsimp only [mm_ex] at hE ⊢
    obtain ⟨h1, h2, h3, hE58⟩ := hE
    exact ⟨h1, h2, h3, hK _ _ _ _ _ _ hE58⟩
  | newarray z0 =>
    dsimp only [mm_ex] at hE ⊢
    obtain ⟨n, r, rfl, h1, h2, h3, h4, h5, hE59⟩ := mm_s1_inv hE
    exact ⟨h1, h2, h3, h4, h5, hK _ _ _ _ _ _ hE59⟩
  | invokespecial z0 =>
    dsimp only [mm_ex] at hE ⊢
    obtain ⟨h1, h2⟩ := hE
    refine ⟨fun z => ?_, fun z => ⟨(h2 z).1, mm_cl_mono hC hK (h2 z).2⟩⟩
    obtain ⟨o, r, rfl, h3, hE60⟩ := mm_sr_inv (h1 z)
    exact ⟨h3, hK _ _ _ _ _ _ hE60⟩
  | invokevirtual z0 =>
    dsimp only [mm_ex] at hE ⊢
    exact ⟨hE.1, mm_cl_mono hC hK hE.2⟩
  | invokestatic z0 =>
    dsimp only [mm_ex] at hE ⊢
    obtain ⟨h1, h2⟩ := hE
    refine ⟨fun z => ?_, fun z => mm_cl_mono hC hK (h2 z)⟩
    obtain ⟨n, dp, r, rfl, hE61⟩ := mm_s2_inv (h1 z)
    obtain ⟨o1, r, rfl, hE62⟩ := mm_sr_inv hE61
    obtain ⟨sp, r, rfl, hE63⟩ := mm_s1_inv hE62
    obtain ⟨o0, r, rfl, hE64⟩ := mm_sr_inv hE63
    obtain ⟨ty, m0, f, h3, hE65⟩ := mm_ar_inv hE64
    obtain ⟨ty1, m1, g, h4, hE66⟩ := mm_ar_inv hE65
    obtain ⟨j1, j2, j3, j4, j5, j6, j7, j8, j9, hE67⟩ := hE66
    dsimp only [mm_s1, mm_s2, mm_sr, mm_sx, mm_sv]
    show mm_ar h o0 _
    unfold mm_ar
    rw [h3]
    dsimp only
    rw [h4]
    exact ⟨j1, j2, j3, j4, j5, j6, j7, j8, j9, hK _ _ _ _ _ _ hE67⟩
  | return_ =>
    dsimp only [mm_ex] at hE ⊢
    obtain ⟨h1, h2, j, h3, h4⟩ := hE
    exact ⟨h1, h2, j, h3, hP _ _ _ _ h4⟩
  | ireturn =>
    dsimp only [mm_ex] at hE ⊢
    obtain ⟨x, r, rfl, h1, h2, j, h3, h4⟩ := mm_s1_inv hE
    exact ⟨h1, h2, j, h3, hP _ _ _ _ h4⟩
  | areturn =>
    dsimp only [mm_ex] at hE ⊢
    obtain ⟨x, r, rfl, h1, h2, j, h3, h4⟩ := mm_sr_inv hE
    exact ⟨h1, h2, j, h3, hP _ _ _ _ h4⟩
  | _ => exact hE
theorem mm_one_mono {mi : Nat → mm_M} {tb : Nat → Nat → Option mm_E} {df : Nat → List Value} {C : Nat → mm_H → List Value → (mm_H → Option Value → Prop) → Prop} {xs : Nat × (Nat → Int32)} {cap : Nat × Nat} {P P' : mm_H → Option Value → Nat → Nat → Prop} {n0 m : Nat} {K K' : mm_K} (hC : mm_Cm C) (hP : ∀ h v kc ks, P h v kc ks → P' h v kc ks) (hK : ∀ pc L st h kc ks, K pc L st h kc ks → K' pc L st h kc ks) {pc : Nat} {L : mm_L} {st : List Value} {h : mm_H} {kc ks : Nat} (hE : mm_one mi tb df C xs cap P n0 m K pc L st h kc ks) : mm_one mi tb df C xs cap P' n0 m K' pc L st h kc ks := by
  unfold mm_one at hE ⊢
  split at hE
  · exact hE.elim
  · exact mm_ex_mono hC hP hK hE
theorem mm_run_in {mi : Nat → mm_M} {tb : Nat → Nat → Option mm_E} {df : Nat → List Value} {C : Nat → mm_H → List Value → (mm_H → Option Value → Prop) → Prop} {xs : Nat × (Nat → Int32)} {cap : Nat × Nat} {P : mm_H → Option Value → Nat → Nat → Prop} {n0 m : Nat} (hC : mm_Cm C) {pc : Nat} {L : mm_L} {st : List Value} {h : mm_H} {kc ks : Nat} (hE : mm_one mi tb df C xs cap P n0 m (mm_run mi tb df C xs cap P n0 m) pc L st h kc ks) : mm_run mi tb df C xs cap P n0 m pc L st h kc ks :=
  fun X hX => hX _ _ _ _ _ _ (mm_one_mono hC (fun _ _ _ _ h => h) (fun _ _ _ _ _ _ hr => hr X hX) hE)
theorem mm_run_mono {mi : Nat → mm_M} {tb : Nat → Nat → Option mm_E} {df : Nat → List Value} {C : Nat → mm_H → List Value → (mm_H → Option Value → Prop) → Prop} {xs : Nat × (Nat → Int32)} {cap : Nat × Nat} {P P' : mm_H → Option Value → Nat → Nat → Prop} {n0 m : Nat} (hC : mm_Cm C) (hP : ∀ h v kc ks, P h v kc ks → P' h v kc ks) {pc : Nat} {L : mm_L} {st : List Value} {h : mm_H} {kc ks : Nat} (hE : mm_run mi tb df C xs cap P n0 m pc L st h kc ks) : mm_run mi tb df C xs cap P' n0 m pc L st h kc ks :=
  fun X hX => hE X (fun _ _ _ _ _ _ h1 => hX _ _ _ _ _ _ (mm_one_mono hC hP (fun _ _ _ _ _ _ h => h) h1))
theorem mm_call_mono {mi : Nat → mm_M} {tb : Nat → Nat → Option mm_E} {df : Nat → List Value} {xs : Nat × (Nat → Int32)} : ∀ d, mm_Cm (mm_call mi tb df xs d)
  | 0, _, _, _, _, _, _, h => h
  | d + 1, _, _, _, _, _, hP, h => ⟨h.1, h.2.1, mm_run_mono (mm_call_mono d) (fun h' v _ _ hv => hP h' v hv) h.2.2⟩
end
section
/-! what the tables must say, as a check that a program decides -/
abbrev mm_F : Type := String × Nat × String × String × String × String
abbrev mm_N : Type := String × Nat × MethodName × String
def mm_okc (WS : List Cond) (df : List Value) (q : vw_C) : Bool :=
  (List.range q.2.2).all (fun k => (parseFieldDescriptor (q.2.1 k).2.2.1).isSome && decide (u_lay q.1 q.2.1 k ∈ WS) && decide (defaultValue ((parseFieldDescriptor (q.2.1 k).2.2.1).getD .int) = vp_V df k)) &&
  (List.range q.2.2).all (fun a => (List.range q.2.2).all (fun b => decide (a = b) || decide ((q.2.1 a).2.1 ≠ (q.2.1 b).2.1))) &&
  df.all (fun v => decide (v = .int 0) || decide (v = .null))
def mm_lk (WS : List Cond) (nF : List mm_F) (own : String) (i : Nat) (f : String × String × String × Bool) : Bool :=
  decide (Cond.fieldLink own i f.1 f.2.1 f.2.2.1 ∈ WS) || nF.any (fun q => decide (q.1 = own ∧ q.2.1 = i ∧ q.2.2.1 = f.1 ∧ q.2.2.2.1 = f.2.1 ∧ q.2.2.2.2.1 = f.2.2.1))
def mm_ty (c : Int32) (ty : FieldType) : Bool := match ty with
  | .int => decide (c = 0)
  | .boolean => decide (c = 1)
  | .object _ => decide (c = 3)
  | .array _ => decide (c = 3)
  | _ => false
def mm_fl (cl : List vw_C) (WS : List Cond) (nF : List mm_F) (own : String) (i ci k : Nat) : Bool := match cl[ci]? with
  | none => false
  | some q => decide (k < q.2.2) && mm_lk WS nF own i (q.2.1 k)
def mm_fp (cl : List vw_C) (WS : List Cond) (nF : List mm_F) (own nm : String) (i ci k : Nat) (c : Int32) : Bool := match cl[ci]? with
  | none => false
  | some q => decide (k < q.2.2) && (match parseFieldDescriptor (q.2.1 k).2.2.1 with
    | none => false
    | some ty => mm_ty c ty) && (if (q.2.1 k).2.2.2 = true then decide (nm = "<init>") && decide ((q.2.1 k).1 = own) && decide (Cond.fieldLink own i (q.2.1 k).1 (q.2.1 k).2.1 (q.2.1 k).2.2.1 ∈ WS) else mm_lk WS nF own i (q.2.1 k))
def mm_ml (WS : List Cond) (nM : List mm_N) (own : String) (i : Nat) (y : MethodName) : Bool :=
  decide (Cond.methodLink own i y ∈ WS) || nM.any (fun q => decide (q.1 = own ∧ q.2.1 = i ∧ q.2.2.1 = y))
def mm_my (WS : List Cond) (y : MethodName) (k : Nat) : Bool :=
  decide (y.cls ≠ "java/lang/invoke/MethodHandle") && decide (y.cls ≠ "java/lang/invoke/VarHandle") && decide ((parseMethodDescriptor y.desc).map (fun d => d.parameters.length) = some k) && decide (Cond.initialized y.cls ∈ WS)
def mm_sd (mi : Nat → mm_M) (cl : List vw_C) (WS : List Cond) (nF : List mm_F) (nM : List mm_N) (nm m pc : Nat) (E : mm_E) : Bool := match E.1 with
  | .iconst n => decide (E.2.1 = 1 ∧ Int32.ofInt n = E.2.2.2.2)
  | .bipush n => decide (E.2.1 = 2 ∧ (Int8.ofInt n).toInt32 = E.2.2.2.2)
  | .sipush n => decide (E.2.1 = 3 ∧ (Int16.ofInt n).toInt32 = E.2.2.2.2)
  | .ldc i => decide (E.2.1 = 2) && decide (Cond.constant (mm_y (mi m)).cls i E.2.2.2.2 ∈ WS)
  | .iload_n k => decide (E.2.1 = 1 ∧ (k : Nat) = E.2.2.1)
  | .iload k => decide (E.2.1 = 2 ∧ k = E.2.2.1)
  | .aload_n k => decide (E.2.1 = 1 ∧ (k : Nat) = E.2.2.1)
  | .aload k => decide (E.2.1 = 2 ∧ k = E.2.2.1)
  | .istore_n k => decide (E.2.1 = 1 ∧ (k : Nat) = E.2.2.1 ∧ E.2.2.1 < mm_n (mi m))
  | .istore k => decide (E.2.1 = 2 ∧ k = E.2.2.1 ∧ E.2.2.1 < mm_n (mi m))
  | .astore_n k => decide (E.2.1 = 1 ∧ (k : Nat) = E.2.2.1 ∧ E.2.2.1 < mm_n (mi m))
  | .astore k => decide (E.2.1 = 2 ∧ k = E.2.2.1 ∧ E.2.2.1 < mm_n (mi m))
  | .iinc k n => decide (E.2.1 = 3 ∧ k = E.2.2.1 ∧ E.2.2.1 < mm_n (mi m) ∧ Int32.ofInt n = E.2.2.2.2)
  | .ifCond _ off => decide (E.2.1 = 3 ∧ (pc : Int) + off = (E.2.2.1 : Int))
  | .if_icmp _ off => decide (E.2.1 = 3 ∧ (pc : Int) + off = (E.2.2.1 : Int))
  | .goto off => decide (E.2.1 = 3 ∧ (pc : Int) + off = (E.2.2.1 : Int))
  | .lookupswitch _ ps => (ps.toList.zip (ps.toList.drop 1)).all (fun (a, next) => a.1 < next.1)
  | .tableswitch _ _ _ _ => true
  | .getfield i => decide (E.2.1 = 3) && mm_fl cl WS nF (mm_y (mi m)).cls i E.2.2.1 E.2.2.2.1
  | .putfield i => decide (E.2.1 = 3) && mm_fp cl WS nF (mm_y (mi m)).cls (mm_y (mi m)).name i E.2.2.1 E.2.2.2.1 E.2.2.2.2
  | .new i => decide (E.2.1 = 3) && (match cl[E.2.2.1]? with
    | none => false
    | some q => decide (q.2.2 = E.2.2.2.1) && decide (Cond.classLink (mm_y (mi m)).cls i q.1 ∈ WS) && decide (Cond.instantiable q.1 q.2.2 ∈ WS) && decide (Cond.initialized q.1 ∈ WS))
  | .newarray ty => decide (E.2.1 = 2) && (decide (newarray.typeOf ty = .int) || decide (newarray.typeOf ty = .boolean) || decide (newarray.typeOf ty = .char)) && decide (Cond.arrayClass (newarray.typeOf ty) ∈ WS)
  | .invokespecial i => decide (E.2.1 = 3) && (if E.2.2.2.1 = 0 then decide (Cond.methodLink (mm_y (mi m)).cls i objectInit ∈ WS) && decide (Cond.instanceMethod objectInit ∈ WS)
    else decide (E.2.2.1 < nm) && decide ((mm_y (mi E.2.2.1)).name = "<init>") && decide (mm_r (mi E.2.2.1) = none) && decide (0 < mm_k (mi E.2.2.1)) && mm_ml WS nM (mm_y (mi m)).cls i (mm_y (mi E.2.2.1)) && mm_my WS (mm_y (mi E.2.2.1)) (mm_k (mi E.2.2.1) - 1) && decide (Cond.instanceMethod (mm_y (mi E.2.2.1)) ∈ WS))
  | .invokevirtual i => decide (E.2.1 = 3) && decide (E.2.2.1 < nm) && decide (0 < mm_k (mi E.2.2.1)) && mm_ml WS nM (mm_y (mi m)).cls i (mm_y (mi E.2.2.1)) && mm_my WS (mm_y (mi E.2.2.1)) (mm_k (mi E.2.2.1) - 1) && decide (Cond.instanceMethod (mm_y (mi E.2.2.1)) ∈ WS) && decide (Cond.selects (mm_y (mi E.2.2.1)).cls (mm_y (mi E.2.2.1)) (mm_y (mi E.2.2.1)) ∈ WS) && (match cl[mm_ci (mi E.2.2.1)]? with
    | none => false
    | some q => decide (q.1 = (mm_y (mi E.2.2.1)).cls))
  | .invokestatic i => decide (E.2.1 = 3) && (if E.2.2.2.1 = 0 then decide (Cond.methodLink (mm_y (mi m)).cls i arraycopyName ∈ WS) && decide (Cond.native arraycopyName ∈ WS) && decide (Cond.static arraycopyName ∈ WS) && decide (Cond.initialized "java/lang/System" ∈ WS)
    else decide (E.2.2.1 < nm) && mm_ml WS nM (mm_y (mi m)).cls i (mm_y (mi E.2.2.1)) && mm_my WS (mm_y (mi E.2.2.1)) (mm_k (mi E.2.2.1)) && decide (Cond.static (mm_y (mi E.2.2.1)) ∈ WS))
  | _ => decide (E.2.1 = 1)
def mm_ok (mi : Nat → mm_M) (cl : List vw_C) (WS : List Cond) (nF : List mm_F) (nM : List mm_N) (nm m pc : Nat) (E : mm_E) : Bool :=
  decide (decode (mm_b (mi m)) pc = .ok (E.1, E.2.1)) && mm_sd mi cl WS nF nM nm m pc E
def mm_okm (M : mm_M) : Bool := plainName (mm_y M).cls && decide (mm_n M ≤ 41) && decide (mm_k M ≤ mm_n M)
/-- the words of method y -/
def mm_cw (M : mm_M) : Cond := .code (mm_y M) (mm_b M) (mm_n M) (mm_r M)
def mm_ws (mi : Nat → mm_M) (WS : List Cond) (nm y : Nat) : List Cond := mm_cw (mi y) :: ((List.range nm).map (fun i => mm_cw (mi i)) ++ (Cond.code objectInit ⟨#[0xb1]⟩ 1 none :: WS))
/-! values, cells, locals: small facts -/
theorem mm_v_cat (b : Nat) (φ : Nat → Nat) (v : Value) : (mm_v b φ v).category = v.category := by cases v <;> rfl
theorem mm_v_ext {b n : Nat} {φ φ' : Nat → Nat} {v : Value} (hw : mm_wfv n v = true) (hp : ∀ k, k < n → φ' k = φ k) : mm_v b φ' v = mm_v b φ v := by
  cases v with
  | ref k =>
    have hk : k < n := Nat.le_of_ble_eq_true hw
    show Value.ref (φ' k) = Value.ref (φ k)
    rw [hp k hk]
  | _ => rfl
theorem mm_vs_ext {b n : Nat} {φ φ' : Nat → Nat} {l : List Value} (hw : l.all (mm_wfv n) = true) (hp : ∀ k, k < n → φ' k = φ k) : l.map (mm_v b φ') = l.map (mm_v b φ) :=
  List.map_congr_left fun v hv => mm_v_ext (List.all_eq_true.mp hw v hv) hp
theorem mm_c_ext {b n : Nat} {φ φ' : Nat → Nat} {dA : FieldType → ClassId} {c : mm_C} (hw : mm_wfc n c = true) (hp : ∀ k, k < n → φ' k = φ k) : mm_c b φ' dA c = mm_c b φ dA c := by
  cases c with
  | inl q => rfl
  | inr q =>
    show Sum.inr (q.1, q.2.map (mm_v b φ')) = Sum.inr (q.1, q.2.map (mm_v b φ))
    rw [mm_vs_ext hw hp]
theorem mm_w_get {b : Nat} {φ : Nat → Nat} {dA : FieldType → ClassId} {h : mm_H} (k : Nat) : (mm_w b φ dA h)[k]? = (h[k]?).map (fun c => (φ k, mm_c b φ dA c)) := by
  simp [mm_w]
theorem mm_w_len {b : Nat} {φ : Nat → Nat} {dA : FieldType → ClassId} {h : mm_H} : (mm_w b φ dA h).length = h.length := by simp [mm_w]
theorem mm_w_at {b : Nat} {φ : Nat → Nat} {dA : FieldType → ClassId} {h : mm_H} {o : Nat} {c : mm_C} (ho : h[o]? = some c) : (mm_w b φ dA h)[o]? = some (φ o, mm_c b φ dA c) := by
  rw [mm_w_get, ho]; rfl
theorem mm_w_set {b : Nat} {φ : Nat → Nat} {dA : FieldType → ClassId} {h : mm_H} {o : Nat} {c : mm_C} : (mm_w b φ dA h).set o (φ o, mm_c b φ dA c) = mm_w b φ dA (h.set o c) := by
  apply List.ext_getElem?
  intro k
  rw [mm_w_get, List.getElem?_set, List.getElem?_set, mm_w_get, mm_w_len]
  by_cases hk : o = k
  · subst hk
    by_cases hl : o < h.length
    · simp [hl]
    · simp [hl]
  · simp [hk]
theorem mm_w_app {b q : Nat} {φ : Nat → Nat} {dA : FieldType → ClassId} {h : mm_H} {c : mm_C} {e : va_E} (hw : h.all (mm_wfc h.length) = true) (hc : ∀ φ', mm_c b φ' dA c = e) : mm_w b (fun k => if k = h.length then q else φ k) dA (h ++ [c]) = mm_w b φ dA h ++ [(q, e)] := by
  apply List.ext_getElem?
  intro k
  rw [mm_w_get]
  by_cases hk : k < h.length
  · rw [List.getElem?_append_left hk, List.getElem?_append_left (by rw [mm_w_len]; exact hk), mm_w_get]
    cases hx : h[k]? with
    | none => rfl
    | some x =>
      have hx2 : mm_wfc h.length x = true := List.all_eq_true.mp hw x (List.mem_of_getElem? hx)
      show some (_, _) = some (_, _)
      rw [mm_c_ext hx2 (φ := φ) (fun j hj => if_neg (Nat.ne_of_lt hj)), if_neg (Nat.ne_of_lt hk)]
  · rw [List.getElem?_append_right (by omega), List.getElem?_append_right (by rw [mm_w_len]; omega), mm_w_len]
    by_cases hk2 : k = h.length
    · subst hk2
      simp [hc]
    · have hz : k - h.length ≠ 0 := by omega
      obtain ⟨j, hj⟩ : ∃ j, k - h.length = j + 1 := ⟨k - h.length - 1, by omega⟩
      rw [hj]
      rfl
theorem mm_l_mem {b : Nat} {φ : Nat → Nat} {L : mm_L} {q : Nat × Value} : q ∈ mm_l b φ L ↔ ∃ v, L[q.1]? = some (some v) ∧ v.category = 1 ∧ q.2 = mm_v b φ v := by
  obtain ⟨i, w⟩ := q
  simp only [mm_l, List.mem_filterMap, List.mem_range]
  constructor
  · rintro ⟨j, hj, h⟩
    split at h
    · rename_i v hv
      split at h
      · rename_i hc
        cases h
        exact ⟨v, hv, hc, rfl⟩
      · cases h
    · cases h
  · rintro ⟨v, hv, hc, hw⟩
    have hi : i < L.length := (List.getElem?_eq_some_iff.mp hv).1
    refine ⟨i, hi, ?_⟩
    rw [hv, hw]
    simp [hc]
theorem mm_lsub {ls : Array Slot} {n : Nat} {l1 l2 : List (Nat × Value)} (h : lv_has ls n l1) (hs : ∀ q ∈ l2, q ∈ l1) : lv_has ls n l2 := ⟨h.1, h.2.1, fun q hq => h.2.2 q (hs q hq)⟩
theorem mm_lget {b : Nat} {φ : Nat → Nat} {L : mm_L} {ls : Array Slot} {n a : Nat} {v : Value} (h : lv_has ls n (mm_l b φ L)) (hv : L[a]? = some (some v)) (hc : v.category = 1) : ls[a]? = some (.val (mm_v b φ v)) := h.2.2 (a, mm_v b φ v) (mm_l_mem.mpr ⟨v, hv, hc, rfl⟩)
theorem mm_lset {b : Nat} {φ : Nat → Nat} {L : mm_L} {a : Nat} {x : Value} : ∀ q ∈ mm_l b φ (L.set a (some x)), q ∈ (a, mm_v b φ x) :: (mm_l b φ L).filter (fun q => !(q.1 == a) && !(q.1 + 1 == a && q.2.category == 2)) := by
  intro q hq
  obtain ⟨v, hv, hc, hw⟩ := mm_l_mem.mp hq
  by_cases h : a = q.1
  · rw [List.getElem?_set, if_pos h] at hv
    split at hv
    · have e : x = v := Option.some.inj (Option.some.inj hv)
      subst e
      have : q = (a, mm_v b φ x) := Prod.ext h.symm hw
      rw [this]
      exact List.mem_cons_self
    · cases hv
  · rw [List.getElem?_set, if_neg h] at hv
    refine List.mem_cons_of_mem _ (List.mem_filter.mpr ⟨mm_l_mem.mpr ⟨v, hv, hc, hw⟩, ?_⟩)
    have hc2 : q.2.category = 1 := by rw [hw, mm_v_cat]; exact hc
    have h2 : ¬ q.1 = a := fun e => h e.symm
    simp [h2, hc2]
theorem mm_l_ext {b n : Nat} {φ φ' : Nat → Nat} {L : mm_L} (hw : L.all (mm_wfo n) = true) (hp : ∀ k, k < n → φ' k = φ k) : ∀ q ∈ mm_l b φ' L, q ∈ mm_l b φ L := by
  intro q hq
  obtain ⟨v, hv, hc, hw2⟩ := mm_l_mem.mp hq
  have h1 : mm_wfo n (some v) = true := List.all_eq_true.mp hw _ (List.mem_of_getElem? hv)
  exact mm_l_mem.mpr ⟨v, hv, hc, by rw [hw2, mm_v_ext h1 hp]⟩
theorem mm_in0_args {b : Nat} {φ : Nat → Nat} {as : List Value} {j : Nat} (hc : (as.all fun v => v.category == 1) = true) : ∀ q ∈ mm_l b φ (as.map some ++ List.replicate j none), q ∈ lv_args 0 (as.map (mm_v b φ)) := by
  have key : ∀ (as : List Value) (i : Nat), (as.all fun v => v.category == 1) = true → ∀ (k : Nat) (v : Value), as[k]? = some v → (i + k, mm_v b φ v) ∈ lv_args i (as.map (mm_v b φ)) := by
    intro as
    induction as with
    | nil => intro i _ k v h; simp at h
    | cons w ws ih =>
      intro i hc k v h
      simp only [List.all_cons, Bool.and_eq_true, beq_iff_eq] at hc
      rw [List.map_cons, lv_args, mm_v_cat, if_neg (by rw [hc.1]; decide)]
      cases k with
      | zero =>
        simp at h
        subst h
        exact List.mem_cons_self
      | succ k =>
        have h2 : ws[k]? = some v := by simpa using h
        have h3 := ih (i + 1) hc.2 k v h2
        rw [show i + (k + 1) = i + 1 + k by omega]
        exact List.mem_cons_of_mem _ h3
  intro q hq
  obtain ⟨v, hv, hcv, hw⟩ := mm_l_mem.mp hq
  have h1 : as[q.1]? = some v := by
    by_cases hl : q.1 < as.length
    · rw [List.getElem?_append_left (by simpa using hl), List.getElem?_map] at hv
      cases hx : as[q.1]? with
      | none => rw [hx] at hv; cases hv
      | some x => rw [hx] at hv; exact congrArg some (Option.some.inj (Option.some.inj hv))
    · rw [List.getElem?_append_right (by simpa using hl)] at hv
      have := List.eq_of_mem_replicate (List.mem_of_getElem? hv)
      cases this
  have h2 := key as 0 hc q.1 v h1
  rw [Nat.zero_add, ← hw] at h2
  exact h2
theorem mm_in0_len {b : Nat} {φ : Nat → Nat} {as : List Value} (hc : (as.all fun v => v.category == 1) = true) : (lg_sl (as.map (mm_v b φ))).length = as.length := by
  induction as with
  | nil => rfl
  | cons w ws ih =>
    simp only [List.all_cons, Bool.and_eq_true, beq_iff_eq] at hc
    have h1 : (mm_v b φ w).category = 1 := by rw [mm_v_cat]; exact hc.1
    have h2 : lg_sl ((w :: ws).map (mm_v b φ)) = .val (mm_v b φ w) :: lg_sl (ws.map (mm_v b φ)) := by
      simp [lg_sl, h1]
    rw [h2, List.length_cons, ih hc.2, List.length_cons]
theorem mm_cat_v {b : Nat} {φ : Nat → Nat} {st : List Value} (h : mm_cat st) : ((st.map (mm_v b φ)).map fun v => v.category).sum ≤ 8 := by
  have e : (st.map (mm_v b φ)).map (fun v => v.category) = st.map fun v => v.category := by
    rw [List.map_map]
    exact List.map_congr_left fun v _ => mm_v_cat b φ v
  rw [e]
  exact h
end
section
/-! the small machine's world in the machine -/
def mm_KK (D : va_G) (dA : FieldType → ClassId) (cl : List vw_C) (nF : List mm_F) (nM : List mm_N) (U : State) : Prop :=
  va_K D cl [(dA .int, .int), (dA .boolean, .boolean), (dA .char, .char)] U ∧ (∀ q ∈ nF, va_Nw (.fieldLinkNest q.1 q.2.1 q.2.2.1 q.2.2.2.1 q.2.2.2.2.1 q.2.2.2.2.2) U) ∧ (∀ q ∈ nM, va_Nw (.methodLinkNest q.1 q.2.1 q.2.2.1 q.2.2.2) U)
theorem mm_KK.warm {D : va_G} {dA : FieldType → ClassId} {cl : List vw_C} {nF : List mm_F} {nM : List mm_N} {s U : State} (hW : s.WarmedH U.vm) (h : mm_KK D dA cl nF nM s) : mm_KK D dA cl nF nM U :=
  ⟨va_K.moved hW.alike h.1, fun q hq => va_Nw.warmF hW (h.2.1 q hq), fun q hq => va_Nw.warmM hW (h.2.2 q hq)⟩
theorem mm_KK.same {D : va_G} {dA : FieldType → ClassId} {cl : List vw_C} {nF : List mm_F} {nM : List mm_N} {s U : State} (hv : s.vm = U.vm) (h : mm_KK D dA cl nF nM s) : mm_KK D dA cl nF nM U :=
  ⟨va_K.moved (by rw [hv]; exact Vm.Alike.refl _) h.1, fun q hq => va_Nw.same rfl hv (h.2.1 q hq), fun q hq => va_Nw.same rfl hv (h.2.2 q hq)⟩
def mm_Pc (D : va_G) (dA : FieldType → ClassId) (cl : List vw_C) (nF : List mm_F) (nM : List mm_N) (b : Nat) (xs : Nat × (Nat → Int32)) (φ : Nat → Nat) (h : mm_H) (as : List Value) (sz : Nat) : Array Value → State → Prop :=
  va_Pc (as.map (mm_v b φ)) (fun U => U.heap.size = sz ∧ va_P D cl (mm_w b φ dA h) U.heap ∧ mm_KK D dA cl nF nM U ∧ va_D (fun _ => True) (mm_w b φ dA h) ∧ va_X b xs.1 xs.2 U U.heap ∧ b < U.heap.size ∧ ∀ (k : Nat) (q : Nat × va_E), (mm_w b φ dA h)[k]? = some q → q.1 ≠ b)
theorem mm_Pc_blind {D : va_G} {dA : FieldType → ClassId} {cl : List vw_C} {nF : List mm_F} {nM : List mm_N} {b : Nat} {xs : Nat × (Nat → Int32)} {φ : Nat → Nat} {h : mm_H} {as : List Value} {sz : Nat} : FrameBlind (mm_Pc D dA cl nF nM b xs φ h as sz) := by
  intro a U g mk q
  obtain ⟨h0, h1, h2, h3, h4, h5, h6, h7⟩ := q
  exact ⟨h0, h1, h2, mm_KK.same (s := U) (U := U.calling g mk a) rfl h3, h4, va_X.moved (u := U) (U := U.calling g mk a) (Vm.Alike.refl U.vm) h5, h6, h7⟩
def mm_Qc (D : va_G) (dA : FieldType → ClassId) (cl : List vw_C) (b : Nat) (φ : Nat → Nat) (h : mm_H) (sz mc : Nat) (P : mm_H → Option Value → Prop) : Array Value → State → Outcome → State → Prop := fun _ st oc t =>
  ∃ (h' : mm_H) (r : Option Value) (φ' : Nat → Nat), (∀ k, k < h.length → φ' k = φ k) ∧ (mc = 0 → φ' = φ) ∧ h.length ≤ h'.length ∧ P h' r ∧ oc = .returned (r.map (mm_v b φ')) ∧ va_P D cl (mm_w b φ' dA h') t.heap ∧ va_D (va_A (mm_w b φ dA h) sz) (mm_w b φ' dA h') ∧ va_F (va_A (mm_w b φ dA h) sz) st t
def mm_rm (d : Nat) (M : mm_M) : Room := { frames := d, cells := mm_mc M, slots := mm_ms M, locals := 60 * d }
section MG
variable {p : Program} {l : Launch} {e : Env} {R : Room} {s : State} {m : MethodId} {args : Array Value} {below : List Frame} {meth : Method} {c : Code} {Q : State → Prop}
/-- from a state of the small machine the machine comes to Q -/
def mm_Go (p : Program) (l : Launch) (e : Env) (R : Room) (s : State) (m : MethodId) (args : Array Value) (below : List Frame) (meth : Method) (c : Code) (Q : State → Prop) (D : va_G) (dA : FieldType → ClassId) (cl : List vw_C) (b : Nat) (A : Nat → Prop) (φ0 : Nat → Nat) (n0 nL : Nat) : mm_K := fun pc L st h kc ks =>
  ∀ (φ : Nat → Nat) (H : Heap) (locs : List Loc) (ls : Array Slot), (∀ k, k < n0 → φ k = φ0 k) → (kc = 0 → φ = φ0) → n0 ≤ h.length → kc ≤ R.cells → ks ≤ R.slots → va_P D cl (mm_w b φ dA h) H → va_D A (mm_w b φ dA h) → va_S A s.heap H locs → lv_has ls nL (mm_l b φ L) → W p l e R s m args below meth c H locs kc ks Q (F0 m pc ls (st.map (mm_v b φ)))
theorem mm_callg {H : Heap} {locs : List Loc} {cells slots mc ms pc : Nat} {ls : Array Slot} {st0 rest : List Value} {Qa : State → Outcome → State → Prop} {free : Addr → Prop} (hr : va_Run p l e R s m args below meth c H locs cells slots mc ms (F0 m pc ls st0) rest Qa free)
    (kk : ∀ (v : Option Value) (st₀ t : State) (H1 : Heap) (Ls : List Loc), st₀.heap = H → Qa st₀ (.returned v) t → t.heap = H1 → (∀ q ∈ Ls, free q.base) → W p l e R s m args below meth c H1 (locs ++ Ls) (cells + mc) (slots + ms) Q (F0 m (pc + 3) ls (v.toList ++ rest))) : W p l e R s m args below meth c H locs cells slots Q (F0 m pc ls st0) := by
  intro T hT X
  obtain ⟨v, st₀, t, T', L, h0, X', hL, e1, e2, hq, st⟩ := hr T hT X
  obtain ⟨t2, a1, b1⟩ := kk v st₀ t T'.heap L h0 hq e1.symm hL T' rfl X'
  exact ⟨t2, st t2 a1, b1⟩
theorem mm_back {D : va_G} {dA : FieldType → ClassId} {cl : List vw_C} {b : Nat} {A : Nat → Prop} {φ0 φ : Nat → Nat} {n0 nL : Nat} {H : Heap} {locs : List Loc} {kc ks mc ms pc : Nat} {ls : Array Slot} {st0 rest : List Value} {h : mm_H} {L : mm_L} {av : Array Value} {Pk : mm_H → Option Value → Prop}
    (hr : va_Run p l e R s m args below meth c H locs kc ks mc ms (F0 m pc ls st0) (rest.map (mm_v b φ)) (mm_Qc D dA cl b φ h H.size mc Pk av) (va_A (mm_w b φ dA h) H.size))
    (hA : ∀ q, s.heap.size ≤ q → A q) (hk1 : kc + mc ≤ R.cells) (hk2 : ks + ms ≤ R.slots) (hwf : mc = 0 ∨ (L.all (mm_wfo h.length) && rest.all (mm_wfv h.length)) = true)
    (f0 : ∀ k, k < n0 → φ k = φ0 k) (g0 : kc = 0 → φ = φ0) (hn : n0 ≤ h.length) (hD : va_D A (mm_w b φ dA h)) (hS : va_S A s.heap H locs) (hl : lv_has ls nL (mm_l b φ L))
    (hgo : ∀ h' v, Pk h' v → mm_Go p l e R s m args below meth c Q D dA cl b A φ0 n0 nL (pc + 3) L (v.toList ++ rest) h' (kc + mc) (ks + ms)) : W p l e R s m args below meth c H locs kc ks Q (F0 m pc ls st0) := by
  refine mm_callg hr fun v st₀ t H1 Ls e0 hq e1 hL => ?_
  obtain ⟨h', r, φ', f1, f2, f3, hPk, hv, hP1, hD1, hF1, hF2⟩ := hq
  have hv : v = r.map (mm_v b φ') := Outcome.returned.inj hv
  subst hv
  rw [e1] at hP1 hF1 hF2
  rw [e0] at hF1 hF2
  have hfr : ∀ q, va_A (mm_w b φ dA h) H.size q → A q := fun q hq => by
    rcases hq with ⟨k, e, hk⟩ | hq
    · exact hD.2 k _ hk
    · exact hA q (Nat.le_trans hS.1 hq)
  have hrest : rest.map (mm_v b φ) = rest.map (mm_v b φ') := by
    rcases hwf with h0 | h0
    · rw [f2 h0]
    · exact (mm_vs_ext (Bool.and_eq_true_iff.mp h0).2 f1).symm
  have hl' : lv_has ls nL (mm_l b φ' L) := by
    rcases hwf with h0 | h0
    · rw [f2 h0]; exact hl
    · exact mm_lsub hl (mm_l_ext (Bool.and_eq_true_iff.mp h0).1 f1)
  have hst : (r.map (mm_v b φ')).toList ++ rest.map (mm_v b φ) = (r.toList ++ rest).map (mm_v b φ') := by
    rw [hrest, List.map_append]
    cases r <;> rfl
  rw [hst]
  refine hgo h' r hPk φ' H1 (locs ++ Ls) ls (fun k hk => (f1 k (Nat.lt_of_lt_of_le hk hn)).trans (f0 k hk)) (fun hz => ?_) (Nat.le_trans hn f3) hk1 hk2 hP1 (hD1.weaken (fun k q _ hq => hfr q.1 hq)) ⟨Nat.le_trans hS.1 hF1, fun q h1 h2 => ?_, fun q hq => ?_⟩ hl'
  · rw [f2 (by omega), g0 (by omega)]
  · rw [hF2 q (Nat.lt_of_lt_of_le h1 hS.1) (fun z => h2 (hfr q z))]
    exact hS.2.1 q h1 h2
  · rcases List.mem_append.mp hq with hq | hq
    · exact hS.2.2 q hq
    · exact hfr _ (hL q hq)
end MG
end
section
section MO
variable {p : Program} {l : Launch} {e : Env} {R : Room} {s : State} {m : MethodId} {args : Array Value} {below : List Frame} {meth : Method} {c : Code} {Q : State → Prop}
variable {D : va_G} {dA : FieldType → ClassId} {cl : List vw_C} {b : Nat} {A : Nat → Prop} {φ0 : Nat → Nat} {n0 : Nat}
variable {mi : Nat → mm_M} {tb : Nat → Nat → Option mm_E} {df : Nat → List Value} {WS Ts : List Cond} {nF : List mm_F} {nM : List mm_N} {nm w d : Nat} {xs : Nat × (Nat → Int32)}
theorem mm_tyI : ([(dA .int, .int), (dA .boolean, .boolean), (dA .char, .char)] : List (ClassId × FieldType))[0]? = some (dA .int, .int) := rfl
theorem mm_tyZ : ([(dA .int, .int), (dA .boolean, .boolean), (dA .char, .char)] : List (ClassId × FieldType))[1]? = some (dA .boolean, .boolean) := rfl
theorem mm_tyC : ([(dA .int, .int), (dA .boolean, .boolean), (dA .char, .char)] : List (ClassId × FieldType))[2]? = some (dA .char, .char) := rfl
/-- what the tables say of a class -/
theorem mm_okc_spec {dv : List Value} {q : vw_C} (h : mm_okc WS dv q = true) : (∀ x ∈ u_ws q.1 q.2.1 q.2.2, x ∈ WS) ∧ (∀ k, k < q.2.2 → parseFieldDescriptor (q.2.1 k).2.2.1 = some ((parseFieldDescriptor (q.2.1 k).2.2.1).getD .int)) ∧ (∀ a, a < q.2.2 → ∀ b, b < q.2.2 → a ≠ b → (q.2.1 a).2.1 ≠ (q.2.1 b).2.1) ∧ (∀ k, k < q.2.2 → defaultValue ((parseFieldDescriptor (q.2.1 k).2.2.1).getD .int) = vp_V dv k) ∧ (∀ v ∈ dv, v = .int 0 ∨ v = .null) := by
  simp only [mm_okc, Bool.and_eq_true, List.all_eq_true, List.mem_range, decide_eq_true_eq, Bool.or_eq_true] at h
  obtain ⟨⟨h1, h2⟩, h3⟩ := h
  refine ⟨fun x hx => ?_, fun k hk => ?_, fun a ha b hb hab => ?_, fun k hk => (h1 k hk).2, h3⟩
  · obtain ⟨k, hk, rfl⟩ := List.mem_map.mp hx
    exact (h1 k (List.mem_range.mp hk)).1.2
  · have := (h1 k hk).1.1
    obtain ⟨y, hy⟩ := Option.isSome_iff_exists.mp this
    rw [hy]
    rfl
  · rcases h2 a ha b hb with h | h
    · exact absurd h hab
    · exact h
theorem mm_fit_ok {b : Nat} {φ : Nat → Nat} {k : Int32} {v : Value} {ty : FieldType} (hf : mm_fit k v) (ht : mm_ty k ty = true) : narrow ty (mm_v b φ v) = mm_v b φ v ∧ fits ty (mm_v b φ v) = true := by
  cases v with
  | int x =>
    cases ty <;> simp [mm_ty] at ht <;> subst ht <;> simp [mm_fit] at hf
    · exact ⟨rfl, rfl⟩
    · rcases hf with rfl | rfl
      · show narrow .boolean (.int 0) = .int 0 ∧ fits .boolean (.int 0) = true
        decide
      · show narrow .boolean (.int 1) = .int 1 ∧ fits .boolean (.int 1) = true
        decide
  | ref o =>
    cases ty <;> simp [mm_ty] at ht <;> subst ht <;> simp [mm_fit] at hf
    · exact ⟨rfl, rfl⟩
    · exact ⟨rfl, rfl⟩
  | null =>
    cases ty <;> simp [mm_ty] at ht <;> subst ht <;> simp [mm_fit] at hf
    · exact ⟨rfl, rfl⟩
    · exact ⟨rfl, rfl⟩
  | _ => exact hf.elim
theorem mm_rcv_inv {h : mm_H} {ci : Nat} {as : List Value} (hr : mm_rcv h ci as) : ∃ o As fs, as = .ref o :: As ∧ h[o]? = some (.inr (ci, fs)) := by
  unfold mm_rcv at hr
  split at hr
  · rename_i o As
    split at hr
    · rename_i q hq
      subst hr
      exact ⟨o, As, q.2, rfl, hq⟩
    · exact hr.elim
  · exact hr.elim
theorem mm_stack {b k : Nat} {φ : Nat → Nat} {st As : List Value} {o : Nat} (h : (st.take k).reverse = .ref o :: As) : st.map (mm_v b φ) = (As.map (mm_v b φ)).reverse ++ .ref (φ o) :: (st.drop k).map (mm_v b φ) := by
  have h1 : st.take k = (Value.ref o :: As).reverse := by rw [← h, List.reverse_reverse]
  have h2 : st = (Value.ref o :: As).reverse ++ st.drop k := by rw [← h1, List.take_append_drop]
  have h3 : st.map (mm_v b φ) = ((Value.ref o :: As).reverse ++ st.drop k).map (mm_v b φ) := congrArg _ h2
  rw [h3]
  simp [mm_v]
theorem mm_stackS {b k : Nat} {φ : Nat → Nat} {st : List Value} : st.map (mm_v b φ) = ((st.take k).reverse.map (mm_v b φ)).reverse ++ (st.drop k).map (mm_v b φ) := by
  have h3 : st.map (mm_v b φ) = (st.take k ++ st.drop k).map (mm_v b φ) := by rw [List.take_append_drop]
  rw [h3]
  simp
theorem mm_ml_spec {own : String} {i : Nat} {y : MethodName} (h : mm_ml WS nM own i y = true) : Cond.methodLink own i y ∈ WS ∨ ∃ q ∈ nM, q.1 = own ∧ q.2.1 = i ∧ q.2.2.1 = y := by
  simpa only [mm_ml, Bool.or_eq_true, decide_eq_true_eq, List.any_eq_true] using h
theorem mm_my_spec {y : MethodName} {k : Nat} (h : mm_my WS y k = true) : (y.cls ≠ "java/lang/invoke/MethodHandle" ∧ y.cls ≠ "java/lang/invoke/VarHandle" ∧ (parseMethodDescriptor y.desc).map (fun d => d.parameters.length) = some k) ∧ Cond.initialized y.cls ∈ WS := by
  simp only [mm_my, Bool.and_eq_true, decide_eq_true_eq] at h
  exact ⟨⟨h.1.1.1, h.1.1.2, h.1.2⟩, h.2⟩
/-- the start of a callee, from where its caller stands -/
theorem mm_pre {φ : Nat → Nat} {h : mm_H} {H : Heap} {locs : List Loc} {as : List Value} (hKK : mm_KK D dA cl nF nM s) (hX : va_X b xs.1 xs.2 s s.heap) (hbl : b < s.heap.size) (hbA : ¬ A b) (hP : va_P D cl (mm_w b φ dA h) H) (hD : va_D A (mm_w b φ dA h)) (hS : va_S A s.heap H locs) {av : Array Value} (hav : av = (as.map (mm_v b φ)).toArray) : ∀ U : State, U.heap = H → s.WarmedH U.vm → mm_Pc D dA cl nF nM b xs φ h as H.size av U := by
  intro U hU hW
  exact ⟨hav, by rw [hU], by rw [hU]; exact hP, hKK.warm hW, hD.weaken (fun _ _ _ _ => trivial), by rw [hU]; exact (hX.kept (hS.2.1 b hbl hbA)).moved hW.alike, by rw [hU]; exact Nat.lt_of_lt_of_le hbl hS.1, fun k q hq e => hbA (e ▸ hD.2 k q hq)⟩
end MO
end
section
section MX
variable {p : Program} {l : Launch} {e : Env} {R : Room} {s : State} {m : MethodId} {args : Array Value} {below : List Frame} {meth : Method} {c : Code} {Q : State → Prop}
variable {D : va_G} {dA : FieldType → ClassId} {cl : List vw_C} {b : Nat} {A : Nat → Prop} {φ0 : Nat → Nat} {n0 : Nat}
variable {mi : Nat → mm_M} {tb : Nat → Nat → Option mm_E} {df : Nat → List Value} {WS Ts : List Cond} {nF : List mm_F} {nM : List mm_N} {nm w d : Nat} {xs : Nat × (Nat → Int32)}
/-- all that a walk of a method's body stands on, and that does not change in it -/
def mm_Cx (p : Program) (l : Launch) (R : Room) (s : State) (m : MethodId) (args : Array Value) (meth : Method) (c : Code) (D : va_G) (dA : FieldType → ClassId) (cl : List vw_C) (b : Nat) (A : Nat → Prop) (mi : Nat → mm_M) (df : Nat → List Value) (WS Ts : List Cond) (nF : List mm_F) (nM : List mm_N) (nm w d : Nat) (xs : Nat × (Nat → Int32)) : Prop :=
  (p.tables.exec = Jvm.exec ∧ c.code = mm_b (mi w) ∧ c.maxLocals = mm_n (mi w) ∧ s.vm.findClass (mm_y (mi w)).cls = some m.cls ∧ ∀ x ∈ Ts, x.before args s = true) ∧ (∀ x ∈ WS, x ∈ Ts) ∧ Cond.code objectInit ⟨#[0xb1]⟩ 1 none ∈ Ts ∧ (∀ y, y < nm → GoodIn Ts (mm_ws mi WS nm y)) ∧ (∀ y, y < nm → mm_okm (mi y) = true) ∧ (∀ ci q, cl[ci]? = some q → mm_okc WS (df ci) q = true) ∧
  mm_KK D dA cl nF nM s ∧ (∀ q, s.heap.size ≤ q → A q) ∧ va_X b xs.1 xs.2 s s.heap ∧ b < s.heap.size ∧ ¬ A b ∧ meth.name = (mm_y (mi w)).name ∧ d + 1 ≤ R.frames ∧ 60 * d + 60 ≤ R.locals
theorem mm_x_iconst (Z : mm_Cx p l R s m args meth c D dA cl b A mi df WS Ts nF nM nm w d xs) {K : mm_K} (hK : ∀ pc L st h kc ks, K pc L st h kc ks → mm_Go p l e R s m args below meth c Q D dA cl b A φ0 n0 (mm_n (mi w)) pc L st h kc ks) {len a bb pc kc ks : Nat} {k : Int32} {L : mm_L} {st : List Value} {h : mm_H} {n : Int} (hok : mm_ok mi cl WS nF nM nm w pc (.iconst n, len, a, bb, k) = true) (hE : K (pc + len) L (.int k :: st) h kc ks) : mm_Go p l e R s m args below meth c Q D dA cl b A φ0 n0 (mm_n (mi w)) pc L st h kc ks := by
  obtain ⟨⟨hx, hb, hml, hown, hts⟩, hWT, hoi, hG, hmi, hcl, hKK, hA, hX, hbl, hbA, hin, hRf, hRl⟩ := Z
  simp only [mm_ok, mm_sd, Bool.and_eq_true, decide_eq_true_eq] at hok
  obtain ⟨hd, h1, h2⟩ := hok
  subst h1
  intro φ H locs ls f0 g0 hn k1 k2 hP hD hS hl
  exact lv_iconst hx hb hd h2 (hK _ _ _ _ _ _ hE φ H locs ls f0 g0 hn k1 k2 hP hD hS hl)
theorem mm_x_bipush (Z : mm_Cx p l R s m args meth c D dA cl b A mi df WS Ts nF nM nm w d xs) {K : mm_K} (hK : ∀ pc L st h kc ks, K pc L st h kc ks → mm_Go p l e R s m args below meth c Q D dA cl b A φ0 n0 (mm_n (mi w)) pc L st h kc ks) {len a bb pc kc ks : Nat} {k : Int32} {L : mm_L} {st : List Value} {h : mm_H} {n : Int} (hok : mm_ok mi cl WS nF nM nm w pc (.bipush n, len, a, bb, k) = true) (hE : K (pc + len) L (.int k :: st) h kc ks) : mm_Go p l e R s m args below meth c Q D dA cl b A φ0 n0 (mm_n (mi w)) pc L st h kc ks := by
  obtain ⟨⟨hx, hb, hml, hown, hts⟩, hWT, hoi, hG, hmi, hcl, hKK, hA, hX, hbl, hbA, hin, hRf, hRl⟩ := Z
  simp only [mm_ok, mm_sd, Bool.and_eq_true, decide_eq_true_eq] at hok
  obtain ⟨hd, h1, h2⟩ := hok
  subst h1
  intro φ H locs ls f0 g0 hn k1 k2 hP hD hS hl
  exact lv_bipush hx hb hd h2 (hK _ _ _ _ _ _ hE φ H locs ls f0 g0 hn k1 k2 hP hD hS hl)
theorem mm_x_sipush (Z : mm_Cx p l R s m args meth c D dA cl b A mi df WS Ts nF nM nm w d xs) {K : mm_K} (hK : ∀ pc L st h kc ks, K pc L st h kc ks → mm_Go p l e R s m args below meth c Q D dA cl b A φ0 n0 (mm_n (mi w)) pc L st h kc ks) {len a bb pc kc ks : Nat} {k : Int32} {L : mm_L} {st : List Value} {h : mm_H} {n : Int} (hok : mm_ok mi cl WS nF nM nm w pc (.sipush n, len, a, bb, k) = true) (hE : K (pc + len) L (.int k :: st) h kc ks) : mm_Go p l e R s m args below meth c Q D dA cl b A φ0 n0 (mm_n (mi w)) pc L st h kc ks := by
  obtain ⟨⟨hx, hb, hml, hown, hts⟩, hWT, hoi, hG, hmi, hcl, hKK, hA, hX, hbl, hbA, hin, hRf, hRl⟩ := Z
  simp only [mm_ok, mm_sd, Bool.and_eq_true, decide_eq_true_eq] at hok
  obtain ⟨hd, h1, h2⟩ := hok
  subst h1
  intro φ H locs ls f0 g0 hn k1 k2 hP hD hS hl
  exact lv_sipush hx hb hd h2 (hK _ _ _ _ _ _ hE φ H locs ls f0 g0 hn k1 k2 hP hD hS hl)
theorem mm_x_ldc (Z : mm_Cx p l R s m args meth c D dA cl b A mi df WS Ts nF nM nm w d xs) {K : mm_K} (hK : ∀ pc L st h kc ks, K pc L st h kc ks → mm_Go p l e R s m args below meth c Q D dA cl b A φ0 n0 (mm_n (mi w)) pc L st h kc ks) {len a bb pc kc ks : Nat} {k : Int32} {L : mm_L} {st : List Value} {h : mm_H} {i : Nat} (hok : mm_ok mi cl WS nF nM nm w pc (.ldc i, len, a, bb, k) = true) (hE : K (pc + len) L (.int k :: st) h kc ks) : mm_Go p l e R s m args below meth c Q D dA cl b A φ0 n0 (mm_n (mi w)) pc L st h kc ks := by
  obtain ⟨⟨hx, hb, hml, hown, hts⟩, hWT, hoi, hG, hmi, hcl, hKK, hA, hX, hbl, hbA, hin, hRf, hRl⟩ := Z
  simp only [mm_ok, mm_sd, Bool.and_eq_true, decide_eq_true_eq] at hok
  obtain ⟨hd, h1, h2⟩ := hok
  subst h1
  intro φ H locs ls f0 g0 hn k1 k2 hP hD hS hl
  exact lv_ldc hx hb hown (hts _ (hWT _ h2)) hd (hK _ _ _ _ _ _ hE φ H locs ls f0 g0 hn k1 k2 hP hD hS hl)
theorem mm_x_iload_n (Z : mm_Cx p l R s m args meth c D dA cl b A mi df WS Ts nF nM nm w d xs) {K : mm_K} (hK : ∀ pc L st h kc ks, K pc L st h kc ks → mm_Go p l e R s m args below meth c Q D dA cl b A φ0 n0 (mm_n (mi w)) pc L st h kc ks) {len a bb pc kc ks : Nat} {k : Int32} {L : mm_L} {st : List Value} {h : mm_H} {i : Fin 4} (hok : mm_ok mi cl WS nF nM nm w pc (.iload_n i, len, a, bb, k) = true) (hE : mm_li L a fun x => K (pc + len) L (.int x :: st) h kc ks) : mm_Go p l e R s m args below meth c Q D dA cl b A φ0 n0 (mm_n (mi w)) pc L st h kc ks := by
  obtain ⟨⟨hx, hb, hml, hown, hts⟩, hWT, hoi, hG, hmi, hcl, hKK, hA, hX, hbl, hbA, hin, hRf, hRl⟩ := Z
  simp only [mm_ok, mm_sd, Bool.and_eq_true, decide_eq_true_eq] at hok
  obtain ⟨hd, h1, h2⟩ := hok
  subst h1
  obtain ⟨x, hx1, hE1⟩ := mm_li_inv hE
  intro φ H locs ls f0 g0 hn k1 k2 hP hD hS hl
  exact lv_iload_n (x := x) hx hb hd h2 (mm_lget hl hx1 rfl) (hK _ _ _ _ _ _ hE1 φ H locs ls f0 g0 hn k1 k2 hP hD hS hl)
theorem mm_x_iload (Z : mm_Cx p l R s m args meth c D dA cl b A mi df WS Ts nF nM nm w d xs) {K : mm_K} (hK : ∀ pc L st h kc ks, K pc L st h kc ks → mm_Go p l e R s m args below meth c Q D dA cl b A φ0 n0 (mm_n (mi w)) pc L st h kc ks) {len a bb pc kc ks : Nat} {k : Int32} {L : mm_L} {st : List Value} {h : mm_H} {i : Nat} (hok : mm_ok mi cl WS nF nM nm w pc (.iload i, len, a, bb, k) = true) (hE : mm_li L a fun x => K (pc + len) L (.int x :: st) h kc ks) : mm_Go p l e R s m args below meth c Q D dA cl b A φ0 n0 (mm_n (mi w)) pc L st h kc ks := by
  obtain ⟨⟨hx, hb, hml, hown, hts⟩, hWT, hoi, hG, hmi, hcl, hKK, hA, hX, hbl, hbA, hin, hRf, hRl⟩ := Z
  simp only [mm_ok, mm_sd, Bool.and_eq_true, decide_eq_true_eq] at hok
  obtain ⟨hd, h1, h2⟩ := hok
  subst h1
  subst h2
  obtain ⟨x, hx1, hE2⟩ := mm_li_inv hE
  intro φ H locs ls f0 g0 hn k1 k2 hP hD hS hl
  exact lv_iload (x := x) hx hb hd (mm_lget hl hx1 rfl) (hK _ _ _ _ _ _ hE2 φ H locs ls f0 g0 hn k1 k2 hP hD hS hl)
theorem mm_x_aload_n (Z : mm_Cx p l R s m args meth c D dA cl b A mi df WS Ts nF nM nm w d xs) {K : mm_K} (hK : ∀ pc L st h kc ks, K pc L st h kc ks → mm_Go p l e R s m args below meth c Q D dA cl b A φ0 n0 (mm_n (mi w)) pc L st h kc ks) {len a bb pc kc ks : Nat} {k : Int32} {L : mm_L} {st : List Value} {h : mm_H} {i : Fin 4} (hok : mm_ok mi cl WS nF nM nm w pc (.aload_n i, len, a, bb, k) = true) (hE : mm_lr L a fun v => K (pc + len) L (v :: st) h kc ks) : mm_Go p l e R s m args below meth c Q D dA cl b A φ0 n0 (mm_n (mi w)) pc L st h kc ks := by
  obtain ⟨⟨hx, hb, hml, hown, hts⟩, hWT, hoi, hG, hmi, hcl, hKK, hA, hX, hbl, hbA, hin, hRf, hRl⟩ := Z
  simp only [mm_ok, mm_sd, Bool.and_eq_true, decide_eq_true_eq] at hok
  obtain ⟨hd, h1, h2⟩ := hok
  subst h1
  obtain ⟨v, hx1, hv, hE3⟩ := mm_lr_inv hE
  intro φ H locs ls f0 g0 hn k1 k2 hP hD hS hl
  rcases hv with ⟨x, rfl⟩ | ⟨x, rfl⟩
  · exact lv_aload_n (x := φ x) hx hb hd h2 (mm_lget hl hx1 rfl) (hK _ _ _ _ _ _ hE3 φ H locs ls f0 g0 hn k1 k2 hP hD hS hl)
  · exact lv_aload_n (x := b) hx hb hd h2 (mm_lget hl hx1 rfl) (hK _ _ _ _ _ _ hE3 φ H locs ls f0 g0 hn k1 k2 hP hD hS hl)
theorem mm_x_aload (Z : mm_Cx p l R s m args meth c D dA cl b A mi df WS Ts nF nM nm w d xs) {K : mm_K} (hK : ∀ pc L st h kc ks, K pc L st h kc ks → mm_Go p l e R s m args below meth c Q D dA cl b A φ0 n0 (mm_n (mi w)) pc L st h kc ks) {len a bb pc kc ks : Nat} {k : Int32} {L : mm_L} {st : List Value} {h : mm_H} {i : Nat} (hok : mm_ok mi cl WS nF nM nm w pc (.aload i, len, a, bb, k) = true) (hE : mm_lr L a fun v => K (pc + len) L (v :: st) h kc ks) : mm_Go p l e R s m args below meth c Q D dA cl b A φ0 n0 (mm_n (mi w)) pc L st h kc ks := by
  obtain ⟨⟨hx, hb, hml, hown, hts⟩, hWT, hoi, hG, hmi, hcl, hKK, hA, hX, hbl, hbA, hin, hRf, hRl⟩ := Z
  simp only [mm_ok, mm_sd, Bool.and_eq_true, decide_eq_true_eq] at hok
  obtain ⟨hd, h1, h2⟩ := hok
  subst h1
  subst h2
  obtain ⟨v, hx1, hv, hE4⟩ := mm_lr_inv hE
  intro φ H locs ls f0 g0 hn k1 k2 hP hD hS hl
  rcases hv with ⟨x, rfl⟩ | ⟨x, rfl⟩
  · exact lv_aload (x := φ x) hx hb hd (mm_lget hl hx1 rfl) (hK _ _ _ _ _ _ hE4 φ H locs ls f0 g0 hn k1 k2 hP hD hS hl)
  · exact lv_aload (x := b) hx hb hd (mm_lget hl hx1 rfl) (hK _ _ _ _ _ _ hE4 φ H locs ls f0 g0 hn k1 k2 hP hD hS hl)
theorem mm_x_istore_n (Z : mm_Cx p l R s m args meth c D dA cl b A mi df WS Ts nF nM nm w d xs) {K : mm_K} (hK : ∀ pc L st h kc ks, K pc L st h kc ks → mm_Go p l e R s m args below meth c Q D dA cl b A φ0 n0 (mm_n (mi w)) pc L st h kc ks) {len a bb pc kc ks : Nat} {k : Int32} {L : mm_L} {st : List Value} {h : mm_H} {i : Fin 4} (hok : mm_ok mi cl WS nF nM nm w pc (.istore_n i, len, a, bb, k) = true) (hE : mm_s1 st fun x r => K (pc + len) (L.set a (some (.int x))) r h kc ks) : mm_Go p l e R s m args below meth c Q D dA cl b A φ0 n0 (mm_n (mi w)) pc L st h kc ks := by
  obtain ⟨⟨hx, hb, hml, hown, hts⟩, hWT, hoi, hG, hmi, hcl, hKK, hA, hX, hbl, hbA, hin, hRf, hRl⟩ := Z
  simp only [mm_ok, mm_sd, Bool.and_eq_true, decide_eq_true_eq] at hok
  obtain ⟨hd, h1, h2, h3⟩ := hok
  subst h1
  obtain ⟨x, r, rfl, hE5⟩ := mm_s1_inv hE
  intro φ H locs ls f0 g0 hn k1 k2 hP hD hS hl
  exact lv_istore_n hx hb hd h2 hl h3 rfl (fun ls' hl' => hK _ _ _ _ _ _ hE5 φ H locs ls' f0 g0 hn k1 k2 hP hD hS (mm_lsub hl' mm_lset))
theorem mm_x_istore (Z : mm_Cx p l R s m args meth c D dA cl b A mi df WS Ts nF nM nm w d xs) {K : mm_K} (hK : ∀ pc L st h kc ks, K pc L st h kc ks → mm_Go p l e R s m args below meth c Q D dA cl b A φ0 n0 (mm_n (mi w)) pc L st h kc ks) {len a bb pc kc ks : Nat} {k : Int32} {L : mm_L} {st : List Value} {h : mm_H} {i : Nat} (hok : mm_ok mi cl WS nF nM nm w pc (.istore i, len, a, bb, k) = true) (hE : mm_s1 st fun x r => K (pc + len) (L.set a (some (.int x))) r h kc ks) : mm_Go p l e R s m args below meth c Q D dA cl b A φ0 n0 (mm_n (mi w)) pc L st h kc ks := by
  obtain ⟨⟨hx, hb, hml, hown, hts⟩, hWT, hoi, hG, hmi, hcl, hKK, hA, hX, hbl, hbA, hin, hRf, hRl⟩ := Z
  simp only [mm_ok, mm_sd, Bool.and_eq_true, decide_eq_true_eq] at hok
  obtain ⟨hd, h1, h2, h3⟩ := hok
  subst h1
  subst h2
  obtain ⟨x, r, rfl, hE6⟩ := mm_s1_inv hE
  intro φ H locs ls f0 g0 hn k1 k2 hP hD hS hl
  exact lv_istore hx hb hd hl h3 rfl (fun ls' hl' => hK _ _ _ _ _ _ hE6 φ H locs ls' f0 g0 hn k1 k2 hP hD hS (mm_lsub hl' mm_lset))
theorem mm_x_astore_n (Z : mm_Cx p l R s m args meth c D dA cl b A mi df WS Ts nF nM nm w d xs) {K : mm_K} (hK : ∀ pc L st h kc ks, K pc L st h kc ks → mm_Go p l e R s m args below meth c Q D dA cl b A φ0 n0 (mm_n (mi w)) pc L st h kc ks) {len a bb pc kc ks : Nat} {k : Int32} {L : mm_L} {st : List Value} {h : mm_H} {i : Fin 4} (hok : mm_ok mi cl WS nF nM nm w pc (.astore_n i, len, a, bb, k) = true) (hE : mm_sr st fun x r => K (pc + len) (L.set a (some (.ref x))) r h kc ks) : mm_Go p l e R s m args below meth c Q D dA cl b A φ0 n0 (mm_n (mi w)) pc L st h kc ks := by
  obtain ⟨⟨hx, hb, hml, hown, hts⟩, hWT, hoi, hG, hmi, hcl, hKK, hA, hX, hbl, hbA, hin, hRf, hRl⟩ := Z
  simp only [mm_ok, mm_sd, Bool.and_eq_true, decide_eq_true_eq] at hok
  obtain ⟨hd, h1, h2, h3⟩ := hok
  subst h1
  obtain ⟨x, r, rfl, hE7⟩ := mm_sr_inv hE
  intro φ H locs ls f0 g0 hn k1 k2 hP hD hS hl
  exact lv_astore_n hx hb hd h2 hl h3 rfl (fun ls' hl' => hK _ _ _ _ _ _ hE7 φ H locs ls' f0 g0 hn k1 k2 hP hD hS (mm_lsub hl' mm_lset))
theorem mm_x_astore (Z : mm_Cx p l R s m args meth c D dA cl b A mi df WS Ts nF nM nm w d xs) {K : mm_K} (hK : ∀ pc L st h kc ks, K pc L st h kc ks → mm_Go p l e R s m args below meth c Q D dA cl b A φ0 n0 (mm_n (mi w)) pc L st h kc ks) {len a bb pc kc ks : Nat} {k : Int32} {L : mm_L} {st : List Value} {h : mm_H} {i : Nat} (hok : mm_ok mi cl WS nF nM nm w pc (.astore i, len, a, bb, k) = true) (hE : mm_sr st fun x r => K (pc + len) (L.set a (some (.ref x))) r h kc ks) : mm_Go p l e R s m args below meth c Q D dA cl b A φ0 n0 (mm_n (mi w)) pc L st h kc ks := by
  obtain ⟨⟨hx, hb, hml, hown, hts⟩, hWT, hoi, hG, hmi, hcl, hKK, hA, hX, hbl, hbA, hin, hRf, hRl⟩ := Z
  simp only [mm_ok, mm_sd, Bool.and_eq_true, decide_eq_true_eq] at hok
  obtain ⟨hd, h1, h2, h3⟩ := hok
  subst h1
  subst h2
  obtain ⟨x, r, rfl, hE8⟩ := mm_sr_inv hE
  intro φ H locs ls f0 g0 hn k1 k2 hP hD hS hl
  exact lv_astore hx hb hd hl h3 rfl (fun ls' hl' => hK _ _ _ _ _ _ hE8 φ H locs ls' f0 g0 hn k1 k2 hP hD hS (mm_lsub hl' mm_lset))
theorem mm_x_iinc (Z : mm_Cx p l R s m args meth c D dA cl b A mi df WS Ts nF nM nm w d xs) {K : mm_K} (hK : ∀ pc L st h kc ks, K pc L st h kc ks → mm_Go p l e R s m args below meth c Q D dA cl b A φ0 n0 (mm_n (mi w)) pc L st h kc ks) {len a bb pc kc ks : Nat} {k : Int32} {L : mm_L} {st : List Value} {h : mm_H} {i : Nat} {n : Int} (hok : mm_ok mi cl WS nF nM nm w pc (.iinc i n, len, a, bb, k) = true) (hE : mm_li L a fun x => K (pc + len) (L.set a (some (.int (x + k)))) st h kc ks) : mm_Go p l e R s m args below meth c Q D dA cl b A φ0 n0 (mm_n (mi w)) pc L st h kc ks := by
  obtain ⟨⟨hx, hb, hml, hown, hts⟩, hWT, hoi, hG, hmi, hcl, hKK, hA, hX, hbl, hbA, hin, hRf, hRl⟩ := Z
  simp only [mm_ok, mm_sd, Bool.and_eq_true, decide_eq_true_eq] at hok
  obtain ⟨hd, h1, h2, h3, h4⟩ := hok
  subst h1
  subst h2
  obtain ⟨x, hx1, hE9⟩ := mm_li_inv hE
  intro φ H locs ls f0 g0 hn k1 k2 hP hD hS hl
  obtain ⟨j, hj⟩ := List.getElem?_of_mem (mm_l_mem (b := b) (φ := φ) (q := (i, Value.int x)).mpr ⟨.int x, hx1, rfl, rfl⟩)
  exact lv_iinc (k := j) hx hb hd hl hj (by rw [h4]) h3 rfl (fun ls' hl' => hK _ _ _ _ _ _ hE9 φ H locs ls' f0 g0 hn k1 k2 hP hD hS (mm_lsub hl' mm_lset))
theorem mm_x_iadd (Z : mm_Cx p l R s m args meth c D dA cl b A mi df WS Ts nF nM nm w d xs) {K : mm_K} (hK : ∀ pc L st h kc ks, K pc L st h kc ks → mm_Go p l e R s m args below meth c Q D dA cl b A φ0 n0 (mm_n (mi w)) pc L st h kc ks) {len a bb pc kc ks : Nat} {k : Int32} {L : mm_L} {st : List Value} {h : mm_H}  (hok : mm_ok mi cl WS nF nM nm w pc (.iadd, len, a, bb, k) = true) (hE : mm_s2 st fun y x r => K (pc + len) L (.int (x + y) :: r) h kc ks) : mm_Go p l e R s m args below meth c Q D dA cl b A φ0 n0 (mm_n (mi w)) pc L st h kc ks := by
  obtain ⟨⟨hx, hb, hml, hown, hts⟩, hWT, hoi, hG, hmi, hcl, hKK, hA, hX, hbl, hbA, hin, hRf, hRl⟩ := Z
  simp only [mm_ok, mm_sd, Bool.and_eq_true, decide_eq_true_eq] at hok
  obtain ⟨hd, h1⟩ := hok
  subst h1
  obtain ⟨y, x, r, rfl, hE10⟩ := mm_s2_inv hE
  intro φ H locs ls f0 g0 hn k1 k2 hP hD hS hl
  exact lv_iadd hx hb hd (hK _ _ _ _ _ _ hE10 φ H locs ls f0 g0 hn k1 k2 hP hD hS hl)
theorem mm_x_isub (Z : mm_Cx p l R s m args meth c D dA cl b A mi df WS Ts nF nM nm w d xs) {K : mm_K} (hK : ∀ pc L st h kc ks, K pc L st h kc ks → mm_Go p l e R s m args below meth c Q D dA cl b A φ0 n0 (mm_n (mi w)) pc L st h kc ks) {len a bb pc kc ks : Nat} {k : Int32} {L : mm_L} {st : List Value} {h : mm_H}  (hok : mm_ok mi cl WS nF nM nm w pc (.isub, len, a, bb, k) = true) (hE : mm_s2 st fun y x r => K (pc + len) L (.int (x - y) :: r) h kc ks) : mm_Go p l e R s m args below meth c Q D dA cl b A φ0 n0 (mm_n (mi w)) pc L st h kc ks := by
  obtain ⟨⟨hx, hb, hml, hown, hts⟩, hWT, hoi, hG, hmi, hcl, hKK, hA, hX, hbl, hbA, hin, hRf, hRl⟩ := Z
  simp only [mm_ok, mm_sd, Bool.and_eq_true, decide_eq_true_eq] at hok
  obtain ⟨hd, h1⟩ := hok
  subst h1
  obtain ⟨y, x, r, rfl, hE11⟩ := mm_s2_inv hE
  intro φ H locs ls f0 g0 hn k1 k2 hP hD hS hl
  exact lv_isub hx hb hd (hK _ _ _ _ _ _ hE11 φ H locs ls f0 g0 hn k1 k2 hP hD hS hl)
theorem mm_x_imul (Z : mm_Cx p l R s m args meth c D dA cl b A mi df WS Ts nF nM nm w d xs) {K : mm_K} (hK : ∀ pc L st h kc ks, K pc L st h kc ks → mm_Go p l e R s m args below meth c Q D dA cl b A φ0 n0 (mm_n (mi w)) pc L st h kc ks) {len a bb pc kc ks : Nat} {k : Int32} {L : mm_L} {st : List Value} {h : mm_H}  (hok : mm_ok mi cl WS nF nM nm w pc (.imul, len, a, bb, k) = true) (hE : mm_s2 st fun y x r => K (pc + len) L (.int (x * y) :: r) h kc ks) : mm_Go p l e R s m args below meth c Q D dA cl b A φ0 n0 (mm_n (mi w)) pc L st h kc ks := by
  obtain ⟨⟨hx, hb, hml, hown, hts⟩, hWT, hoi, hG, hmi, hcl, hKK, hA, hX, hbl, hbA, hin, hRf, hRl⟩ := Z
  simp only [mm_ok, mm_sd, Bool.and_eq_true, decide_eq_true_eq] at hok
  obtain ⟨hd, h1⟩ := hok
  subst h1
  obtain ⟨y, x, r, rfl, hE12⟩ := mm_s2_inv hE
  intro φ H locs ls f0 g0 hn k1 k2 hP hD hS hl
  exact lv_imul hx hb hd (hK _ _ _ _ _ _ hE12 φ H locs ls f0 g0 hn k1 k2 hP hD hS hl)
theorem mm_x_iand (Z : mm_Cx p l R s m args meth c D dA cl b A mi df WS Ts nF nM nm w d xs) {K : mm_K} (hK : ∀ pc L st h kc ks, K pc L st h kc ks → mm_Go p l e R s m args below meth c Q D dA cl b A φ0 n0 (mm_n (mi w)) pc L st h kc ks) {len a bb pc kc ks : Nat} {k : Int32} {L : mm_L} {st : List Value} {h : mm_H}  (hok : mm_ok mi cl WS nF nM nm w pc (.iand, len, a, bb, k) = true) (hE : mm_s2 st fun y x r => K (pc + len) L (.int (x &&& y) :: r) h kc ks) : mm_Go p l e R s m args below meth c Q D dA cl b A φ0 n0 (mm_n (mi w)) pc L st h kc ks := by
  obtain ⟨⟨hx, hb, hml, hown, hts⟩, hWT, hoi, hG, hmi, hcl, hKK, hA, hX, hbl, hbA, hin, hRf, hRl⟩ := Z
  simp only [mm_ok, mm_sd, Bool.and_eq_true, decide_eq_true_eq] at hok
  obtain ⟨hd, h1⟩ := hok
  subst h1
  obtain ⟨y, x, r, rfl, hE13⟩ := mm_s2_inv hE
  intro φ H locs ls f0 g0 hn k1 k2 hP hD hS hl
  exact lv_iand hx hb hd (hK _ _ _ _ _ _ hE13 φ H locs ls f0 g0 hn k1 k2 hP hD hS hl)
theorem mm_x_ior (Z : mm_Cx p l R s m args meth c D dA cl b A mi df WS Ts nF nM nm w d xs) {K : mm_K} (hK : ∀ pc L st h kc ks, K pc L st h kc ks → mm_Go p l e R s m args below meth c Q D dA cl b A φ0 n0 (mm_n (mi w)) pc L st h kc ks) {len a bb pc kc ks : Nat} {k : Int32} {L : mm_L} {st : List Value} {h : mm_H}  (hok : mm_ok mi cl WS nF nM nm w pc (.ior, len, a, bb, k) = true) (hE : mm_s2 st fun y x r => K (pc + len) L (.int (x ||| y) :: r) h kc ks) : mm_Go p l e R s m args below meth c Q D dA cl b A φ0 n0 (mm_n (mi w)) pc L st h kc ks := by
  obtain ⟨⟨hx, hb, hml, hown, hts⟩, hWT, hoi, hG, hmi, hcl, hKK, hA, hX, hbl, hbA, hin, hRf, hRl⟩ := Z
  simp only [mm_ok, mm_sd, Bool.and_eq_true, decide_eq_true_eq] at hok
  obtain ⟨hd, h1⟩ := hok
  subst h1
  obtain ⟨y, x, r, rfl, hE14⟩ := mm_s2_inv hE
  intro φ H locs ls f0 g0 hn k1 k2 hP hD hS hl
  exact lv_ior hx hb hd (hK _ _ _ _ _ _ hE14 φ H locs ls f0 g0 hn k1 k2 hP hD hS hl)
theorem mm_x_ixor (Z : mm_Cx p l R s m args meth c D dA cl b A mi df WS Ts nF nM nm w d xs) {K : mm_K} (hK : ∀ pc L st h kc ks, K pc L st h kc ks → mm_Go p l e R s m args below meth c Q D dA cl b A φ0 n0 (mm_n (mi w)) pc L st h kc ks) {len a bb pc kc ks : Nat} {k : Int32} {L : mm_L} {st : List Value} {h : mm_H}  (hok : mm_ok mi cl WS nF nM nm w pc (.ixor, len, a, bb, k) = true) (hE : mm_s2 st fun y x r => K (pc + len) L (.int (x ^^^ y) :: r) h kc ks) : mm_Go p l e R s m args below meth c Q D dA cl b A φ0 n0 (mm_n (mi w)) pc L st h kc ks := by
  obtain ⟨⟨hx, hb, hml, hown, hts⟩, hWT, hoi, hG, hmi, hcl, hKK, hA, hX, hbl, hbA, hin, hRf, hRl⟩ := Z
  simp only [mm_ok, mm_sd, Bool.and_eq_true, decide_eq_true_eq] at hok
  obtain ⟨hd, h1⟩ := hok
  subst h1
  obtain ⟨y, x, r, rfl, hE15⟩ := mm_s2_inv hE
  intro φ H locs ls f0 g0 hn k1 k2 hP hD hS hl
  exact lv_ixor hx hb hd (hK _ _ _ _ _ _ hE15 φ H locs ls f0 g0 hn k1 k2 hP hD hS hl)
theorem mm_x_ishl (Z : mm_Cx p l R s m args meth c D dA cl b A mi df WS Ts nF nM nm w d xs) {K : mm_K} (hK : ∀ pc L st h kc ks, K pc L st h kc ks → mm_Go p l e R s m args below meth c Q D dA cl b A φ0 n0 (mm_n (mi w)) pc L st h kc ks) {len a bb pc kc ks : Nat} {k : Int32} {L : mm_L} {st : List Value} {h : mm_H}  (hok : mm_ok mi cl WS nF nM nm w pc (.ishl, len, a, bb, k) = true) (hE : mm_s2 st fun y x r => K (pc + len) L (.int (x <<< (y &&& 31)) :: r) h kc ks) : mm_Go p l e R s m args below meth c Q D dA cl b A φ0 n0 (mm_n (mi w)) pc L st h kc ks := by
  obtain ⟨⟨hx, hb, hml, hown, hts⟩, hWT, hoi, hG, hmi, hcl, hKK, hA, hX, hbl, hbA, hin, hRf, hRl⟩ := Z
  simp only [mm_ok, mm_sd, Bool.and_eq_true, decide_eq_true_eq] at hok
  obtain ⟨hd, h1⟩ := hok
  subst h1
  obtain ⟨y, x, r, rfl, hE16⟩ := mm_s2_inv hE
  intro φ H locs ls f0 g0 hn k1 k2 hP hD hS hl
  exact lv_ishl hx hb hd (hK _ _ _ _ _ _ hE16 φ H locs ls f0 g0 hn k1 k2 hP hD hS hl)
theorem mm_x_ishr (Z : mm_Cx p l R s m args meth c D dA cl b A mi df WS Ts nF nM nm w d xs) {K : mm_K} (hK : ∀ pc L st h kc ks, K pc L st h kc ks → mm_Go p l e R s m args below meth c Q D dA cl b A φ0 n0 (mm_n (mi w)) pc L st h kc ks) {len a bb pc kc ks : Nat} {k : Int32} {L : mm_L} {st : List Value} {h : mm_H}  (hok : mm_ok mi cl WS nF nM nm w pc (.ishr, len, a, bb, k) = true) (hE : mm_s2 st fun y x r => K (pc + len) L (.int (x >>> (y &&& 31)) :: r) h kc ks) : mm_Go p l e R s m args below meth c Q D dA cl b A φ0 n0 (mm_n (mi w)) pc L st h kc ks := by
  obtain ⟨⟨hx, hb, hml, hown, hts⟩, hWT, hoi, hG, hmi, hcl, hKK, hA, hX, hbl, hbA, hin, hRf, hRl⟩ := Z
  simp only [mm_ok, mm_sd, Bool.and_eq_true, decide_eq_true_eq] at hok
  obtain ⟨hd, h1⟩ := hok
  subst h1
  obtain ⟨y, x, r, rfl, hE17⟩ := mm_s2_inv hE
  intro φ H locs ls f0 g0 hn k1 k2 hP hD hS hl
  exact lv_ishr hx hb hd (hK _ _ _ _ _ _ hE17 φ H locs ls f0 g0 hn k1 k2 hP hD hS hl)
theorem mm_x_idiv (Z : mm_Cx p l R s m args meth c D dA cl b A mi df WS Ts nF nM nm w d xs) {K : mm_K} (hK : ∀ pc L st h kc ks, K pc L st h kc ks → mm_Go p l e R s m args below meth c Q D dA cl b A φ0 n0 (mm_n (mi w)) pc L st h kc ks) {len a bb pc kc ks : Nat} {k : Int32} {L : mm_L} {st : List Value} {h : mm_H}  (hok : mm_ok mi cl WS nF nM nm w pc (.idiv, len, a, bb, k) = true) (hE : mm_s2 st fun y x r => ¬ y = 0 ∧ K (pc + len) L (.int (x / y) :: r) h kc ks) : mm_Go p l e R s m args below meth c Q D dA cl b A φ0 n0 (mm_n (mi w)) pc L st h kc ks := by
  obtain ⟨⟨hx, hb, hml, hown, hts⟩, hWT, hoi, hG, hmi, hcl, hKK, hA, hX, hbl, hbA, hin, hRf, hRl⟩ := Z
  simp only [mm_ok, mm_sd, Bool.and_eq_true, decide_eq_true_eq] at hok
  obtain ⟨hd, h1⟩ := hok
  subst h1
  obtain ⟨y, x, r, rfl, hy, hE18⟩ := mm_s2_inv hE
  intro φ H locs ls f0 g0 hn k1 k2 hP hD hS hl
  exact lv_idiv hx hb hd hy (hK _ _ _ _ _ _ hE18 φ H locs ls f0 g0 hn k1 k2 hP hD hS hl)
theorem mm_x_irem (Z : mm_Cx p l R s m args meth c D dA cl b A mi df WS Ts nF nM nm w d xs) {K : mm_K} (hK : ∀ pc L st h kc ks, K pc L st h kc ks → mm_Go p l e R s m args below meth c Q D dA cl b A φ0 n0 (mm_n (mi w)) pc L st h kc ks) {len a bb pc kc ks : Nat} {k : Int32} {L : mm_L} {st : List Value} {h : mm_H}  (hok : mm_ok mi cl WS nF nM nm w pc (.irem, len, a, bb, k) = true) (hE : mm_s2 st fun y x r => ¬ y = 0 ∧ K (pc + len) L (.int (x - x / y * y) :: r) h kc ks) : mm_Go p l e R s m args below meth c Q D dA cl b A φ0 n0 (mm_n (mi w)) pc L st h kc ks := by
  obtain ⟨⟨hx, hb, hml, hown, hts⟩, hWT, hoi, hG, hmi, hcl, hKK, hA, hX, hbl, hbA, hin, hRf, hRl⟩ := Z
  simp only [mm_ok, mm_sd, Bool.and_eq_true, decide_eq_true_eq] at hok
  obtain ⟨hd, h1⟩ := hok
  subst h1
  obtain ⟨y, x, r, rfl, hy, hE19⟩ := mm_s2_inv hE
  intro φ H locs ls f0 g0 hn k1 k2 hP hD hS hl
  exact lv_irem hx hb hd hy (hK _ _ _ _ _ _ hE19 φ H locs ls f0 g0 hn k1 k2 hP hD hS hl)
theorem mm_x_ineg (Z : mm_Cx p l R s m args meth c D dA cl b A mi df WS Ts nF nM nm w d xs) {K : mm_K} (hK : ∀ pc L st h kc ks, K pc L st h kc ks → mm_Go p l e R s m args below meth c Q D dA cl b A φ0 n0 (mm_n (mi w)) pc L st h kc ks) {len a bb pc kc ks : Nat} {k : Int32} {L : mm_L} {st : List Value} {h : mm_H}  (hok : mm_ok mi cl WS nF nM nm w pc (.ineg, len, a, bb, k) = true) (hE : mm_s1 st fun x r => K (pc + len) L (.int (-x) :: r) h kc ks) : mm_Go p l e R s m args below meth c Q D dA cl b A φ0 n0 (mm_n (mi w)) pc L st h kc ks := by
  obtain ⟨⟨hx, hb, hml, hown, hts⟩, hWT, hoi, hG, hmi, hcl, hKK, hA, hX, hbl, hbA, hin, hRf, hRl⟩ := Z
  simp only [mm_ok, mm_sd, Bool.and_eq_true, decide_eq_true_eq] at hok
  obtain ⟨hd, h1⟩ := hok
  subst h1
  obtain ⟨x, r, rfl, hE20⟩ := mm_s1_inv hE
  intro φ H locs ls f0 g0 hn k1 k2 hP hD hS hl
  exact lv_ineg hx hb hd (hK _ _ _ _ _ _ hE20 φ H locs ls f0 g0 hn k1 k2 hP hD hS hl)
theorem mm_x_i2c (Z : mm_Cx p l R s m args meth c D dA cl b A mi df WS Ts nF nM nm w d xs) {K : mm_K} (hK : ∀ pc L st h kc ks, K pc L st h kc ks → mm_Go p l e R s m args below meth c Q D dA cl b A φ0 n0 (mm_n (mi w)) pc L st h kc ks) {len a bb pc kc ks : Nat} {k : Int32} {L : mm_L} {st : List Value} {h : mm_H}  (hok : mm_ok mi cl WS nF nM nm w pc (.i2c, len, a, bb, k) = true) (hE : mm_s1 st fun x r => K (pc + len) L (.int (x.toUInt32 % 65536).toInt32 :: r) h kc ks) : mm_Go p l e R s m args below meth c Q D dA cl b A φ0 n0 (mm_n (mi w)) pc L st h kc ks := by
  obtain ⟨⟨hx, hb, hml, hown, hts⟩, hWT, hoi, hG, hmi, hcl, hKK, hA, hX, hbl, hbA, hin, hRf, hRl⟩ := Z
  simp only [mm_ok, mm_sd, Bool.and_eq_true, decide_eq_true_eq] at hok
  obtain ⟨hd, h1⟩ := hok
  subst h1
  obtain ⟨x, r, rfl, hE21⟩ := mm_s1_inv hE
  intro φ H locs ls f0 g0 hn k1 k2 hP hD hS hl
  exact lv_i2c hx hb hd rfl (hK _ _ _ _ _ _ hE21 φ H locs ls f0 g0 hn k1 k2 hP hD hS hl)
theorem mm_x_dup (Z : mm_Cx p l R s m args meth c D dA cl b A mi df WS Ts nF nM nm w d xs) {K : mm_K} (hK : ∀ pc L st h kc ks, K pc L st h kc ks → mm_Go p l e R s m args below meth c Q D dA cl b A φ0 n0 (mm_n (mi w)) pc L st h kc ks) {len a bb pc kc ks : Nat} {k : Int32} {L : mm_L} {st : List Value} {h : mm_H}  (hok : mm_ok mi cl WS nF nM nm w pc (.dup, len, a, bb, k) = true) (hE : mm_sv st fun v r => v.category = 1 ∧ K (pc + len) L (v :: v :: r) h kc ks) : mm_Go p l e R s m args below meth c Q D dA cl b A φ0 n0 (mm_n (mi w)) pc L st h kc ks := by
  obtain ⟨⟨hx, hb, hml, hown, hts⟩, hWT, hoi, hG, hmi, hcl, hKK, hA, hX, hbl, hbA, hin, hRf, hRl⟩ := Z
  simp only [mm_ok, mm_sd, Bool.and_eq_true, decide_eq_true_eq] at hok
  obtain ⟨hd, h1⟩ := hok
  subst h1
  obtain ⟨v, r, rfl, c1, hE22⟩ := mm_sv_inv hE
  intro φ H locs ls f0 g0 hn k1 k2 hP hD hS hl
  exact lv_dup hx hb hd (by rw [mm_v_cat]; exact c1) (hK _ _ _ _ _ _ hE22 φ H locs ls f0 g0 hn k1 k2 hP hD hS hl)
theorem mm_x_pop (Z : mm_Cx p l R s m args meth c D dA cl b A mi df WS Ts nF nM nm w d xs) {K : mm_K} (hK : ∀ pc L st h kc ks, K pc L st h kc ks → mm_Go p l e R s m args below meth c Q D dA cl b A φ0 n0 (mm_n (mi w)) pc L st h kc ks) {len a bb pc kc ks : Nat} {k : Int32} {L : mm_L} {st : List Value} {h : mm_H}  (hok : mm_ok mi cl WS nF nM nm w pc (.pop, len, a, bb, k) = true) (hE : mm_sv st fun v r => v.category = 1 ∧ K (pc + len) L r h kc ks) : mm_Go p l e R s m args below meth c Q D dA cl b A φ0 n0 (mm_n (mi w)) pc L st h kc ks := by
  obtain ⟨⟨hx, hb, hml, hown, hts⟩, hWT, hoi, hG, hmi, hcl, hKK, hA, hX, hbl, hbA, hin, hRf, hRl⟩ := Z
  simp only [mm_ok, mm_sd, Bool.and_eq_true, decide_eq_true_eq] at hok
  obtain ⟨hd, h1⟩ := hok
  subst h1
  obtain ⟨v, r, rfl, c1, hE23⟩ := mm_sv_inv hE
  intro φ H locs ls f0 g0 hn k1 k2 hP hD hS hl
  exact lv_pop hx hb hd (by rw [mm_v_cat]; exact c1) (hK _ _ _ _ _ _ hE23 φ H locs ls f0 g0 hn k1 k2 hP hD hS hl)
theorem mm_x_dup_x1 (Z : mm_Cx p l R s m args meth c D dA cl b A mi df WS Ts nF nM nm w d xs) {K : mm_K} (hK : ∀ pc L st h kc ks, K pc L st h kc ks → mm_Go p l e R s m args below meth c Q D dA cl b A φ0 n0 (mm_n (mi w)) pc L st h kc ks) {len a bb pc kc ks : Nat} {k : Int32} {L : mm_L} {st : List Value} {h : mm_H}  (hok : mm_ok mi cl WS nF nM nm w pc (.dup_x1, len, a, bb, k) = true) (hE : mm_sv st fun v r => mm_sv r fun w r => v.category = 1 ∧ w.category = 1 ∧ K (pc + len) L (v :: w :: v :: r) h kc ks) : mm_Go p l e R s m args below meth c Q D dA cl b A φ0 n0 (mm_n (mi w)) pc L st h kc ks := by
  obtain ⟨⟨hx, hb, hml, hown, hts⟩, hWT, hoi, hG, hmi, hcl, hKK, hA, hX, hbl, hbA, hin, hRf, hRl⟩ := Z
  simp only [mm_ok, mm_sd, Bool.and_eq_true, decide_eq_true_eq] at hok
  obtain ⟨hd, h1⟩ := hok
  subst h1
  obtain ⟨v, r, rfl, hE24⟩ := mm_sv_inv hE
  obtain ⟨v2, r, rfl, c1, c2, hE25⟩ := mm_sv_inv hE24
  intro φ H locs ls f0 g0 hn k1 k2 hP hD hS hl
  exact lv_dup_x1 hx hb hd (by rw [mm_v_cat]; exact c1) (by rw [mm_v_cat]; exact c2) (hK _ _ _ _ _ _ hE25 φ H locs ls f0 g0 hn k1 k2 hP hD hS hl)
theorem mm_x_dup2 (Z : mm_Cx p l R s m args meth c D dA cl b A mi df WS Ts nF nM nm w d xs) {K : mm_K} (hK : ∀ pc L st h kc ks, K pc L st h kc ks → mm_Go p l e R s m args below meth c Q D dA cl b A φ0 n0 (mm_n (mi w)) pc L st h kc ks) {len a bb pc kc ks : Nat} {k : Int32} {L : mm_L} {st : List Value} {h : mm_H}  (hok : mm_ok mi cl WS nF nM nm w pc (.dup2, len, a, bb, k) = true) (hE : mm_sv st fun v r => mm_sv r fun w r => v.category = 1 ∧ w.category = 1 ∧ K (pc + len) L (v :: w :: v :: w :: r) h kc ks) : mm_Go p l e R s m args below meth c Q D dA cl b A φ0 n0 (mm_n (mi w)) pc L st h kc ks := by
  obtain ⟨⟨hx, hb, hml, hown, hts⟩, hWT, hoi, hG, hmi, hcl, hKK, hA, hX, hbl, hbA, hin, hRf, hRl⟩ := Z
  simp only [mm_ok, mm_sd, Bool.and_eq_true, decide_eq_true_eq] at hok
  obtain ⟨hd, h1⟩ := hok
  subst h1
  obtain ⟨v, r, rfl, hE26⟩ := mm_sv_inv hE
  obtain ⟨v2, r, rfl, c1, c2, hE27⟩ := mm_sv_inv hE26
  intro φ H locs ls f0 g0 hn k1 k2 hP hD hS hl
  exact lv_dup2_11 hx hb hd (by rw [mm_v_cat]; exact c1) (by rw [mm_v_cat]; exact c2) (hK _ _ _ _ _ _ hE27 φ H locs ls f0 g0 hn k1 k2 hP hD hS hl)
theorem mm_x_dup_x2 (Z : mm_Cx p l R s m args meth c D dA cl b A mi df WS Ts nF nM nm w d xs) {K : mm_K} (hK : ∀ pc L st h kc ks, K pc L st h kc ks → mm_Go p l e R s m args below meth c Q D dA cl b A φ0 n0 (mm_n (mi w)) pc L st h kc ks) {len a bb pc kc ks : Nat} {k : Int32} {L : mm_L} {st : List Value} {h : mm_H}  (hok : mm_ok mi cl WS nF nM nm w pc (.dup_x2, len, a, bb, k) = true) (hE : mm_sv st fun v r => mm_sv r fun w r => mm_sv r fun z r => v.category = 1 ∧ w.category = 1 ∧ z.category = 1 ∧ K (pc + len) L (v :: w :: z :: v :: r) h kc ks) : mm_Go p l e R s m args below meth c Q D dA cl b A φ0 n0 (mm_n (mi w)) pc L st h kc ks := by
  obtain ⟨⟨hx, hb, hml, hown, hts⟩, hWT, hoi, hG, hmi, hcl, hKK, hA, hX, hbl, hbA, hin, hRf, hRl⟩ := Z
  simp only [mm_ok, mm_sd, Bool.and_eq_true, decide_eq_true_eq] at hok
  obtain ⟨hd, h1⟩ := hok
  subst h1
  obtain ⟨v, r, rfl, hE28⟩ := mm_sv_inv hE
  obtain ⟨v2, r, rfl, hE29⟩ := mm_sv_inv hE28
  obtain ⟨v3, r, rfl, c1, c2, c3, hE30⟩ := mm_sv_inv hE29
  intro φ H locs ls f0 g0 hn k1 k2 hP hD hS hl
  exact lv_dup_x2 hx hb hd (by rw [mm_v_cat]; exact c1) (by rw [mm_v_cat]; exact c2) (by rw [mm_v_cat]; exact c3) (hK _ _ _ _ _ _ hE30 φ H locs ls f0 g0 hn k1 k2 hP hD hS hl)
theorem mm_x_ifCond (Z : mm_Cx p l R s m args meth c D dA cl b A mi df WS Ts nF nM nm w d xs) {K : mm_K} (hK : ∀ pc L st h kc ks, K pc L st h kc ks → mm_Go p l e R s m args below meth c Q D dA cl b A φ0 n0 (mm_n (mi w)) pc L st h kc ks) {len a bb pc kc ks : Nat} {k : Int32} {L : mm_L} {st : List Value} {h : mm_H} {cnd : Jvm.ClassFile.Cond} {off : Int} (hok : mm_ok mi cl WS nF nM nm w pc (.ifCond cnd off, len, a, bb, k) = true) (hE : mm_s1 st fun x r => (mm_cz cnd x → K a L r h kc ks) ∧ (¬ mm_cz cnd x → K (pc + len) L r h kc ks)) : mm_Go p l e R s m args below meth c Q D dA cl b A φ0 n0 (mm_n (mi w)) pc L st h kc ks := by
  obtain ⟨⟨hx, hb, hml, hown, hts⟩, hWT, hoi, hG, hmi, hcl, hKK, hA, hX, hbl, hbA, hin, hRf, hRl⟩ := Z
  simp only [mm_ok, mm_sd, Bool.and_eq_true, decide_eq_true_eq] at hok
  obtain ⟨hd, h1, h2⟩ := hok
  subst h1
  obtain ⟨x, r, rfl, hE31⟩ := mm_s1_inv hE
  intro φ H locs ls f0 g0 hn k1 k2 hP hD hS hl
  cases cnd with
  | eq => exact lv_if_eq hx hb hd h2 (fun hc => (hK _ _ _ _ _ _ (hE.1 hc) φ H locs ls f0 g0 hn k1 k2 hP hD hS hl)) (fun hc => (hK _ _ _ _ _ _ (hE.2 hc) φ H locs ls f0 g0 hn k1 k2 hP hD hS hl))
  | ne => exact lv_if_ne hx hb hd h2 (fun hc => (hK _ _ _ _ _ _ (hE.1 hc) φ H locs ls f0 g0 hn k1 k2 hP hD hS hl)) (fun hc => (hK _ _ _ _ _ _ (hE.2 (fun hn2 => hn2 hc)) φ H locs ls f0 g0 hn k1 k2 hP hD hS hl))
  | lt => exact lv_if_lt hx hb hd h2 (fun hc => (hK _ _ _ _ _ _ (hE.1 hc) φ H locs ls f0 g0 hn k1 k2 hP hD hS hl)) (fun hc => (hK _ _ _ _ _ _ (hE.2 hc) φ H locs ls f0 g0 hn k1 k2 hP hD hS hl))
  | ge => exact lv_if_ge hx hb hd h2 (fun hc => (hK _ _ _ _ _ _ (hE.1 hc) φ H locs ls f0 g0 hn k1 k2 hP hD hS hl)) (fun hc => (hK _ _ _ _ _ _ (hE.2 hc) φ H locs ls f0 g0 hn k1 k2 hP hD hS hl))
  | gt => exact lv_if_gt hx hb hd h2 (fun hc => (hK _ _ _ _ _ _ (hE.1 hc) φ H locs ls f0 g0 hn k1 k2 hP hD hS hl)) (fun hc => (hK _ _ _ _ _ _ (hE.2 hc) φ H locs ls f0 g0 hn k1 k2 hP hD hS hl))
  | le => exact lv_if_le hx hb hd h2 (fun hc => (hK _ _ _ _ _ _ (hE.1 hc) φ H locs ls f0 g0 hn k1 k2 hP hD hS hl)) (fun hc => (hK _ _ _ _ _ _ (hE.2 hc) φ H locs ls f0 g0 hn k1 k2 hP hD hS hl))
theorem mm_x_if_icmp (Z : mm_Cx p l R s m args meth c D dA cl b A mi df WS Ts nF nM nm w d xs) {K : mm_K} (hK : ∀ pc L st h kc ks, K pc L st h kc ks → mm_Go p l e R s m args below meth c Q D dA cl b A φ0 n0 (mm_n (mi w)) pc L st h kc ks) {len a bb pc kc ks : Nat} {k : Int32} {L : mm_L} {st : List Value} {h : mm_H} {cnd : Jvm.ClassFile.Cond} {off : Int} (hok : mm_ok mi cl WS nF nM nm w pc (.if_icmp cnd off, len, a, bb, k) = true) (hE : mm_s2 st fun y x r => (mm_cc cnd x y → K a L r h kc ks) ∧ (¬ mm_cc cnd x y → K (pc + len) L r h kc ks)) : mm_Go p l e R s m args below meth c Q D dA cl b A φ0 n0 (mm_n (mi w)) pc L st h kc ks := by
  obtain ⟨⟨hx, hb, hml, hown, hts⟩, hWT, hoi, hG, hmi, hcl, hKK, hA, hX, hbl, hbA, hin, hRf, hRl⟩ := Z
  simp only [mm_ok, mm_sd, Bool.and_eq_true, decide_eq_true_eq] at hok
  obtain ⟨hd, h1, h2⟩ := hok
  subst h1
  obtain ⟨y, x, r, rfl, hE32⟩ := mm_s2_inv hE
  intro φ H locs ls f0 g0 hn k1 k2 hP hD hS hl
  cases cnd with
  | eq => exact lv_icmp_eq hx hb hd h2 (fun hc => (hK _ _ _ _ _ _ (hE.1 hc) φ H locs ls f0 g0 hn k1 k2 hP hD hS hl)) (fun hc => (hK _ _ _ _ _ _ (hE.2 hc) φ H locs ls f0 g0 hn k1 k2 hP hD hS hl))
  | ne => exact lv_icmp_ne hx hb hd h2 (fun hc => (hK _ _ _ _ _ _ (hE.1 hc) φ H locs ls f0 g0 hn k1 k2 hP hD hS hl)) (fun hc => (hK _ _ _ _ _ _ (hE.2 (fun hn2 => hn2 hc)) φ H locs ls f0 g0 hn k1 k2 hP hD hS hl))
  | lt => exact lv_icmp_lt hx hb hd h2 (fun hc => (hK _ _ _ _ _ _ (hE.1 hc) φ H locs ls f0 g0 hn k1 k2 hP hD hS hl)) (fun hc => (hK _ _ _ _ _ _ (hE.2 hc) φ H locs ls f0 g0 hn k1 k2 hP hD hS hl))
  | ge => exact lv_icmp_ge hx hb hd h2 (fun hc => (hK _ _ _ _ _ _ (hE.1 hc) φ H locs ls f0 g0 hn k1 k2 hP hD hS hl)) (fun hc => (hK _ _ _ _ _ _ (hE.2 hc) φ H locs ls f0 g0 hn k1 k2 hP hD hS hl))
  | gt => exact lv_icmp_gt hx hb hd h2 (fun hc => (hK _ _ _ _ _ _ (hE.1 hc) φ H locs ls f0 g0 hn k1 k2 hP hD hS hl)) (fun hc => (hK _ _ _ _ _ _ (hE.2 hc) φ H locs ls f0 g0 hn k1 k2 hP hD hS hl))
  | le => exact lv_icmp_le hx hb hd h2 (fun hc => (hK _ _ _ _ _ _ (hE.1 hc) φ H locs ls f0 g0 hn k1 k2 hP hD hS hl)) (fun hc => (hK _ _ _ _ _ _ (hE.2 hc) φ H locs ls f0 g0 hn k1 k2 hP hD hS hl))
theorem mm_x_goto (Z : mm_Cx p l R s m args meth c D dA cl b A mi df WS Ts nF nM nm w d xs) {K : mm_K} (hK : ∀ pc L st h kc ks, K pc L st h kc ks → mm_Go p l e R s m args below meth c Q D dA cl b A φ0 n0 (mm_n (mi w)) pc L st h kc ks) {len a bb pc kc ks : Nat} {k : Int32} {L : mm_L} {st : List Value} {h : mm_H} {off : Int} (hok : mm_ok mi cl WS nF nM nm w pc (.goto off, len, a, bb, k) = true) (hE : K a L st h kc ks) : mm_Go p l e R s m args below meth c Q D dA cl b A φ0 n0 (mm_n (mi w)) pc L st h kc ks := by
  obtain ⟨⟨hx, hb, hml, hown, hts⟩, hWT, hoi, hG, hmi, hcl, hKK, hA, hX, hbl, hbA, hin, hRf, hRl⟩ := Z
  simp only [mm_ok, mm_sd, Bool.and_eq_true, decide_eq_true_eq] at hok
  obtain ⟨hd, h1, h2⟩ := hok
  subst h1
  intro φ H locs ls f0 g0 hn k1 k2 hP hD hS hl
  exact lv_goto hx hb hd h2 (hK _ _ _ _ _ _ hE φ H locs ls f0 g0 hn k1 k2 hP hD hS hl)
theorem mm_x_lookupswitch (Z : mm_Cx p l R s m args meth c D dA cl b A mi df WS Ts nF nM nm w d xs) {K : mm_K} (hK : ∀ pc L st h kc ks, K pc L st h kc ks → mm_Go p l e R s m args below meth c Q D dA cl b A φ0 n0 (mm_n (mi w)) pc L st h kc ks) {len a bb pc kc ks : Nat} {k : Int32} {L : mm_L} {st : List Value} {h : mm_H} {dd : Int} {ps : Array (Int × Int)} (hok : mm_ok mi cl WS nF nM nm w pc (.lookupswitch dd ps, len, a, bb, k) = true) (hE : mm_s1 st fun x r => ∃ t : Nat, (pc : Int) + Op.lookupswitch.offset ps.toList dd x.toInt = (t : Int) ∧ K t L r h kc ks) : mm_Go p l e R s m args below meth c Q D dA cl b A φ0 n0 (mm_n (mi w)) pc L st h kc ks := by
  obtain ⟨⟨hx, hb, hml, hown, hts⟩, hWT, hoi, hG, hmi, hcl, hKK, hA, hX, hbl, hbA, hin, hRf, hRl⟩ := Z
  simp only [mm_ok, mm_sd, Bool.and_eq_true, decide_eq_true_eq] at hok
  obtain ⟨hd, h1⟩ := hok
  obtain ⟨x, r, rfl, t, ht, hE33⟩ := mm_s1_inv hE
  intro φ H locs ls f0 g0 hn k1 k2 hP hD hS hl
  exact lv_lookup hx hb hd h1 rfl ht (hK _ _ _ _ _ _ hE33 φ H locs ls f0 g0 hn k1 k2 hP hD hS hl)
theorem mm_x_tableswitch (Z : mm_Cx p l R s m args meth c D dA cl b A mi df WS Ts nF nM nm w d xs) {K : mm_K} (hK : ∀ pc L st h kc ks, K pc L st h kc ks → mm_Go p l e R s m args below meth c Q D dA cl b A φ0 n0 (mm_n (mi w)) pc L st h kc ks) {len a bb pc kc ks : Nat} {k : Int32} {L : mm_L} {st : List Value} {h : mm_H} {dd lo hi : Int} {offs : Array Int} (hok : mm_ok mi cl WS nF nM nm w pc (.tableswitch dd lo hi offs, len, a, bb, k) = true) (hE : mm_s1 st fun x r => (x.toInt < lo ∨ hi < x.toInt → ∃ t : Nat, (pc : Int) + dd = (t : Int) ∧ K t L r h kc ks) ∧ (¬ x.toInt < lo → ¬ hi < x.toInt → ∃ (o : Int) (t : Nat), offs[(x.toInt - lo).toNat]? = some o ∧ (pc : Int) + o = (t : Int) ∧ K t L r h kc ks)) : mm_Go p l e R s m args below meth c Q D dA cl b A φ0 n0 (mm_n (mi w)) pc L st h kc ks := by
  obtain ⟨⟨hx, hb, hml, hown, hts⟩, hWT, hoi, hG, hmi, hcl, hKK, hA, hX, hbl, hbA, hin, hRf, hRl⟩ := Z
  simp only [mm_ok, mm_sd, Bool.and_eq_true, decide_eq_true_eq] at hok
  obtain ⟨hd, h1⟩ := hok
  obtain ⟨x, r, rfl, hE34⟩ := mm_s1_inv hE
  intro φ H locs ls f0 g0 hn k1 k2 hP hD hS hl
  by_cases hc : x.toInt < lo ∨ hi < x.toInt
  · obtain ⟨t, ht, hE35⟩ := hE34.1 hc
    exact lv_tableOut hx hb hd hc ht (hK _ _ _ _ _ _ hE35 φ H locs ls f0 g0 hn k1 k2 hP hD hS hl)
  · obtain ⟨o, t, ho, ht, hE36⟩ := hE34.2 (fun z => hc (Or.inl z)) (fun z => hc (Or.inr z))
    exact lv_tableIn hx hb hd (fun z => hc (Or.inl z)) (fun z => hc (Or.inr z)) ho ht (hK _ _ _ _ _ _ hE36 φ H locs ls f0 g0 hn k1 k2 hP hD hS hl)
theorem mm_x_getfield (Z : mm_Cx p l R s m args meth c D dA cl b A mi df WS Ts nF nM nm w d xs) {K : mm_K} (hK : ∀ pc L st h kc ks, K pc L st h kc ks → mm_Go p l e R s m args below meth c Q D dA cl b A φ0 n0 (mm_n (mi w)) pc L st h kc ks) {len a bb pc kc ks : Nat} {k : Int32} {L : mm_L} {st : List Value} {h : mm_H} {i : Nat} (hok : mm_ok mi cl WS nF nM nm w pc (.getfield i, len, a, bb, k) = true) (hE : mm_sr st fun o r => mm_ob h o fun ci fs => mm_fd fs bb fun v => ci = a ∧ K (pc + len) L (v :: r) h kc ks) : mm_Go p l e R s m args below meth c Q D dA cl b A φ0 n0 (mm_n (mi w)) pc L st h kc ks := by
  obtain ⟨⟨hx, hb, hml, hown, hts⟩, hWT, hoi, hG, hmi, hcl, hKK, hA, hX, hbl, hbA, hin, hRf, hRl⟩ := Z
  simp only [mm_ok, mm_sd, Bool.and_eq_true, decide_eq_true_eq] at hok
  obtain ⟨hd, h1, hfl⟩ := hok
  subst h1
  obtain ⟨o, r, rfl, hE37⟩ := mm_sr_inv hE
  obtain ⟨ci, fs, ho, hE38⟩ := mm_ob_inv hE37
  obtain ⟨v, hv, rfl, hE39⟩ := mm_fd_inv hE38
  unfold mm_fl at hfl
  split at hfl
  · cases hfl
  · rename_i q hq
    simp only [Bool.and_eq_true, decide_eq_true_eq, mm_lk, Bool.or_eq_true, List.any_eq_true] at hfl
    obtain ⟨hk, hlk⟩ := hfl
    obtain ⟨u1, u2, u3, u4, u5⟩ := mm_okc_spec (hcl _ _ hq)
    intro φ H locs ls f0 g0 hn k1 k2 hP hD hS hl
    have hfv : (fs.map (mm_v b φ))[bb]? = some (mm_v b φ v) := by rw [List.getElem?_map, hv]; rfl
    rcases hlk with hlk | ⟨q2, hq2, e1, e2, e3, e4, e5⟩
    · exact va_get (C := q.1) (T := q.2.1) (N := q.2.2) hx hb hts (fun x h9 => hWT _ (u1 x h9)) hown hKK.1 hP o (mm_w_at ho) hq bb hk (hts _ (hWT _ hlk)) (fun _ h9 => h9) hfv hd (hK _ _ _ _ _ _ hE39 φ H locs ls f0 g0 hn k1 k2 hP hD hS hl)
    · have hz := hKK.2.1 q2 hq2
      rw [e1, e2, e3, e4, e5] at hz
      exact va_getN (C := q.1) (T := q.2.1) (N := q.2.2) hx hb hts (fun x h9 => hWT _ (u1 x h9)) hown hKK.1 hP o (mm_w_at ho) hq bb hk (va_Nw.use rfl hz) (fun _ h9 => h9) hfv hd (hK _ _ _ _ _ _ hE39 φ H locs ls f0 g0 hn k1 k2 hP hD hS hl)
theorem mm_x_putfield (Z : mm_Cx p l R s m args meth c D dA cl b A mi df WS Ts nF nM nm w d xs) {K : mm_K} (hK : ∀ pc L st h kc ks, K pc L st h kc ks → mm_Go p l e R s m args below meth c Q D dA cl b A φ0 n0 (mm_n (mi w)) pc L st h kc ks) {len a bb pc kc ks : Nat} {k : Int32} {L : mm_L} {st : List Value} {h : mm_H} {i : Nat} (hok : mm_ok mi cl WS nF nM nm w pc (.putfield i, len, a, bb, k) = true) (hE : mm_sv st fun v r => mm_sr r fun o r => mm_ob h o fun ci fs => ci = a ∧ bb < fs.length ∧ mm_fit k v ∧ K (pc + len) L r (h.set o (.inr (ci, fs.set bb v))) kc ks) : mm_Go p l e R s m args below meth c Q D dA cl b A φ0 n0 (mm_n (mi w)) pc L st h kc ks := by
  obtain ⟨⟨hx, hb, hml, hown, hts⟩, hWT, hoi, hG, hmi, hcl, hKK, hA, hX, hbl, hbA, hin, hRf, hRl⟩ := Z
  simp only [mm_ok, mm_sd, Bool.and_eq_true, decide_eq_true_eq] at hok
  obtain ⟨hd, h1, hfl⟩ := hok
  subst h1
  obtain ⟨v, r, rfl, hE40⟩ := mm_sv_inv hE
  obtain ⟨o, r, rfl, hE41⟩ := mm_sr_inv hE40
  obtain ⟨ci, fs, ho, rfl, hlen, hfit, hE42⟩ := mm_ob_inv hE41
  unfold mm_fp at hfl
  split at hfl
  · cases hfl
  · rename_i q hq
    simp only [Bool.and_eq_true, decide_eq_true_eq] at hfl
    obtain ⟨⟨hk, hty⟩, hlk⟩ := hfl
    obtain ⟨u1, u2, u3, u4, u5⟩ := mm_okc_spec (hcl _ _ hq)
    split at hty
    · cases hty
    · rename_i ty hpd
      intro φ H locs ls f0 g0 hn k1 k2 hP hD hS hl
      obtain ⟨n1, n2⟩ := mm_fit_ok (b := b) (φ := φ) hfit hty
      have hset : (mm_w b φ dA h).set o (φ o, .inr (ci, (fs.map (mm_v b φ)).set bb (mm_v b φ v))) = mm_w b φ dA (h.set o (.inr (ci, fs.set bb v))) := by
        rw [← mm_w_set]
        show _ = (mm_w b φ dA h).set o (φ o, .inr (ci, (fs.set bb v).map (mm_v b φ)))
        rw [List.map_set]
      have kk : ∀ (H1 : Heap) (locs1 : List Loc), va_P D cl ((mm_w b φ dA h).set o (φ o, .inr (ci, (fs.map (mm_v b φ)).set bb (mm_v b φ v)))) H1 → va_D A ((mm_w b φ dA h).set o (φ o, .inr (ci, (fs.map (mm_v b φ)).set bb (mm_v b φ v)))) → va_S A s.heap H1 locs1 → W p l e R s m args below meth c H1 locs1 kc ks Q (F0 m (pc + 3) ls (r.map (mm_v b φ))) := by
        intro H1 locs1 hP1 hD1 hS1
        rw [hset] at hP1 hD1
        exact hK _ _ _ _ _ _ hE42 φ H1 locs1 ls f0 g0 (by rw [List.length_set]; exact hn) k1 k2 hP1 hD1 hS1 hl
      have hl2 : bb < (fs.map (mm_v b φ)).length := by rw [List.length_map]; exact hlen
      split at hlk
      · rename_i hfin
        simp only [Bool.and_eq_true, decide_eq_true_eq] at hlk
        exact va_putF (C := q.1) (T := q.2.1) (N := q.2.2) hx hb hts (fun x h9 => hWT _ (u1 x h9)) _ u2 u3 hown hKK.1 hP hD hS o (mm_w_at ho) hq bb hk (hts _ (hWT _ hlk.2)) (fun _ h9 => h9) hfin (hin.trans hlk.1.1) hlk.1.2 hpd n1 n2 hl2 hd kk
      · rename_i hfin
        have hfin : (q.2.1 bb).2.2.2 = false := by simpa using hfin
        simp only [mm_lk, Bool.or_eq_true, decide_eq_true_eq, List.any_eq_true] at hlk
        rcases hlk with hlk | ⟨q2, hq2, e1, e2, e3, e4, e5⟩
        · exact va_put (C := q.1) (T := q.2.1) (N := q.2.2) hx hb hts (fun x h9 => hWT _ (u1 x h9)) _ u2 u3 hown hKK.1 hP hD hS o (mm_w_at ho) hq bb hk (hts _ (hWT _ hlk)) (fun _ h9 => h9) hfin hpd n1 n2 hl2 hd kk
        · have hz := hKK.2.1 q2 hq2
          rw [e1, e2, e3, e4, e5] at hz
          exact va_putN (C := q.1) (T := q.2.1) (N := q.2.2) hx hb hts (fun x h9 => hWT _ (u1 x h9)) _ u2 u3 hown hKK.1 hP hD hS o (mm_w_at ho) hq bb hk (va_Nw.use rfl hz) (fun _ h9 => h9) hfin hpd n1 n2 hl2 hd kk
theorem mm_x_iaload (Z : mm_Cx p l R s m args meth c D dA cl b A mi df WS Ts nF nM nm w d xs) {K : mm_K} (hK : ∀ pc L st h kc ks, K pc L st h kc ks → mm_Go p l e R s m args below meth c Q D dA cl b A φ0 n0 (mm_n (mi w)) pc L st h kc ks) {len a bb pc kc ks : Nat} {k : Int32} {L : mm_L} {st : List Value} {h : mm_H}  (hok : mm_ok mi cl WS nF nM nm w pc (.iaload, len, a, bb, k) = true) (hE : mm_s1 st fun i r => mm_sx r (fun r => vp_in i xs.1 ∧ K (pc + len) L (.int (xs.2 i.toNatClampNeg) :: r) h kc ks) (fun o r => mm_ar h o fun ty n f => ty = .int ∧ vp_in i n ∧ K (pc + len) L (.int (f i.toNatClampNeg) :: r) h kc ks)) : mm_Go p l e R s m args below meth c Q D dA cl b A φ0 n0 (mm_n (mi w)) pc L st h kc ks := by
  obtain ⟨⟨hx, hb, hml, hown, hts⟩, hWT, hoi, hG, hmi, hcl, hKK, hA, hX, hbl, hbA, hin, hRf, hRl⟩ := Z
  simp only [mm_ok, mm_sd, Bool.and_eq_true, decide_eq_true_eq] at hok
  obtain ⟨hd, h1⟩ := hok
  subst h1
  obtain ⟨i, r, rfl, hE43⟩ := mm_s1_inv hE
  intro φ H locs ls f0 g0 hn k1 k2 hP hD hS hl
  rcases mm_sx_inv hE43 with ⟨z, r, rfl, hi, hE44⟩ | ⟨o, r, rfl, hE44⟩
  · exact va_sld (A := A) hx hb hX hbl hbA hS hi hd (hK _ _ _ _ _ _ hE44 φ H locs ls f0 g0 hn k1 k2 hP hD hS hl)
  · obtain ⟨ty, n, f, ho, rfl, hi, hE45⟩ := mm_ar_inv hE44
    exact va_iald hx hb hKK.1 hP o 0 (mm_w_at ho) mm_tyI hi hd (hK _ _ _ _ _ _ hE45 φ H locs ls f0 g0 hn k1 k2 hP hD hS hl)
theorem mm_x_baload (Z : mm_Cx p l R s m args meth c D dA cl b A mi df WS Ts nF nM nm w d xs) {K : mm_K} (hK : ∀ pc L st h kc ks, K pc L st h kc ks → mm_Go p l e R s m args below meth c Q D dA cl b A φ0 n0 (mm_n (mi w)) pc L st h kc ks) {len a bb pc kc ks : Nat} {k : Int32} {L : mm_L} {st : List Value} {h : mm_H}  (hok : mm_ok mi cl WS nF nM nm w pc (.baload, len, a, bb, k) = true) (hE : mm_s1 st fun i r => mm_sr r fun o r => mm_ar h o fun ty n f => ty = .boolean ∧ vp_in i n ∧ K (pc + len) L (.int (f i.toNatClampNeg) :: r) h kc ks) : mm_Go p l e R s m args below meth c Q D dA cl b A φ0 n0 (mm_n (mi w)) pc L st h kc ks := by
  obtain ⟨⟨hx, hb, hml, hown, hts⟩, hWT, hoi, hG, hmi, hcl, hKK, hA, hX, hbl, hbA, hin, hRf, hRl⟩ := Z
  simp only [mm_ok, mm_sd, Bool.and_eq_true, decide_eq_true_eq] at hok
  obtain ⟨hd, h1⟩ := hok
  subst h1
  obtain ⟨i, r, rfl, hE46⟩ := mm_s1_inv hE
  obtain ⟨o, r, rfl, hE47⟩ := mm_sr_inv hE46
  obtain ⟨ty, n, f, ho, rfl, hi, hE48⟩ := mm_ar_inv hE47
  intro φ H locs ls f0 g0 hn k1 k2 hP hD hS hl
  exact va_zald hx hb hKK.1 hP o 1 (mm_w_at ho) mm_tyZ hi hd (hK _ _ _ _ _ _ hE48 φ H locs ls f0 g0 hn k1 k2 hP hD hS hl)
theorem mm_x_caload (Z : mm_Cx p l R s m args meth c D dA cl b A mi df WS Ts nF nM nm w d xs) {K : mm_K} (hK : ∀ pc L st h kc ks, K pc L st h kc ks → mm_Go p l e R s m args below meth c Q D dA cl b A φ0 n0 (mm_n (mi w)) pc L st h kc ks) {len a bb pc kc ks : Nat} {k : Int32} {L : mm_L} {st : List Value} {h : mm_H}  (hok : mm_ok mi cl WS nF nM nm w pc (.caload, len, a, bb, k) = true) (hE : mm_s1 st fun i r => mm_sr r fun o r => mm_ar h o fun ty n f => ty = .char ∧ vp_in i n ∧ K (pc + len) L (.int (f i.toNatClampNeg) :: r) h kc ks) : mm_Go p l e R s m args below meth c Q D dA cl b A φ0 n0 (mm_n (mi w)) pc L st h kc ks := by
  obtain ⟨⟨hx, hb, hml, hown, hts⟩, hWT, hoi, hG, hmi, hcl, hKK, hA, hX, hbl, hbA, hin, hRf, hRl⟩ := Z
  simp only [mm_ok, mm_sd, Bool.and_eq_true, decide_eq_true_eq] at hok
  obtain ⟨hd, h1⟩ := hok
  subst h1
  obtain ⟨i, r, rfl, hE49⟩ := mm_s1_inv hE
  obtain ⟨o, r, rfl, hE50⟩ := mm_sr_inv hE49
  obtain ⟨ty, n, f, ho, rfl, hi, hE51⟩ := mm_ar_inv hE50
  intro φ H locs ls f0 g0 hn k1 k2 hP hD hS hl
  exact va_cald hx hb hKK.1 hP o 2 (mm_w_at ho) mm_tyC hi hd (hK _ _ _ _ _ _ hE51 φ H locs ls f0 g0 hn k1 k2 hP hD hS hl)
theorem mm_x_iastore (Z : mm_Cx p l R s m args meth c D dA cl b A mi df WS Ts nF nM nm w d xs) {K : mm_K} (hK : ∀ pc L st h kc ks, K pc L st h kc ks → mm_Go p l e R s m args below meth c Q D dA cl b A φ0 n0 (mm_n (mi w)) pc L st h kc ks) {len a bb pc kc ks : Nat} {k : Int32} {L : mm_L} {st : List Value} {h : mm_H}  (hok : mm_ok mi cl WS nF nM nm w pc (.iastore, len, a, bb, k) = true) (hE : mm_s2 st fun x i r => mm_sr r fun o r => mm_ar h o fun ty n f => ty = .int ∧ vp_in i n ∧ K (pc + len) L r (h.set o (.inl (.int, n, upd f i.toNatClampNeg x))) kc ks) : mm_Go p l e R s m args below meth c Q D dA cl b A φ0 n0 (mm_n (mi w)) pc L st h kc ks := by
  obtain ⟨⟨hx, hb, hml, hown, hts⟩, hWT, hoi, hG, hmi, hcl, hKK, hA, hX, hbl, hbA, hin, hRf, hRl⟩ := Z
  simp only [mm_ok, mm_sd, Bool.and_eq_true, decide_eq_true_eq] at hok
  obtain ⟨hd, h1⟩ := hok
  subst h1
  obtain ⟨x, i, r, rfl, hE52⟩ := mm_s2_inv hE
  obtain ⟨o, r, rfl, hE53⟩ := mm_sr_inv hE52
  obtain ⟨ty, n, f, ho, rfl, hi, hE54⟩ := mm_ar_inv hE53
  intro φ H locs ls f0 g0 hn k1 k2 hP hD hS hl
  have hset := mm_w_set (b := b) (φ := φ) (dA := dA) (h := h) (o := o) (c := .inl (.int, n, upd f i.toNatClampNeg x))
  exact va_iast hx hb hKK.1 hP hD hS o 0 (mm_w_at ho) mm_tyI hi hd (fun H1 locs1 hP1 hD1 hS1 => hK _ _ _ _ _ _ hE54 φ H1 locs1 ls f0 g0 (by rw [List.length_set]; exact hn) k1 k2 (by rw [← hset]; exact hP1) (by rw [← hset]; exact hD1) hS1 hl)
theorem mm_x_bastore (Z : mm_Cx p l R s m args meth c D dA cl b A mi df WS Ts nF nM nm w d xs) {K : mm_K} (hK : ∀ pc L st h kc ks, K pc L st h kc ks → mm_Go p l e R s m args below meth c Q D dA cl b A φ0 n0 (mm_n (mi w)) pc L st h kc ks) {len a bb pc kc ks : Nat} {k : Int32} {L : mm_L} {st : List Value} {h : mm_H}  (hok : mm_ok mi cl WS nF nM nm w pc (.bastore, len, a, bb, k) = true) (hE : mm_s2 st fun x i r => mm_sr r fun o r => mm_ar h o fun ty n f => ty = .boolean ∧ vp_in i n ∧ K (pc + len) L r (h.set o (.inl (.boolean, n, upd f i.toNatClampNeg (vp_nar .boolean x)))) kc ks) : mm_Go p l e R s m args below meth c Q D dA cl b A φ0 n0 (mm_n (mi w)) pc L st h kc ks := by
  obtain ⟨⟨hx, hb, hml, hown, hts⟩, hWT, hoi, hG, hmi, hcl, hKK, hA, hX, hbl, hbA, hin, hRf, hRl⟩ := Z
  simp only [mm_ok, mm_sd, Bool.and_eq_true, decide_eq_true_eq] at hok
  obtain ⟨hd, h1⟩ := hok
  subst h1
  obtain ⟨x, i, r, rfl, hE55⟩ := mm_s2_inv hE
  obtain ⟨o, r, rfl, hE56⟩ := mm_sr_inv hE55
  obtain ⟨ty, n, f, ho, rfl, hi, hE57⟩ := mm_ar_inv hE56
  intro φ H locs ls f0 g0 hn k1 k2 hP hD hS hl
  have hset := mm_w_set (b := b) (φ := φ) (dA := dA) (h := h) (o := o) (c := .inl (.boolean, n, upd f i.toNatClampNeg (vp_nar .boolean x)))
  exact va_zast hx hb hKK.1 hP hD hS o 1 (mm_w_at ho) mm_tyZ hi hd (fun H1 locs1 hP1 hD1 hS1 => hK _ _ _ _ _ _ hE57 φ H1 locs1 ls f0 g0 (by rw [List.length_set]; exact hn) k1 k2 (by rw [← hset]; exact hP1) (by rw [← hset]; exact hD1) hS1 hl)
theorem mm_x_castore (Z : mm_Cx p l R s m args meth c D dA cl b A mi df WS Ts nF nM nm w d xs) {K : mm_K} (hK : ∀ pc L st h kc ks, K pc L st h kc ks → mm_Go p l e R s m args below meth c Q D dA cl b A φ0 n0 (mm_n (mi w)) pc L st h kc ks) {len a bb pc kc ks : Nat} {k : Int32} {L : mm_L} {st : List Value} {h : mm_H}  (hok : mm_ok mi cl WS nF nM nm w pc (.castore, len, a, bb, k) = true) (hE : mm_s2 st fun x i r => mm_sr r fun o r => mm_ar h o fun ty n f => ty = .char ∧ vp_in i n ∧ K (pc + len) L r (h.set o (.inl (.char, n, upd f i.toNatClampNeg (vp_nar .char x)))) kc ks) : mm_Go p l e R s m args below meth c Q D dA cl b A φ0 n0 (mm_n (mi w)) pc L st h kc ks := by
  obtain ⟨⟨hx, hb, hml, hown, hts⟩, hWT, hoi, hG, hmi, hcl, hKK, hA, hX, hbl, hbA, hin, hRf, hRl⟩ := Z
  simp only [mm_ok, mm_sd, Bool.and_eq_true, decide_eq_true_eq] at hok
  obtain ⟨hd, h1⟩ := hok
  subst h1
  obtain ⟨x, i, r, rfl, hE58⟩ := mm_s2_inv hE
  obtain ⟨o, r, rfl, hE59⟩ := mm_sr_inv hE58
  obtain ⟨ty, n, f, ho, rfl, hi, hE60⟩ := mm_ar_inv hE59
  intro φ H locs ls f0 g0 hn k1 k2 hP hD hS hl
  have hset := mm_w_set (b := b) (φ := φ) (dA := dA) (h := h) (o := o) (c := .inl (.char, n, upd f i.toNatClampNeg (vp_nar .char x)))
  exact va_cast hx hb hKK.1 hP hD hS o 2 (mm_w_at ho) mm_tyC hi hd (fun H1 locs1 hP1 hD1 hS1 => hK _ _ _ _ _ _ hE60 φ H1 locs1 ls f0 g0 (by rw [List.length_set]; exact hn) k1 k2 (by rw [← hset]; exact hP1) (by rw [← hset]; exact hD1) hS1 hl)
theorem mm_x_arraylength (Z : mm_Cx p l R s m args meth c D dA cl b A mi df WS Ts nF nM nm w d xs) {K : mm_K} (hK : ∀ pc L st h kc ks, K pc L st h kc ks → mm_Go p l e R s m args below meth c Q D dA cl b A φ0 n0 (mm_n (mi w)) pc L st h kc ks) {len a bb pc kc ks : Nat} {k : Int32} {L : mm_L} {st : List Value} {h : mm_H}  (hok : mm_ok mi cl WS nF nM nm w pc (.arraylength, len, a, bb, k) = true) (hE : mm_sx st (fun r => K (pc + len) L (.int (Int32.ofNat xs.1) :: r) h kc ks) (fun o r => mm_ar h o fun ty n _ => (ty = .int ∨ ty = .boolean ∨ ty = .char) ∧ K (pc + len) L (.int (Int32.ofNat n) :: r) h kc ks)) : mm_Go p l e R s m args below meth c Q D dA cl b A φ0 n0 (mm_n (mi w)) pc L st h kc ks := by
  obtain ⟨⟨hx, hb, hml, hown, hts⟩, hWT, hoi, hG, hmi, hcl, hKK, hA, hX, hbl, hbA, hin, hRf, hRl⟩ := Z
  simp only [mm_ok, mm_sd, Bool.and_eq_true, decide_eq_true_eq] at hok
  obtain ⟨hd, h1⟩ := hok
  subst h1
  intro φ H locs ls f0 g0 hn k1 k2 hP hD hS hl
  rcases mm_sx_inv hE with ⟨z, r, rfl, hE61⟩ | ⟨o, r, rfl, hE61⟩
  · exact va_slen (A := A) hx hb hX hbl hbA hS hd (hK _ _ _ _ _ _ hE61 φ H locs ls f0 g0 hn k1 k2 hP hD hS hl)
  · obtain ⟨ty, n, f, ho, hty, hE62⟩ := mm_ar_inv hE61
    rcases hty with rfl | rfl | rfl
    · exact va_alen (x := (n, .inl f)) hx hb hKK.1 hP o 0 (mm_w_at ho) mm_tyI rfl hd (hK _ _ _ _ _ _ hE62 φ H locs ls f0 g0 hn k1 k2 hP hD hS hl)
    · exact va_alen (x := (n, .inl f)) hx hb hKK.1 hP o 1 (mm_w_at ho) mm_tyZ rfl hd (hK _ _ _ _ _ _ hE62 φ H locs ls f0 g0 hn k1 k2 hP hD hS hl)
    · exact va_alen (x := (n, .inl f)) hx hb hKK.1 hP o 2 (mm_w_at ho) mm_tyC rfl hd (hK _ _ _ _ _ _ hE62 φ H locs ls f0 g0 hn k1 k2 hP hD hS hl)
theorem mm_x_new (Z : mm_Cx p l R s m args meth c D dA cl b A mi df WS Ts nF nM nm w d xs) {K : mm_K} (hK : ∀ pc L st h kc ks, K pc L st h kc ks → mm_Go p l e R s m args below meth c Q D dA cl b A φ0 n0 (mm_n (mi w)) pc L st h kc ks) {len a bb pc kc ks : Nat} {k : Int32} {L : mm_L} {st : List Value} {h : mm_H} {i : Nat} (hok : mm_ok mi cl WS nF nM nm w pc (.new i, len, a, bb, k) = true) (hE : kc + 1 ≤ R.cells ∧ ks + bb ≤ R.slots ∧ (L.all (mm_wfo h.length) && st.all (mm_wfv h.length) && h.all (mm_wfc h.length)) = true ∧ K (pc + len) L (.ref h.length :: st) (h ++ [.inr (a, df a)]) (kc + 1) (ks + bb)) : mm_Go p l e R s m args below meth c Q D dA cl b A φ0 n0 (mm_n (mi w)) pc L st h kc ks := by
  obtain ⟨⟨hx, hb, hml, hown, hts⟩, hWT, hoi, hG, hmi, hcl, hKK, hA, hX, hbl, hbA, hin, hRf, hRl⟩ := Z
  simp only [mm_ok, mm_sd, Bool.and_eq_true, decide_eq_true_eq] at hok
  obtain ⟨hd, h1, hq⟩ := hok
  subst h1
  obtain ⟨c1, c2, hwf, hE63⟩ := hE
  simp only [Bool.and_eq_true] at hwf
  obtain ⟨⟨w1, w2⟩, w3⟩ := hwf
  split at hq
  · cases hq
  · rename_i q hq1
    simp only [Bool.and_eq_true, decide_eq_true_eq] at hq
    obtain ⟨⟨⟨e1, e2⟩, e3⟩, e4⟩ := hq
    subst e1
    obtain ⟨u1, u2, u3, u4, u5⟩ := mm_okc_spec (hcl _ _ hq1)
    intro φ H locs ls f0 g0 hn k1 k2 hP hD hS hl
    refine va_new (ci := a) (fs := df a) (C := q.1) (T := q.2.1) (N := q.2.2) hx hb hts (fun x h9 => hWT _ (u1 x h9)) (fun k => (parseFieldDescriptor (q.2.1 k).2.2.1).getD .int) u2 hown (hts _ (hWT _ e2)) (hts _ (hWT _ e3)) (hts _ (hWT _ e4)) hKK.1 hP hD hS hA hq1 u4 c1 c2 hd (fun z H1 hP1 hD1 hS1 => ?_)
    have hc : ∀ φ', mm_c b φ' dA (.inr (a, df a)) = .inr (a, df a) := by
      intro φ'
      have hm : (df a).map (mm_v b φ') = df a := by
        conv => rhs; rw [← List.map_id (df a)]
        exact List.map_congr_left (fun v hv => by rcases u5 v hv with rfl | rfl <;> rfl)
      show Sum.inr (a, (df a).map (mm_v b φ')) = _
      rw [hm]
    have hw := mm_w_app (b := b) (q := z) (φ := φ) (dA := dA) (h := h) (c := .inr (a, df a)) (e := .inr (a, df a)) w3 hc
    have hext : ∀ k, k < h.length → (fun k => if k = h.length then z else φ k) k = φ k := fun k hk => if_neg (Nat.ne_of_lt hk)
    have hst : Value.ref z :: st.map (mm_v b φ) = (Value.ref h.length :: st).map (mm_v b (fun k => if k = h.length then z else φ k)) := by
      rw [List.map_cons, mm_vs_ext w2 hext]
      show _ = Value.ref (if h.length = h.length then z else φ h.length) :: _
      rw [if_pos rfl]
    rw [hst]
    exact hK _ _ _ _ _ _ hE63 (fun k => if k = h.length then z else φ k) H1 locs ls (fun k hk => (hext k (Nat.lt_of_lt_of_le hk hn)).trans (f0 k hk)) (fun hz => absurd hz (Nat.succ_ne_zero _)) (by rw [List.length_append]; exact Nat.le_trans hn (Nat.le_add_right _ _)) c1 c2 (by rw [hw]; exact hP1) (by rw [hw]; exact hD1) hS1 (mm_lsub hl (mm_l_ext w1 hext))
theorem mm_newa {nn : Int32} {pc kc ks : Nat} {L : mm_L} {r : List Value} {h : mm_H} {at_ : ArrayType} {ty : FieldType} (Z : mm_Cx p l R s m args meth c D dA cl b A mi df WS Ts nF nM nm w d xs) {K : mm_K} (hK : ∀ pc L st h kc ks, K pc L st h kc ks → mm_Go p l e R s m args below meth c Q D dA cl b A φ0 n0 (mm_n (mi w)) pc L st h kc ks) (hd : decode (mm_b (mi w)) pc = .ok (.newarray at_, 2)) (hty : newarray.typeOf at_ = ty) (harr : Cond.arrayClass (newarray.typeOf at_) ∈ WS) (hpr : va_RA s (dA ty) ty) (huq : ∀ cA, va_RA s cA ty → cA = dA ty) (hdv : defaultValue ty = .int 0) (hcb : componentBytes ty ≤ 4)
    (hE : ¬ nn < 0 ∧ nn.toNatClampNeg ≤ 1000000 ∧ kc + 1 ≤ R.cells ∧ ks + nn.toNatClampNeg ≤ R.slots ∧ (L.all (mm_wfo h.length) && r.all (mm_wfv h.length) && h.all (mm_wfc h.length)) = true ∧ K (pc + 2) L (.ref h.length :: r) (h ++ [.inl (ty, nn.toNatClampNeg, fun _ => 0)]) (kc + 1) (ks + nn.toNatClampNeg)) : mm_Go p l e R s m args below meth c Q D dA cl b A φ0 n0 (mm_n (mi w)) pc L (.int nn :: r) h kc ks := by
  obtain ⟨⟨hx, hb, hml, hown, hts⟩, hWT, hoi, hG, hmi, hcl, hKK, hA, hX, hbl, hbA, hin, hRf, hRl⟩ := Z
  obtain ⟨c0, c1, c2, c3, hwf, hE64⟩ := hE
  simp only [Bool.and_eq_true] at hwf
  obtain ⟨⟨w1, w2⟩, w3⟩ := hwf
  intro φ H locs ls f0 g0 hn k1 k2 hP hD hS hl
  refine va_newa (a0 := (nn.toNatClampNeg, .inl (fun _ => 0))) hx hb (hts _ (hWT _ harr)) hty hKK.1 hP hD hS hA (fun cA => by rw [vp_cell_i, hdv]) c0 rfl (Nat.le_trans (Nat.mul_le_mul c1 hcb) (by decide)) c2 c3 hd (fun z cA H1 hK1 hP1 hD1 hS1 => ?_)
  have hcA : cA = dA ty := huq cA (hK1.2 3 (cA, ty) rfl).2
  subst hcA
  have hw := mm_w_app (b := b) (q := z) (φ := φ) (dA := dA) (h := h) (c := .inl (ty, nn.toNatClampNeg, fun _ => 0)) (e := .inl (dA ty, nn.toNatClampNeg, .inl (fun _ => 0))) w3 (fun _ => rfl)
  have hext : ∀ k, k < h.length → (fun k => if k = h.length then z else φ k) k = φ k := fun k hk => if_neg (Nat.ne_of_lt hk)
  have hst : Value.ref z :: r.map (mm_v b φ) = (Value.ref h.length :: r).map (mm_v b (fun k => if k = h.length then z else φ k)) := by
    rw [List.map_cons, mm_vs_ext w2 hext]
    show _ = Value.ref (if h.length = h.length then z else φ h.length) :: _
    rw [if_pos rfl]
  show W p l e R s m args below meth c H1 locs (kc + 1) (ks + nn.toNatClampNeg) Q (F0 m (pc + 2) ls (Value.ref z :: r.map (mm_v b φ)))
  rw [hst]
  exact hK _ _ _ _ _ _ hE64 (fun k => if k = h.length then z else φ k) H1 locs ls (fun k hk => (hext k (Nat.lt_of_lt_of_le hk hn)).trans (f0 k hk)) (fun hz => absurd hz (Nat.succ_ne_zero _)) (by rw [List.length_append]; exact Nat.le_trans hn (Nat.le_add_right _ _)) c2 c3 (by rw [hw]; exact hP1) (by rw [hw]; exact hD1) hS1 (mm_lsub hl (mm_l_ext w1 hext))
theorem mm_x_newarray (Z : mm_Cx p l R s m args meth c D dA cl b A mi df WS Ts nF nM nm w d xs) {K : mm_K} (hK : ∀ pc L st h kc ks, K pc L st h kc ks → mm_Go p l e R s m args below meth c Q D dA cl b A φ0 n0 (mm_n (mi w)) pc L st h kc ks) {len a bb pc kc ks : Nat} {k : Int32} {L : mm_L} {st : List Value} {h : mm_H} {at_ : ArrayType} (hok : mm_ok mi cl WS nF nM nm w pc (.newarray at_, len, a, bb, k) = true) (hE : mm_s1 st fun n r => ¬ n < 0 ∧ n.toNatClampNeg ≤ 1000000 ∧ kc + 1 ≤ R.cells ∧ ks + n.toNatClampNeg ≤ R.slots ∧ (L.all (mm_wfo h.length) && r.all (mm_wfv h.length) && h.all (mm_wfc h.length)) = true ∧ K (pc + len) L (.ref h.length :: r) (h ++ [.inl (newarray.typeOf at_, n.toNatClampNeg, fun _ => 0)]) (kc + 1) (ks + n.toNatClampNeg)) : mm_Go p l e R s m args below meth c Q D dA cl b A φ0 n0 (mm_n (mi w)) pc L st h kc ks := by
  obtain ⟨⟨hx, hb, hml, hown, hts⟩, hWT, hoi, hG, hmi, hcl, hKK, hA, hX, hbl, hbA, hin, hRf, hRl⟩ := Z
  simp only [mm_ok, mm_sd, Bool.and_eq_true, decide_eq_true_eq] at hok
  obtain ⟨hd, ⟨h1, h2⟩, h3⟩ := hok
  subst h1
  obtain ⟨nn, r, rfl, hE65⟩ := mm_s1_inv hE
  have Z : mm_Cx p l R s m args meth c D dA cl b A mi df WS Ts nF nM nm w d xs := ⟨⟨hx, hb, hml, hown, hts⟩, hWT, hoi, hG, hmi, hcl, hKK, hA, hX, hbl, hbA, hin, hRf, hRl⟩
  simp only [Bool.or_eq_true, decide_eq_true_eq] at h2
  rcases h2 with (h2 | h2) | h2
  · rw [h2] at hE65
    exact mm_newa Z hK hd h2 h3 (hKK.1.2 0 _ mm_tyI).2 (fun cA hc => Option.some.inj ((show s.vm.findClass _ = some cA from hc).symm.trans (show s.vm.findClass _ = some (dA .int) from (hKK.1.2 0 _ mm_tyI).2))) rfl (by decide) hE65
  · rw [h2] at hE65
    exact mm_newa Z hK hd h2 h3 (hKK.1.2 1 _ mm_tyZ).2 (fun cA hc => Option.some.inj ((show s.vm.findClass _ = some cA from hc).symm.trans (show s.vm.findClass _ = some (dA .boolean) from (hKK.1.2 1 _ mm_tyZ).2))) rfl (by decide) hE65
  · rw [h2] at hE65
    exact mm_newa Z hK hd h2 h3 (hKK.1.2 2 _ mm_tyC).2 (fun cA hc => Option.some.inj ((show s.vm.findClass _ = some cA from hc).symm.trans (show s.vm.findClass _ = some (dA .char) from (hKK.1.2 2 _ mm_tyC).2))) rfl (by decide) hE65
end MX
end
section
section MC
variable {p : Program} {l : Launch} {e : Env} {R : Room} {s : State} {m : MethodId} {args : Array Value} {below : List Frame} {meth : Method} {c : Code} {Q : State → Prop}
variable {D : va_G} {dA : FieldType → ClassId} {cl : List vw_C} {b : Nat} {A : Nat → Prop} {φ0 : Nat → Nat} {n0 : Nat}
variable {mi : Nat → mm_M} {tb : Nat → Nat → Option mm_E} {df : Nat → List Value} {WS Ts : List Cond} {nF : List mm_F} {nM : List mm_N} {nm w d : Nat} {xs : Nat × (Nat → Int32)}
/-- what is known of a callee -/
def mm_Ct (l : Launch) (D : va_G) (dA : FieldType → ClassId) (cl : List vw_C) (b : Nat) (mi : Nat → mm_M) (WS : List Cond) (nF : List mm_F) (nM : List mm_N) (nm d : Nat) (xs : Nat × (Nat → Int32)) (C : Nat → mm_H → List Value → (mm_H → Option Value → Prop) → Prop) : Prop :=
  ∀ y h as Pk, y < nm → C y h as Pk → ∀ φ sz, Met l (mm_y (mi y)) (mm_ws mi WS nm y) (mm_rm d (mi y)) (mm_Pc D dA cl nF nM b xs φ h as sz) (mm_Qc D dA cl b φ h sz (mm_mc (mi y)) Pk) (mm_mc (mi y)) (mm_ms (mi y)) (va_A (mm_w b φ dA h) sz)
theorem mm_room {y : Nat} (hm : mm_okm (mi y) = true) (hRf : d + 1 ≤ R.frames) (hRl : 60 * d + 60 ≤ R.locals) : (mm_rm d (mi y)).frames + 1 ≤ R.frames ∧ 8 + (mm_n (mi y) + 11) + (mm_rm d (mi y)).locals ≤ R.locals := by
  simp only [mm_okm, Bool.and_eq_true, decide_eq_true_eq] at hm
  have h1 := hm.1.2
  refine ⟨hRf, ?_⟩
  show 8 + (mm_n (mi y) + 11) + 60 * d ≤ R.locals
  omega
theorem mm_x_objinit (Z : mm_Cx p l R s m args meth c D dA cl b A mi df WS Ts nF nM nm w d xs) {K : mm_K} (hK : ∀ pc L st h kc ks, K pc L st h kc ks → mm_Go p l e R s m args below meth c Q D dA cl b A φ0 n0 (mm_n (mi w)) pc L st h kc ks) {pc kc ks i : Nat} {L : mm_L} {st : List Value} {h : mm_H} (hd : decode (mm_b (mi w)) pc = .ok (.invokespecial i, 3)) (h1 : Cond.methodLink (mm_y (mi w)).cls i objectInit ∈ WS) (h2 : Cond.instanceMethod objectInit ∈ WS)
    (hE : mm_sr st fun _ r => mm_cat r ∧ K (pc + 3) L r h kc ks) : mm_Go p l e R s m args below meth c Q D dA cl b A φ0 n0 (mm_n (mi w)) pc L st h kc ks := by
  obtain ⟨⟨hx, hb, hml, hown, hts⟩, hWT, hoi, hG, hmi, hcl, hKK, hA, hX, hbl, hbA, hin, hRf, hRl⟩ := Z
  obtain ⟨o, r, rfl, hc, hE1⟩ := mm_sr_inv hE
  intro φ H locs ls f0 g0 hn k1 k2 hP hD hS hl
  have hc2 := mm_cat_v (b := b) (φ := φ) hc
  exact W.objInit hx hb hown (hts _ (hWT _ h1)) (hts _ (hWT _ h2)) (hts _ hoi) (g := F0 m pc ls ((Value.ref o :: r).map (mm_v b φ))) rfl (by rw [hml]; exact hl.1) (a := φ o) (rest := r.map (mm_v b φ)) rfl hd (by omega) (by show 2 * 0 + _ + 12 ≤ _; omega) (hK _ _ _ _ _ _ hE1 φ H locs ls f0 g0 hn k1 k2 hP hD hS hl)
theorem mm_x_static (Z : mm_Cx p l R s m args meth c D dA cl b A mi df WS Ts nF nM nm w d xs) {K : mm_K} (hK : ∀ pc L st h kc ks, K pc L st h kc ks → mm_Go p l e R s m args below meth c Q D dA cl b A φ0 n0 (mm_n (mi w)) pc L st h kc ks) {C : Nat → mm_H → List Value → (mm_H → Option Value → Prop) → Prop} (hC : mm_Ct l D dA cl b mi WS nF nM nm d xs C) {y pc kc ks i : Nat} {L : mm_L} {st : List Value} {h : mm_H} (hd : decode (mm_b (mi w)) pc = .ok (.invokestatic i, 3)) (hy : y < nm) (hml0 : mm_ml WS nM (mm_y (mi w)).cls i (mm_y (mi y)) = true) (hmy : mm_my WS (mm_y (mi y)) (mm_k (mi y)) = true) (hst0 : Cond.static (mm_y (mi y)) ∈ WS)
    (hE : mm_cl mi C (R.cells, R.slots) K y (pc + 3) L st h kc ks) : mm_Go p l e R s m args below meth c Q D dA cl b A φ0 n0 (mm_n (mi w)) pc L st h kc ks := by
  obtain ⟨⟨hx, hb, hml, hown, hts⟩, hWT, hoi, hG, hmi, hcl, hKK, hA, hX, hbl, hbA, hin, hRf, hRl⟩ := Z
  obtain ⟨e1, e2, e3, e4, e5, hCy⟩ := hE
  obtain ⟨hyd, hini⟩ := mm_my_spec hmy
  intro φ H locs ls f0 g0 hn k1 k2 hP hD hS hl
  have hM := hC y h _ _ hy hCy φ H.size
  have hR := mm_room (hmi y hy) hRf hRl
  have hlen : ((st.take (mm_k (mi y))).reverse.map (mm_v b φ)).length = mm_k (mi y) := by
    rw [List.length_map, List.length_reverse, List.length_take]
    omega
  have hpre : PreS s H (mm_Pc D dA cl nF nM b xs φ h (st.take (mm_k (mi y))).reverse H.size) ((st.take (mm_k (mi y))).reverse.map (mm_v b φ)) := ⟨mm_Pc_blind, mm_pre hKK hX hbl hbA hP hD hS rfl⟩
  have hrm := mm_cat_v (b := b) (φ := φ) e2
  rcases mm_ml_spec hml0 with hlk | ⟨q2, hq2, r1, r2, r3⟩
  · exact mm_back (va_runS (nL := mm_n (mi w)) (g := F0 m pc ls (st.map (mm_v b φ))) (rest := (st.drop (mm_k (mi y))).map (mm_v b φ)) ⟨hx, hb, hml, hown, hts⟩ hM ⟨callB_of (mm_k (mi y)) hts (hG y hy) rfl rfl rfl (hts _ (hWT _ hini)) (hts _ (hWT _ hlk)) hyd hR, hts _ (hWT _ hst0)⟩ hpre rfl hlen hl.1 mm_stackS (lv_room hrm) hd ⟨e3, e4⟩) hA e3 e4 e5 f0 g0 hn hD hS hl (fun h' v hv => hK _ _ _ _ _ _ hv)
  · have hz := hKK.2.2 q2 hq2
    rw [r1, r2, r3] at hz
    exact mm_back (va_runSN (nL := mm_n (mi w)) (g := F0 m pc ls (st.map (mm_v b φ))) (rest := (st.drop (mm_k (mi y))).map (mm_v b φ)) ⟨hx, hb, hml, hown, hts⟩ hM ⟨va_cnB (mm_k (mi y)) hts (hG y hy) rfl rfl rfl hz (hts _ (hWT _ hini)) hyd hR, hts _ (hWT _ hst0), trivial⟩ hpre rfl hlen hl.1 mm_stackS (lv_room hrm) hd ⟨e3, e4⟩) hA e3 e4 e5 f0 g0 hn hD hS hl (fun h' v hv => hK _ _ _ _ _ _ hv)
theorem mm_x_virtual (Z : mm_Cx p l R s m args meth c D dA cl b A mi df WS Ts nF nM nm w d xs) {K : mm_K} (hK : ∀ pc L st h kc ks, K pc L st h kc ks → mm_Go p l e R s m args below meth c Q D dA cl b A φ0 n0 (mm_n (mi w)) pc L st h kc ks) {C : Nat → mm_H → List Value → (mm_H → Option Value → Prop) → Prop} (hC : mm_Ct l D dA cl b mi WS nF nM nm d xs C) {y pc kc ks i : Nat} {L : mm_L} {st : List Value} {h : mm_H} {q : vw_C} (hd : decode (mm_b (mi w)) pc = .ok (.invokevirtual i, 3)) (hy : y < nm) (hk0 : 0 < mm_k (mi y)) (hml0 : mm_ml WS nM (mm_y (mi w)).cls i (mm_y (mi y)) = true) (hmy : mm_my WS (mm_y (mi y)) (mm_k (mi y) - 1) = true) (hinst : Cond.instanceMethod (mm_y (mi y)) ∈ WS) (hsel : Cond.selects (mm_y (mi y)).cls (mm_y (mi y)) (mm_y (mi y)) ∈ WS) (hq : cl[mm_ci (mi y)]? = some q) (hqc : q.1 = (mm_y (mi y)).cls)
    (hrc : mm_rcv h (mm_ci (mi y)) (st.take (mm_k (mi y))).reverse) (hE : mm_cl mi C (R.cells, R.slots) K y (pc + 3) L st h kc ks) : mm_Go p l e R s m args below meth c Q D dA cl b A φ0 n0 (mm_n (mi w)) pc L st h kc ks := by
  obtain ⟨⟨hx, hb, hml, hown, hts⟩, hWT, hoi, hG, hmi, hcl, hKK, hA, hX, hbl, hbA, hin, hRf, hRl⟩ := Z
  obtain ⟨e1, e2, e3, e4, e5, hCy⟩ := hE
  obtain ⟨hyd, hini⟩ := mm_my_spec hmy
  obtain ⟨o, As, fs, has, ho⟩ := mm_rcv_inv hrc
  intro φ H locs ls f0 g0 hn k1 k2 hP hD hS hl
  have hM := hC y h _ _ hy hCy φ H.size
  have hR := mm_room (hmi y hy) hRf hRl
  have hlen : (As.map (mm_v b φ)).length = mm_k (mi y) - 1 := by
    have h1 : ((st.take (mm_k (mi y))).reverse).length = mm_k (mi y) := by
      rw [List.length_reverse, List.length_take]
      omega
    rw [has, List.length_cons] at h1
    rw [List.length_map]
    omega
  have hpre : PreV s H (mm_y (mi y)).cls (φ o) (mm_Pc D dA cl nF nM b xs φ h (st.take (mm_k (mi y))).reverse H.size) (As.map (mm_v b φ)) :=
    ⟨mm_Pc_blind, by rw [← hqc]; exact va_recv hKK.1 hP hq (mm_w_at ho), mm_pre hKK hX hbl hbA hP hD hS (by rw [has]; rfl)⟩
  have hrm := mm_cat_v (b := b) (φ := φ) e2
  rcases mm_ml_spec hml0 with hlk | ⟨q2, hq2, r1, r2, r3⟩
  · exact mm_back (va_runV (nL := mm_n (mi w)) (g := F0 m pc ls (st.map (mm_v b φ))) (rest := (st.drop (mm_k (mi y))).map (mm_v b φ)) ⟨hx, hb, hml, hown, hts⟩ hM ⟨callB_of (mm_k (mi y) - 1) hts (hG y hy) rfl rfl rfl (hts _ (hWT _ hini)) (hts _ (hWT _ hlk)) hyd hR, hts _ (hWT _ hinst), hts _ (hWT _ hsel)⟩ hpre rfl hlen hl.1 (mm_stack has) (lv_room hrm) hd ⟨e3, e4⟩) hA e3 e4 e5 f0 g0 hn hD hS hl (fun h' v hv => hK _ _ _ _ _ _ hv)
  · have hz := hKK.2.2 q2 hq2
    rw [r1, r2, r3] at hz
    exact mm_back (va_runVN (nL := mm_n (mi w)) (g := F0 m pc ls (st.map (mm_v b φ))) (rest := (st.drop (mm_k (mi y))).map (mm_v b φ)) ⟨hx, hb, hml, hown, hts⟩ hM ⟨va_cnB (mm_k (mi y) - 1) hts (hG y hy) rfl rfl rfl hz (hts _ (hWT _ hini)) hyd hR, hts _ (hWT _ hinst), hts _ (hWT _ hsel)⟩ hpre rfl hlen hl.1 (mm_stack has) (lv_room hrm) hd ⟨e3, e4⟩) hA e3 e4 e5 f0 g0 hn hD hS hl (fun h' v hv => hK _ _ _ _ _ _ hv)
theorem mm_x_special (Z : mm_Cx p l R s m args meth c D dA cl b A mi df WS Ts nF nM nm w d xs) {K : mm_K} (hK : ∀ pc L st h kc ks, K pc L st h kc ks → mm_Go p l e R s m args below meth c Q D dA cl b A φ0 n0 (mm_n (mi w)) pc L st h kc ks) {C : Nat → mm_H → List Value → (mm_H → Option Value → Prop) → Prop} (hC : mm_Ct l D dA cl b mi WS nF nM nm d xs C) {y pc kc ks i : Nat} {L : mm_L} {st : List Value} {h : mm_H} (hd : decode (mm_b (mi w)) pc = .ok (.invokespecial i, 3)) (hy : y < nm) (hyn : (mm_y (mi y)).name = "<init>") (hyr : mm_r (mi y) = none) (hk0 : 0 < mm_k (mi y)) (hml0 : mm_ml WS nM (mm_y (mi w)).cls i (mm_y (mi y)) = true) (hmy : mm_my WS (mm_y (mi y)) (mm_k (mi y) - 1) = true) (hinst : Cond.instanceMethod (mm_y (mi y)) ∈ WS)
    (hrc : ∃ o As, (st.take (mm_k (mi y))).reverse = .ref o :: As) (hE : mm_cl mi C (R.cells, R.slots) K y (pc + 3) L st h kc ks) : mm_Go p l e R s m args below meth c Q D dA cl b A φ0 n0 (mm_n (mi w)) pc L st h kc ks := by
  obtain ⟨⟨hx, hb, hml, hown, hts⟩, hWT, hoi, hG, hmi, hcl, hKK, hA, hX, hbl, hbA, hin, hRf, hRl⟩ := Z
  obtain ⟨e1, e2, e3, e4, e5, hCy⟩ := hE
  obtain ⟨hyd, hini⟩ := mm_my_spec hmy
  obtain ⟨o, As, has⟩ := hrc
  intro φ H locs ls f0 g0 hn k1 k2 hP hD hS hl
  have hM := hC y h _ _ hy hCy φ H.size
  have hR := mm_room (hmi y hy) hRf hRl
  have hlen : (As.map (mm_v b φ)).length = mm_k (mi y) - 1 := by
    have h1 : ((st.take (mm_k (mi y))).reverse).length = mm_k (mi y) := by
      rw [List.length_reverse, List.length_take]
      omega
    rw [has, List.length_cons] at h1
    rw [List.length_map]
    omega
  have hpre : PreS s H (mm_Pc D dA cl nF nM b xs φ h (st.take (mm_k (mi y))).reverse H.size) (Value.ref (φ o) :: As.map (mm_v b φ)) := ⟨mm_Pc_blind, mm_pre hKK hX hbl hbA hP hD hS (by rw [has]; rfl)⟩
  have hrm := mm_cat_v (b := b) (φ := φ) e2
  have hw : mm_ws mi WS nm y = Cond.code (mm_y (mi y)) (mm_b (mi y)) (mm_n (mi y)) none :: ((List.range nm).map (fun i => mm_cw (mi i)) ++ (Cond.code objectInit ⟨#[0xb1]⟩ 1 none :: WS)) := by
    show mm_cw (mi y) :: _ = _
    unfold mm_cw
    rw [hyr]
  rcases mm_ml_spec hml0 with hlk | ⟨q2, hq2, r1, r2, r3⟩
  · exact mm_back (va_runI (nL := mm_n (mi w)) (g := F0 m pc ls (st.map (mm_v b φ))) (rest := (st.drop (mm_k (mi y))).map (mm_v b φ)) ⟨hx, hb, hml, hown, hts⟩ hM ⟨callB_of (mm_k (mi y) - 1) hts (hG y hy) hw rfl rfl (hts _ (hWT _ hini)) (hts _ (hWT _ hlk)) hyd hR, hyn, hts _ (hWT _ hinst)⟩ hpre rfl hlen hl.1 (mm_stack has) (lv_room hrm) hd ⟨e3, e4⟩) hA e3 e4 e5 f0 g0 hn hD hS hl (fun h' v hv => hK _ _ _ _ _ _ hv)
  · have hz := hKK.2.2 q2 hq2
    rw [r1, r2, r3] at hz
    exact mm_back (va_runIN (nL := mm_n (mi w)) (g := F0 m pc ls (st.map (mm_v b φ))) (rest := (st.drop (mm_k (mi y))).map (mm_v b φ)) ⟨hx, hb, hml, hown, hts⟩ hM ⟨va_cnB (mm_k (mi y) - 1) hts (hG y hy) hw rfl rfl hz (hts _ (hWT _ hini)) hyd hR, hyn, hts _ (hWT _ hinst)⟩ hpre rfl hlen hl.1 (mm_stack has) (lv_room hrm) hd ⟨e3, e4⟩) hA e3 e4 e5 f0 g0 hn hD hS hl (fun h' v hv => hK _ _ _ _ _ _ hv)
theorem mm_x_copy (Z : mm_Cx p l R s m args meth c D dA cl b A mi df WS Ts nF nM nm w d xs) {K : mm_K} (hK : ∀ pc L st h kc ks, K pc L st h kc ks → mm_Go p l e R s m args below meth c Q D dA cl b A φ0 n0 (mm_n (mi w)) pc L st h kc ks) {pc kc ks i : Nat} {L : mm_L} {st : List Value} {h : mm_H} (hd : decode (mm_b (mi w)) pc = .ok (.invokestatic i, 3)) (h1 : Cond.methodLink (mm_y (mi w)).cls i arraycopyName ∈ WS) (h2 : Cond.native arraycopyName ∈ WS) (h3 : Cond.static arraycopyName ∈ WS) (h4 : Cond.initialized "java/lang/System" ∈ WS)
    (hE : mm_s2 st fun n dp r => mm_sr r fun o1 r => mm_s1 r fun sp r => mm_sr r fun o0 r => mm_ar h o0 fun ty n0 f => mm_ar h o1 fun ty1 n1 g => (ty = .int ∨ ty = .boolean ∨ ty = .char) ∧ ty1 = ty ∧ ¬ sp < 0 ∧ ¬ dp < 0 ∧ ¬ n < 0 ∧ sp.toNatClampNeg + n.toNatClampNeg ≤ n0 ∧ dp.toNatClampNeg + n.toNatClampNeg ≤ n1 ∧ (∀ i, i < n.toNatClampNeg → fits ty (.int (f (sp.toNatClampNeg + i))) = true) ∧ mm_cat r ∧ K (pc + 3) L r (h.set o1 (.inl (ty, n1, va_cpy f g sp.toNatClampNeg dp.toNatClampNeg n.toNatClampNeg))) kc ks) : mm_Go p l e R s m args below meth c Q D dA cl b A φ0 n0 (mm_n (mi w)) pc L st h kc ks := by
  obtain ⟨⟨hx, hb, hml, hown, hts⟩, hWT, hoi, hG, hmi, hcl, hKK, hA, hX, hbl, hbA, hin, hRf, hRl⟩ := Z
  obtain ⟨n, dp, r, rfl, hE2⟩ := mm_s2_inv hE
  obtain ⟨o1, r, rfl, hE3⟩ := mm_sr_inv hE2
  obtain ⟨sp, r, rfl, hE4⟩ := mm_s1_inv hE3
  obtain ⟨o0, r, rfl, hE5⟩ := mm_sr_inv hE4
  obtain ⟨ty, m0, f, ho0, hE6⟩ := mm_ar_inv hE5
  obtain ⟨ty1, m1, g, ho1, hty, rfl, j1, j2, j3, j4, j5, j6, hc, hE7⟩ := mm_ar_inv hE6
  intro φ H locs ls f0 g0 hn k1 k2 hP hD hS hl
  have hc2 := mm_cat_v (b := b) (φ := φ) hc
  obtain ⟨t0, ht0, hpr⟩ : ∃ t0, ([(dA .int, .int), (dA .boolean, .boolean), (dA .char, .char)] : List (ClassId × FieldType))[t0]? = some (dA ty1, ty1) ∧ refKind ty1 = false := by
    rcases hty with rfl | rfl | rfl
    · exact ⟨0, rfl, rfl⟩
    · exact ⟨1, rfl, rfl⟩
    · exact ⟨2, rfl, rfl⟩
  have hset := mm_w_set (b := b) (φ := φ) (dA := dA) (h := h) (o := o1) (c := .inl (ty1, m1, va_cpy f g sp.toNatClampNeg dp.toNatClampNeg n.toNatClampNeg))
  have hnf : nativeFrameWords "java/lang/System" "arraycopy" 5 + 11 ≤ 52 := by decide
  exact va_copyi hx hb (by rw [hml]; exact hl.1.symm) hown (hts _ (hWT _ h1)) (hts _ (hWT _ h2)) (hts _ (hWT _ h3)) (hts _ (hWT _ h4)) hKK.1 hP hD hS o0 o1 t0 t0 (mm_w_at ho0) (mm_w_at ho1) ht0 ht0 hpr j1 j2 j3 j4 j5 j6 (by omega) (by omega) hd (fun H1 locs1 hP1 hD1 hS1 => hK _ _ _ _ _ _ hE7 φ H1 locs1 ls f0 g0 (by rw [List.length_set]; exact hn) k1 k2 (by rw [← hset]; exact hP1) (by rw [← hset]; exact hD1) hS1 hl)
end MC
end
section
section MM9
variable {p : Program} {l : Launch} {e : Env} {R : Room} {s : State} {m : MethodId} {args : Array Value} {below : List Frame} {meth : Method} {c : Code} {Q : State → Prop}
variable {D : va_G} {dA : FieldType → ClassId} {cl : List vw_C} {b : Nat} {A : Nat → Prop} {φ0 : Nat → Nat} {n0 : Nat}
variable {mi : Nat → mm_M} {tb : Nat → Nat → Option mm_E} {df : Nat → List Value} {WS Ts : List Cond} {nF : List mm_F} {nM : List mm_N} {nm w d : Nat} {xs : Nat × (Nat → Int32)}
/-- a method's end: which instruction, with what answer -/
def mm_Ret (rt : Option FieldType) (I : Instr) (v : Option Value) : Prop :=
  (I = .return_ ∧ v = none ∧ rt = none) ∨ (∃ x ty, I = .ireturn ∧ v = some (.int x) ∧ rt = some ty ∧ narrow ty (.int x) = .int x) ∨ (∃ x ty, I = .areturn ∧ v = some (.ref x) ∧ rt = some ty ∧ ((∃ n, ty = .object n) ∨ ∃ t, ty = .array t))
set_option maxHeartbeats 4000000 in
set_option maxRecDepth 100000 in
theorem mm_one_go (Z : mm_Cx p l R s m args meth c D dA cl b A mi df WS Ts nF nM nm w d xs) {C : Nat → mm_H → List Value → (mm_H → Option Value → Prop) → Prop} (hC : mm_Ct l D dA cl b mi WS nF nM nm d xs C) {P : mm_H → Option Value → Nat → Nat → Prop}
    (hend : ∀ I v pc L h kc ks, mm_Ret (mm_r (mi w)) I v → decode (mm_b (mi w)) pc = .ok (I, 1) → (∃ j, n0 ≤ j ∧ P (h.take j) v kc ks) → mm_Go p l e R s m args below meth c Q D dA cl b A φ0 n0 (mm_n (mi w)) pc L v.toList h kc ks)
    (htb : ∀ pc E, tb w pc = some E → mm_ok mi cl WS nF nM nm w pc E = true) {K : mm_K} (hK : ∀ pc L st h kc ks, K pc L st h kc ks → mm_Go p l e R s m args below meth c Q D dA cl b A φ0 n0 (mm_n (mi w)) pc L st h kc ks) {pc kc ks : Nat} {L : mm_L} {st : List Value} {h : mm_H} (hE : mm_one mi tb df C xs (R.cells, R.slots) P n0 w K pc L st h kc ks) : mm_Go p l e R s m args below meth c Q D dA cl b A φ0 n0 (mm_n (mi w)) pc L st h kc ks := by
  unfold mm_one at hE
  split at hE
  · exact hE.elim
  · rename_i E hEq
    have hok := htb pc E hEq
    obtain ⟨I, len, a, bb, k⟩ := E
    dsimp only at hE
    cases I with
    | iconst z0 =>
      dsimp only [mm_ex] at hE
      exact mm_x_iconst Z hK hok hE
    | bipush z0 =>
      dsimp only [mm_ex] at hE
      exact mm_x_bipush Z hK hok hE
    | sipush z0 =>
      dsimp only [mm_ex] at hE
      exact mm_x_sipush Z hK hok hE
    | ldc z0 =>
      dsimp only [mm_ex] at hE
      exact mm_x_ldc Z hK hok hE
    | iload_n z0 =>
      dsimp only [mm_ex] at hE
      exact mm_x_iload_n Z hK hok hE
    | iload z0 =>
      dsimp only [mm_ex] at hE
      exact mm_x_iload Z hK hok hE
    | aload_n z0 =>
      dsimp only [mm_ex] at hE
      exact mm_x_aload_n Z hK hok hE
    | aload z0 =>
      dsimp only [mm_ex] at hE
      exact mm_x_aload Z hK hok hE
    | istore_n z0 =>
      dsimp only [mm_ex] at hE
      exact mm_x_istore_n Z hK hok hE
    | istore z0 =>
      dsimp only [mm_ex] at hE
      exact mm_x_istore Z hK hok hE
    | astore_n z0 =>
      dsimp only [mm_ex] at hE
      exact mm_x_astore_n Z hK hok hE
    | astore z0 =>
      dsimp only [mm_ex] at hE
      exact mm_x_astore Z hK hok hE
    | iinc z0 z1 =>
      dsimp only [mm_ex] at hE
      exact mm_x_iinc Z hK hok hE
    | iadd =>
      dsimp only [mm_ex] at hE
      exact mm_x_iadd Z hK hok hE
    | isub =>
      dsimp only [mm_ex] at hE
      exact mm_x_isub Z hK hok hE
    | imul =>
      dsimp only [mm_ex] at hE
      exact mm_x_imul Z hK hok hE
    | iand =>
      dsimp only [mm_ex] at hE
      exact mm_x_iand Z hK hok hE
    | ior =>
      dsimp only [mm_ex] at hE
      exact mm_x_ior Z hK hok hE
    | ixor =>
      dsimp only [mm_ex] at hE
      exact mm_x_ixor Z hK hok hE
    | ishl =>
      dsimp only [mm_ex] at hE
      exact mm_x_ishl Z hK hok hE
    | ishr =>
      dsimp only [mm_ex] at hE
      exact mm_x_ishr Z hK hok hE
    | idiv =>
      dsimp only [mm_ex] at hE
      exact mm_x_idiv Z hK hok hE
    | irem =>
      dsimp only [mm_ex] at hE
      exact mm_x_irem Z hK hok hE
    | ineg =>
      dsimp only [mm_ex] at hE
      exact mm_x_ineg Z hK hok hE
    | i2c =>
      dsimp only [mm_ex] at hE
      exact mm_x_i2c Z hK hok hE
    | dup =>
      dsimp only [mm_ex] at hE
      exact mm_x_dup Z hK hok hE
    | pop =>
      dsimp only [mm_ex] at hE
      exact mm_x_pop Z hK hok hE
    | dup_x1 =>
      dsimp only [mm_ex] at hE
      exact mm_x_dup_x1 Z hK hok hE
    | dup2 =>
      dsimp only [mm_ex] at hE
      exact mm_x_dup2 Z hK hok hE
    | dup_x2 =>
      dsimp only [mm_ex] at hE
      exact mm_x_dup_x2 Z hK hok hE
    | ifCond z0 z1 =>
      dsimp only [mm_ex] at hE
      exact mm_x_ifCond Z hK hok hE
    | if_icmp z0 z1 =>
      dsimp only [mm_ex] at hE
      exact mm_x_if_icmp Z hK hok hE
    | goto z0 =>
      dsimp only [mm_ex] at hE
      exact mm_x_goto Z hK hok hE
    | lookupswitch z0 z1 =>
      dsimp only [mm_ex] at hE
      exact mm_x_lookupswitch Z hK hok hE
    | tableswitch z0 z1 z2 z3 =>
      dsimp only [mm_ex] at hE
      exact mm_x_tableswitch Z hK hok hE
    | getfield z0 =>
      dsimp only [mm_ex] at hE
      exact mm_x_getfield Z hK hok hE
    | putfield z0 =>
      dsimp only [mm_ex] at hE
      exact mm_x_putfield Z hK hok hE
    | iaload =>
      dsimp only [mm_ex] at hE
      exact mm_x_iaload Z hK hok hE
    | baload =>
      dsimp only [mm_ex] at hE
      exact mm_x_baload Z hK hok hE
    | caload =>
      dsimp only [mm_ex] at hE
      exact mm_x_caload Z hK hok hE
    | iastore =>
      dsimp only [mm_ex] at hE
      exact mm_x_iastore Z hK hok hE
    | bastore =>
      dsimp only [mm_ex] at hE
      exact mm_x_bastore Z hK hok hE
    | castore =>
      dsimp only [mm_ex] at hE
      exact mm_x_castore Z hK hok hE
    | arraylength =>
      dsimp only [mm_ex] at hE
      exact mm_x_arraylength Z hK hok hE
    | new z0 =>
      dsimp only [mm_ex] at hE
      exact mm_x_new Z hK hok hE
    | newarray z0 =>
      dsimp only [mm_ex] at hE
      exact mm_x_newarray Z hK hok hE
    | invokespecial i =>
      dsimp only [mm_ex] at hE
      obtain ⟨hE0, hE1⟩ := hE
      simp only [mm_ok, mm_sd, Bool.and_eq_true, decide_eq_true_eq] at hok
      obtain ⟨hd, h1, hok⟩ := hok
      subst h1
      by_cases hbb : bb = 0
      · rw [if_pos hbb] at hok
        simp only [Bool.and_eq_true, decide_eq_true_eq] at hok
        exact mm_x_objinit Z hK hd hok.1 hok.2 (hE0 hbb)
      · rw [if_neg hbb] at hok
        simp only [Bool.and_eq_true, decide_eq_true_eq] at hok
        obtain ⟨⟨⟨⟨⟨⟨q1, q2⟩, q3⟩, q4⟩, q5⟩, q6⟩, q7⟩ := hok
        exact mm_x_special Z hK hC hd q1 q2 q3 q4 q5 q6 q7 (hE1 hbb).1 (hE1 hbb).2
    | invokevirtual i =>
      dsimp only [mm_ex] at hE
      obtain ⟨hE0, hE1⟩ := hE
      simp only [mm_ok, mm_sd, Bool.and_eq_true, decide_eq_true_eq] at hok
      obtain ⟨hd, ⟨⟨⟨⟨⟨⟨h1, q1⟩, q2⟩, q3⟩, q4⟩, q5⟩, q6⟩, q7⟩ := hok
      subst h1
      split at q7
      · cases q7
      · rename_i q hq
        exact mm_x_virtual Z hK hC hd q1 q2 q3 q4 q5 q6 hq (by simpa using q7) hE0 hE1
    | invokestatic i =>
      dsimp only [mm_ex] at hE
      obtain ⟨hE0, hE1⟩ := hE
      simp only [mm_ok, mm_sd, Bool.and_eq_true, decide_eq_true_eq] at hok
      obtain ⟨hd, h1, hok⟩ := hok
      subst h1
      by_cases hbb : bb = 0
      · rw [if_pos hbb] at hok
        simp only [Bool.and_eq_true, decide_eq_true_eq] at hok
        exact mm_x_copy Z hK hd hok.1.1.1 hok.1.1.2 hok.1.2 hok.2 (hE0 hbb)
      · rw [if_neg hbb] at hok
        simp only [Bool.and_eq_true, decide_eq_true_eq] at hok
        exact mm_x_static Z hK hC hd hok.1.1.1 hok.1.1.2 hok.1.2 hok.2 (hE1 hbb)
    | return_ =>
      dsimp only [mm_ex] at hE
      obtain ⟨h0, h1, h2⟩ := hE
      simp only [mm_ok, mm_sd, Bool.and_eq_true, decide_eq_true_eq] at hok
      obtain ⟨hd, h3⟩ := hok
      subst h3
      subst h0
      exact hend _ none pc L h kc ks (Or.inl ⟨rfl, rfl, h1⟩) hd h2
    | ireturn =>
      dsimp only [mm_ex] at hE
      obtain ⟨x, r, rfl, rfl, ⟨ty, h1, h2⟩, h3⟩ := mm_s1_inv hE
      simp only [mm_ok, mm_sd, Bool.and_eq_true, decide_eq_true_eq] at hok
      obtain ⟨hd, h4⟩ := hok
      subst h4
      exact hend _ (some (.int x)) pc L h kc ks (Or.inr (Or.inl ⟨x, ty, rfl, rfl, h1, h2⟩)) hd h3
    | areturn =>
      dsimp only [mm_ex] at hE
      obtain ⟨x, r, rfl, rfl, ⟨ty, h1, h2⟩, h3⟩ := mm_sr_inv hE
      simp only [mm_ok, mm_sd, Bool.and_eq_true, decide_eq_true_eq] at hok
      obtain ⟨hd, h4⟩ := hok
      subst h4
      exact hend _ (some (.ref x)) pc L h kc ks (Or.inr (Or.inr ⟨x, ty, rfl, rfl, h1, h2⟩)) hd h3
    | _ => exact (show False from hE).elim
theorem mm_run_go (Z : mm_Cx p l R s m args meth c D dA cl b A mi df WS Ts nF nM nm w d xs) {C : Nat → mm_H → List Value → (mm_H → Option Value → Prop) → Prop} (hC : mm_Ct l D dA cl b mi WS nF nM nm d xs C) {P : mm_H → Option Value → Nat → Nat → Prop}
    (hend : ∀ I v pc L h kc ks, mm_Ret (mm_r (mi w)) I v → decode (mm_b (mi w)) pc = .ok (I, 1) → (∃ j, n0 ≤ j ∧ P (h.take j) v kc ks) → mm_Go p l e R s m args below meth c Q D dA cl b A φ0 n0 (mm_n (mi w)) pc L v.toList h kc ks)
    (htb : ∀ pc E, tb w pc = some E → mm_ok mi cl WS nF nM nm w pc E = true) {pc kc ks : Nat} {L : mm_L} {st : List Value} {h : mm_H} (hE : mm_run mi tb df C xs (R.cells, R.slots) P n0 w pc L st h kc ks) : mm_Go p l e R s m args below meth c Q D dA cl b A φ0 n0 (mm_n (mi w)) pc L st h kc ks :=
  hE (mm_Go p l e R s m args below meth c Q D dA cl b A φ0 n0 (mm_n (mi w))) (fun _ _ _ _ _ _ h1 => mm_one_go Z hC hend htb (fun _ _ _ _ _ _ h2 => h2) h1)
end MM9
/-- THE TIE: what the small machine comes to in method y, the machine comes to -/
theorem mm_met (l : Launch) (D : va_G) (dA : FieldType → ClassId) (cl : List vw_C) (b : Nat) (mi : Nat → mm_M) (tb : Nat → Nat → Option mm_E) (df : Nat → List Value) (WS : List Cond) (nF : List mm_F) (nM : List mm_N) (nm : Nat) (xs : Nat × (Nat → Int32))
    (hWS : ∀ x ∈ WS, goodWord x = true) (hmi : ∀ y, y < nm → mm_okm (mi y) = true) (hcl : ∀ ci q, cl[ci]? = some q → mm_okc WS (df ci) q = true) (htb : ∀ w, w < nm → ∀ pc E, tb w pc = some E → mm_ok mi cl WS nF nM nm w pc E = true) : ∀ d, mm_Ct l D dA cl b mi WS nF nM nm d xs (mm_call mi tb df xs d) := by
  intro d
  induction d with
  | zero => intro y h as Pk _ hC; exact hC.elim
  | succ d ih =>
    intro y h as Pk hy hC φ sz
    obtain ⟨hlen, hcat, hrun⟩ := hC
    have hokm := hmi y hy
    simp only [mm_okm, Bool.and_eq_true, decide_eq_true_eq] at hokm
    refine Met.ofW (cc := mm_b (mi y)) (maxL := mm_n (mi y)) (ret := mm_r (mi y)) hokm.1.1 rfl ?_
    intro p e s m args below meth c s₁ B hml hv
    obtain ⟨rfl, hsz, hP, hKK, hD0, hX, hbl, hnb⟩ := hv
    have hx := B.exec
    have hb := B.bytes
    have hr := B.returns
    have hts := atoms_spec (ws := mm_ws mi WS nm y) B.pre
    have hown : s.vm.findClass (mm_y (mi y)).cls = some m.cls := findClass_of_methodNamed B.named
    have hlocks := B.notSynchronized
    have hin : meth.name = (mm_y (mi y)).name := (name_of_methodNamed B.named B.method).1
    subst hsz
    have hD := hD0.self (sz := s.heap.size)
    have hA : ∀ q : Nat, s.heap.size ≤ q → va_A (mm_w b φ dA h) s.heap.size q := fun q h => Or.inr h
    have hbA : ¬ va_A (mm_w b φ dA h) s.heap.size b := by
      rintro (⟨k, e, hk⟩ | hq)
      · exact hnb k _ hk rfl
      · omega
    have hS : va_S (va_A (mm_w b φ dA h) s.heap.size) s.heap s.heap [] := va_S.rf
    have hl := lv_entry (as.map (mm_v b φ)) (n := mm_n (mi y)) (by rw [mm_in0_len hcat, hlen]; exact hokm.2)
    rw [lg_entry_eq]
    generalize (lg_sl (as.map (mm_v b φ)) ++ List.replicate (mm_n (mi y) - (lg_sl (as.map (mm_v b φ))).length) Slot.unset).toArray = ls at hl ⊢
    have hl2 : lv_has ls (mm_n (mi y)) (mm_l b φ (mm_in0 (mi y) as)) := mm_lsub hl (mm_in0_args hcat)
    have hcode : ∀ i, i < nm → mm_cw (mi i) ∈ (List.range nm).map (fun i => mm_cw (mi i)) := fun i hi => List.mem_map.mpr ⟨i, List.mem_range.mpr hi, rfl⟩
    have hG : ∀ z, z < nm → GoodIn (mm_ws mi WS nm y) (mm_ws mi WS nm z) := by
      intro z hz x hxz
      rcases List.mem_cons.mp hxz with rfl | hxz
      · exact ⟨List.mem_cons_of_mem _ (List.mem_append_left _ (hcode z hz)), Or.inl rfl⟩
      · refine ⟨List.mem_cons_of_mem _ hxz, ?_⟩
        rcases List.mem_append.mp hxz with hxz | hxz
        · obtain ⟨i, -, rfl⟩ := List.mem_map.mp hxz
          exact Or.inl rfl
        · rcases List.mem_cons.mp hxz with rfl | hxz
          · exact Or.inl rfl
          · exact good_of_word (hWS x hxz)
    have Z : mm_Cx p l (headSpec (mm_ws mi WS nm y) (mm_rm (d + 1) (mi y))).room s m (as.map (mm_v b φ)).toArray meth c D dA cl b (va_A (mm_w b φ dA h) s.heap.size) mi df WS (mm_ws mi WS nm y) nF nM nm y d xs :=
      ⟨⟨hx, hb, hml, hown, hts⟩, fun x hxw => List.mem_cons_of_mem _ (List.mem_append_right _ (List.mem_cons_of_mem _ hxw)), List.mem_cons_of_mem _ (List.mem_append_right _ List.mem_cons_self), hG, hmi, hcl, hKK, hA, hX, hbl, hbA, hin, Nat.le_refl _, by show 60 * d + 60 ≤ 60 * (d + 1); omega⟩
    refine mm_run_go (Q := MQ below (mm_Qc D dA cl b φ h s.heap.size (mm_mc (mi y)) Pk) (as.map (mm_v b φ)).toArray s (mm_mc (mi y)) (mm_ms (mi y)) (va_A (mm_w b φ dA h) s.heap.size)) (φ0 := φ) Z ih ?_ (htb y hy) hrun φ s.heap [] ls (fun _ _ => rfl) (fun _ => rfl) (Nat.le_refl _) (Nat.zero_le _) (Nat.zero_le _) hP hD hS hl2
    intro I v pc L h' kc ks hret hd hj φ' H locs ls' f0 g0 hn k1 k2 hP1 hD1 hS1 hl1
    obtain ⟨j, hj1, hj2⟩ := hj
    have key : ∀ t : State, t.heap = H → mm_Qc D dA cl b φ h s.heap.size (mm_mc (mi y)) Pk (as.map (mm_v b φ)).toArray s (.returned (v.map (mm_v b φ'))) t := by
      intro t ht
      have hsub : ∀ (k : Nat) (q : Nat × va_E), (mm_w b φ' dA (h'.take j))[k]? = some q → (mm_w b φ' dA h')[k]? = some q := by
        intro k q hq
        rw [mm_w_get] at hq ⊢
        by_cases hkj : k < j
        · rw [List.getElem?_take_of_lt hkj] at hq
          exact hq
        · rw [List.getElem?_take_eq_none (Nat.not_lt.mp hkj)] at hq
          cases hq
      refine ⟨h'.take j, v, φ', f0, fun hz => g0 ?_, ?_, hj2, rfl, fun k q hq => ?_, ⟨fun i k x z hi hk hxz => hD1.1 i k x z (hsub i x hi) (hsub k z hk) hxz, fun k q hq => hD1.2 k q (hsub k q hq)⟩, ?_⟩
      · have : kc ≤ mm_mc (mi y) := k1
        omega
      · rw [List.length_take]
        omega
      · rw [ht]
        exact hP1 k q (hsub k q hq)
      · exact hS1.F ht
    refine W.widen (k := mm_mc (mi y)) (n := mm_ms (mi y)) k1 k2 ?_
    rcases hret with ⟨rfl, rfl, hrt⟩ | ⟨x, ty, rfl, rfl, hrt, hnar⟩ | ⟨x, ty, rfl, rfl, hrt, hrf⟩
    · exact W.vret hx hb (hr.trans hrt) (fun t ht _ => key t ht) hS1.2.2 hd
    · exact W.zret hx hb (hr.trans hrt) hnar (fun t ht _ => key t ht) hS1.2.2 hd
    · exact W.aret hx hb (hr.trans hrt) hrf (Or.inr ⟨_, rfl⟩) (fun t ht _ => key t ht) hS1.2.2 hd
end
