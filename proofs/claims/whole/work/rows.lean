section
/-! The small machine: what a method does over cells that are numbered by the order in which they were made. One theorem (mm_met) ties it to the machine itself: what the small machine comes to, the method comes to. -/
abbrev mm_C : Type := (FieldType × Nat × (Nat → Int32)) ⊕ (Nat × List Value)
abbrev mm_H : Type := List mm_C
/-- an instruction, its length, two numbers, an int: what the tables made of its operands -/
abbrev mm_E : Type := Instr × Nat × Nat × Nat × Int32
/-- a method: name, bytes, locals, return type, how many arguments (with the receiver), its class's number, cells and slots that it may make -/
abbrev mm_M : Type := MethodName × ByteArray × Nat × Option FieldType × Nat × Nat × Nat × Nat
abbrev mm_y (M : mm_M) : MethodName := M.1
abbrev mm_b (M : mm_M) : ByteArray := M.2.1
abbrev mm_n (M : mm_M) : Nat := M.2.2.1
abbrev mm_r (M : mm_M) : Option FieldType := M.2.2.2.1
abbrev mm_k (M : mm_M) : Nat := M.2.2.2.2.1
abbrev mm_ci (M : mm_M) : Nat := M.2.2.2.2.2.1
abbrev mm_mc (M : mm_M) : Nat := M.2.2.2.2.2.2.1
abbrev mm_ms (M : mm_M) : Nat := M.2.2.2.2.2.2.2
abbrev mm_L : Type := List (Option Value)
/-- a value of the small machine in the machine: cells by their addresses; retAddr stands for the script -/
def mm_v (b : Nat) (φ : Nat → Nat) (v : Value) : Value := match v with
  | .ref k => .ref (φ k)
  | .retAddr _ => .ref b
  | w => w
def mm_c (b : Nat) (φ : Nat → Nat) (dA : FieldType → ClassId) (c : mm_C) : va_E := match c with
  | .inl q => .inl (dA q.1, q.2.1, .inl q.2.2)
  | .inr q => .inr (q.1, q.2.map (mm_v b φ))
def mm_w (b : Nat) (φ : Nat → Nat) (dA : FieldType → ClassId) (h : mm_H) : va_W := h.mapIdx (fun i c => (φ i, mm_c b φ dA c))
def mm_l (b : Nat) (φ : Nat → Nat) (L : mm_L) : List (Nat × Value) := (List.range L.length).filterMap (fun i => match L[i]? with
  | some (some v) => if v.category = 1 then some (i, mm_v b φ v) else none
  | _ => none)
def mm_wfv (n : Nat) (v : Value) : Bool := match v with
  | .ref k => Nat.blt k n
  | _ => true
def mm_wfo (n : Nat) (o : Option Value) : Bool := match o with
  | some v => mm_wfv n v
  | none => true
def mm_wfc (n : Nat) (c : mm_C) : Bool := match c with
  | .inl _ => true
  | .inr q => q.2.all (mm_wfv n)
def mm_cat (st : List Value) : Prop := (st.map fun v => v.category).sum ≤ 8
/-- may a field of this kind (0 int, 1 boolean, 3 a reference) keep the value? -/
def mm_fit (c : Int32) (v : Value) : Prop := match v with
  | .int x => c = 0 ∨ (c = 1 ∧ (x = 0 ∨ x = 1))
  | .ref _ => c = 3
  | .null => c = 3
  | _ => False
def mm_cz (cnd : Jvm.ClassFile.Cond) (x : Int32) : Prop := match cnd with
  | .eq => x = 0
  | .ne => ¬ x = 0
  | .lt => x < 0
  | .ge => 0 ≤ x
  | .gt => 0 < x
  | .le => x ≤ 0
def mm_cc (cnd : Jvm.ClassFile.Cond) (x y : Int32) : Prop := match cnd with
  | .eq => x = y
  | .ne => ¬ x = y
  | .lt => x < y
  | .ge => y ≤ x
  | .gt => y < x
  | .le => x ≤ y
abbrev mm_K : Type := Nat → mm_L → List Value → mm_H → Nat → Nat → Prop
/-- a call: arguments off the stack, the callee, on with what it came to -/
def mm_cl (mi : Nat → mm_M) (C : Nat → mm_H → List Value → (mm_H → Option Value → Prop) → Prop) (cap : Nat × Nat) (K : mm_K) (y nx : Nat) (L : mm_L) (st : List Value) (h : mm_H) (kc ks : Nat) : Prop :=
  mm_k (mi y) ≤ st.length ∧ mm_cat (st.drop (mm_k (mi y))) ∧ kc + mm_mc (mi y) ≤ cap.1 ∧ ks + mm_ms (mi y) ≤ cap.2 ∧ (mm_mc (mi y) = 0 ∨ (L.all (mm_wfo h.length) && (st.drop (mm_k (mi y))).all (mm_wfv h.length)) = true) ∧
  C y h (st.take (mm_k (mi y))).reverse (fun h' v => K nx L (v.toList ++ st.drop (mm_k (mi y))) h' (kc + mm_mc (mi y)) (ks + mm_ms (mi y)))
def mm_rcv (h : mm_H) (ci : Nat) (as : List Value) : Prop := match as with
  | .ref o :: _ => (match h[o]? with
    | some (.inr q) => q.1 = ci
    | _ => False)
  | _ => False
/-! what lies on the stack, in a local, in a cell -/
def mm_s1 (st : List Value) (k : Int32 → List Value → Prop) : Prop := match st with
  | .int x :: r => k x r
  | _ => False
def mm_s2 (st : List Value) (k : Int32 → Int32 → List Value → Prop) : Prop := match st with
  | .int y :: .int x :: r => k y x r
  | _ => False
def mm_sr (st : List Value) (k : Nat → List Value → Prop) : Prop := match st with
  | .ref o :: r => k o r
  | _ => False
def mm_sv (st : List Value) (k : Value → List Value → Prop) : Prop := match st with
  | v :: r => k v r
  | [] => False
def mm_sx (st : List Value) (k : List Value → Prop) (k0 : Nat → List Value → Prop) : Prop := match st with
  | .retAddr _ :: r => k r
  | .ref o :: r => k0 o r
  | _ => False
def mm_li (L : mm_L) (a : Nat) (k : Int32 → Prop) : Prop := match L[a]? with
  | some (some (.int x)) => k x
  | _ => False
def mm_lr (L : mm_L) (a : Nat) (k : Value → Prop) : Prop := match L[a]? with
  | some (some (.ref x)) => k (.ref x)
  | some (some (.retAddr x)) => k (.retAddr x)
  | _ => False
def mm_ob (h : mm_H) (o : Nat) (k : Nat → List Value → Prop) : Prop := match h[o]? with
  | some (.inr q) => k q.1 q.2
  | _ => False
def mm_ar (h : mm_H) (o : Nat) (k : FieldType → Nat → (Nat → Int32) → Prop) : Prop := match h[o]? with
  | some (.inl q) => k q.1 q.2.1 q.2.2
  | _ => False
def mm_fd (fs : List Value) (b : Nat) (k : Value → Prop) : Prop := match fs[b]? with
  | some v => k v
  | none => False
theorem mm_s1_inv {st : List Value} {k : Int32 → List Value → Prop} (h : mm_s1 st k) : ∃ x r, st = .int x :: r ∧ k x r := by
  unfold mm_s1 at h
  split at h
  · exact ⟨_, _, rfl, h⟩
  · exact h.elim
theorem mm_s2_inv {st : List Value} {k : Int32 → Int32 → List Value → Prop} (h : mm_s2 st k) : ∃ y x r, st = .int y :: .int x :: r ∧ k y x r := by
  unfold mm_s2 at h
  split at h
  · exact ⟨_, _, _, rfl, h⟩
  · exact h.elim
theorem mm_sr_inv {st : List Value} {k : Nat → List Value → Prop} (h : mm_sr st k) : ∃ o r, st = .ref o :: r ∧ k o r := by
  unfold mm_sr at h
  split at h
  · exact ⟨_, _, rfl, h⟩
  · exact h.elim
theorem mm_sv_inv {st : List Value} {k : Value → List Value → Prop} (h : mm_sv st k) : ∃ v r, st = v :: r ∧ k v r := by
  unfold mm_sv at h
  split at h
  · exact ⟨_, _, rfl, h⟩
  · exact h.elim
theorem mm_sx_inv {st : List Value} {k : List Value → Prop} {k0 : Nat → List Value → Prop} (h : mm_sx st k k0) : (∃ z r, st = .retAddr z :: r ∧ k r) ∨ (∃ o r, st = .ref o :: r ∧ k0 o r) := by
  unfold mm_sx at h
  split at h
  · exact Or.inl ⟨_, _, rfl, h⟩
  · exact Or.inr ⟨_, _, rfl, h⟩
  · exact h.elim
theorem mm_li_inv {L : mm_L} {a : Nat} {k : Int32 → Prop} (h : mm_li L a k) : ∃ x, L[a]? = some (some (.int x)) ∧ k x := by
  unfold mm_li at h
  split at h
  · rename_i x hx
    exact ⟨x, hx, h⟩
  · exact h.elim
theorem mm_lr_inv {L : mm_L} {a : Nat} {k : Value → Prop} (h : mm_lr L a k) : ∃ v, L[a]? = some (some v) ∧ ((∃ x, v = .ref x) ∨ ∃ x, v = .retAddr x) ∧ k v := by
  unfold mm_lr at h
  split at h
  · rename_i x hx
    exact ⟨_, hx, Or.inl ⟨x, rfl⟩, h⟩
  · rename_i x hx
    exact ⟨_, hx, Or.inr ⟨x, rfl⟩, h⟩
  · exact h.elim
theorem mm_ob_inv {h : mm_H} {o : Nat} {k : Nat → List Value → Prop} (hh : mm_ob h o k) : ∃ ci fs, h[o]? = some (.inr (ci, fs)) ∧ k ci fs := by
  unfold mm_ob at hh
  split at hh
  · rename_i q hq
    exact ⟨q.1, q.2, hq, hh⟩
  · exact hh.elim
theorem mm_ar_inv {h : mm_H} {o : Nat} {k : FieldType → Nat → (Nat → Int32) → Prop} (hh : mm_ar h o k) : ∃ ty n f, h[o]? = some (.inl (ty, n, f)) ∧ k ty n f := by
  unfold mm_ar at hh
  split at hh
  · rename_i q hq
    exact ⟨q.1, q.2.1, q.2.2, hq, hh⟩
  · exact hh.elim
theorem mm_fd_inv {fs : List Value} {b : Nat} {k : Value → Prop} (h : mm_fd fs b k) : ∃ v, fs[b]? = some v ∧ k v := by
  unfold mm_fd at h
  split at h
  · rename_i v hv
    exact ⟨v, hv, h⟩
  · exact h.elim
/-- one instruction: K is what comes behind it, P what holds at the method's end -/
def mm_ex (mi : Nat → mm_M) (df : Nat → List Value) (C : Nat → mm_H → List Value → (mm_H → Option Value → Prop) → Prop) (xs : Nat × (Nat → Int32)) (cap : Nat × Nat) (P : mm_H → Option Value → Nat → Nat → Prop) (n0 m : Nat) (K : mm_K) (I : Instr) (len a b : Nat) (c : Int32) (pc : Nat) (L : mm_L) (st : List Value) (h : mm_H) (kc ks : Nat) : Prop :=
  match I with
  | .iconst _ => K (pc + len) L (.int c :: st) h kc ks
  | .bipush _ => K (pc + len) L (.int c :: st) h kc ks
  | .sipush _ => K (pc + len) L (.int c :: st) h kc ks
  | .ldc _ => K (pc + len) L (.int c :: st) h kc ks
  | .iload_n _ => mm_li L a fun x => K (pc + len) L (.int x :: st) h kc ks
  | .iload _ => mm_li L a fun x => K (pc + len) L (.int x :: st) h kc ks
  | .aload_n _ => mm_lr L a fun v => K (pc + len) L (v :: st) h kc ks
  | .aload _ => mm_lr L a fun v => K (pc + len) L (v :: st) h kc ks
  | .istore_n _ => mm_s1 st fun x r => K (pc + len) (L.set a (some (.int x))) r h kc ks
  | .istore _ => mm_s1 st fun x r => K (pc + len) (L.set a (some (.int x))) r h kc ks
  | .astore_n _ => mm_sr st fun x r => K (pc + len) (L.set a (some (.ref x))) r h kc ks
  | .astore _ => mm_sr st fun x r => K (pc + len) (L.set a (some (.ref x))) r h kc ks
  | .iinc _ _ => mm_li L a fun x => K (pc + len) (L.set a (some (.int (x + c)))) st h kc ks
  | .iadd => mm_s2 st fun y x r => K (pc + len) L (.int (x + y) :: r) h kc ks
  | .isub => mm_s2 st fun y x r => K (pc + len) L (.int (x - y) :: r) h kc ks
  | .imul => mm_s2 st fun y x r => K (pc + len) L (.int (x * y) :: r) h kc ks
  | .iand => mm_s2 st fun y x r => K (pc + len) L (.int (x &&& y) :: r) h kc ks
  | .ior => mm_s2 st fun y x r => K (pc + len) L (.int (x ||| y) :: r) h kc ks
  | .ixor => mm_s2 st fun y x r => K (pc + len) L (.int (x ^^^ y) :: r) h kc ks
  | .ishl => mm_s2 st fun y x r => K (pc + len) L (.int (x <<< (y &&& 31)) :: r) h kc ks
  | .ishr => mm_s2 st fun y x r => K (pc + len) L (.int (x >>> (y &&& 31)) :: r) h kc ks
  | .idiv => mm_s2 st fun y x r => ¬ y = 0 ∧ K (pc + len) L (.int (x / y) :: r) h kc ks
  | .irem => mm_s2 st fun y x r => ¬ y = 0 ∧ K (pc + len) L (.int (x - x / y * y) :: r) h kc ks
  | .ineg => mm_s1 st fun x r => K (pc + len) L (.int (-x) :: r) h kc ks
  | .i2c => mm_s1 st fun x r => K (pc + len) L (.int (x.toUInt32 % 65536).toInt32 :: r) h kc ks
  | .dup => mm_sv st fun v r => v.category = 1 ∧ K (pc + len) L (v :: v :: r) h kc ks
  | .pop => mm_sv st fun v r => v.category = 1 ∧ K (pc + len) L r h kc ks
  | .dup_x1 => mm_sv st fun v r => mm_sv r fun w r => v.category = 1 ∧ w.category = 1 ∧ K (pc + len) L (v :: w :: v :: r) h kc ks
  | .dup2 => mm_sv st fun v r => mm_sv r fun w r => v.category = 1 ∧ w.category = 1 ∧ K (pc + len) L (v :: w :: v :: w :: r) h kc ks
  | .dup_x2 => mm_sv st fun v r => mm_sv r fun w r => mm_sv r fun z r => v.category = 1 ∧ w.category = 1 ∧ z.category = 1 ∧ K (pc + len) L (v :: w :: z :: v :: r) h kc ks
  | .ifCond cnd _ => mm_s1 st fun x r => (mm_cz cnd x → K a L r h kc ks) ∧ (¬ mm_cz cnd x → K (pc + len) L r h kc ks)
  | .if_icmp cnd _ => mm_s2 st fun y x r => (mm_cc cnd x y → K a L r h kc ks) ∧ (¬ mm_cc cnd x y → K (pc + len) L r h kc ks)
  | .goto _ => K a L st h kc ks
  | .lookupswitch d ps => mm_s1 st fun x r => ∃ t : Nat, (pc : Int) + Op.lookupswitch.offset ps.toList d x.toInt = (t : Int) ∧ K t L r h kc ks
  | .tableswitch d lo hi offs => mm_s1 st fun x r => (x.toInt < lo ∨ hi < x.toInt → ∃ t : Nat, (pc : Int) + d = (t : Int) ∧ K t L r h kc ks) ∧ (¬ x.toInt < lo → ¬ hi < x.toInt → ∃ (o : Int) (t : Nat), offs[(x.toInt - lo).toNat]? = some o ∧ (pc : Int) + o = (t : Int) ∧ K t L r h kc ks)
  | .getfield _ => mm_sr st fun o r => mm_ob h o fun ci fs => mm_fd fs b fun v => ci = a ∧ K (pc + len) L (v :: r) h kc ks
  | .putfield _ => mm_sv st fun v r => mm_sr r fun o r => mm_ob h o fun ci fs => ci = a ∧ b < fs.length ∧ mm_fit c v ∧ K (pc + len) L r (h.set o (.inr (ci, fs.set b v))) kc ks
  | .iaload => mm_s1 st fun i r => mm_sx r (fun r => vp_in i xs.1 ∧ K (pc + len) L (.int (xs.2 i.toNatClampNeg) :: r) h kc ks) (fun o r => mm_ar h o fun ty n f => ty = .int ∧ vp_in i n ∧ K (pc + len) L (.int (f i.toNatClampNeg) :: r) h kc ks)
  | .baload => mm_s1 st fun i r => mm_sr r fun o r => mm_ar h o fun ty n f => ty = .boolean ∧ vp_in i n ∧ K (pc + len) L (.int (f i.toNatClampNeg) :: r) h kc ks
  | .caload => mm_s1 st fun i r => mm_sr r fun o r => mm_ar h o fun ty n f => ty = .char ∧ vp_in i n ∧ K (pc + len) L (.int (f i.toNatClampNeg) :: r) h kc ks
  | .iastore => mm_s2 st fun x i r => mm_sr r fun o r => mm_ar h o fun ty n f => ty = .int ∧ vp_in i n ∧ K (pc + len) L r (h.set o (.inl (.int, n, upd f i.toNatClampNeg x))) kc ks
  | .bastore => mm_s2 st fun x i r => mm_sr r fun o r => mm_ar h o fun ty n f => ty = .boolean ∧ vp_in i n ∧ K (pc + len) L r (h.set o (.inl (.boolean, n, upd f i.toNatClampNeg (vp_nar .boolean x)))) kc ks
  | .castore => mm_s2 st fun x i r => mm_sr r fun o r => mm_ar h o fun ty n f => ty = .char ∧ vp_in i n ∧ K (pc + len) L r (h.set o (.inl (.char, n, upd f i.toNatClampNeg (vp_nar .char x)))) kc ks
  | .arraylength => mm_sx st (fun r => K (pc + len) L (.int (Int32.ofNat xs.1) :: r) h kc ks) (fun o r => mm_ar h o fun ty n _ => (ty = .int ∨ ty = .boolean ∨ ty = .char) ∧ K (pc + len) L (.int (Int32.ofNat n) :: r) h kc ks)
  | .new _ => kc + 1 ≤ cap.1 ∧ ks + b ≤ cap.2 ∧ (L.all (mm_wfo h.length) && st.all (mm_wfv h.length) && h.all (mm_wfc h.length)) = true ∧ K (pc + len) L (.ref h.length :: st) (h ++ [.inr (a, df a)]) (kc + 1) (ks + b)
  | .newarray ty => mm_s1 st fun n r => ¬ n < 0 ∧ n.toNatClampNeg ≤ 1000000 ∧ kc + 1 ≤ cap.1 ∧ ks + n.toNatClampNeg ≤ cap.2 ∧ (L.all (mm_wfo h.length) && r.all (mm_wfv h.length) && h.all (mm_wfc h.length)) = true ∧ K (pc + len) L (.ref h.length :: r) (h ++ [.inl (newarray.typeOf ty, n.toNatClampNeg, fun _ => 0)]) (kc + 1) (ks + n.toNatClampNeg)
  | .invokespecial _ => (b = 0 → mm_sr st fun _ r => mm_cat r ∧ K (pc + len) L r h kc ks) ∧ (¬ b = 0 → (∃ o As, (st.take (mm_k (mi a))).reverse = .ref o :: As) ∧ mm_cl mi C cap K a (pc + len) L st h kc ks)
  | .invokevirtual _ => mm_rcv h (mm_ci (mi a)) (st.take (mm_k (mi a))).reverse ∧ mm_cl mi C cap K a (pc + len) L st h kc ks
  | .invokestatic _ => (b = 0 → mm_s2 st fun n dp r => mm_sr r fun o1 r => mm_s1 r fun sp r => mm_sr r fun o0 r => mm_ar h o0 fun ty n0 f => mm_ar h o1 fun ty1 n1 g => (ty = .int ∨ ty = .boolean ∨ ty = .char) ∧ ty1 = ty ∧ ¬ sp < 0 ∧ ¬ dp < 0 ∧ ¬ n < 0 ∧ sp.toNatClampNeg + n.toNatClampNeg ≤ n0 ∧ dp.toNatClampNeg + n.toNatClampNeg ≤ n1 ∧ (∀ i, i < n.toNatClampNeg → fits ty (.int (f (sp.toNatClampNeg + i))) = true) ∧ mm_cat r ∧ K (pc + len) L r (h.set o1 (.inl (ty, n1, va_cpy f g sp.toNatClampNeg dp.toNatClampNeg n.toNatClampNeg))) kc ks) ∧ (¬ b = 0 → mm_cl mi C cap K a (pc + len) L st h kc ks)
  | .return_ => st = [] ∧ mm_r (mi m) = none ∧ ∃ j, n0 ≤ j ∧ P (h.take j) none kc ks
  | .ireturn => mm_s1 st fun v r => r = [] ∧ (∃ ty, mm_r (mi m) = some ty ∧ narrow ty (.int v) = .int v) ∧ ∃ j, n0 ≤ j ∧ P (h.take j) (some (.int v)) kc ks
  | .areturn => mm_sr st fun v r => r = [] ∧ (∃ ty, mm_r (mi m) = some ty ∧ ((∃ n, ty = .object n) ∨ ∃ t, ty = .array t)) ∧ ∃ j, n0 ≤ j ∧ P (h.take j) (some (.ref v)) kc ks
  | _ => False
def mm_one (mi : Nat → mm_M) (tb : Nat → Nat → Option mm_E) (df : Nat → List Value) (C : Nat → mm_H → List Value → (mm_H → Option Value → Prop) → Prop) (xs : Nat × (Nat → Int32)) (cap : Nat × Nat) (P : mm_H → Option Value → Nat → Nat → Prop) (n0 m : Nat) (K : mm_K) (pc : Nat) (L : mm_L) (st : List Value) (h : mm_H) (kc ks : Nat) : Prop :=
  match tb m pc with
  | none => False
  | some E => mm_ex mi df C xs cap P n0 m K E.1 E.2.1 E.2.2.1 E.2.2.2.1 E.2.2.2.2 pc L st h kc ks
/-- the least that the instructions close -/
def mm_run (mi : Nat → mm_M) (tb : Nat → Nat → Option mm_E) (df : Nat → List Value) (C : Nat → mm_H → List Value → (mm_H → Option Value → Prop) → Prop) (xs : Nat × (Nat → Int32)) (cap : Nat × Nat) (P : mm_H → Option Value → Nat → Nat → Prop) (n0 m : Nat) : mm_K := fun pc L st h kc ks =>
  ∀ X : mm_K, (∀ pc L st h kc ks, mm_one mi tb df C xs cap P n0 m X pc L st h kc ks → X pc L st h kc ks) → X pc L st h kc ks
def mm_in0 (M : mm_M) (as : List Value) : mm_L := as.map some ++ List.replicate (mm_n M - as.length) none
/-- what method y comes to, with at most d frames on top of one another -/
def mm_call (mi : Nat → mm_M) (tb : Nat → Nat → Option mm_E) (df : Nat → List Value) (xs : Nat × (Nat → Int32)) : Nat → Nat → mm_H → List Value → (mm_H → Option Value → Prop) → Prop
  | 0 => fun _ _ _ _ => False
  | d + 1 => fun y h as P => as.length = mm_k (mi y) ∧ (as.all fun v => v.category == 1) = true ∧ mm_run mi tb df (mm_call mi tb df xs d) xs (mm_mc (mi y), mm_ms (mi y)) (fun h' r _ _ => P h' r) h.length y 0 (mm_in0 (mi y) as) [] h 0 0
def mm_Cm (C : Nat → mm_H → List Value → (mm_H → Option Value → Prop) → Prop) : Prop := ∀ y h as P P', (∀ h' v, P h' v → P' h' v) → C y h as P → C y h as P'
theorem mm_cl_mono {mi : Nat → mm_M} {C : Nat → mm_H → List Value → (mm_H → Option Value → Prop) → Prop} {cap : Nat × Nat} {K K' : mm_K} {y nx : Nat} {L : mm_L} {st : List Value} {h : mm_H} {kc ks : Nat} (hC : mm_Cm C) (hK : ∀ pc L st h kc ks, K pc L st h kc ks → K' pc L st h kc ks) (hE : mm_cl mi C cap K y nx L st h kc ks) : mm_cl mi C cap K' y nx L st h kc ks := by
  obtain ⟨e1, e2, e3, e4, e5, e6⟩ := hE
  exact ⟨e1, e2, e3, e4, e5, hC _ _ _ _ _ (fun h' v hv => hK _ _ _ _ _ _ hv) e6⟩
set_option maxHeartbeats 4000000 in
theorem mm_ex_mono {mi : Nat → mm_M} {df : Nat → List Value} {C : Nat → mm_H → List Value → (mm_H → Option Value → Prop) → Prop} {xs : Nat × (Nat → Int32)} {cap : Nat × Nat} {P P' : mm_H → Option Value → Nat → Nat → Prop} {n0 m : Nat} {K K' : mm_K} (hC : mm_Cm C) (hP : ∀ h v kc ks, P h v kc ks → P' h v kc ks) (hK : ∀ pc L st h kc ks, K pc L st h kc ks → K' pc L st h kc ks) {I : Instr} {len a b : Nat} {c : Int32} {pc : Nat} {L : mm_L} {st : List Value} {h : mm_H} {kc ks : Nat} (hE : mm_ex mi df C xs cap P n0 m K I len a b c pc L st h kc ks) : mm_ex mi df C xs cap P' n0 m K' I len a b c pc L st h kc ks := by
  cases I with
  | iconst z0 =>
    dsimp only [mm_ex] at hE ⊢
    exact hK _ _ _ _ _ _ hE
  | bipush z0 =>
    dsimp only [mm_ex] at hE ⊢
    exact hK _ _ _ _ _ _ hE
  | sipush z0 =>
    dsimp only [mm_ex] at hE ⊢
    exact hK _ _ _ _ _ _ hE
  | ldc z0 =>
    dsimp only [mm_ex] at hE ⊢
    exact hK _ _ _ _ _ _ hE
  | iload_n z0 =>
    dsimp only [mm_ex] at hE ⊢
    obtain ⟨x, h1, hE1⟩ := mm_li_inv hE
    show mm_li L a _
    unfold mm_li
    rw [h1]
    exact hK _ _ _ _ _ _ hE1
  | iload z0 =>
    dsimp only [mm_ex] at hE ⊢
    obtain ⟨x, h1, hE2⟩ := mm_li_inv hE
    show mm_li L a _
    unfold mm_li
    rw [h1]
    exact hK _ _ _ _ _ _ hE2
  | aload_n z0 =>
    dsimp only [mm_ex] at hE ⊢
    obtain ⟨v, h1, h2, hE3⟩ := mm_lr_inv hE
    show mm_lr L a _
    unfold mm_lr
    rw [h1]
    rcases h2 with ⟨x, rfl⟩ | ⟨x, rfl⟩ <;> exact hK _ _ _ _ _ _ hE3
  | aload z0 =>
    dsimp only [mm_ex] at hE ⊢
    obtain ⟨v, h1, h2, hE4⟩ := mm_lr_inv hE
    show mm_lr L a _
    unfold mm_lr
    rw [h1]
    rcases h2 with ⟨x, rfl⟩ | ⟨x, rfl⟩ <;> exact hK _ _ _ _ _ _ hE4
  | istore_n z0 =>
    dsimp only [mm_ex] at hE ⊢
    obtain ⟨x, r, rfl, hE5⟩ := mm_s1_inv hE
    exact hK _ _ _ _ _ _ hE5
  | istore z0 =>
    dsimp only [mm_ex] at hE ⊢
    obtain ⟨x, r, rfl, hE6⟩ := mm_s1_inv hE
    exact hK _ _ _ _ _ _ hE6
  | astore_n z0 =>
    dsimp only [mm_ex] at hE ⊢
    obtain ⟨x, r, rfl, hE7⟩ := mm_sr_inv hE
    exact hK _ _ _ _ _ _ hE7
  | astore z0 =>
    dsimp only [mm_ex] at hE ⊢
    obtain ⟨x, r, rfl, hE8⟩ := mm_sr_inv hE
    exact hK _ _ _ _ _ _ hE8
  | iinc z0 z1 =>
    dsimp only [mm_ex] at hE ⊢
    obtain ⟨x, h1, hE9⟩ := mm_li_inv hE
    show mm_li L a _
    unfold mm_li
    rw [h1]
    exact hK _ _ _ _ _ _ hE9
  | iadd =>
    dsimp only [mm_ex] at hE ⊢
    obtain ⟨y, x, r, rfl, hE10⟩ := mm_s2_inv hE
    exact hK _ _ _ _ _ _ hE10
  | isub =>
    dsimp only [mm_ex] at hE ⊢
    obtain ⟨y, x, r, rfl, hE11⟩ := mm_s2_inv hE
    exact hK _ _ _ _ _ _ hE11
  | imul =>
    dsimp only [mm_ex] at hE ⊢
    obtain ⟨y, x, r, rfl, hE12⟩ := mm_s2_inv hE
    exact hK _ _ _ _ _ _ hE12
  | iand =>
    dsimp only [mm_ex] at hE ⊢
    obtain ⟨y, x, r, rfl, hE13⟩ := mm_s2_inv hE
    exact hK _ _ _ _ _ _ hE13
  | ior =>
    dsimp only [mm_ex] at hE ⊢
    obtain ⟨y, x, r, rfl, hE14⟩ := mm_s2_inv hE
    exact hK _ _ _ _ _ _ hE14
  | ixor =>
    dsimp only [mm_ex] at hE ⊢
    obtain ⟨y, x, r, rfl, hE15⟩ := mm_s2_inv hE
    exact hK _ _ _ _ _ _ hE15
  | ishl =>
    dsimp only [mm_ex] at hE ⊢
    obtain ⟨y, x, r, rfl, hE16⟩ := mm_s2_inv hE
    exact hK _ _ _ _ _ _ hE16
  | ishr =>
    dsimp only [mm_ex] at hE ⊢
    obtain ⟨y, x, r, rfl, hE17⟩ := mm_s2_inv hE
    exact hK _ _ _ _ _ _ hE17
  | idiv =>
    dsimp only [mm_ex] at hE ⊢
    obtain ⟨y, x, r, rfl, h1, hE18⟩ := mm_s2_inv hE
    exact ⟨h1, hK _ _ _ _ _ _ hE18⟩
  | irem =>
    dsimp only [mm_ex] at hE ⊢
    obtain ⟨y, x, r, rfl, h1, hE19⟩ := mm_s2_inv hE
    exact ⟨h1, hK _ _ _ _ _ _ hE19⟩
  | ineg =>
    dsimp only [mm_ex] at hE ⊢
    obtain ⟨x, r, rfl, hE20⟩ := mm_s1_inv hE
    exact hK _ _ _ _ _ _ hE20
  | i2c =>
    dsimp only [mm_ex] at hE ⊢
    obtain ⟨x, r, rfl, hE21⟩ := mm_s1_inv hE
    exact hK _ _ _ _ _ _ hE21
  | dup =>
    dsimp only [mm_ex] at hE ⊢
    obtain ⟨v, r, rfl, h1, hE22⟩ := mm_sv_inv hE
    exact ⟨h1, hK _ _ _ _ _ _ hE22⟩
  | pop =>
    dsimp only [mm_ex] at hE ⊢
    obtain ⟨v, r, rfl, h1, hE23⟩ := mm_sv_inv hE
    exact ⟨h1, hK _ _ _ _ _ _ hE23⟩
  | dup_x1 =>
    dsimp only [mm_ex] at hE ⊢
    obtain ⟨v, r, rfl, hE24⟩ := mm_sv_inv hE
    obtain ⟨v2, r, rfl, h1, h2, hE25⟩ := mm_sv_inv hE24
    exact ⟨h1, h2, hK _ _ _ _ _ _ hE25⟩
  | dup2 =>
    dsimp only [mm_ex] at hE ⊢
    obtain ⟨v, r, rfl, hE26⟩ := mm_sv_inv hE
    obtain ⟨v2, r, rfl, h1, h2, hE27⟩ := mm_sv_inv hE26
    exact ⟨h1, h2, hK _ _ _ _ _ _ hE27⟩
  | dup_x2 =>
    dsimp only [mm_ex] at hE ⊢
    obtain ⟨v, r, rfl, hE28⟩ := mm_sv_inv hE
    obtain ⟨v2, r, rfl, hE29⟩ := mm_sv_inv hE28
    obtain ⟨v3, r, rfl, h1, h2, h3, hE30⟩ := mm_sv_inv hE29
    exact ⟨h1, h2, h3, hK _ _ _ _ _ _ hE30⟩
  | ifCond z0 z1 =>
    dsimp only [mm_ex] at hE ⊢
    obtain ⟨x, r, rfl, h1, h2⟩ := mm_s1_inv hE
    exact ⟨fun z => hK _ _ _ _ _ _ (h1 z), fun z => hK _ _ _ _ _ _ (h2 z)⟩
  | if_icmp z0 z1 =>
    dsimp only [mm_ex] at hE ⊢
    obtain ⟨y, x, r, rfl, h1, h2⟩ := mm_s2_inv hE
    exact ⟨fun z => hK _ _ _ _ _ _ (h1 z), fun z => hK _ _ _ _ _ _ (h2 z)⟩
  | goto z0 =>
    dsimp only [mm_ex] at hE ⊢
    exact hK _ _ _ _ _ _ hE
  | lookupswitch z0 z1 =>
    dsimp only [mm_ex] at hE ⊢
    obtain ⟨x, r, rfl, q, h1, hE31⟩ := mm_s1_inv hE
    exact ⟨q, h1, hK _ _ _ _ _ _ hE31⟩
  | tableswitch z0 z1 z2 z3 =>
    dsimp only [mm_ex] at hE ⊢
    obtain ⟨x, r, rfl, h1, h2⟩ := mm_s1_inv hE
    exact ⟨fun z => (h1 z).imp fun q hq => ⟨hq.1, hK _ _ _ _ _ _ hq.2⟩, fun z z' => (h2 z z').imp fun o ho => ho.imp fun q hq => ⟨hq.1, hq.2.1, hK _ _ _ _ _ _ hq.2.2⟩⟩
  | getfield z0 =>
    dsimp only [mm_ex] at hE ⊢
    obtain ⟨o, r, rfl, hE32⟩ := mm_sr_inv hE
    obtain ⟨ci, fs, h1, hE33⟩ := mm_ob_inv hE32
    obtain ⟨v, h2, h3, hE34⟩ := mm_fd_inv hE33
    dsimp only [mm_s1, mm_s2, mm_sr, mm_sx, mm_sv]
    show mm_ob h o _
    unfold mm_ob
    rw [h1]
    show mm_fd fs b _
    unfold mm_fd
    rw [h2]
    exact ⟨h3, hK _ _ _ _ _ _ hE34⟩
  | putfield z0 =>
    dsimp only [mm_ex] at hE ⊢
    obtain ⟨v, r, rfl, hE35⟩ := mm_sv_inv hE
    obtain ⟨o, r, rfl, hE36⟩ := mm_sr_inv hE35
    obtain ⟨ci, fs, h1, h2, h3, h4, hE37⟩ := mm_ob_inv hE36
    dsimp only [mm_s1, mm_s2, mm_sr, mm_sx, mm_sv]
    show mm_ob h o _
    unfold mm_ob
    rw [h1]
    exact ⟨h2, h3, h4, hK _ _ _ _ _ _ hE37⟩
  | iaload =>
    dsimp only [mm_ex] at hE ⊢
    obtain ⟨i, r, rfl, hE38⟩ := mm_s1_inv hE
    rcases mm_sx_inv hE38 with ⟨z, r, rfl, h1, hE39⟩ | ⟨o, r, rfl, hE39⟩
    · exact ⟨h1, hK _ _ _ _ _ _ hE39⟩
    · obtain ⟨ty, n, f, h1, h2, h3, hE40⟩ := mm_ar_inv hE39
      dsimp only [mm_s1, mm_s2, mm_sr, mm_sx, mm_sv]
      show mm_ar h o _
      unfold mm_ar
      rw [h1]
      exact ⟨h2, h3, hK _ _ _ _ _ _ hE40⟩
  | baload =>
    dsimp only [mm_ex] at hE ⊢
    obtain ⟨i, r, rfl, hE41⟩ := mm_s1_inv hE
    obtain ⟨o, r, rfl, hE42⟩ := mm_sr_inv hE41
    obtain ⟨ty, n, f, h1, h2, h3, hE43⟩ := mm_ar_inv hE42
    dsimp only [mm_s1, mm_s2, mm_sr, mm_sx, mm_sv]
    show mm_ar h o _
    unfold mm_ar
    rw [h1]
    exact ⟨h2, h3, hK _ _ _ _ _ _ hE43⟩
  | caload =>
    dsimp only [mm_ex] at hE ⊢
    obtain ⟨i, r, rfl, hE44⟩ := mm_s1_inv hE
    obtain ⟨o, r, rfl, hE45⟩ := mm_sr_inv hE44
    obtain ⟨ty, n, f, h1, h2, h3, hE46⟩ := mm_ar_inv hE45
    dsimp only [mm_s1, mm_s2, mm_sr, mm_sx, mm_sv]
    show mm_ar h o _
    unfold mm_ar
    rw [h1]
    exact ⟨h2, h3, hK _ _ _ _ _ _ hE46⟩
  | iastore =>
    dsimp only [mm_ex] at hE ⊢
    obtain ⟨x, i, r, rfl, hE47⟩ := mm_s2_inv hE
    obtain ⟨o, r, rfl, hE48⟩ := mm_sr_inv hE47
    obtain ⟨ty, n, f, h1, h2, h3, hE49⟩ := mm_ar_inv hE48
    dsimp only [mm_s1, mm_s2, mm_sr, mm_sx, mm_sv]
    show mm_ar h o _
    unfold mm_ar
    rw [h1]
    exact ⟨h2, h3, hK _ _ _ _ _ _ hE49⟩
  | bastore =>
    dsimp only [mm_ex] at hE ⊢
    obtain ⟨x, i, r, rfl, hE50⟩ := mm_s2_inv hE
    obtain ⟨o, r, rfl, hE51⟩ := mm_sr_inv hE50
    obtain ⟨ty, n, f, h1, h2, h3, hE52⟩ := mm_ar_inv hE51
    dsimp only [mm_s1, mm_s2, mm_sr, mm_sx, mm_sv]
    show mm_ar h o _
    unfold mm_ar
    rw [h1]
    exact ⟨h2, h3, hK _ _ _ _ _ _ hE52⟩
  | castore =>
    dsimp only [mm_ex] at hE ⊢
    obtain ⟨x, i, r, rfl, hE53⟩ := mm_s2_inv hE
    obtain ⟨o, r, rfl, hE54⟩ := mm_sr_inv hE53
    obtain ⟨ty, n, f, h1, h2, h3, hE55⟩ := mm_ar_inv hE54
    dsimp only [mm_s1, mm_s2, mm_sr, mm_sx, mm_sv]
    show mm_ar h o _
    unfold mm_ar
    rw [h1]
    exact ⟨h2, h3, hK _ _ _ _ _ _ hE55⟩
  | arraylength =>
    dsimp only [mm_ex] at hE ⊢
    rcases mm_sx_inv hE with ⟨z, r, rfl, hE56⟩ | ⟨o, r, rfl, hE56⟩
    · exact hK _ _ _ _ _ _ hE56
    · obtain ⟨ty, n, f, h1, h2, hE57⟩ := mm_ar_inv hE56
      dsimp only [mm_s1, mm_s2, mm_sr, mm_sx, mm_sv]
      show mm_ar h o _
      unfold mm_ar
      rw [h1]
      exact ⟨h2, hK _ _ _ _ _ _ hE57⟩
  | new z0 =>
    dsimp only [mm_ex] at hE ⊢
    obtain ⟨h1, h2, h3, hE58⟩ := hE
    exact ⟨h1, h2, h3, hK _ _ _ _ _ _ hE58⟩
  | newarray z0 =>
    dsimp only [mm_ex] at hE ⊢
    obtain ⟨n, r, rfl, h1, h2, h3, h4, h5, hE59⟩ := mm_s1_inv hE
    exact ⟨h1, h2, h3, h4, h5, hK _ _ _ _ _ _ hE59⟩
  | invokespecial z0 =>
    dsimp only [mm_ex] at hE ⊢
    obtain ⟨h1, h2⟩ := hE
    refine ⟨fun z => ?_, fun z => ⟨(h2 z).1, mm_cl_mono hC hK (h2 z).2⟩⟩
    obtain ⟨o, r, rfl, h3, hE60⟩ := mm_sr_inv (h1 z)
    exact ⟨h3, hK _ _ _ _ _ _ hE60⟩
  | invokevirtual z0 =>
    dsimp only [mm_ex] at hE ⊢
    exact ⟨hE.1, mm_cl_mono hC hK hE.2⟩
  | invokestatic z0 =>
    dsimp only [mm_ex] at hE ⊢
    obtain ⟨h1, h2⟩ := hE
    refine ⟨fun z => ?_, fun z => mm_cl_mono hC hK (h2 z)⟩
    obtain ⟨n, dp, r, rfl, hE61⟩ := mm_s2_inv (h1 z)
    obtain ⟨o1, r, rfl, hE62⟩ := mm_sr_inv hE61
    obtain ⟨sp, r, rfl, hE63⟩ := mm_s1_inv hE62
    obtain ⟨o0, r, rfl, hE64⟩ := mm_sr_inv hE63
    obtain ⟨ty, m0, f, h3, hE65⟩ := mm_ar_inv hE64
    obtain ⟨ty1, m1, g, h4, hE66⟩ := mm_ar_inv hE65
    obtain ⟨j1, j2, j3, j4, j5, j6, j7, j8, j9, hE67⟩ := hE66
    dsimp only [mm_s1, mm_s2, mm_sr, mm_sx, mm_sv]
    show mm_ar h o0 _
    unfold mm_ar
    rw [h3]
    dsimp only
    rw [h4]
    exact ⟨j1, j2, j3, j4, j5, j6, j7, j8, j9, hK _ _ _ _ _ _ hE67⟩
  | return_ =>
    dsimp only [mm_ex] at hE ⊢
    obtain ⟨h1, h2, j, h3, h4⟩ := hE
    exact ⟨h1, h2, j, h3, hP _ _ _ _ h4⟩
  | ireturn =>
    dsimp only [mm_ex] at hE ⊢
    obtain ⟨x, r, rfl, h1, h2, j, h3, h4⟩ := mm_s1_inv hE
    exact ⟨h1, h2, j, h3, hP _ _ _ _ h4⟩
  | areturn =>
    dsimp only [mm_ex] at hE ⊢
    obtain ⟨x, r, rfl, h1, h2, j, h3, h4⟩ := mm_sr_inv hE
    exact ⟨h1, h2, j, h3, hP _ _ _ _ h4⟩
  | _ => exact hE
theorem mm_one_mono {mi : Nat → mm_M} {tb : Nat → Nat → Option mm_E} {df : Nat → List Value} {C : Nat → mm_H → List Value → (mm_H → Option Value → Prop) → Prop} {xs : Nat × (Nat → Int32)} {cap : Nat × Nat} {P P' : mm_H → Option Value → Nat → Nat → Prop} {n0 m : Nat} {K K' : mm_K} (hC : mm_Cm C) (hP : ∀ h v kc ks, P h v kc ks → P' h v kc ks) (hK : ∀ pc L st h kc ks, K pc L st h kc ks → K' pc L st h kc ks) {pc : Nat} {L : mm_L} {st : List Value} {h : mm_H} {kc ks : Nat} (hE : mm_one mi tb df C xs cap P n0 m K pc L st h kc ks) : mm_one mi tb df C xs cap P' n0 m K' pc L st h kc ks := by
  unfold mm_one at hE ⊢
  split at hE
  · exact hE.elim
  · exact mm_ex_mono hC hP hK hE
theorem mm_run_in {mi : Nat → mm_M} {tb : Nat → Nat → Option mm_E} {df : Nat → List Value} {C : Nat → mm_H → List Value → (mm_H → Option Value → Prop) → Prop} {xs : Nat × (Nat → Int32)} {cap : Nat × Nat} {P : mm_H → Option Value → Nat → Nat → Prop} {n0 m : Nat} (hC : mm_Cm C) {pc : Nat} {L : mm_L} {st : List Value} {h : mm_H} {kc ks : Nat} (hE : mm_one mi tb df C xs cap P n0 m (mm_run mi tb df C xs cap P n0 m) pc L st h kc ks) : mm_run mi tb df C xs cap P n0 m pc L st h kc ks :=
  fun X hX => hX _ _ _ _ _ _ (mm_one_mono hC (fun _ _ _ _ h => h) (fun _ _ _ _ _ _ hr => hr X hX) hE)
theorem mm_run_mono {mi : Nat → mm_M} {tb : Nat → Nat → Option mm_E} {df : Nat → List Value} {C : Nat → mm_H → List Value → (mm_H → Option Value → Prop) → Prop} {xs : Nat × (Nat → Int32)} {cap : Nat × Nat} {P P' : mm_H → Option Value → Nat → Nat → Prop} {n0 m : Nat} (hC : mm_Cm C) (hP : ∀ h v kc ks, P h v kc ks → P' h v kc ks) {pc : Nat} {L : mm_L} {st : List Value} {h : mm_H} {kc ks : Nat} (hE : mm_run mi tb df C xs cap P n0 m pc L st h kc ks) : mm_run mi tb df C xs cap P' n0 m pc L st h kc ks :=
  fun X hX => hE X (fun _ _ _ _ _ _ h1 => hX _ _ _ _ _ _ (mm_one_mono hC hP (fun _ _ _ _ _ _ h => h) h1))
theorem mm_call_mono {mi : Nat → mm_M} {tb : Nat → Nat → Option mm_E} {df : Nat → List Value} {xs : Nat × (Nat → Int32)} : ∀ d, mm_Cm (mm_call mi tb df xs d)
  | 0, _, _, _, _, _, _, h => h
  | d + 1, _, _, _, _, _, hP, h => ⟨h.1, h.2.1, mm_run_mono (mm_call_mono d) (fun h' v _ _ hv => hP h' v hv) h.2.2⟩
end
section
/-! what the tables must say, as a check that a program decides -/
abbrev mm_F : Type := String × Nat × String × String × String × String
abbrev mm_N : Type := String × Nat × MethodName × String
def mm_okc (WS : List Cond) (df : List Value) (q : vw_C) : Bool :=
  (List.range q.2.2).all (fun k => (parseFieldDescriptor (q.2.1 k).2.2.1).isSome && decide (u_lay q.1 q.2.1 k ∈ WS) && decide (defaultValue ((parseFieldDescriptor (q.2.1 k).2.2.1).getD .int) = vp_V df k)) &&
  (List.range q.2.2).all (fun a => (List.range q.2.2).all (fun b => decide (a = b) || decide ((q.2.1 a).2.1 ≠ (q.2.1 b).2.1))) &&
  df.all (fun v => decide (v = .int 0) || decide (v = .null))
def mm_lk (WS : List Cond) (nF : List mm_F) (own : String) (i : Nat) (f : String × String × String × Bool) : Bool :=
  decide (Cond.fieldLink own i f.1 f.2.1 f.2.2.1 ∈ WS) || nF.any (fun q => decide (q.1 = own ∧ q.2.1 = i ∧ q.2.2.1 = f.1 ∧ q.2.2.2.1 = f.2.1 ∧ q.2.2.2.2.1 = f.2.2.1))
def mm_ty (c : Int32) (ty : FieldType) : Bool := match ty with
  | .int => decide (c = 0)
  | .boolean => decide (c = 1)
  | .object _ => decide (c = 3)
  | .array _ => decide (c = 3)
  | _ => false
def mm_fl (cl : List vw_C) (WS : List Cond) (nF : List mm_F) (own : String) (i ci k : Nat) : Bool := match cl[ci]? with
  | none => false
  | some q => decide (k < q.2.2) && mm_lk WS nF own i (q.2.1 k)
def mm_fp (cl : List vw_C) (WS : List Cond) (nF : List mm_F) (own nm : String) (i ci k : Nat) (c : Int32) : Bool := match cl[ci]? with
  | none => false
  | some q => decide (k < q.2.2) && (match parseFieldDescriptor (q.2.1 k).2.2.1 with
    | none => false
    | some ty => mm_ty c ty) && (if (q.2.1 k).2.2.2 = true then decide (nm = "<init>") && decide ((q.2.1 k).1 = own) && decide (Cond.fieldLink own i (q.2.1 k).1 (q.2.1 k).2.1 (q.2.1 k).2.2.1 ∈ WS) else mm_lk WS nF own i (q.2.1 k))
def mm_ml (WS : List Cond) (nM : List mm_N) (own : String) (i : Nat) (y : MethodName) : Bool :=
  decide (Cond.methodLink own i y ∈ WS) || nM.any (fun q => decide (q.1 = own ∧ q.2.1 = i ∧ q.2.2.1 = y))
def mm_my (WS : List Cond) (y : MethodName) (k : Nat) : Bool :=
  decide (y.cls ≠ "java/lang/invoke/MethodHandle") && decide (y.cls ≠ "java/lang/invoke/VarHandle") && decide ((parseMethodDescriptor y.desc).map (fun d => d.parameters.length) = some k) && decide (Cond.initialized y.cls ∈ WS)
def mm_sd (mi : Nat → mm_M) (cl : List vw_C) (WS : List Cond) (nF : List mm_F) (nM : List mm_N) (nm m pc : Nat) (E : mm_E) : Bool := match E.1 with
  | .iconst n => decide (E.2.1 = 1 ∧ Int32.ofInt n = E.2.2.2.2)
  | .bipush n => decide (E.2.1 = 2 ∧ (Int8.ofInt n).toInt32 = E.2.2.2.2)
  | .sipush n => decide (E.2.1 = 3 ∧ (Int16.ofInt n).toInt32 = E.2.2.2.2)
  | .ldc i => decide (E.2.1 = 2) && decide (Cond.constant (mm_y (mi m)).cls i E.2.2.2.2 ∈ WS)
  | .iload_n k => decide (E.2.1 = 1 ∧ (k : Nat) = E.2.2.1)
  | .iload k => decide (E.2.1 = 2 ∧ k = E.2.2.1)
  | .aload_n k => decide (E.2.1 = 1 ∧ (k : Nat) = E.2.2.1)
  | .aload k => decide (E.2.1 = 2 ∧ k = E.2.2.1)
  | .istore_n k => decide (E.2.1 = 1 ∧ (k : Nat) = E.2.2.1 ∧ E.2.2.1 < mm_n (mi m))
  | .istore k => decide (E.2.1 = 2 ∧ k = E.2.2.1 ∧ E.2.2.1 < mm_n (mi m))
  | .astore_n k => decide (E.2.1 = 1 ∧ (k : Nat) = E.2.2.1 ∧ E.2.2.1 < mm_n (mi m))
  | .astore k => decide (E.2.1 = 2 ∧ k = E.2.2.1 ∧ E.2.2.1 < mm_n (mi m))
  | .iinc k n => decide (E.2.1 = 3 ∧ k = E.2.2.1 ∧ E.2.2.1 < mm_n (mi m) ∧ Int32.ofInt n = E.2.2.2.2)
  | .ifCond _ off => decide (E.2.1 = 3 ∧ (pc : Int) + off = (E.2.2.1 : Int))
  | .if_icmp _ off => decide (E.2.1 = 3 ∧ (pc : Int) + off = (E.2.2.1 : Int))
  | .goto off => decide (E.2.1 = 3 ∧ (pc : Int) + off = (E.2.2.1 : Int))
  | .lookupswitch _ ps => (ps.toList.zip (ps.toList.drop 1)).all (fun (a, next) => a.1 < next.1)
  | .tableswitch _ _ _ _ => true
  | .getfield i => decide (E.2.1 = 3) && mm_fl cl WS nF (mm_y (mi m)).cls i E.2.2.1 E.2.2.2.1
  | .putfield i => decide (E.2.1 = 3) && mm_fp cl WS nF (mm_y (mi m)).cls (mm_y (mi m)).name i E.2.2.1 E.2.2.2.1 E.2.2.2.2
  | .new i => decide (E.2.1 = 3) && (match cl[E.2.2.1]? with
    | none => false
    | some q => decide (q.2.2 = E.2.2.2.1) && decide (Cond.classLink (mm_y (mi m)).cls i q.1 ∈ WS) && decide (Cond.instantiable q.1 q.2.2 ∈ WS) && decide (Cond.initialized q.1 ∈ WS))
  | .newarray ty => decide (E.2.1 = 2) && (decide (newarray.typeOf ty = .int) || decide (newarray.typeOf ty = .boolean) || decide (newarray.typeOf ty = .char)) && decide (Cond.arrayClass (newarray.typeOf ty) ∈ WS)
  | .invokespecial i => decide (E.2.1 = 3) && (if E.2.2.2.1 = 0 then decide (Cond.methodLink (mm_y (mi m)).cls i objectInit ∈ WS) && decide (Cond.instanceMethod objectInit ∈ WS)
    else decide (E.2.2.1 < nm) && decide ((mm_y (mi E.2.2.1)).name = "<init>") && decide (mm_r (mi E.2.2.1) = none) && decide (0 < mm_k (mi E.2.2.1)) && mm_ml WS nM (mm_y (mi m)).cls i (mm_y (mi E.2.2.1)) && mm_my WS (mm_y (mi E.2.2.1)) (mm_k (mi E.2.2.1) - 1) && decide (Cond.instanceMethod (mm_y (mi E.2.2.1)) ∈ WS))
  | .invokevirtual i => decide (E.2.1 = 3) && decide (E.2.2.1 < nm) && decide (0 < mm_k (mi E.2.2.1)) && mm_ml WS nM (mm_y (mi m)).cls i (mm_y (mi E.2.2.1)) && mm_my WS (mm_y (mi E.2.2.1)) (mm_k (mi E.2.2.1) - 1) && decide (Cond.instanceMethod (mm_y (mi E.2.2.1)) ∈ WS) && decide (Cond.selects (mm_y (mi E.2.2.1)).cls (mm_y (mi E.2.2.1)) (mm_y (mi E.2.2.1)) ∈ WS) && (match cl[mm_ci (mi E.2.2.1)]? with
    | none => false
    | some q => decide (q.1 = (mm_y (mi E.2.2.1)).cls))
  | .invokestatic i => decide (E.2.1 = 3) && (if E.2.2.2.1 = 0 then decide (Cond.methodLink (mm_y (mi m)).cls i arraycopyName ∈ WS) && decide (Cond.native arraycopyName ∈ WS) && decide (Cond.static arraycopyName ∈ WS) && decide (Cond.initialized "java/lang/System" ∈ WS)
    else decide (E.2.2.1 < nm) && mm_ml WS nM (mm_y (mi m)).cls i (mm_y (mi E.2.2.1)) && mm_my WS (mm_y (mi E.2.2.1)) (mm_k (mi E.2.2.1)) && decide (Cond.static (mm_y (mi E.2.2.1)) ∈ WS))
  | _ => decide (E.2.1 = 1)
def mm_ok (mi : Nat → mm_M) (cl : List vw_C) (WS : List Cond) (nF : List mm_F) (nM : List mm_N) (nm m pc : Nat) (E : mm_E) : Bool :=
  decide (decode (mm_b (mi m)) pc = .ok (E.1, E.2.1)) && mm_sd mi cl WS nF nM nm m pc E
def mm_okm (M : mm_M) : Bool := plainName (mm_y M).cls && decide (mm_n M ≤ 41) && decide (mm_k M ≤ mm_n M)
/-- the words of method y -/
def mm_cw (M : mm_M) : Cond := .code (mm_y M) (mm_b M) (mm_n M) (mm_r M)
def mm_ws (mi : Nat → mm_M) (WS : List Cond) (nm y : Nat) : List Cond := mm_cw (mi y) :: ((List.range nm).map (fun i => mm_cw (mi i)) ++ (Cond.code objectInit ⟨#[0xb1]⟩ 1 none :: WS))
/-! values, cells, locals: small facts -/
theorem mm_v_cat (b : Nat) (φ : Nat → Nat) (v : Value) : (mm_v b φ v).category = v.category := by cases v <;> rfl
theorem mm_v_ext {b n : Nat} {φ φ' : Nat → Nat} {v : Value} (hw : mm_wfv n v = true) (hp : ∀ k, k < n → φ' k = φ k) : mm_v b φ' v = mm_v b φ v := by
  cases v with
  | ref k =>
    have hk : k < n := Nat.le_of_ble_eq_true hw
    show Value.ref (φ' k) = Value.ref (φ k)
    rw [hp k hk]
  | _ => rfl
theorem mm_vs_ext {b n : Nat} {φ φ' : Nat → Nat} {l : List Value} (hw : l.all (mm_wfv n) = true) (hp : ∀ k, k < n → φ' k = φ k) : l.map (mm_v b φ') = l.map (mm_v b φ) :=
  List.map_congr_left fun v hv => mm_v_ext (List.all_eq_true.mp hw v hv) hp
theorem mm_c_ext {b n : Nat} {φ φ' : Nat → Nat} {dA : FieldType → ClassId} {c : mm_C} (hw : mm_wfc n c = true) (hp : ∀ k, k < n → φ' k = φ k) : mm_c b φ' dA c = mm_c b φ dA c := by
  cases c with
  | inl q => rfl
  | inr q =>
    show Sum.inr (q.1, q.2.map (mm_v b φ')) = Sum.inr (q.1, q.2.map (mm_v b φ))
    rw [mm_vs_ext hw hp]
theorem mm_w_get {b : Nat} {φ : Nat → Nat} {dA : FieldType → ClassId} {h : mm_H} (k : Nat) : (mm_w b φ dA h)[k]? = (h[k]?).map (fun c => (φ k, mm_c b φ dA c)) := by
  simp [mm_w]
theorem mm_w_len {b : Nat} {φ : Nat → Nat} {dA : FieldType → ClassId} {h : mm_H} : (mm_w b φ dA h).length = h.length := by simp [mm_w]
theorem mm_w_at {b : Nat} {φ : Nat → Nat} {dA : FieldType → ClassId} {h : mm_H} {o : Nat} {c : mm_C} (ho : h[o]? = some c) : (mm_w b φ dA h)[o]? = some (φ o, mm_c b φ dA c) := by
  rw [mm_w_get, ho]; rfl
theorem mm_w_set {b : Nat} {φ : Nat → Nat} {dA : FieldType → ClassId} {h : mm_H} {o : Nat} {c : mm_C} : (mm_w b φ dA h).set o (φ o, mm_c b φ dA c) = mm_w b φ dA (h.set o c) := by
  apply List.ext_getElem?
  intro k
  rw [mm_w_get, List.getElem?_set, List.getElem?_set, mm_w_get, mm_w_len]
  by_cases hk : o = k
  · subst hk
    by_cases hl : o < h.length
    · simp [hl]
    · simp [hl]
  · simp [hk]
theorem mm_w_app {b q : Nat} {φ : Nat → Nat} {dA : FieldType → ClassId} {h : mm_H} {c : mm_C} {e : va_E} (hw : h.all (mm_wfc h.length) = true) (hc : ∀ φ', mm_c b φ' dA c = e) : mm_w b (fun k => if k = h.length then q else φ k) dA (h ++ [c]) = mm_w b φ dA h ++ [(q, e)] := by
  apply List.ext_getElem?
  intro k
  rw [mm_w_get]
  by_cases hk : k < h.length
  · rw [List.getElem?_append_left hk, List.getElem?_append_left (by rw [mm_w_len]; exact hk), mm_w_get]
    cases hx : h[k]? with
    | none => rfl
    | some x =>
      have hx2 : mm_wfc h.length x = true := List.all_eq_true.mp hw x (List.mem_of_getElem? hx)
      show some (_, _) = some (_, _)
      rw [mm_c_ext hx2 (φ := φ) (fun j hj => if_neg (Nat.ne_of_lt hj)), if_neg (Nat.ne_of_lt hk)]
  · rw [List.getElem?_append_right (by omega), List.getElem?_append_right (by rw [mm_w_len]; omega), mm_w_len]
    by_cases hk2 : k = h.length
    · subst hk2
      simp [hc]
    · have hz : k - h.length ≠ 0 := by omega
      obtain ⟨j, hj⟩ : ∃ j, k - h.length = j + 1 := ⟨k - h.length - 1, by omega⟩
      rw [hj]
      rfl
theorem mm_l_mem {b : Nat} {φ : Nat → Nat} {L : mm_L} {q : Nat × Value} : q ∈ mm_l b φ L ↔ ∃ v, L[q.1]? = some (some v) ∧ v.category = 1 ∧ q.2 = mm_v b φ v := by
  obtain ⟨i, w⟩ := q
  simp only [mm_l, List.mem_filterMap, List.mem_range]
  constructor
  · rintro ⟨j, hj, h⟩
    split at h
    · rename_i v hv
      split at h
      · rename_i hc
        cases h
        exact ⟨v, hv, hc, rfl⟩
      · cases h
    · cases h
  · rintro ⟨v, hv, hc, hw⟩
    have hi : i < L.length := (List.getElem?_eq_some_iff.mp hv).1
    refine ⟨i, hi, ?_⟩
    rw [hv, hw]
    simp [hc]
theorem mm_lsub {ls : Array Slot} {n : Nat} {l1 l2 : List (Nat × Value)} (h : lv_has ls n l1) (hs : ∀ q ∈ l2, q ∈ l1) : lv_has ls n l2 := ⟨h.1, h.2.1, fun q hq => h.2.2 q (hs q hq)⟩
theorem mm_lget {b : Nat} {φ : Nat → Nat} {L : mm_L} {ls : Array Slot} {n a : Nat} {v : Value} (h : lv_has ls n (mm_l b φ L)) (hv : L[a]? = some (some v)) (hc : v.category = 1) : ls[a]? = some (.val (mm_v b φ v)) := h.2.2 (a, mm_v b φ v) (mm_l_mem.mpr ⟨v, hv, hc, rfl⟩)
theorem mm_lset {b : Nat} {φ : Nat → Nat} {L : mm_L} {a : Nat} {x : Value} : ∀ q ∈ mm_l b φ (L.set a (some x)), q ∈ (a, mm_v b φ x) :: (mm_l b φ L).filter (fun q => !(q.1 == a) && !(q.1 + 1 == a && q.2.category == 2)) := by
  intro q hq
  obtain ⟨v, hv, hc, hw⟩ := mm_l_mem.mp hq
  by_cases h : a = q.1
  · rw [List.getElem?_set, if_pos h] at hv
    split at hv
    · have e : x = v := Option.some.inj (Option.some.inj hv)
      subst e
      have : q = (a, mm_v b φ x) := Prod.ext h.symm hw
      rw [this]
      exact List.mem_cons_self
    · cases hv
  · rw [List.getElem?_set, if_neg h] at hv
    refine List.mem_cons_of_mem _ (List.mem_filter.mpr ⟨mm_l_mem.mpr ⟨v, hv, hc, hw⟩, ?_⟩)
    have hc2 : q.2.category = 1 := by rw [hw, mm_v_cat]; exact hc
    have h2 : ¬ q.1 = a := fun e => h e.symm
    simp [h2, hc2]
theorem mm_l_ext {b n : Nat} {φ φ' : Nat → Nat} {L : mm_L} (hw : L.all (mm_wfo n) = true) (hp : ∀ k, k < n → φ' k = φ k) : ∀ q ∈ mm_l b φ' L, q ∈ mm_l b φ L := by
  intro q hq
  obtain ⟨v, hv, hc, hw2⟩ := mm_l_mem.mp hq
  have h1 : mm_wfo n (some v) = true := List.all_eq_true.mp hw _ (List.mem_of_getElem? hv)
  exact mm_l_mem.mpr ⟨v, hv, hc, by rw [hw2, mm_v_ext h1 hp]⟩
theorem mm_in0_args {b : Nat} {φ : Nat → Nat} {as : List Value} {j : Nat} (hc : (as.all fun v => v.category == 1) = true) : ∀ q ∈ mm_l b φ (as.map some ++ List.replicate j none), q ∈ lv_args 0 (as.map (mm_v b φ)) := by
  have key : ∀ (as : List Value) (i : Nat), (as.all fun v => v.category == 1) = true → ∀ (k : Nat) (v : Value), as[k]? = some v → (i + k, mm_v b φ v) ∈ lv_args i (as.map (mm_v b φ)) := by
    intro as
    induction as with
    | nil => intro i _ k v h; simp at h
    | cons w ws ih =>
      intro i hc k v h
      simp only [List.all_cons, Bool.and_eq_true, beq_iff_eq] at hc
      rw [List.map_cons, lv_args, mm_v_cat, if_neg (by rw [hc.1]; decide)]
      cases k with
      | zero =>
        simp at h
        subst h
        exact List.mem_cons_self
      | succ k =>
        have h2 : ws[k]? = some v := by simpa using h
        have h3 := ih (i + 1) hc.2 k v h2
        rw [show i + (k + 1) = i + 1 + k by omega]
        exact List.mem_cons_of_mem _ h3
  intro q hq
  obtain ⟨v, hv, hcv, hw⟩ := mm_l_mem.mp hq
  have h1 : as[q.1]? = some v := by
    by_cases hl : q.1 < as.length
    · rw [List.getElem?_append_left (by simpa using hl), List.getElem?_map] at hv
      cases hx : as[q.1]? with
      | none => rw [hx] at hv; cases hv
      | some x => rw [hx] at hv; exact congrArg some (Option.some.inj (Option.some.inj hv))
    · rw [List.getElem?_append_right (by simpa using hl)] at hv
      have := List.eq_of_mem_replicate (List.mem_of_getElem? hv)
      cases this
  have h2 := key as 0 hc q.1 v h1
  rw [Nat.zero_add, ← hw] at h2
  exact h2
theorem mm_in0_len {b : Nat} {φ : Nat → Nat} {as : List Value} (hc : (as.all fun v => v.category == 1) = true) : (lg_sl (as.map (mm_v b φ))).length = as.length := by
  induction as with
  | nil => rfl
  | cons w ws ih =>
    simp only [List.all_cons, Bool.and_eq_true, beq_iff_eq] at hc
    have h1 : (mm_v b φ w).category = 1 := by rw [mm_v_cat]; exact hc.1
    have h2 : lg_sl ((w :: ws).map (mm_v b φ)) = .val (mm_v b φ w) :: lg_sl (ws.map (mm_v b φ)) := by
      simp [lg_sl, h1]
    rw [h2, List.length_cons, ih hc.2, List.length_cons]
theorem mm_cat_v {b : Nat} {φ : Nat → Nat} {st : List Value} (h : mm_cat st) : ((st.map (mm_v b φ)).map fun v => v.category).sum ≤ 8 := by
  have e : (st.map (mm_v b φ)).map (fun v => v.category) = st.map fun v => v.category := by
    rw [List.map_map]
    exact List.map_congr_left fun v _ => mm_v_cat b φ v
  rw [e]
  exact h
end
section
/-! the tables, written by a program out of javap's listing and the tables' words -/
def tF_0 : u_T := fun k => match k with
  | 0 => ("ReplayedBeans", "kinds", "LReplayedBeans$Kinds;", true)
  | 1 => ("ReplayedBeans", "beans", "LReplayedBeans$Beans;", true)
  | 2 => ("ReplayedBeans", "reach", "LReplayedBeans$Reach;", true)
  | 3 => ("ReplayedBeans", "pairing", "LReplayedBeans$Pairing;", true)
  | 4 => ("ReplayedBeans", "text", "LReplayedBeans$Text;", true)
  | 5 => ("ReplayedBeans", "writer", "LReplayedBeans$Writer;", true)
  | 6 => ("ReplayedBeans", "grammar", "LReplayedBeans$Grammar;", true)
  | _ => ("ReplayedBeans", "replay", "LReplayedBeans$Replay;", true)
def tF_1 : u_T := fun k => match k with
  | 0 => ("ReplayedBeans$Kinds", "defined", "[Z", true)
  | 1 => ("ReplayedBeans$Kinds", "numbers", "[I", true)
  | 2 => ("ReplayedBeans$Kinds", "links", "[I", true)
  | 3 => ("ReplayedBeans$Kinds", "first", "[I", true)
  | 4 => ("ReplayedBeans$Kinds", "least", "[I", true)
  | _ => ("ReplayedBeans$Kinds", "greatest", "[I", true)
def tF_2 : u_T := fun k => match k with
  | 0 => ("ReplayedBeans$Beans", "kinds", "LReplayedBeans$Kinds;", true)
  | 1 => ("ReplayedBeans$Beans", "kindRow", "[I", true)
  | 2 => ("ReplayedBeans$Beans", "numberRow", "[I", true)
  | 3 => ("ReplayedBeans$Beans", "linkRow", "[I", true)
  | _ => ("ReplayedBeans$Beans", "size", "I", false)
def tF_3 : u_T := fun k => match k with
  | 0 => ("ReplayedBeans$Reach", "beans", "LReplayedBeans$Beans;", true)
  | 1 => ("ReplayedBeans$Reach", "order", "[I", true)
  | 2 => ("ReplayedBeans$Reach", "seen", "[Z", true)
  | _ => ("ReplayedBeans$Reach", "found", "I", false)
def tF_4 : u_T := fun k => match k with
  | 0 => ("ReplayedBeans$Pairing", "beans", "LReplayedBeans$Beans;", true)
  | 1 => ("ReplayedBeans$Pairing", "order", "[I", true)
  | 2 => ("ReplayedBeans$Pairing", "rightOf", "[I", true)
  | 3 => ("ReplayedBeans$Pairing", "leftOf", "[I", true)
  | _ => ("ReplayedBeans$Pairing", "paired", "I", false)
def tF_5 : u_T := fun k => match k with
  | 0 => ("ReplayedBeans$Text", "characters", "[C", true)
  | _ => ("ReplayedBeans$Text", "size", "I", false)
def tF_6 : u_T := fun k => match k with
  | 0 => ("ReplayedBeans$Writer", "kinds", "LReplayedBeans$Kinds;", true)
  | 1 => ("ReplayedBeans$Writer", "beans", "LReplayedBeans$Beans;", true)
  | 2 => ("ReplayedBeans$Writer", "reach", "LReplayedBeans$Reach;", true)
  | 3 => ("ReplayedBeans$Writer", "draft", "LReplayedBeans$Text;", true)
  | 4 => ("ReplayedBeans$Writer", "linksTo", "[I", true)
  | 5 => ("ReplayedBeans$Writer", "idOf", "[I", true)
  | 6 => ("ReplayedBeans$Writer", "begun", "[Z", true)
  | 7 => ("ReplayedBeans$Writer", "root", "I", false)
  | 8 => ("ReplayedBeans$Writer", "ids", "I", false)
  | 9 => ("ReplayedBeans$Writer", "tooDeep", "Z", false)
  | _ => ("ReplayedBeans$Writer", "tooLong", "Z", false)
def tF_7 : u_T := fun k => match k with
  | 0 => ("ReplayedBeans$Grammar", "text", "LReplayedBeans$Text;", true)
  | 1 => ("ReplayedBeans$Grammar", "due", "I", false)
  | 2 => ("ReplayedBeans$Grammar", "open", "I", false)
  | _ => ("ReplayedBeans$Grammar", "digitsLeft", "I", false)
def tF_8 : u_T := fun k => match k with
  | 0 => ("ReplayedBeans$Replay", "beans", "LReplayedBeans$Beans;", true)
  | 1 => ("ReplayedBeans$Replay", "text", "LReplayedBeans$Text;", true)
  | 2 => ("ReplayedBeans$Replay", "named", "[I", true)
  | 3 => ("ReplayedBeans$Replay", "failedPlaces", "[I", true)
  | 4 => ("ReplayedBeans$Replay", "failed", "I", false)
  | _ => ("ReplayedBeans$Replay", "place", "I", false)
def tF_9 : u_T := fun k => match k with
  | 0 => ("ReplayedBeansModel", "defined", "[Z", true)
  | 1 => ("ReplayedBeansModel", "numbers", "[I", true)
  | 2 => ("ReplayedBeansModel", "links", "[I", true)
  | 3 => ("ReplayedBeansModel", "first", "[I", true)
  | 4 => ("ReplayedBeansModel", "least", "[I", true)
  | 5 => ("ReplayedBeansModel", "greatest", "[I", true)
  | 6 => ("ReplayedBeansModel", "objects", "I", false)
  | 7 => ("ReplayedBeansModel", "kinds", "[I", true)
  | 8 => ("ReplayedBeansModel", "value", "[I", true)
  | 9 => ("ReplayedBeansModel", "to", "[I", true)
  | 10 => ("ReplayedBeansModel", "text", "[I", true)
  | 11 => ("ReplayedBeansModel", "size", "I", false)
  | 12 => ("ReplayedBeansModel", "out", "[I", true)
  | 13 => ("ReplayedBeansModel", "outSize", "I", false)
  | 14 => ("ReplayedBeansModel", "reach", "[Z", true)
  | 15 => ("ReplayedBeansModel", "pair", "[I", true)
  | 16 => ("ReplayedBeansModel", "back", "[I", true)
  | 17 => ("ReplayedBeansModel", "id", "[I", true)
  | 18 => ("ReplayedBeansModel", "begun", "[Z", true)
  | 19 => ("ReplayedBeansModel", "ids", "I", false)
  | 20 => ("ReplayedBeansModel", "depth", "I", false)
  | 21 => ("ReplayedBeansModel", "open", "[I", true)
  | 22 => ("ReplayedBeansModel", "going", "[I", true)
  | 23 => ("ReplayedBeansModel", "where", "[I", true)
  | 24 => ("ReplayedBeansModel", "state", "I", false)
  | 25 => ("ReplayedBeansModel", "figures", "I", false)
  | 26 => ("ReplayedBeansModel", "amount", "I", false)
  | 27 => ("ReplayedBeansModel", "minus", "Z", false)
  | 28 => ("ReplayedBeansModel", "property", "I", false)
  | 29 => ("ReplayedBeansModel", "propertyPlace", "I", false)
  | 30 => ("ReplayedBeansModel", "begin", "I", false)
  | 31 => ("ReplayedBeansModel", "mark", "I", false)
  | 32 => ("ReplayedBeansModel", "outermost", "I", false)
  | 33 => ("ReplayedBeansModel", "named", "[I", true)
  | 34 => ("ReplayedBeansModel", "failed", "I", false)
  | _ => ("ReplayedBeansModel", "failure", "[I", true)
def tcl : List vw_C := [("ReplayedBeans", tF_0, 8), ("ReplayedBeans$Kinds", tF_1, 6), ("ReplayedBeans$Beans", tF_2, 5), ("ReplayedBeans$Reach", tF_3, 4), ("ReplayedBeans$Pairing", tF_4, 5), ("ReplayedBeans$Text", tF_5, 2), ("ReplayedBeans$Writer", tF_6, 11), ("ReplayedBeans$Grammar", tF_7, 4), ("ReplayedBeans$Replay", tF_8, 6), ("ReplayedBeansModel", tF_9, 36)]
def tdf (ci : Nat) : List Value := match ci with
  | 0 => [.null, .null, .null, .null, .null, .null, .null, .null]
  | 1 => [.null, .null, .null, .null, .null, .null]
  | 2 => [.null, .null, .null, .null, .int 0]
  | 3 => [.null, .null, .null, .int 0]
  | 4 => [.null, .null, .null, .null, .int 0]
  | 5 => [.null, .int 0]
  | 6 => [.null, .null, .null, .null, .null, .null, .null, .int 0, .int 0, .int 0, .int 0]
  | 7 => [.null, .int 0, .int 0, .int 0]
  | 8 => [.null, .null, .null, .null, .int 0, .int 0]
  | 9 => [.null, .null, .null, .null, .null, .null, .int 0, .null, .null, .null, .null, .int 0, .null, .int 0, .null, .null, .null, .null, .null, .int 0, .int 0, .null, .null, .null, .int 0, .int 0, .int 0, .int 0, .int 0, .int 0, .int 0, .int 0, .int 0, .null, .int 0, .null]
  | _ => []
def tnF : List mm_F := [("ReplayedBeans", 90, "ReplayedBeans$Beans", "size", "I", "ReplayedBeans"), ("ReplayedBeans$Writer", 80, "ReplayedBeans$Reach", "order", "[I", "ReplayedBeans"), ("ReplayedBeans$Writer", 77, "ReplayedBeans$Reach", "found", "I", "ReplayedBeans"), ("ReplayedBeans", 114, "ReplayedBeans$Reach", "found", "I", "ReplayedBeans"), ("ReplayedBeans$Writer", 41, "ReplayedBeans$Text", "size", "I", "ReplayedBeans"), ("ReplayedBeans$Grammar", 25, "ReplayedBeans$Text", "size", "I", "ReplayedBeans"), ("ReplayedBeans", 141, "ReplayedBeans$Text", "size", "I", "ReplayedBeans"), ("ReplayedBeans", 135, "ReplayedBeans$Writer", "draft", "LReplayedBeans$Text;", "ReplayedBeans"), ("ReplayedBeans", 128, "ReplayedBeans$Writer", "tooDeep", "Z", "ReplayedBeans"), ("ReplayedBeans", 132, "ReplayedBeans$Writer", "tooLong", "Z", "ReplayedBeans"), ("ReplayedBeans", 155, "ReplayedBeans$Replay", "failed", "I", "ReplayedBeans")]
def tnM : List mm_N := [("ReplayedBeans", 43, ⟨"ReplayedBeans$Text", "<init>", "()V"⟩, "ReplayedBeans"), ("ReplayedBeans$Writer", 11, ⟨"ReplayedBeans$Text", "<init>", "()V"⟩, "ReplayedBeans")]
def tws_0 : List Cond := [(Cond.initialized "ReplayedBeansLaw"), (Cond.initialized "ReplayedBeans"), (Cond.initialized "ReplayedBeans$Kinds"), (Cond.initialized "java/util/Arrays"), (Cond.initialized "ReplayedBeans$Beans"), (Cond.initialized "ReplayedBeans$Reach"), (Cond.initialized "ReplayedBeans$Pairing"), (Cond.initialized "ReplayedBeans$Text"), (Cond.initialized "ReplayedBeans$Writer"), (Cond.initialized "ReplayedBeans$Grammar"), (Cond.initialized "ReplayedBeans$Replay"), (Cond.initialized "ReplayedBeansModel"), (Cond.initialized "java/lang/System"), (Cond.classLink "ReplayedBeansLaw" 7 "ReplayedBeans"), (Cond.instantiable "ReplayedBeans" 8), (Cond.methodLink "ReplayedBeansLaw" 9 ⟨"ReplayedBeans", "<init>", "()V"⟩), (Cond.instanceMethod ⟨"ReplayedBeans", "<init>", "()V"⟩), (Cond.methodLink "ReplayedBeans" 1 ⟨"java/lang/Object", "<init>", "()V"⟩), (Cond.instanceMethod ⟨"java/lang/Object", "<init>", "()V"⟩), (Cond.classLink "ReplayedBeans" 7 "ReplayedBeans$Kinds"), (Cond.instantiable "ReplayedBeans$Kinds" 6), (Cond.methodLink "ReplayedBeans" 9 ⟨"ReplayedBeans$Kinds", "<init>", "()V"⟩), (Cond.instanceMethod ⟨"ReplayedBeans$Kinds", "<init>", "()V"⟩), (Cond.methodLink "ReplayedBeans$Kinds" 3 ⟨"java/lang/Object", "<init>", "()V"⟩), (Cond.methodLink "ReplayedBeans$Kinds" 31 ⟨"java/util/Arrays", "fill", "([II)V"⟩), (Cond.static ⟨"java/util/Arrays", "fill", "([II)V"⟩), (Cond.fieldLink "ReplayedBeans$Kinds" 9 "ReplayedBeans$Kinds" "defined" "[Z"), (Cond.fieldLink "ReplayedBeans$Kinds" 15 "ReplayedBeans$Kinds" "numbers" "[I"), (Cond.fieldLink "ReplayedBeans$Kinds" 19 "ReplayedBeans$Kinds" "links" "[I"), (Cond.fieldLink "ReplayedBeans$Kinds" 22 "ReplayedBeans$Kinds" "first" "[I"), (Cond.fieldLink "ReplayedBeans$Kinds" 25 "ReplayedBeans$Kinds" "least" "[I"), (Cond.fieldLink "ReplayedBeans$Kinds" 28 "ReplayedBeans$Kinds" "greatest" "[I"), (Cond.laysFinal "ReplayedBeans$Kinds" "ReplayedBeans$Kinds" "defined" "[Z"), (Cond.laysFinal "ReplayedBeans$Kinds" "ReplayedBeans$Kinds" "numbers" "[I"), (Cond.laysFinal "ReplayedBeans$Kinds" "ReplayedBeans$Kinds" "links" "[I"), (Cond.laysFinal "ReplayedBeans$Kinds" "ReplayedBeans$Kinds" "first" "[I"), (Cond.laysFinal "ReplayedBeans$Kinds" "ReplayedBeans$Kinds" "least" "[I"), (Cond.laysFinal "ReplayedBeans$Kinds" "ReplayedBeans$Kinds" "greatest" "[I"), (Cond.arrayClass FieldType.boolean), (Cond.arrayClass FieldType.int), (Cond.classLink "ReplayedBeans" 16 "ReplayedBeans$Beans"), (Cond.instantiable "ReplayedBeans$Beans" 5), (Cond.methodLink "ReplayedBeans" 18 ⟨"ReplayedBeans$Beans", "<init>", "(LReplayedBeans$Kinds;)V"⟩), (Cond.instanceMethod ⟨"ReplayedBeans$Beans", "<init>", "(LReplayedBeans$Kinds;)V"⟩), (Cond.methodLink "ReplayedBeans$Beans" 3 ⟨"java/lang/Object", "<init>", "()V"⟩), (Cond.fieldLink "ReplayedBeans$Beans" 21 "ReplayedBeans$Beans" "kinds" "LReplayedBeans$Kinds;"), (Cond.fieldLink "ReplayedBeans$Beans" 9 "ReplayedBeans$Beans" "kindRow" "[I"), (Cond.fieldLink "ReplayedBeans$Beans" 15 "ReplayedBeans$Beans" "numberRow" "[I"), (Cond.fieldLink "ReplayedBeans$Beans" 18 "ReplayedBeans$Beans" "linkRow" "[I"), (Cond.fieldLink "ReplayedBeans$Beans" 25 "ReplayedBeans$Beans" "size" "I"), (Cond.laysFinal "ReplayedBeans$Beans" "ReplayedBeans$Beans" "kinds" "LReplayedBeans$Kinds;"), (Cond.laysFinal "ReplayedBeans$Beans" "ReplayedBeans$Beans" "kindRow" "[I"), (Cond.laysFinal "ReplayedBeans$Beans" "ReplayedBeans$Beans" "numberRow" "[I"), (Cond.laysFinal "ReplayedBeans$Beans" "ReplayedBeans$Beans" "linkRow" "[I"), (Cond.lays "ReplayedBeans$Beans" "ReplayedBeans$Beans" "size" "I"), (Cond.classLink "ReplayedBeans" 25 "ReplayedBeans$Reach"), (Cond.instantiable "ReplayedBeans$Reach" 4), (Cond.methodLink "ReplayedBeans" 27 ⟨"ReplayedBeans$Reach", "<init>", "(LReplayedBeans$Beans;)V"⟩), (Cond.instanceMethod ⟨"ReplayedBeans$Reach", "<init>", "(LReplayedBeans$Beans;)V"⟩), (Cond.methodLink "ReplayedBeans$Reach" 3 ⟨"java/lang/Object", "<init>", "()V"⟩)]
def tws_1 : List Cond := [(Cond.fieldLink "ReplayedBeans$Reach" 19 "ReplayedBeans$Reach" "beans" "LReplayedBeans$Beans;"), (Cond.fieldLink "ReplayedBeans$Reach" 9 "ReplayedBeans$Reach" "order" "[I"), (Cond.fieldLink "ReplayedBeans$Reach" 15 "ReplayedBeans$Reach" "seen" "[Z"), (Cond.fieldLink "ReplayedBeans$Reach" 23 "ReplayedBeans$Reach" "found" "I"), (Cond.laysFinal "ReplayedBeans$Reach" "ReplayedBeans$Reach" "beans" "LReplayedBeans$Beans;"), (Cond.laysFinal "ReplayedBeans$Reach" "ReplayedBeans$Reach" "order" "[I"), (Cond.laysFinal "ReplayedBeans$Reach" "ReplayedBeans$Reach" "seen" "[Z"), (Cond.lays "ReplayedBeans$Reach" "ReplayedBeans$Reach" "found" "I"), (Cond.classLink "ReplayedBeans" 34 "ReplayedBeans$Pairing"), (Cond.instantiable "ReplayedBeans$Pairing" 5), (Cond.methodLink "ReplayedBeans" 36 ⟨"ReplayedBeans$Pairing", "<init>", "(LReplayedBeans$Beans;)V"⟩), (Cond.instanceMethod ⟨"ReplayedBeans$Pairing", "<init>", "(LReplayedBeans$Beans;)V"⟩), (Cond.methodLink "ReplayedBeans$Pairing" 3 ⟨"java/lang/Object", "<init>", "()V"⟩), (Cond.fieldLink "ReplayedBeans$Pairing" 21 "ReplayedBeans$Pairing" "beans" "LReplayedBeans$Beans;"), (Cond.fieldLink "ReplayedBeans$Pairing" 9 "ReplayedBeans$Pairing" "order" "[I"), (Cond.fieldLink "ReplayedBeans$Pairing" 15 "ReplayedBeans$Pairing" "rightOf" "[I"), (Cond.fieldLink "ReplayedBeans$Pairing" 18 "ReplayedBeans$Pairing" "leftOf" "[I"), (Cond.fieldLink "ReplayedBeans$Pairing" 37 "ReplayedBeans$Pairing" "paired" "I"), (Cond.laysFinal "ReplayedBeans$Pairing" "ReplayedBeans$Pairing" "beans" "LReplayedBeans$Beans;"), (Cond.laysFinal "ReplayedBeans$Pairing" "ReplayedBeans$Pairing" "order" "[I"), (Cond.laysFinal "ReplayedBeans$Pairing" "ReplayedBeans$Pairing" "rightOf" "[I"), (Cond.laysFinal "ReplayedBeans$Pairing" "ReplayedBeans$Pairing" "leftOf" "[I"), (Cond.lays "ReplayedBeans$Pairing" "ReplayedBeans$Pairing" "paired" "I"), (Cond.classLink "ReplayedBeans" 41 "ReplayedBeans$Text"), (Cond.instantiable "ReplayedBeans$Text" 2), (Cond.instanceMethod ⟨"ReplayedBeans$Text", "<init>", "()V"⟩), (Cond.methodLink "ReplayedBeans$Text" 3 ⟨"java/lang/Object", "<init>", "()V"⟩), (Cond.fieldLink "ReplayedBeans$Text" 9 "ReplayedBeans$Text" "characters" "[C"), (Cond.fieldLink "ReplayedBeans$Text" 15 "ReplayedBeans$Text" "size" "I"), (Cond.laysFinal "ReplayedBeans$Text" "ReplayedBeans$Text" "characters" "[C"), (Cond.lays "ReplayedBeans$Text" "ReplayedBeans$Text" "size" "I"), (Cond.arrayClass FieldType.char), (Cond.classLink "ReplayedBeans" 48 "ReplayedBeans$Writer"), (Cond.instantiable "ReplayedBeans$Writer" 11), (Cond.methodLink "ReplayedBeans" 50 ⟨"ReplayedBeans$Writer", "<init>", "(LReplayedBeans$Kinds;LReplayedBeans$Beans;LReplayedBeans$Reach;)V"⟩), (Cond.instanceMethod ⟨"ReplayedBeans$Writer", "<init>", "(LReplayedBeans$Kinds;LReplayedBeans$Beans;LReplayedBeans$Reach;)V"⟩), (Cond.methodLink "ReplayedBeans$Writer" 3 ⟨"java/lang/Object", "<init>", "()V"⟩), (Cond.classLink "ReplayedBeans$Writer" 9 "ReplayedBeans$Text"), (Cond.fieldLink "ReplayedBeans$Writer" 29 "ReplayedBeans$Writer" "kinds" "LReplayedBeans$Kinds;"), (Cond.fieldLink "ReplayedBeans$Writer" 33 "ReplayedBeans$Writer" "beans" "LReplayedBeans$Beans;"), (Cond.fieldLink "ReplayedBeans$Writer" 37 "ReplayedBeans$Writer" "reach" "LReplayedBeans$Reach;"), (Cond.fieldLink "ReplayedBeans$Writer" 12 "ReplayedBeans$Writer" "draft" "LReplayedBeans$Text;"), (Cond.fieldLink "ReplayedBeans$Writer" 18 "ReplayedBeans$Writer" "linksTo" "[I"), (Cond.fieldLink "ReplayedBeans$Writer" 22 "ReplayedBeans$Writer" "idOf" "[I"), (Cond.fieldLink "ReplayedBeans$Writer" 25 "ReplayedBeans$Writer" "begun" "[Z"), (Cond.fieldLink "ReplayedBeans$Writer" 45 "ReplayedBeans$Writer" "root" "I"), (Cond.fieldLink "ReplayedBeans$Writer" 48 "ReplayedBeans$Writer" "ids" "I"), (Cond.fieldLink "ReplayedBeans$Writer" 51 "ReplayedBeans$Writer" "tooDeep" "Z"), (Cond.fieldLink "ReplayedBeans$Writer" 55 "ReplayedBeans$Writer" "tooLong" "Z"), (Cond.laysFinal "ReplayedBeans$Writer" "ReplayedBeans$Writer" "kinds" "LReplayedBeans$Kinds;"), (Cond.laysFinal "ReplayedBeans$Writer" "ReplayedBeans$Writer" "beans" "LReplayedBeans$Beans;"), (Cond.laysFinal "ReplayedBeans$Writer" "ReplayedBeans$Writer" "reach" "LReplayedBeans$Reach;"), (Cond.laysFinal "ReplayedBeans$Writer" "ReplayedBeans$Writer" "draft" "LReplayedBeans$Text;"), (Cond.laysFinal "ReplayedBeans$Writer" "ReplayedBeans$Writer" "linksTo" "[I"), (Cond.laysFinal "ReplayedBeans$Writer" "ReplayedBeans$Writer" "idOf" "[I"), (Cond.laysFinal "ReplayedBeans$Writer" "ReplayedBeans$Writer" "begun" "[Z"), (Cond.lays "ReplayedBeans$Writer" "ReplayedBeans$Writer" "root" "I"), (Cond.lays "ReplayedBeans$Writer" "ReplayedBeans$Writer" "ids" "I"), (Cond.lays "ReplayedBeans$Writer" "ReplayedBeans$Writer" "tooDeep" "Z"), (Cond.lays "ReplayedBeans$Writer" "ReplayedBeans$Writer" "tooLong" "Z")]
def tws_2 : List Cond := [(Cond.classLink "ReplayedBeans" 57 "ReplayedBeans$Grammar"), (Cond.instantiable "ReplayedBeans$Grammar" 4), (Cond.methodLink "ReplayedBeans" 59 ⟨"ReplayedBeans$Grammar", "<init>", "(LReplayedBeans$Text;)V"⟩), (Cond.instanceMethod ⟨"ReplayedBeans$Grammar", "<init>", "(LReplayedBeans$Text;)V"⟩), (Cond.methodLink "ReplayedBeans$Grammar" 3 ⟨"java/lang/Object", "<init>", "()V"⟩), (Cond.fieldLink "ReplayedBeans$Grammar" 9 "ReplayedBeans$Grammar" "text" "LReplayedBeans$Text;"), (Cond.fieldLink "ReplayedBeans$Grammar" 15 "ReplayedBeans$Grammar" "due" "I"), (Cond.fieldLink "ReplayedBeans$Grammar" 19 "ReplayedBeans$Grammar" "open" "I"), (Cond.fieldLink "ReplayedBeans$Grammar" 22 "ReplayedBeans$Grammar" "digitsLeft" "I"), (Cond.laysFinal "ReplayedBeans$Grammar" "ReplayedBeans$Grammar" "text" "LReplayedBeans$Text;"), (Cond.lays "ReplayedBeans$Grammar" "ReplayedBeans$Grammar" "due" "I"), (Cond.lays "ReplayedBeans$Grammar" "ReplayedBeans$Grammar" "open" "I"), (Cond.lays "ReplayedBeans$Grammar" "ReplayedBeans$Grammar" "digitsLeft" "I"), (Cond.classLink "ReplayedBeans" 66 "ReplayedBeans$Replay"), (Cond.instantiable "ReplayedBeans$Replay" 6), (Cond.methodLink "ReplayedBeans" 68 ⟨"ReplayedBeans$Replay", "<init>", "(LReplayedBeans$Beans;LReplayedBeans$Text;)V"⟩), (Cond.instanceMethod ⟨"ReplayedBeans$Replay", "<init>", "(LReplayedBeans$Beans;LReplayedBeans$Text;)V"⟩), (Cond.methodLink "ReplayedBeans$Replay" 3 ⟨"java/lang/Object", "<init>", "()V"⟩), (Cond.fieldLink "ReplayedBeans$Replay" 18 "ReplayedBeans$Replay" "beans" "LReplayedBeans$Beans;"), (Cond.fieldLink "ReplayedBeans$Replay" 22 "ReplayedBeans$Replay" "text" "LReplayedBeans$Text;"), (Cond.fieldLink "ReplayedBeans$Replay" 9 "ReplayedBeans$Replay" "named" "[I"), (Cond.fieldLink "ReplayedBeans$Replay" 15 "ReplayedBeans$Replay" "failedPlaces" "[I"), (Cond.fieldLink "ReplayedBeans$Replay" 32 "ReplayedBeans$Replay" "failed" "I"), (Cond.fieldLink "ReplayedBeans$Replay" 36 "ReplayedBeans$Replay" "place" "I"), (Cond.laysFinal "ReplayedBeans$Replay" "ReplayedBeans$Replay" "beans" "LReplayedBeans$Beans;"), (Cond.laysFinal "ReplayedBeans$Replay" "ReplayedBeans$Replay" "text" "LReplayedBeans$Text;"), (Cond.laysFinal "ReplayedBeans$Replay" "ReplayedBeans$Replay" "named" "[I"), (Cond.laysFinal "ReplayedBeans$Replay" "ReplayedBeans$Replay" "failedPlaces" "[I"), (Cond.lays "ReplayedBeans$Replay" "ReplayedBeans$Replay" "failed" "I"), (Cond.lays "ReplayedBeans$Replay" "ReplayedBeans$Replay" "place" "I"), (Cond.fieldLink "ReplayedBeans" 10 "ReplayedBeans" "kinds" "LReplayedBeans$Kinds;"), (Cond.fieldLink "ReplayedBeans" 21 "ReplayedBeans" "beans" "LReplayedBeans$Beans;"), (Cond.fieldLink "ReplayedBeans" 30 "ReplayedBeans" "reach" "LReplayedBeans$Reach;"), (Cond.fieldLink "ReplayedBeans" 37 "ReplayedBeans" "pairing" "LReplayedBeans$Pairing;"), (Cond.fieldLink "ReplayedBeans" 44 "ReplayedBeans" "text" "LReplayedBeans$Text;"), (Cond.fieldLink "ReplayedBeans" 53 "ReplayedBeans" "writer" "LReplayedBeans$Writer;"), (Cond.fieldLink "ReplayedBeans" 62 "ReplayedBeans" "grammar" "LReplayedBeans$Grammar;"), (Cond.fieldLink "ReplayedBeans" 71 "ReplayedBeans" "replay" "LReplayedBeans$Replay;"), (Cond.laysFinal "ReplayedBeans" "ReplayedBeans" "kinds" "LReplayedBeans$Kinds;"), (Cond.laysFinal "ReplayedBeans" "ReplayedBeans" "beans" "LReplayedBeans$Beans;"), (Cond.laysFinal "ReplayedBeans" "ReplayedBeans" "reach" "LReplayedBeans$Reach;"), (Cond.laysFinal "ReplayedBeans" "ReplayedBeans" "pairing" "LReplayedBeans$Pairing;"), (Cond.laysFinal "ReplayedBeans" "ReplayedBeans" "text" "LReplayedBeans$Text;"), (Cond.laysFinal "ReplayedBeans" "ReplayedBeans" "writer" "LReplayedBeans$Writer;"), (Cond.laysFinal "ReplayedBeans" "ReplayedBeans" "grammar" "LReplayedBeans$Grammar;"), (Cond.laysFinal "ReplayedBeans" "ReplayedBeans" "replay" "LReplayedBeans$Replay;"), (Cond.methodLink "ReplayedBeansLaw" 13 ⟨"ReplayedBeans", "define", "(III)Z"⟩), (Cond.instanceMethod ⟨"ReplayedBeans", "define", "(III)Z"⟩), (Cond.selects "ReplayedBeans" ⟨"ReplayedBeans", "define", "(III)Z"⟩ ⟨"ReplayedBeans", "define", "(III)Z"⟩), (Cond.methodLink "ReplayedBeans" 75 ⟨"ReplayedBeans$Kinds", "introduce", "(III)Z"⟩), (Cond.instanceMethod ⟨"ReplayedBeans$Kinds", "introduce", "(III)Z"⟩), (Cond.selects "ReplayedBeans$Kinds" ⟨"ReplayedBeans$Kinds", "introduce", "(III)Z"⟩ ⟨"ReplayedBeans$Kinds", "introduce", "(III)Z"⟩), (Cond.methodLink "ReplayedBeansLaw" 18 ⟨"ReplayedBeans", "values", "(IIIII)Z"⟩), (Cond.instanceMethod ⟨"ReplayedBeans", "values", "(IIIII)Z"⟩), (Cond.selects "ReplayedBeans" ⟨"ReplayedBeans", "values", "(IIIII)Z"⟩ ⟨"ReplayedBeans", "values", "(IIIII)Z"⟩), (Cond.methodLink "ReplayedBeans" 79 ⟨"ReplayedBeans$Kinds", "bound", "(IIIII)Z"⟩), (Cond.instanceMethod ⟨"ReplayedBeans$Kinds", "bound", "(IIIII)Z"⟩), (Cond.selects "ReplayedBeans$Kinds" ⟨"ReplayedBeans$Kinds", "bound", "(IIIII)Z"⟩ ⟨"ReplayedBeans$Kinds", "bound", "(IIIII)Z"⟩), (Cond.methodLink "ReplayedBeans$Kinds" 37 ⟨"ReplayedBeans$Kinds", "hasNumber", "(II)Z"⟩), (Cond.instanceMethod ⟨"ReplayedBeans$Kinds", "hasNumber", "(II)Z"⟩)]
def tws_3 : List Cond := [(Cond.selects "ReplayedBeans$Kinds" ⟨"ReplayedBeans$Kinds", "hasNumber", "(II)Z"⟩ ⟨"ReplayedBeans$Kinds", "hasNumber", "(II)Z"⟩), (Cond.constant "ReplayedBeans$Kinds" 41 (-99999 : Int32)), (Cond.constant "ReplayedBeans$Kinds" 42 (99999 : Int32)), (Cond.methodLink "ReplayedBeansLaw" 23 ⟨"ReplayedBeans", "make", "(I)I"⟩), (Cond.instanceMethod ⟨"ReplayedBeans", "make", "(I)I"⟩), (Cond.selects "ReplayedBeans" ⟨"ReplayedBeans", "make", "(I)I"⟩ ⟨"ReplayedBeans", "make", "(I)I"⟩), (Cond.methodLink "ReplayedBeans" 83 ⟨"ReplayedBeans$Beans", "add", "(I)I"⟩), (Cond.instanceMethod ⟨"ReplayedBeans$Beans", "add", "(I)I"⟩), (Cond.selects "ReplayedBeans$Beans" ⟨"ReplayedBeans$Beans", "add", "(I)I"⟩ ⟨"ReplayedBeans$Beans", "add", "(I)I"⟩), (Cond.methodLink "ReplayedBeans$Beans" 29 ⟨"ReplayedBeans$Kinds", "isDefined", "(I)Z"⟩), (Cond.instanceMethod ⟨"ReplayedBeans$Kinds", "isDefined", "(I)Z"⟩), (Cond.selects "ReplayedBeans$Kinds" ⟨"ReplayedBeans$Kinds", "isDefined", "(I)Z"⟩ ⟨"ReplayedBeans$Kinds", "isDefined", "(I)Z"⟩), (Cond.methodLink "ReplayedBeans$Beans" 35 ⟨"ReplayedBeans$Kinds", "defaultOf", "(II)I"⟩), (Cond.instanceMethod ⟨"ReplayedBeans$Kinds", "defaultOf", "(II)I"⟩), (Cond.selects "ReplayedBeans$Kinds" ⟨"ReplayedBeans$Kinds", "defaultOf", "(II)I"⟩ ⟨"ReplayedBeans$Kinds", "defaultOf", "(II)I"⟩), (Cond.methodLink "ReplayedBeansLaw" 28 ⟨"ReplayedBeans", "clear", "()V"⟩), (Cond.instanceMethod ⟨"ReplayedBeans", "clear", "()V"⟩), (Cond.selects "ReplayedBeans" ⟨"ReplayedBeans", "clear", "()V"⟩ ⟨"ReplayedBeans", "clear", "()V"⟩), (Cond.methodLink "ReplayedBeans" 87 ⟨"ReplayedBeans$Beans", "removeAll", "()V"⟩), (Cond.instanceMethod ⟨"ReplayedBeans$Beans", "removeAll", "()V"⟩), (Cond.selects "ReplayedBeans$Beans" ⟨"ReplayedBeans$Beans", "removeAll", "()V"⟩ ⟨"ReplayedBeans$Beans", "removeAll", "()V"⟩), (Cond.methodLink "ReplayedBeansLaw" 32 ⟨"ReplayedBeans", "count", "()I"⟩), (Cond.instanceMethod ⟨"ReplayedBeans", "count", "()I"⟩), (Cond.selects "ReplayedBeans" ⟨"ReplayedBeans", "count", "()I"⟩ ⟨"ReplayedBeans", "count", "()I"⟩), (Cond.methodLink "ReplayedBeansLaw" 37 ⟨"ReplayedBeans", "kind", "(I)I"⟩), (Cond.instanceMethod ⟨"ReplayedBeans", "kind", "(I)I"⟩), (Cond.selects "ReplayedBeans" ⟨"ReplayedBeans", "kind", "(I)I"⟩ ⟨"ReplayedBeans", "kind", "(I)I"⟩), (Cond.methodLink "ReplayedBeans" 94 ⟨"ReplayedBeans$Beans", "kindOf", "(I)I"⟩), (Cond.instanceMethod ⟨"ReplayedBeans$Beans", "kindOf", "(I)I"⟩), (Cond.selects "ReplayedBeans$Beans" ⟨"ReplayedBeans$Beans", "kindOf", "(I)I"⟩ ⟨"ReplayedBeans$Beans", "kindOf", "(I)I"⟩), (Cond.methodLink "ReplayedBeans$Beans" 39 ⟨"ReplayedBeans$Beans", "isThere", "(I)Z"⟩), (Cond.instanceMethod ⟨"ReplayedBeans$Beans", "isThere", "(I)Z"⟩), (Cond.selects "ReplayedBeans$Beans" ⟨"ReplayedBeans$Beans", "isThere", "(I)Z"⟩ ⟨"ReplayedBeans$Beans", "isThere", "(I)Z"⟩), (Cond.methodLink "ReplayedBeansLaw" 41 ⟨"ReplayedBeans", "setNumber", "(III)Z"⟩), (Cond.instanceMethod ⟨"ReplayedBeans", "setNumber", "(III)Z"⟩), (Cond.selects "ReplayedBeans" ⟨"ReplayedBeans", "setNumber", "(III)Z"⟩ ⟨"ReplayedBeans", "setNumber", "(III)Z"⟩), (Cond.methodLink "ReplayedBeans" 97 ⟨"ReplayedBeans$Beans", "putNumber", "(III)Z"⟩), (Cond.instanceMethod ⟨"ReplayedBeans$Beans", "putNumber", "(III)Z"⟩), (Cond.selects "ReplayedBeans$Beans" ⟨"ReplayedBeans$Beans", "putNumber", "(III)Z"⟩ ⟨"ReplayedBeans$Beans", "putNumber", "(III)Z"⟩), (Cond.methodLink "ReplayedBeans$Beans" 42 ⟨"ReplayedBeans$Beans", "kindOf", "(I)I"⟩), (Cond.methodLink "ReplayedBeans$Beans" 46 ⟨"ReplayedBeans$Kinds", "allows", "(III)Z"⟩), (Cond.instanceMethod ⟨"ReplayedBeans$Kinds", "allows", "(III)Z"⟩), (Cond.selects "ReplayedBeans$Kinds" ⟨"ReplayedBeans$Kinds", "allows", "(III)Z"⟩ ⟨"ReplayedBeans$Kinds", "allows", "(III)Z"⟩), (Cond.methodLink "ReplayedBeansLaw" 45 ⟨"ReplayedBeans", "setLink", "(III)Z"⟩), (Cond.instanceMethod ⟨"ReplayedBeans", "setLink", "(III)Z"⟩), (Cond.selects "ReplayedBeans" ⟨"ReplayedBeans", "setLink", "(III)Z"⟩ ⟨"ReplayedBeans", "setLink", "(III)Z"⟩), (Cond.methodLink "ReplayedBeans" 100 ⟨"ReplayedBeans$Beans", "putLink", "(III)Z"⟩), (Cond.instanceMethod ⟨"ReplayedBeans$Beans", "putLink", "(III)Z"⟩), (Cond.selects "ReplayedBeans$Beans" ⟨"ReplayedBeans$Beans", "putLink", "(III)Z"⟩ ⟨"ReplayedBeans$Beans", "putLink", "(III)Z"⟩), (Cond.methodLink "ReplayedBeans$Beans" 50 ⟨"ReplayedBeans$Kinds", "hasLink", "(II)Z"⟩), (Cond.instanceMethod ⟨"ReplayedBeans$Kinds", "hasLink", "(II)Z"⟩), (Cond.selects "ReplayedBeans$Kinds" ⟨"ReplayedBeans$Kinds", "hasLink", "(II)Z"⟩ ⟨"ReplayedBeans$Kinds", "hasLink", "(II)Z"⟩), (Cond.methodLink "ReplayedBeansLaw" 49 ⟨"ReplayedBeans", "number", "(II)I"⟩), (Cond.instanceMethod ⟨"ReplayedBeans", "number", "(II)I"⟩), (Cond.selects "ReplayedBeans" ⟨"ReplayedBeans", "number", "(II)I"⟩ ⟨"ReplayedBeans", "number", "(II)I"⟩), (Cond.methodLink "ReplayedBeans" 103 ⟨"ReplayedBeans$Beans", "numberOf", "(II)I"⟩), (Cond.instanceMethod ⟨"ReplayedBeans$Beans", "numberOf", "(II)I"⟩), (Cond.selects "ReplayedBeans$Beans" ⟨"ReplayedBeans$Beans", "numberOf", "(II)I"⟩ ⟨"ReplayedBeans$Beans", "numberOf", "(II)I"⟩), (Cond.methodLink "ReplayedBeans$Beans" 54 ⟨"ReplayedBeans$Kinds", "hasNumber", "(II)Z"⟩), (Cond.methodLink "ReplayedBeansLaw" 54 ⟨"ReplayedBeans", "link", "(II)I"⟩)]
def tws_4 : List Cond := [(Cond.instanceMethod ⟨"ReplayedBeans", "link", "(II)I"⟩), (Cond.selects "ReplayedBeans" ⟨"ReplayedBeans", "link", "(II)I"⟩ ⟨"ReplayedBeans", "link", "(II)I"⟩), (Cond.methodLink "ReplayedBeans" 107 ⟨"ReplayedBeans$Beans", "linkOf", "(II)I"⟩), (Cond.instanceMethod ⟨"ReplayedBeans$Beans", "linkOf", "(II)I"⟩), (Cond.selects "ReplayedBeans$Beans" ⟨"ReplayedBeans$Beans", "linkOf", "(II)I"⟩ ⟨"ReplayedBeans$Beans", "linkOf", "(II)I"⟩), (Cond.methodLink "ReplayedBeansLaw" 58 ⟨"ReplayedBeans", "reachable", "(I)I"⟩), (Cond.instanceMethod ⟨"ReplayedBeans", "reachable", "(I)I"⟩), (Cond.selects "ReplayedBeans" ⟨"ReplayedBeans", "reachable", "(I)I"⟩ ⟨"ReplayedBeans", "reachable", "(I)I"⟩), (Cond.methodLink "ReplayedBeans" 110 ⟨"ReplayedBeans$Reach", "spreadFrom", "(I)V"⟩), (Cond.instanceMethod ⟨"ReplayedBeans$Reach", "spreadFrom", "(I)V"⟩), (Cond.selects "ReplayedBeans$Reach" ⟨"ReplayedBeans$Reach", "spreadFrom", "(I)V"⟩ ⟨"ReplayedBeans$Reach", "spreadFrom", "(I)V"⟩), (Cond.methodLink "ReplayedBeans$Reach" 27 ⟨"ReplayedBeans$Reach", "visit", "(I)V"⟩), (Cond.instanceMethod ⟨"ReplayedBeans$Reach", "visit", "(I)V"⟩), (Cond.methodLink "ReplayedBeans$Reach" 37 ⟨"ReplayedBeans$Beans", "isThere", "(I)Z"⟩), (Cond.methodLink "ReplayedBeans$Reach" 31 ⟨"ReplayedBeans$Beans", "linkOf", "(II)I"⟩), (Cond.methodLink "ReplayedBeansLaw" 62 ⟨"ReplayedBeans", "alike", "(II)Z"⟩), (Cond.instanceMethod ⟨"ReplayedBeans", "alike", "(II)Z"⟩), (Cond.selects "ReplayedBeans" ⟨"ReplayedBeans", "alike", "(II)Z"⟩ ⟨"ReplayedBeans", "alike", "(II)Z"⟩), (Cond.methodLink "ReplayedBeans" 117 ⟨"ReplayedBeans$Pairing", "pairsUp", "(II)Z"⟩), (Cond.instanceMethod ⟨"ReplayedBeans$Pairing", "pairsUp", "(II)Z"⟩), (Cond.selects "ReplayedBeans$Pairing" ⟨"ReplayedBeans$Pairing", "pairsUp", "(II)Z"⟩ ⟨"ReplayedBeans$Pairing", "pairsUp", "(II)Z"⟩), (Cond.methodLink "ReplayedBeans$Pairing" 25 ⟨"ReplayedBeans$Beans", "isThere", "(I)Z"⟩), (Cond.methodLink "ReplayedBeans$Pairing" 31 ⟨"java/util/Arrays", "fill", "([II)V"⟩), (Cond.methodLink "ReplayedBeans$Pairing" 41 ⟨"ReplayedBeans$Pairing", "join", "(II)Z"⟩), (Cond.instanceMethod ⟨"ReplayedBeans$Pairing", "join", "(II)Z"⟩), (Cond.methodLink "ReplayedBeans$Pairing" 55 ⟨"ReplayedBeans$Beans", "sameKindAndNumbers", "(II)Z"⟩), (Cond.instanceMethod ⟨"ReplayedBeans$Beans", "sameKindAndNumbers", "(II)Z"⟩), (Cond.selects "ReplayedBeans$Beans" ⟨"ReplayedBeans$Beans", "sameKindAndNumbers", "(II)Z"⟩ ⟨"ReplayedBeans$Beans", "sameKindAndNumbers", "(II)Z"⟩), (Cond.methodLink "ReplayedBeans$Beans" 57 ⟨"ReplayedBeans$Beans", "numberOf", "(II)I"⟩), (Cond.methodLink "ReplayedBeans$Pairing" 45 ⟨"ReplayedBeans$Pairing", "linksPairUp", "(II)Z"⟩), (Cond.instanceMethod ⟨"ReplayedBeans$Pairing", "linksPairUp", "(II)Z"⟩), (Cond.methodLink "ReplayedBeans$Pairing" 48 ⟨"ReplayedBeans$Beans", "linkOf", "(II)I"⟩), (Cond.methodLink "ReplayedBeans$Pairing" 52 ⟨"ReplayedBeans$Pairing", "joinOrBothNone", "(II)Z"⟩), (Cond.instanceMethod ⟨"ReplayedBeans$Pairing", "joinOrBothNone", "(II)Z"⟩), (Cond.methodLink "ReplayedBeansLaw" 67 ⟨"ReplayedBeans", "write", "(I)I"⟩), (Cond.instanceMethod ⟨"ReplayedBeans", "write", "(I)I"⟩), (Cond.selects "ReplayedBeans" ⟨"ReplayedBeans", "write", "(I)I"⟩ ⟨"ReplayedBeans", "write", "(I)I"⟩), (Cond.methodLink "ReplayedBeans" 121 ⟨"ReplayedBeans$Beans", "isThere", "(I)Z"⟩), (Cond.methodLink "ReplayedBeans" 125 ⟨"ReplayedBeans$Writer", "draftFrom", "(I)V"⟩), (Cond.instanceMethod ⟨"ReplayedBeans$Writer", "draftFrom", "(I)V"⟩), (Cond.selects "ReplayedBeans$Writer" ⟨"ReplayedBeans$Writer", "draftFrom", "(I)V"⟩ ⟨"ReplayedBeans$Writer", "draftFrom", "(I)V"⟩), (Cond.methodLink "ReplayedBeans$Writer" 58 ⟨"ReplayedBeans$Writer", "countLinks", "()V"⟩), (Cond.instanceMethod ⟨"ReplayedBeans$Writer", "countLinks", "()V"⟩), (Cond.methodLink "ReplayedBeans$Writer" 65 ⟨"java/util/Arrays", "fill", "([II)V"⟩), (Cond.methodLink "ReplayedBeans$Writer" 71 ⟨"ReplayedBeans$Reach", "spreadFrom", "(I)V"⟩), (Cond.methodLink "ReplayedBeans$Writer" 83 ⟨"ReplayedBeans$Beans", "linkOf", "(II)I"⟩), (Cond.methodLink "ReplayedBeans$Writer" 89 ⟨"ReplayedBeans$Beans", "isThere", "(I)Z"⟩), (Cond.methodLink "ReplayedBeans$Writer" 61 ⟨"ReplayedBeans$Writer", "putObject", "(II)V"⟩), (Cond.instanceMethod ⟨"ReplayedBeans$Writer", "putObject", "(II)V"⟩), (Cond.methodLink "ReplayedBeans$Writer" 93 ⟨"ReplayedBeans$Writer", "put", "(C)V"⟩), (Cond.instanceMethod ⟨"ReplayedBeans$Writer", "put", "(C)V"⟩), (Cond.methodLink "ReplayedBeans$Writer" 122 ⟨"ReplayedBeans$Text", "add", "(C)Z"⟩), (Cond.instanceMethod ⟨"ReplayedBeans$Text", "add", "(C)Z"⟩), (Cond.selects "ReplayedBeans$Text" ⟨"ReplayedBeans$Text", "add", "(C)Z"⟩ ⟨"ReplayedBeans$Text", "add", "(C)Z"⟩), (Cond.methodLink "ReplayedBeans$Writer" 97 ⟨"ReplayedBeans$Beans", "kindOf", "(I)I"⟩), (Cond.methodLink "ReplayedBeans$Writer" 101 ⟨"ReplayedBeans$Writer", "isShared", "(I)Z"⟩), (Cond.instanceMethod ⟨"ReplayedBeans$Writer", "isShared", "(I)Z"⟩), (Cond.methodLink "ReplayedBeans$Writer" 104 ⟨"ReplayedBeans$Writer", "putWhole", "(I)V"⟩), (Cond.instanceMethod ⟨"ReplayedBeans$Writer", "putWhole", "(I)V"⟩), (Cond.methodLink "ReplayedBeans$Writer" 107 ⟨"ReplayedBeans$Writer", "putNumbers", "(I)V"⟩)]
def tws_5 : List Cond := [(Cond.instanceMethod ⟨"ReplayedBeans$Writer", "putNumbers", "(I)V"⟩), (Cond.methodLink "ReplayedBeans$Writer" 114 ⟨"ReplayedBeans$Beans", "numberOf", "(II)I"⟩), (Cond.methodLink "ReplayedBeans$Writer" 117 ⟨"ReplayedBeans$Kinds", "defaultOf", "(II)I"⟩), (Cond.methodLink "ReplayedBeans$Writer" 110 ⟨"ReplayedBeans$Writer", "putLinkStatement", "(III)V"⟩), (Cond.instanceMethod ⟨"ReplayedBeans$Writer", "putLinkStatement", "(III)V"⟩), (Cond.methodLink "ReplayedBeans" 138 ⟨"ReplayedBeans$Text", "copyFrom", "(LReplayedBeans$Text;)V"⟩), (Cond.instanceMethod ⟨"ReplayedBeans$Text", "copyFrom", "(LReplayedBeans$Text;)V"⟩), (Cond.selects "ReplayedBeans$Text" ⟨"ReplayedBeans$Text", "copyFrom", "(LReplayedBeans$Text;)V"⟩ ⟨"ReplayedBeans$Text", "copyFrom", "(LReplayedBeans$Text;)V"⟩), (Cond.methodLink "ReplayedBeans$Text" 19 ⟨"java/lang/System", "arraycopy", "(Ljava/lang/Object;ILjava/lang/Object;II)V"⟩), (Cond.static ⟨"java/lang/System", "arraycopy", "(Ljava/lang/Object;ILjava/lang/Object;II)V"⟩), (Cond.native ⟨"java/lang/System", "arraycopy", "(Ljava/lang/Object;ILjava/lang/Object;II)V"⟩), (Cond.methodLink "ReplayedBeansLaw" 71 ⟨"ReplayedBeans", "type", "(C)Z"⟩), (Cond.instanceMethod ⟨"ReplayedBeans", "type", "(C)Z"⟩), (Cond.selects "ReplayedBeans" ⟨"ReplayedBeans", "type", "(C)Z"⟩ ⟨"ReplayedBeans", "type", "(C)Z"⟩), (Cond.methodLink "ReplayedBeans" 142 ⟨"ReplayedBeans$Text", "add", "(C)Z"⟩), (Cond.methodLink "ReplayedBeansLaw" 76 ⟨"ReplayedBeans", "wipe", "()V"⟩), (Cond.instanceMethod ⟨"ReplayedBeans", "wipe", "()V"⟩), (Cond.selects "ReplayedBeans" ⟨"ReplayedBeans", "wipe", "()V"⟩ ⟨"ReplayedBeans", "wipe", "()V"⟩), (Cond.methodLink "ReplayedBeansLaw" 80 ⟨"ReplayedBeans", "length", "()I"⟩), (Cond.instanceMethod ⟨"ReplayedBeans", "length", "()I"⟩), (Cond.selects "ReplayedBeans" ⟨"ReplayedBeans", "length", "()I"⟩ ⟨"ReplayedBeans", "length", "()I"⟩), (Cond.methodLink "ReplayedBeansLaw" 84 ⟨"ReplayedBeans", "at", "(I)I"⟩), (Cond.instanceMethod ⟨"ReplayedBeans", "at", "(I)I"⟩), (Cond.selects "ReplayedBeans" ⟨"ReplayedBeans", "at", "(I)I"⟩ ⟨"ReplayedBeans", "at", "(I)I"⟩), (Cond.methodLink "ReplayedBeans" 145 ⟨"ReplayedBeans$Text", "codeAt", "(I)I"⟩), (Cond.instanceMethod ⟨"ReplayedBeans$Text", "codeAt", "(I)I"⟩), (Cond.selects "ReplayedBeans$Text" ⟨"ReplayedBeans$Text", "codeAt", "(I)I"⟩ ⟨"ReplayedBeans$Text", "codeAt", "(I)I"⟩), (Cond.methodLink "ReplayedBeansLaw" 88 ⟨"ReplayedBeans", "read", "()I"⟩), (Cond.instanceMethod ⟨"ReplayedBeans", "read", "()I"⟩), (Cond.selects "ReplayedBeans" ⟨"ReplayedBeans", "read", "()I"⟩ ⟨"ReplayedBeans", "read", "()I"⟩), (Cond.methodLink "ReplayedBeans" 148 ⟨"ReplayedBeans$Grammar", "wrongPlace", "()I"⟩), (Cond.instanceMethod ⟨"ReplayedBeans$Grammar", "wrongPlace", "()I"⟩), (Cond.selects "ReplayedBeans$Grammar" ⟨"ReplayedBeans$Grammar", "wrongPlace", "()I"⟩ ⟨"ReplayedBeans$Grammar", "wrongPlace", "()I"⟩), (Cond.methodLink "ReplayedBeans$Grammar" 30 ⟨"ReplayedBeans$Text", "codeAt", "(I)I"⟩), (Cond.methodLink "ReplayedBeans$Grammar" 34 ⟨"ReplayedBeans$Grammar", "dueAfter", "(I)I"⟩), (Cond.instanceMethod ⟨"ReplayedBeans$Grammar", "dueAfter", "(I)I"⟩), (Cond.methodLink "ReplayedBeans$Grammar" 37 ⟨"ReplayedBeans$Grammar", "opened", "()I"⟩), (Cond.instanceMethod ⟨"ReplayedBeans$Grammar", "opened", "()I"⟩), (Cond.methodLink "ReplayedBeans$Grammar" 41 ⟨"ReplayedBeans$Grammar", "idDigits", "()I"⟩), (Cond.instanceMethod ⟨"ReplayedBeans$Grammar", "idDigits", "()I"⟩), (Cond.methodLink "ReplayedBeans$Grammar" 44 ⟨"ReplayedBeans$Grammar", "afterBody", "(I)I"⟩), (Cond.instanceMethod ⟨"ReplayedBeans$Grammar", "afterBody", "(I)I"⟩), (Cond.methodLink "ReplayedBeans$Grammar" 57 ⟨"ReplayedBeans$Grammar", "isProperty", "(I)Z"⟩), (Cond.static ⟨"ReplayedBeans$Grammar", "isProperty", "(I)Z"⟩), (Cond.methodLink "ReplayedBeans$Grammar" 60 ⟨"ReplayedBeans$Grammar", "isNumberLetter", "(I)Z"⟩), (Cond.static ⟨"ReplayedBeans$Grammar", "isNumberLetter", "(I)Z"⟩), (Cond.methodLink "ReplayedBeans$Grammar" 63 ⟨"ReplayedBeans$Grammar", "closed", "()I"⟩), (Cond.instanceMethod ⟨"ReplayedBeans$Grammar", "closed", "()I"⟩), (Cond.methodLink "ReplayedBeans$Grammar" 47 ⟨"ReplayedBeans$Grammar", "afterDigit", "(I)I"⟩), (Cond.instanceMethod ⟨"ReplayedBeans$Grammar", "afterDigit", "(I)I"⟩), (Cond.methodLink "ReplayedBeans$Grammar" 53 ⟨"ReplayedBeans$Grammar", "isDigit", "(I)Z"⟩), (Cond.static ⟨"ReplayedBeans$Grammar", "isDigit", "(I)Z"⟩), (Cond.methodLink "ReplayedBeans$Grammar" 50 ⟨"ReplayedBeans$Grammar", "afterLinkValue", "(I)I"⟩), (Cond.instanceMethod ⟨"ReplayedBeans$Grammar", "afterLinkValue", "(I)I"⟩), (Cond.methodLink "ReplayedBeans" 152 ⟨"ReplayedBeans$Replay", "run", "()I"⟩), (Cond.instanceMethod ⟨"ReplayedBeans$Replay", "run", "()I"⟩), (Cond.selects "ReplayedBeans$Replay" ⟨"ReplayedBeans$Replay", "run", "()I"⟩ ⟨"ReplayedBeans$Replay", "run", "()I"⟩), (Cond.methodLink "ReplayedBeans$Replay" 26 ⟨"java/util/Arrays", "fill", "([II)V"⟩), (Cond.methodLink "ReplayedBeans$Replay" 39 ⟨"ReplayedBeans$Replay", "replayObject", "(I)I"⟩), (Cond.instanceMethod ⟨"ReplayedBeans$Replay", "replayObject", "(I)I"⟩)]
def tws_6 : List Cond := [(Cond.methodLink "ReplayedBeans$Replay" 43 ⟨"ReplayedBeans$Text", "codeAt", "(I)I"⟩), (Cond.methodLink "ReplayedBeans$Replay" 48 ⟨"ReplayedBeans$Beans", "add", "(I)I"⟩), (Cond.methodLink "ReplayedBeans$Replay" 53 ⟨"ReplayedBeans$Replay", "fail", "(I)V"⟩), (Cond.instanceMethod ⟨"ReplayedBeans$Replay", "fail", "(I)V"⟩), (Cond.methodLink "ReplayedBeans$Replay" 57 ⟨"ReplayedBeans$Replay", "replayNaming", "(I)V"⟩), (Cond.instanceMethod ⟨"ReplayedBeans$Replay", "replayNaming", "(I)V"⟩), (Cond.methodLink "ReplayedBeans$Replay" 70 ⟨"ReplayedBeans$Replay", "replayDigits", "(I)I"⟩), (Cond.instanceMethod ⟨"ReplayedBeans$Replay", "replayDigits", "(I)I"⟩), (Cond.methodLink "ReplayedBeans$Replay" 93 ⟨"ReplayedBeans$Grammar", "isDigit", "(I)Z"⟩), (Cond.methodLink "ReplayedBeans$Replay" 60 ⟨"ReplayedBeans$Grammar", "isProperty", "(I)Z"⟩), (Cond.methodLink "ReplayedBeans$Replay" 66 ⟨"ReplayedBeans$Replay", "replayStatement", "(II)V"⟩), (Cond.instanceMethod ⟨"ReplayedBeans$Replay", "replayStatement", "(II)V"⟩), (Cond.methodLink "ReplayedBeans$Replay" 73 ⟨"ReplayedBeans$Grammar", "isNumberLetter", "(I)Z"⟩), (Cond.methodLink "ReplayedBeans$Replay" 76 ⟨"ReplayedBeans$Replay", "replayNumber", "()I"⟩), (Cond.instanceMethod ⟨"ReplayedBeans$Replay", "replayNumber", "()I"⟩), (Cond.methodLink "ReplayedBeans$Replay" 80 ⟨"ReplayedBeans$Beans", "putNumber", "(III)Z"⟩), (Cond.methodLink "ReplayedBeans$Replay" 84 ⟨"ReplayedBeans$Replay", "replayLinkValue", "(I)I"⟩), (Cond.instanceMethod ⟨"ReplayedBeans$Replay", "replayLinkValue", "(I)I"⟩), (Cond.methodLink "ReplayedBeans$Replay" 90 ⟨"ReplayedBeans$Replay", "orFailed", "(I)I"⟩), (Cond.instanceMethod ⟨"ReplayedBeans$Replay", "orFailed", "(I)I"⟩), (Cond.methodLink "ReplayedBeans$Replay" 87 ⟨"ReplayedBeans$Beans", "putLink", "(III)Z"⟩), (Cond.methodLink "ReplayedBeansLaw" 92 ⟨"ReplayedBeans", "failures", "()I"⟩), (Cond.instanceMethod ⟨"ReplayedBeans", "failures", "()I"⟩), (Cond.selects "ReplayedBeans" ⟨"ReplayedBeans", "failures", "()I"⟩ ⟨"ReplayedBeans", "failures", "()I"⟩), (Cond.methodLink "ReplayedBeansLaw" 96 ⟨"ReplayedBeans", "failure", "(I)I"⟩), (Cond.instanceMethod ⟨"ReplayedBeans", "failure", "(I)I"⟩), (Cond.selects "ReplayedBeans" ⟨"ReplayedBeans", "failure", "(I)I"⟩ ⟨"ReplayedBeans", "failure", "(I)I"⟩), (Cond.methodLink "ReplayedBeans" 158 ⟨"ReplayedBeans$Replay", "failedPlace", "(I)I"⟩), (Cond.instanceMethod ⟨"ReplayedBeans$Replay", "failedPlace", "(I)I"⟩), (Cond.selects "ReplayedBeans$Replay" ⟨"ReplayedBeans$Replay", "failedPlace", "(I)I"⟩ ⟨"ReplayedBeans$Replay", "failedPlace", "(I)I"⟩), (Cond.classLink "ReplayedBeansLaw" 10 "ReplayedBeansModel"), (Cond.instantiable "ReplayedBeansModel" 36), (Cond.methodLink "ReplayedBeansLaw" 12 ⟨"ReplayedBeansModel", "<init>", "()V"⟩), (Cond.instanceMethod ⟨"ReplayedBeansModel", "<init>", "()V"⟩), (Cond.methodLink "ReplayedBeansModel" 1 ⟨"java/lang/Object", "<init>", "()V"⟩), (Cond.fieldLink "ReplayedBeansModel" 7 "ReplayedBeansModel" "defined" "[Z"), (Cond.fieldLink "ReplayedBeansModel" 13 "ReplayedBeansModel" "numbers" "[I"), (Cond.fieldLink "ReplayedBeansModel" 17 "ReplayedBeansModel" "links" "[I"), (Cond.fieldLink "ReplayedBeansModel" 20 "ReplayedBeansModel" "first" "[I"), (Cond.fieldLink "ReplayedBeansModel" 23 "ReplayedBeansModel" "least" "[I"), (Cond.fieldLink "ReplayedBeansModel" 26 "ReplayedBeansModel" "greatest" "[I"), (Cond.fieldLink "ReplayedBeansModel" 80 "ReplayedBeansModel" "objects" "I"), (Cond.fieldLink "ReplayedBeansModel" 29 "ReplayedBeansModel" "kinds" "[I"), (Cond.fieldLink "ReplayedBeansModel" 32 "ReplayedBeansModel" "value" "[I"), (Cond.fieldLink "ReplayedBeansModel" 35 "ReplayedBeansModel" "to" "[I"), (Cond.fieldLink "ReplayedBeansModel" 38 "ReplayedBeansModel" "text" "[I"), (Cond.fieldLink "ReplayedBeansModel" 138 "ReplayedBeansModel" "size" "I"), (Cond.fieldLink "ReplayedBeansModel" 41 "ReplayedBeansModel" "out" "[I"), (Cond.fieldLink "ReplayedBeansModel" 115 "ReplayedBeansModel" "outSize" "I"), (Cond.fieldLink "ReplayedBeansModel" 44 "ReplayedBeansModel" "reach" "[Z"), (Cond.fieldLink "ReplayedBeansModel" 47 "ReplayedBeansModel" "pair" "[I"), (Cond.fieldLink "ReplayedBeansModel" 50 "ReplayedBeansModel" "back" "[I"), (Cond.fieldLink "ReplayedBeansModel" 53 "ReplayedBeansModel" "id" "[I"), (Cond.fieldLink "ReplayedBeansModel" 56 "ReplayedBeansModel" "begun" "[Z"), (Cond.fieldLink "ReplayedBeansModel" 128 "ReplayedBeansModel" "ids" "I"), (Cond.fieldLink "ReplayedBeansModel" 122 "ReplayedBeansModel" "depth" "I"), (Cond.fieldLink "ReplayedBeansModel" 59 "ReplayedBeansModel" "open" "[I"), (Cond.fieldLink "ReplayedBeansModel" 62 "ReplayedBeansModel" "going" "[I"), (Cond.fieldLink "ReplayedBeansModel" 65 "ReplayedBeansModel" "where" "[I"), (Cond.fieldLink "ReplayedBeansModel" 141 "ReplayedBeansModel" "state" "I")]
def tws_7 : List Cond := [(Cond.fieldLink "ReplayedBeansModel" 151 "ReplayedBeansModel" "figures" "I"), (Cond.fieldLink "ReplayedBeansModel" 163 "ReplayedBeansModel" "amount" "I"), (Cond.fieldLink "ReplayedBeansModel" 182 "ReplayedBeansModel" "minus" "Z"), (Cond.fieldLink "ReplayedBeansModel" 179 "ReplayedBeansModel" "property" "I"), (Cond.fieldLink "ReplayedBeansModel" 186 "ReplayedBeansModel" "propertyPlace" "I"), (Cond.fieldLink "ReplayedBeansModel" 189 "ReplayedBeansModel" "begin" "I"), (Cond.fieldLink "ReplayedBeansModel" 173 "ReplayedBeansModel" "mark" "I"), (Cond.fieldLink "ReplayedBeansModel" 199 "ReplayedBeansModel" "outermost" "I"), (Cond.fieldLink "ReplayedBeansModel" 68 "ReplayedBeansModel" "named" "[I"), (Cond.fieldLink "ReplayedBeansModel" 170 "ReplayedBeansModel" "failed" "I"), (Cond.fieldLink "ReplayedBeansModel" 71 "ReplayedBeansModel" "failure" "[I"), (Cond.laysFinal "ReplayedBeansModel" "ReplayedBeansModel" "defined" "[Z"), (Cond.laysFinal "ReplayedBeansModel" "ReplayedBeansModel" "numbers" "[I"), (Cond.laysFinal "ReplayedBeansModel" "ReplayedBeansModel" "links" "[I"), (Cond.laysFinal "ReplayedBeansModel" "ReplayedBeansModel" "first" "[I"), (Cond.laysFinal "ReplayedBeansModel" "ReplayedBeansModel" "least" "[I"), (Cond.laysFinal "ReplayedBeansModel" "ReplayedBeansModel" "greatest" "[I"), (Cond.lays "ReplayedBeansModel" "ReplayedBeansModel" "objects" "I"), (Cond.laysFinal "ReplayedBeansModel" "ReplayedBeansModel" "kinds" "[I"), (Cond.laysFinal "ReplayedBeansModel" "ReplayedBeansModel" "value" "[I"), (Cond.laysFinal "ReplayedBeansModel" "ReplayedBeansModel" "to" "[I"), (Cond.laysFinal "ReplayedBeansModel" "ReplayedBeansModel" "text" "[I"), (Cond.lays "ReplayedBeansModel" "ReplayedBeansModel" "size" "I"), (Cond.laysFinal "ReplayedBeansModel" "ReplayedBeansModel" "out" "[I"), (Cond.lays "ReplayedBeansModel" "ReplayedBeansModel" "outSize" "I"), (Cond.laysFinal "ReplayedBeansModel" "ReplayedBeansModel" "reach" "[Z"), (Cond.laysFinal "ReplayedBeansModel" "ReplayedBeansModel" "pair" "[I"), (Cond.laysFinal "ReplayedBeansModel" "ReplayedBeansModel" "back" "[I"), (Cond.laysFinal "ReplayedBeansModel" "ReplayedBeansModel" "id" "[I"), (Cond.laysFinal "ReplayedBeansModel" "ReplayedBeansModel" "begun" "[Z"), (Cond.lays "ReplayedBeansModel" "ReplayedBeansModel" "ids" "I"), (Cond.lays "ReplayedBeansModel" "ReplayedBeansModel" "depth" "I"), (Cond.laysFinal "ReplayedBeansModel" "ReplayedBeansModel" "open" "[I"), (Cond.laysFinal "ReplayedBeansModel" "ReplayedBeansModel" "going" "[I"), (Cond.laysFinal "ReplayedBeansModel" "ReplayedBeansModel" "where" "[I"), (Cond.lays "ReplayedBeansModel" "ReplayedBeansModel" "state" "I"), (Cond.lays "ReplayedBeansModel" "ReplayedBeansModel" "figures" "I"), (Cond.lays "ReplayedBeansModel" "ReplayedBeansModel" "amount" "I"), (Cond.lays "ReplayedBeansModel" "ReplayedBeansModel" "minus" "Z"), (Cond.lays "ReplayedBeansModel" "ReplayedBeansModel" "property" "I"), (Cond.lays "ReplayedBeansModel" "ReplayedBeansModel" "propertyPlace" "I"), (Cond.lays "ReplayedBeansModel" "ReplayedBeansModel" "begin" "I"), (Cond.lays "ReplayedBeansModel" "ReplayedBeansModel" "mark" "I"), (Cond.lays "ReplayedBeansModel" "ReplayedBeansModel" "outermost" "I"), (Cond.laysFinal "ReplayedBeansModel" "ReplayedBeansModel" "named" "[I"), (Cond.lays "ReplayedBeansModel" "ReplayedBeansModel" "failed" "I"), (Cond.laysFinal "ReplayedBeansModel" "ReplayedBeansModel" "failure" "[I"), (Cond.methodLink "ReplayedBeansLaw" 17 ⟨"ReplayedBeansModel", "define", "(III)Z"⟩), (Cond.instanceMethod ⟨"ReplayedBeansModel", "define", "(III)Z"⟩), (Cond.selects "ReplayedBeansModel" ⟨"ReplayedBeansModel", "define", "(III)Z"⟩ ⟨"ReplayedBeansModel", "define", "(III)Z"⟩), (Cond.methodLink "ReplayedBeansLaw" 22 ⟨"ReplayedBeansModel", "values", "(IIIII)Z"⟩), (Cond.instanceMethod ⟨"ReplayedBeansModel", "values", "(IIIII)Z"⟩), (Cond.selects "ReplayedBeansModel" ⟨"ReplayedBeansModel", "values", "(IIIII)Z"⟩ ⟨"ReplayedBeansModel", "values", "(IIIII)Z"⟩), (Cond.methodLink "ReplayedBeansModel" 74 ⟨"ReplayedBeansModel", "isKind", "(I)Z"⟩), (Cond.instanceMethod ⟨"ReplayedBeansModel", "isKind", "(I)Z"⟩), (Cond.constant "ReplayedBeansModel" 78 (-99999 : Int32)), (Cond.constant "ReplayedBeansModel" 79 (99999 : Int32)), (Cond.methodLink "ReplayedBeansLaw" 27 ⟨"ReplayedBeansModel", "make", "(I)I"⟩), (Cond.instanceMethod ⟨"ReplayedBeansModel", "make", "(I)I"⟩), (Cond.selects "ReplayedBeansModel" ⟨"ReplayedBeansModel", "make", "(I)I"⟩ ⟨"ReplayedBeansModel", "make", "(I)I"⟩)]
def tws_8 : List Cond := [(Cond.methodLink "ReplayedBeansLaw" 31 ⟨"ReplayedBeansModel", "clear", "()V"⟩), (Cond.instanceMethod ⟨"ReplayedBeansModel", "clear", "()V"⟩), (Cond.selects "ReplayedBeansModel" ⟨"ReplayedBeansModel", "clear", "()V"⟩ ⟨"ReplayedBeansModel", "clear", "()V"⟩), (Cond.methodLink "ReplayedBeansLaw" 36 ⟨"ReplayedBeansModel", "count", "()I"⟩), (Cond.instanceMethod ⟨"ReplayedBeansModel", "count", "()I"⟩), (Cond.selects "ReplayedBeansModel" ⟨"ReplayedBeansModel", "count", "()I"⟩ ⟨"ReplayedBeansModel", "count", "()I"⟩), (Cond.methodLink "ReplayedBeansLaw" 40 ⟨"ReplayedBeansModel", "kind", "(I)I"⟩), (Cond.instanceMethod ⟨"ReplayedBeansModel", "kind", "(I)I"⟩), (Cond.selects "ReplayedBeansModel" ⟨"ReplayedBeansModel", "kind", "(I)I"⟩ ⟨"ReplayedBeansModel", "kind", "(I)I"⟩), (Cond.methodLink "ReplayedBeansModel" 84 ⟨"ReplayedBeansModel", "isObject", "(I)Z"⟩), (Cond.instanceMethod ⟨"ReplayedBeansModel", "isObject", "(I)Z"⟩), (Cond.methodLink "ReplayedBeansLaw" 44 ⟨"ReplayedBeansModel", "setNumber", "(III)Z"⟩), (Cond.instanceMethod ⟨"ReplayedBeansModel", "setNumber", "(III)Z"⟩), (Cond.selects "ReplayedBeansModel" ⟨"ReplayedBeansModel", "setNumber", "(III)Z"⟩ ⟨"ReplayedBeansModel", "setNumber", "(III)Z"⟩), (Cond.methodLink "ReplayedBeansModel" 87 ⟨"ReplayedBeansModel", "hasNumber", "(II)Z"⟩), (Cond.instanceMethod ⟨"ReplayedBeansModel", "hasNumber", "(II)Z"⟩), (Cond.methodLink "ReplayedBeansModel" 91 ⟨"ReplayedBeansModel", "inRange", "(III)Z"⟩), (Cond.instanceMethod ⟨"ReplayedBeansModel", "inRange", "(III)Z"⟩), (Cond.methodLink "ReplayedBeansLaw" 48 ⟨"ReplayedBeansModel", "setLink", "(III)Z"⟩), (Cond.instanceMethod ⟨"ReplayedBeansModel", "setLink", "(III)Z"⟩), (Cond.selects "ReplayedBeansModel" ⟨"ReplayedBeansModel", "setLink", "(III)Z"⟩ ⟨"ReplayedBeansModel", "setLink", "(III)Z"⟩), (Cond.methodLink "ReplayedBeansModel" 95 ⟨"ReplayedBeansModel", "hasLink", "(II)Z"⟩), (Cond.instanceMethod ⟨"ReplayedBeansModel", "hasLink", "(II)Z"⟩), (Cond.methodLink "ReplayedBeansLaw" 53 ⟨"ReplayedBeansModel", "number", "(II)I"⟩), (Cond.instanceMethod ⟨"ReplayedBeansModel", "number", "(II)I"⟩), (Cond.selects "ReplayedBeansModel" ⟨"ReplayedBeansModel", "number", "(II)I"⟩ ⟨"ReplayedBeansModel", "number", "(II)I"⟩), (Cond.methodLink "ReplayedBeansLaw" 57 ⟨"ReplayedBeansModel", "link", "(II)I"⟩), (Cond.instanceMethod ⟨"ReplayedBeansModel", "link", "(II)I"⟩), (Cond.selects "ReplayedBeansModel" ⟨"ReplayedBeansModel", "link", "(II)I"⟩ ⟨"ReplayedBeansModel", "link", "(II)I"⟩), (Cond.methodLink "ReplayedBeansLaw" 61 ⟨"ReplayedBeansModel", "reachable", "(I)I"⟩), (Cond.instanceMethod ⟨"ReplayedBeansModel", "reachable", "(I)I"⟩), (Cond.selects "ReplayedBeansModel" ⟨"ReplayedBeansModel", "reachable", "(I)I"⟩ ⟨"ReplayedBeansModel", "reachable", "(I)I"⟩), (Cond.methodLink "ReplayedBeansModel" 102 ⟨"ReplayedBeansModel", "spread", "(I)I"⟩), (Cond.instanceMethod ⟨"ReplayedBeansModel", "spread", "(I)I"⟩), (Cond.methodLink "ReplayedBeansModel" 98 ⟨"ReplayedBeansModel", "link", "(II)I"⟩), (Cond.methodLink "ReplayedBeansLaw" 66 ⟨"ReplayedBeansModel", "alike", "(II)Z"⟩), (Cond.instanceMethod ⟨"ReplayedBeansModel", "alike", "(II)Z"⟩), (Cond.selects "ReplayedBeansModel" ⟨"ReplayedBeansModel", "alike", "(II)Z"⟩ ⟨"ReplayedBeansModel", "alike", "(II)Z"⟩), (Cond.methodLink "ReplayedBeansModel" 109 ⟨"ReplayedBeansModel", "join", "(II)Z"⟩), (Cond.instanceMethod ⟨"ReplayedBeansModel", "join", "(II)Z"⟩), (Cond.methodLink "ReplayedBeansModel" 112 ⟨"ReplayedBeansModel", "sameNumbers", "(II)Z"⟩), (Cond.instanceMethod ⟨"ReplayedBeansModel", "sameNumbers", "(II)Z"⟩), (Cond.methodLink "ReplayedBeansModel" 106 ⟨"ReplayedBeansModel", "number", "(II)I"⟩), (Cond.methodLink "ReplayedBeansLaw" 70 ⟨"ReplayedBeansModel", "write", "(I)I"⟩), (Cond.instanceMethod ⟨"ReplayedBeansModel", "write", "(I)I"⟩), (Cond.selects "ReplayedBeansModel" ⟨"ReplayedBeansModel", "write", "(I)I"⟩ ⟨"ReplayedBeansModel", "write", "(I)I"⟩), (Cond.methodLink "ReplayedBeansModel" 134 ⟨"ReplayedBeansModel", "beginObject", "(II)V"⟩), (Cond.instanceMethod ⟨"ReplayedBeansModel", "beginObject", "(II)V"⟩), (Cond.methodLink "ReplayedBeansModel" 118 ⟨"ReplayedBeansModel", "put", "(I)V"⟩), (Cond.instanceMethod ⟨"ReplayedBeansModel", "put", "(I)V"⟩), (Cond.methodLink "ReplayedBeansModel" 125 ⟨"ReplayedBeansModel", "leading", "(I)I"⟩), (Cond.instanceMethod ⟨"ReplayedBeansModel", "leading", "(I)I"⟩), (Cond.methodLink "ReplayedBeansModel" 131 ⟨"ReplayedBeansModel", "putNumber", "(I)V"⟩), (Cond.instanceMethod ⟨"ReplayedBeansModel", "putNumber", "(I)V"⟩), (Cond.methodLink "ReplayedBeansLaw" 75 ⟨"ReplayedBeansModel", "type", "(C)Z"⟩), (Cond.instanceMethod ⟨"ReplayedBeansModel", "type", "(C)Z"⟩), (Cond.selects "ReplayedBeansModel" ⟨"ReplayedBeansModel", "type", "(C)Z"⟩ ⟨"ReplayedBeansModel", "type", "(C)Z"⟩), (Cond.methodLink "ReplayedBeansLaw" 79 ⟨"ReplayedBeansModel", "wipe", "()V"⟩), (Cond.instanceMethod ⟨"ReplayedBeansModel", "wipe", "()V"⟩), (Cond.selects "ReplayedBeansModel" ⟨"ReplayedBeansModel", "wipe", "()V"⟩ ⟨"ReplayedBeansModel", "wipe", "()V"⟩)]
def tws_9 : List Cond := [(Cond.methodLink "ReplayedBeansLaw" 83 ⟨"ReplayedBeansModel", "length", "()I"⟩), (Cond.instanceMethod ⟨"ReplayedBeansModel", "length", "()I"⟩), (Cond.selects "ReplayedBeansModel" ⟨"ReplayedBeansModel", "length", "()I"⟩ ⟨"ReplayedBeansModel", "length", "()I"⟩), (Cond.methodLink "ReplayedBeansLaw" 87 ⟨"ReplayedBeansModel", "at", "(I)I"⟩), (Cond.instanceMethod ⟨"ReplayedBeansModel", "at", "(I)I"⟩), (Cond.selects "ReplayedBeansModel" ⟨"ReplayedBeansModel", "at", "(I)I"⟩ ⟨"ReplayedBeansModel", "at", "(I)I"⟩), (Cond.methodLink "ReplayedBeansLaw" 91 ⟨"ReplayedBeansModel", "read", "()I"⟩), (Cond.instanceMethod ⟨"ReplayedBeansModel", "read", "()I"⟩), (Cond.selects "ReplayedBeansModel" ⟨"ReplayedBeansModel", "read", "()I"⟩ ⟨"ReplayedBeansModel", "read", "()I"⟩), (Cond.methodLink "ReplayedBeansModel" 209 ⟨"ReplayedBeansModel", "go", "(Z)I"⟩), (Cond.instanceMethod ⟨"ReplayedBeansModel", "go", "(Z)I"⟩), (Cond.methodLink "ReplayedBeansModel" 202 ⟨"ReplayedBeansModel", "after", "(IZ)I"⟩), (Cond.instanceMethod ⟨"ReplayedBeansModel", "after", "(IZ)I"⟩), (Cond.methodLink "ReplayedBeansModel" 144 ⟨"ReplayedBeansModel", "inside", "(IZ)I"⟩), (Cond.instanceMethod ⟨"ReplayedBeansModel", "inside", "(IZ)I"⟩), (Cond.methodLink "ReplayedBeansModel" 154 ⟨"ReplayedBeansModel", "settle", "()V"⟩), (Cond.instanceMethod ⟨"ReplayedBeansModel", "settle", "()V"⟩), (Cond.methodLink "ReplayedBeansModel" 157 ⟨"ReplayedBeansModel", "name", "()V"⟩), (Cond.instanceMethod ⟨"ReplayedBeansModel", "name", "()V"⟩), (Cond.methodLink "ReplayedBeansModel" 176 ⟨"ReplayedBeansModel", "fail", "(I)V"⟩), (Cond.instanceMethod ⟨"ReplayedBeansModel", "fail", "(I)V"⟩), (Cond.methodLink "ReplayedBeansModel" 160 ⟨"ReplayedBeansModel", "assignNumber", "()V"⟩), (Cond.instanceMethod ⟨"ReplayedBeansModel", "assignNumber", "()V"⟩), (Cond.methodLink "ReplayedBeansModel" 166 ⟨"ReplayedBeansModel", "assignLink", "(IZ)V"⟩), (Cond.instanceMethod ⟨"ReplayedBeansModel", "assignLink", "(IZ)V"⟩), (Cond.methodLink "ReplayedBeansModel" 148 ⟨"ReplayedBeansModel", "figure", "(I)Z"⟩), (Cond.static ⟨"ReplayedBeansModel", "figure", "(I)Z"⟩), (Cond.methodLink "ReplayedBeansModel" 205 ⟨"ReplayedBeansModel", "note", "(IIIZ)V"⟩), (Cond.instanceMethod ⟨"ReplayedBeansModel", "note", "(IIIZ)V"⟩), (Cond.methodLink "ReplayedBeansModel" 192 ⟨"ReplayedBeansModel", "make", "(I)I"⟩), (Cond.methodLink "ReplayedBeansModel" 195 ⟨"ReplayedBeansModel", "close", "(Z)V"⟩), (Cond.instanceMethod ⟨"ReplayedBeansModel", "close", "(Z)V"⟩), (Cond.methodLink "ReplayedBeansLaw" 95 ⟨"ReplayedBeansModel", "failures", "()I"⟩), (Cond.instanceMethod ⟨"ReplayedBeansModel", "failures", "()I"⟩), (Cond.selects "ReplayedBeansModel" ⟨"ReplayedBeansModel", "failures", "()I"⟩ ⟨"ReplayedBeansModel", "failures", "()I"⟩), (Cond.methodLink "ReplayedBeansLaw" 99 ⟨"ReplayedBeansModel", "failure", "(I)I"⟩), (Cond.instanceMethod ⟨"ReplayedBeansModel", "failure", "(I)I"⟩), (Cond.selects "ReplayedBeansModel" ⟨"ReplayedBeansModel", "failure", "(I)I"⟩ ⟨"ReplayedBeansModel", "failure", "(I)I"⟩), (Cond.selects "ReplayedBeans$Reach" ⟨"ReplayedBeans$Reach", "visit", "(I)V"⟩ ⟨"ReplayedBeans$Reach", "visit", "(I)V"⟩), (Cond.selects "ReplayedBeans$Pairing" ⟨"ReplayedBeans$Pairing", "join", "(II)Z"⟩ ⟨"ReplayedBeans$Pairing", "join", "(II)Z"⟩), (Cond.selects "ReplayedBeans$Pairing" ⟨"ReplayedBeans$Pairing", "linksPairUp", "(II)Z"⟩ ⟨"ReplayedBeans$Pairing", "linksPairUp", "(II)Z"⟩), (Cond.selects "ReplayedBeans$Pairing" ⟨"ReplayedBeans$Pairing", "joinOrBothNone", "(II)Z"⟩ ⟨"ReplayedBeans$Pairing", "joinOrBothNone", "(II)Z"⟩), (Cond.selects "ReplayedBeans$Writer" ⟨"ReplayedBeans$Writer", "countLinks", "()V"⟩ ⟨"ReplayedBeans$Writer", "countLinks", "()V"⟩), (Cond.selects "ReplayedBeans$Writer" ⟨"ReplayedBeans$Writer", "putObject", "(II)V"⟩ ⟨"ReplayedBeans$Writer", "putObject", "(II)V"⟩), (Cond.selects "ReplayedBeans$Writer" ⟨"ReplayedBeans$Writer", "put", "(C)V"⟩ ⟨"ReplayedBeans$Writer", "put", "(C)V"⟩), (Cond.selects "ReplayedBeans$Writer" ⟨"ReplayedBeans$Writer", "isShared", "(I)Z"⟩ ⟨"ReplayedBeans$Writer", "isShared", "(I)Z"⟩), (Cond.selects "ReplayedBeans$Writer" ⟨"ReplayedBeans$Writer", "putWhole", "(I)V"⟩ ⟨"ReplayedBeans$Writer", "putWhole", "(I)V"⟩), (Cond.selects "ReplayedBeans$Writer" ⟨"ReplayedBeans$Writer", "putNumbers", "(I)V"⟩ ⟨"ReplayedBeans$Writer", "putNumbers", "(I)V"⟩), (Cond.selects "ReplayedBeans$Writer" ⟨"ReplayedBeans$Writer", "putLinkStatement", "(III)V"⟩ ⟨"ReplayedBeans$Writer", "putLinkStatement", "(III)V"⟩), (Cond.selects "ReplayedBeans$Grammar" ⟨"ReplayedBeans$Grammar", "dueAfter", "(I)I"⟩ ⟨"ReplayedBeans$Grammar", "dueAfter", "(I)I"⟩), (Cond.selects "ReplayedBeans$Grammar" ⟨"ReplayedBeans$Grammar", "opened", "()I"⟩ ⟨"ReplayedBeans$Grammar", "opened", "()I"⟩), (Cond.selects "ReplayedBeans$Grammar" ⟨"ReplayedBeans$Grammar", "idDigits", "()I"⟩ ⟨"ReplayedBeans$Grammar", "idDigits", "()I"⟩), (Cond.selects "ReplayedBeans$Grammar" ⟨"ReplayedBeans$Grammar", "afterBody", "(I)I"⟩ ⟨"ReplayedBeans$Grammar", "afterBody", "(I)I"⟩), (Cond.selects "ReplayedBeans$Grammar" ⟨"ReplayedBeans$Grammar", "closed", "()I"⟩ ⟨"ReplayedBeans$Grammar", "closed", "()I"⟩), (Cond.selects "ReplayedBeans$Grammar" ⟨"ReplayedBeans$Grammar", "afterDigit", "(I)I"⟩ ⟨"ReplayedBeans$Grammar", "afterDigit", "(I)I"⟩), (Cond.selects "ReplayedBeans$Grammar" ⟨"ReplayedBeans$Grammar", "afterLinkValue", "(I)I"⟩ ⟨"ReplayedBeans$Grammar", "afterLinkValue", "(I)I"⟩), (Cond.selects "ReplayedBeans$Replay" ⟨"ReplayedBeans$Replay", "replayObject", "(I)I"⟩ ⟨"ReplayedBeans$Replay", "replayObject", "(I)I"⟩), (Cond.selects "ReplayedBeans$Replay" ⟨"ReplayedBeans$Replay", "fail", "(I)V"⟩ ⟨"ReplayedBeans$Replay", "fail", "(I)V"⟩), (Cond.selects "ReplayedBeans$Replay" ⟨"ReplayedBeans$Replay", "replayNaming", "(I)V"⟩ ⟨"ReplayedBeans$Replay", "replayNaming", "(I)V"⟩), (Cond.selects "ReplayedBeans$Replay" ⟨"ReplayedBeans$Replay", "replayDigits", "(I)I"⟩ ⟨"ReplayedBeans$Replay", "replayDigits", "(I)I"⟩)]
def tws_10 : List Cond := [(Cond.selects "ReplayedBeans$Replay" ⟨"ReplayedBeans$Replay", "replayStatement", "(II)V"⟩ ⟨"ReplayedBeans$Replay", "replayStatement", "(II)V"⟩), (Cond.selects "ReplayedBeans$Replay" ⟨"ReplayedBeans$Replay", "replayNumber", "()I"⟩ ⟨"ReplayedBeans$Replay", "replayNumber", "()I"⟩), (Cond.selects "ReplayedBeans$Replay" ⟨"ReplayedBeans$Replay", "replayLinkValue", "(I)I"⟩ ⟨"ReplayedBeans$Replay", "replayLinkValue", "(I)I"⟩), (Cond.selects "ReplayedBeans$Replay" ⟨"ReplayedBeans$Replay", "orFailed", "(I)I"⟩ ⟨"ReplayedBeans$Replay", "orFailed", "(I)I"⟩), (Cond.selects "ReplayedBeansModel" ⟨"ReplayedBeansModel", "isKind", "(I)Z"⟩ ⟨"ReplayedBeansModel", "isKind", "(I)Z"⟩), (Cond.selects "ReplayedBeansModel" ⟨"ReplayedBeansModel", "isObject", "(I)Z"⟩ ⟨"ReplayedBeansModel", "isObject", "(I)Z"⟩), (Cond.selects "ReplayedBeansModel" ⟨"ReplayedBeansModel", "hasNumber", "(II)Z"⟩ ⟨"ReplayedBeansModel", "hasNumber", "(II)Z"⟩), (Cond.selects "ReplayedBeansModel" ⟨"ReplayedBeansModel", "inRange", "(III)Z"⟩ ⟨"ReplayedBeansModel", "inRange", "(III)Z"⟩), (Cond.selects "ReplayedBeansModel" ⟨"ReplayedBeansModel", "hasLink", "(II)Z"⟩ ⟨"ReplayedBeansModel", "hasLink", "(II)Z"⟩), (Cond.selects "ReplayedBeansModel" ⟨"ReplayedBeansModel", "spread", "(I)I"⟩ ⟨"ReplayedBeansModel", "spread", "(I)I"⟩), (Cond.selects "ReplayedBeansModel" ⟨"ReplayedBeansModel", "join", "(II)Z"⟩ ⟨"ReplayedBeansModel", "join", "(II)Z"⟩), (Cond.selects "ReplayedBeansModel" ⟨"ReplayedBeansModel", "sameNumbers", "(II)Z"⟩ ⟨"ReplayedBeansModel", "sameNumbers", "(II)Z"⟩), (Cond.selects "ReplayedBeansModel" ⟨"ReplayedBeansModel", "beginObject", "(II)V"⟩ ⟨"ReplayedBeansModel", "beginObject", "(II)V"⟩), (Cond.selects "ReplayedBeansModel" ⟨"ReplayedBeansModel", "put", "(I)V"⟩ ⟨"ReplayedBeansModel", "put", "(I)V"⟩), (Cond.selects "ReplayedBeansModel" ⟨"ReplayedBeansModel", "leading", "(I)I"⟩ ⟨"ReplayedBeansModel", "leading", "(I)I"⟩), (Cond.selects "ReplayedBeansModel" ⟨"ReplayedBeansModel", "putNumber", "(I)V"⟩ ⟨"ReplayedBeansModel", "putNumber", "(I)V"⟩), (Cond.selects "ReplayedBeansModel" ⟨"ReplayedBeansModel", "go", "(Z)I"⟩ ⟨"ReplayedBeansModel", "go", "(Z)I"⟩), (Cond.selects "ReplayedBeansModel" ⟨"ReplayedBeansModel", "after", "(IZ)I"⟩ ⟨"ReplayedBeansModel", "after", "(IZ)I"⟩), (Cond.selects "ReplayedBeansModel" ⟨"ReplayedBeansModel", "inside", "(IZ)I"⟩ ⟨"ReplayedBeansModel", "inside", "(IZ)I"⟩), (Cond.selects "ReplayedBeansModel" ⟨"ReplayedBeansModel", "settle", "()V"⟩ ⟨"ReplayedBeansModel", "settle", "()V"⟩), (Cond.selects "ReplayedBeansModel" ⟨"ReplayedBeansModel", "name", "()V"⟩ ⟨"ReplayedBeansModel", "name", "()V"⟩), (Cond.selects "ReplayedBeansModel" ⟨"ReplayedBeansModel", "fail", "(I)V"⟩ ⟨"ReplayedBeansModel", "fail", "(I)V"⟩), (Cond.selects "ReplayedBeansModel" ⟨"ReplayedBeansModel", "assignNumber", "()V"⟩ ⟨"ReplayedBeansModel", "assignNumber", "()V"⟩), (Cond.selects "ReplayedBeansModel" ⟨"ReplayedBeansModel", "assignLink", "(IZ)V"⟩ ⟨"ReplayedBeansModel", "assignLink", "(IZ)V"⟩), (Cond.selects "ReplayedBeansModel" ⟨"ReplayedBeansModel", "note", "(IIIZ)V"⟩ ⟨"ReplayedBeansModel", "note", "(IIIZ)V"⟩), (Cond.selects "ReplayedBeansModel" ⟨"ReplayedBeansModel", "close", "(Z)V"⟩ ⟨"ReplayedBeansModel", "close", "(Z)V"⟩)]
def tws : List Cond := tws_0 ++ (tws_1 ++ (tws_2 ++ (tws_3 ++ (tws_4 ++ (tws_5 ++ (tws_6 ++ (tws_7 ++ (tws_8 ++ (tws_9 ++ (tws_10))))))))))
def tm_0 : mm_M := (⟨"java/util/Arrays", "fill", "([II)V"⟩, prog_13_method_103_code, 4, none, 2, 99, 0, 0)
def tm_1 : mm_M := (⟨"ReplayedBeans", "<init>", "()V"⟩, prog_1_method_1_code, 1, none, 1, 0, 30, 1429)
def tm_2 : mm_M := (⟨"ReplayedBeans", "define", "(III)Z"⟩, prog_1_method_2_code, 4, (some .boolean), 4, 0, 0, 0)
def tm_3 : mm_M := (⟨"ReplayedBeans", "values", "(IIIII)Z"⟩, prog_1_method_3_code, 6, (some .boolean), 6, 0, 0, 0)
def tm_4 : mm_M := (⟨"ReplayedBeans", "make", "(I)I"⟩, prog_1_method_4_code, 2, (some .int), 2, 0, 0, 0)
def tm_5 : mm_M := (⟨"ReplayedBeans", "clear", "()V"⟩, prog_1_method_5_code, 1, none, 1, 0, 0, 0)
def tm_6 : mm_M := (⟨"ReplayedBeans", "count", "()I"⟩, prog_1_method_6_code, 1, (some .int), 1, 0, 0, 0)
def tm_7 : mm_M := (⟨"ReplayedBeans", "kind", "(I)I"⟩, prog_1_method_7_code, 2, (some .int), 2, 0, 0, 0)
def tm_8 : mm_M := (⟨"ReplayedBeans", "setNumber", "(III)Z"⟩, prog_1_method_8_code, 4, (some .boolean), 4, 0, 0, 0)
def tm_9 : mm_M := (⟨"ReplayedBeans", "setLink", "(III)Z"⟩, prog_1_method_9_code, 4, (some .boolean), 4, 0, 0, 0)
def tm_10 : mm_M := (⟨"ReplayedBeans", "number", "(II)I"⟩, prog_1_method_10_code, 3, (some .int), 3, 0, 0, 0)
def tm_11 : mm_M := (⟨"ReplayedBeans", "link", "(II)I"⟩, prog_1_method_11_code, 3, (some .int), 3, 0, 0, 0)
def tm_12 : mm_M := (⟨"ReplayedBeans", "reachable", "(I)I"⟩, prog_1_method_12_code, 2, (some .int), 2, 0, 0, 0)
def tm_13 : mm_M := (⟨"ReplayedBeans", "alike", "(II)Z"⟩, prog_1_method_13_code, 3, (some .boolean), 3, 0, 0, 0)
def tm_14 : mm_M := (⟨"ReplayedBeans", "write", "(I)I"⟩, prog_1_method_14_code, 2, (some .int), 2, 0, 0, 0)
def tm_15 : mm_M := (⟨"ReplayedBeans", "type", "(C)Z"⟩, prog_1_method_15_code, 2, (some .boolean), 2, 0, 0, 0)
def tm_16 : mm_M := (⟨"ReplayedBeans", "wipe", "()V"⟩, prog_1_method_16_code, 1, none, 1, 0, 0, 0)
def tm_17 : mm_M := (⟨"ReplayedBeans", "length", "()I"⟩, prog_1_method_17_code, 1, (some .int), 1, 0, 0, 0)
def tm_18 : mm_M := (⟨"ReplayedBeans", "at", "(I)I"⟩, prog_1_method_18_code, 2, (some .int), 2, 0, 0, 0)
def tm_19 : mm_M := (⟨"ReplayedBeans", "read", "()I"⟩, prog_1_method_19_code, 2, (some .int), 1, 0, 0, 0)
def tm_20 : mm_M := (⟨"ReplayedBeans", "failures", "()I"⟩, prog_1_method_20_code, 1, (some .int), 1, 0, 0, 0)
def tm_21 : mm_M := (⟨"ReplayedBeans", "failure", "(I)I"⟩, prog_1_method_21_code, 2, (some .int), 2, 0, 0, 0)
def tm_22 : mm_M := (⟨"ReplayedBeans$Kinds", "<init>", "()V"⟩, prog_4_method_1_code, 1, none, 1, 1, 6, 48)
def tm_23 : mm_M := (⟨"ReplayedBeans$Kinds", "isDefined", "(I)Z"⟩, prog_4_method_2_code, 2, (some .boolean), 2, 1, 0, 0)
def tm_24 : mm_M := (⟨"ReplayedBeans$Kinds", "hasNumber", "(II)Z"⟩, prog_4_method_3_code, 3, (some .boolean), 3, 1, 0, 0)
def tm_25 : mm_M := (⟨"ReplayedBeans$Kinds", "hasLink", "(II)Z"⟩, prog_4_method_4_code, 3, (some .boolean), 3, 1, 0, 0)
def tm_26 : mm_M := (⟨"ReplayedBeans$Kinds", "introduce", "(III)Z"⟩, prog_4_method_5_code, 4, (some .boolean), 4, 1, 0, 0)
def tm_27 : mm_M := (⟨"ReplayedBeans$Kinds", "bound", "(IIIII)Z"⟩, prog_4_method_6_code, 7, (some .boolean), 6, 1, 0, 0)
def tm_28 : mm_M := (⟨"ReplayedBeans$Kinds", "defaultOf", "(II)I"⟩, prog_4_method_7_code, 3, (some .int), 3, 1, 0, 0)
def tm_29 : mm_M := (⟨"ReplayedBeans$Kinds", "allows", "(III)Z"⟩, prog_4_method_8_code, 5, (some .boolean), 4, 1, 0, 0)
def tm_30 : mm_M := (⟨"ReplayedBeans$Beans", "<init>", "(LReplayedBeans$Kinds;)V"⟩, prog_2_method_1_code, 2, none, 2, 2, 3, 144)
def tm_31 : mm_M := (⟨"ReplayedBeans$Beans", "isThere", "(I)Z"⟩, prog_2_method_2_code, 2, (some .boolean), 2, 2, 0, 0)
def tm_32 : mm_M := (⟨"ReplayedBeans$Beans", "add", "(I)I"⟩, prog_2_method_3_code, 4, (some .int), 2, 2, 0, 0)
def tm_33 : mm_M := (⟨"ReplayedBeans$Beans", "removeAll", "()V"⟩, prog_2_method_4_code, 1, none, 1, 2, 0, 0)
def tm_34 : mm_M := (⟨"ReplayedBeans$Beans", "kindOf", "(I)I"⟩, prog_2_method_5_code, 2, (some .int), 2, 2, 0, 0)
def tm_35 : mm_M := (⟨"ReplayedBeans$Beans", "putNumber", "(III)Z"⟩, prog_2_method_6_code, 4, (some .boolean), 4, 2, 0, 0)
def tm_36 : mm_M := (⟨"ReplayedBeans$Beans", "putLink", "(III)Z"⟩, prog_2_method_7_code, 4, (some .boolean), 4, 2, 0, 0)
def tm_37 : mm_M := (⟨"ReplayedBeans$Beans", "numberOf", "(II)I"⟩, prog_2_method_8_code, 3, (some .int), 3, 2, 0, 0)
def tm_38 : mm_M := (⟨"ReplayedBeans$Beans", "linkOf", "(II)I"⟩, prog_2_method_9_code, 3, (some .int), 3, 2, 0, 0)
def tm_39 : mm_M := (⟨"ReplayedBeans$Beans", "sameKindAndNumbers", "(II)Z"⟩, prog_2_method_10_code, 4, (some .boolean), 3, 2, 0, 0)
def tm_40 : mm_M := (⟨"ReplayedBeans$Reach", "<init>", "(LReplayedBeans$Beans;)V"⟩, prog_6_method_1_code, 2, none, 2, 3, 2, 48)
def tm_41 : mm_M := (⟨"ReplayedBeans$Reach", "spreadFrom", "(I)V"⟩, prog_6_method_2_code, 4, none, 2, 3, 0, 0)
def tm_42 : mm_M := (⟨"ReplayedBeans$Reach", "visit", "(I)V"⟩, prog_6_method_3_code, 2, none, 2, 3, 0, 0)
def tm_43 : mm_M := (⟨"ReplayedBeans$Pairing", "<init>", "(LReplayedBeans$Beans;)V"⟩, prog_5_method_1_code, 2, none, 2, 4, 3, 72)
def tm_44 : mm_M := (⟨"ReplayedBeans$Pairing", "pairsUp", "(II)Z"⟩, prog_5_method_2_code, 5, (some .boolean), 3, 4, 0, 0)
def tm_45 : mm_M := (⟨"ReplayedBeans$Pairing", "linksPairUp", "(II)Z"⟩, prog_5_method_3_code, 4, (some .boolean), 3, 4, 0, 0)
def tm_46 : mm_M := (⟨"ReplayedBeans$Pairing", "joinOrBothNone", "(II)Z"⟩, prog_5_method_4_code, 3, (some .boolean), 3, 4, 0, 0)
def tm_47 : mm_M := (⟨"ReplayedBeans$Pairing", "join", "(II)Z"⟩, prog_5_method_5_code, 3, (some .boolean), 3, 4, 0, 0)
def tm_48 : mm_M := (⟨"ReplayedBeans$Text", "<init>", "()V"⟩, prog_8_method_1_code, 1, none, 1, 5, 1, 300)
def tm_49 : mm_M := (⟨"ReplayedBeans$Text", "add", "(C)Z"⟩, prog_8_method_2_code, 2, (some .boolean), 2, 5, 0, 0)
def tm_50 : mm_M := (⟨"ReplayedBeans$Text", "codeAt", "(I)I"⟩, prog_8_method_3_code, 2, (some .int), 2, 5, 0, 0)
def tm_51 : mm_M := (⟨"ReplayedBeans$Text", "copyFrom", "(LReplayedBeans$Text;)V"⟩, prog_8_method_4_code, 2, none, 2, 5, 0, 0)
def tm_52 : mm_M := (⟨"ReplayedBeans$Writer", "<init>", "(LReplayedBeans$Kinds;LReplayedBeans$Beans;LReplayedBeans$Reach;)V"⟩, prog_9_method_1_code, 4, none, 4, 6, 5, 374)
def tm_53 : mm_M := (⟨"ReplayedBeans$Writer", "draftFrom", "(I)V"⟩, prog_9_method_2_code, 3, none, 2, 6, 0, 0)
def tm_54 : mm_M := (⟨"ReplayedBeans$Writer", "countLinks", "()V"⟩, prog_9_method_3_code, 4, none, 1, 6, 0, 0)
def tm_55 : mm_M := (⟨"ReplayedBeans$Writer", "isShared", "(I)Z"⟩, prog_9_method_4_code, 2, (some .boolean), 2, 6, 0, 0)
def tm_56 : mm_M := (⟨"ReplayedBeans$Writer", "putObject", "(II)V"⟩, prog_9_method_5_code, 5, none, 3, 6, 0, 0)
def tm_57 : mm_M := (⟨"ReplayedBeans$Writer", "putNumbers", "(I)V"⟩, prog_9_method_6_code, 5, none, 2, 6, 0, 0)
def tm_58 : mm_M := (⟨"ReplayedBeans$Writer", "putLinkStatement", "(III)V"⟩, prog_9_method_7_code, 4, none, 4, 6, 0, 0)
def tm_59 : mm_M := (⟨"ReplayedBeans$Writer", "putWhole", "(I)V"⟩, prog_9_method_8_code, 5, none, 2, 6, 0, 0)
def tm_60 : mm_M := (⟨"ReplayedBeans$Writer", "put", "(C)V"⟩, prog_9_method_9_code, 2, none, 2, 6, 0, 0)
def tm_61 : mm_M := (⟨"ReplayedBeans$Grammar", "<init>", "(LReplayedBeans$Text;)V"⟩, prog_3_method_1_code, 2, none, 2, 7, 0, 0)
def tm_62 : mm_M := (⟨"ReplayedBeans$Grammar", "wrongPlace", "()I"⟩, prog_3_method_2_code, 2, (some .int), 1, 7, 0, 0)
def tm_63 : mm_M := (⟨"ReplayedBeans$Grammar", "dueAfter", "(I)I"⟩, prog_3_method_3_code, 2, (some .int), 2, 7, 0, 0)
def tm_64 : mm_M := (⟨"ReplayedBeans$Grammar", "opened", "()I"⟩, prog_3_method_4_code, 1, (some .int), 1, 7, 0, 0)
def tm_65 : mm_M := (⟨"ReplayedBeans$Grammar", "closed", "()I"⟩, prog_3_method_5_code, 1, (some .int), 1, 7, 0, 0)
def tm_66 : mm_M := (⟨"ReplayedBeans$Grammar", "idDigits", "()I"⟩, prog_3_method_6_code, 1, (some .int), 1, 7, 0, 0)
def tm_67 : mm_M := (⟨"ReplayedBeans$Grammar", "afterDigit", "(I)I"⟩, prog_3_method_7_code, 2, (some .int), 2, 7, 0, 0)
def tm_68 : mm_M := (⟨"ReplayedBeans$Grammar", "afterBody", "(I)I"⟩, prog_3_method_8_code, 2, (some .int), 2, 7, 0, 0)
def tm_69 : mm_M := (⟨"ReplayedBeans$Grammar", "afterLinkValue", "(I)I"⟩, prog_3_method_9_code, 2, (some .int), 2, 7, 0, 0)
def tm_70 : mm_M := (⟨"ReplayedBeans$Grammar", "isDigit", "(I)Z"⟩, prog_3_method_10_code, 1, (some .boolean), 1, 7, 0, 0)
def tm_71 : mm_M := (⟨"ReplayedBeans$Grammar", "isNumberLetter", "(I)Z"⟩, prog_3_method_11_code, 1, (some .boolean), 1, 7, 0, 0)
def tm_72 : mm_M := (⟨"ReplayedBeans$Grammar", "isProperty", "(I)Z"⟩, prog_3_method_12_code, 1, (some .boolean), 1, 7, 0, 0)
def tm_73 : mm_M := (⟨"ReplayedBeans$Replay", "<init>", "(LReplayedBeans$Beans;LReplayedBeans$Text;)V"⟩, prog_7_method_1_code, 3, none, 3, 8, 2, 400)
def tm_74 : mm_M := (⟨"ReplayedBeans$Replay", "run", "()I"⟩, prog_7_method_2_code, 1, (some .int), 1, 8, 0, 0)
def tm_75 : mm_M := (⟨"ReplayedBeans$Replay", "failedPlace", "(I)I"⟩, prog_7_method_3_code, 2, (some .int), 2, 8, 0, 0)
def tm_76 : mm_M := (⟨"ReplayedBeans$Replay", "fail", "(I)V"⟩, prog_7_method_4_code, 2, none, 2, 8, 0, 0)
def tm_77 : mm_M := (⟨"ReplayedBeans$Replay", "replayObject", "(I)I"⟩, prog_7_method_5_code, 4, (some .int), 2, 8, 0, 0)
def tm_78 : mm_M := (⟨"ReplayedBeans$Replay", "replayNaming", "(I)V"⟩, prog_7_method_6_code, 4, none, 2, 8, 0, 0)
def tm_79 : mm_M := (⟨"ReplayedBeans$Replay", "replayStatement", "(II)V"⟩, prog_7_method_7_code, 6, none, 3, 8, 0, 0)
def tm_80 : mm_M := (⟨"ReplayedBeans$Replay", "replayNumber", "()I"⟩, prog_7_method_8_code, 3, (some .int), 1, 8, 0, 0)
def tm_81 : mm_M := (⟨"ReplayedBeans$Replay", "replayLinkValue", "(I)I"⟩, prog_7_method_9_code, 3, (some .int), 2, 8, 0, 0)
def tm_82 : mm_M := (⟨"ReplayedBeans$Replay", "orFailed", "(I)I"⟩, prog_7_method_10_code, 2, (some .int), 2, 8, 0, 0)
def tm_83 : mm_M := (⟨"ReplayedBeans$Replay", "replayDigits", "(I)I"⟩, prog_7_method_11_code, 4, (some .int), 2, 8, 0, 0)
def tm_84 : mm_M := (⟨"ReplayedBeansModel", "<init>", "()V"⟩, prog_11_method_1_code, 1, none, 1, 9, 21, 1387)
def tm_85 : mm_M := (⟨"ReplayedBeansModel", "isKind", "(I)Z"⟩, prog_11_method_2_code, 2, (some .boolean), 2, 9, 0, 0)
def tm_86 : mm_M := (⟨"ReplayedBeansModel", "define", "(III)Z"⟩, prog_11_method_3_code, 5, (some .boolean), 4, 9, 0, 0)
def tm_87 : mm_M := (⟨"ReplayedBeansModel", "values", "(IIIII)Z"⟩, prog_11_method_4_code, 6, (some .boolean), 6, 9, 0, 0)
def tm_88 : mm_M := (⟨"ReplayedBeansModel", "isObject", "(I)Z"⟩, prog_11_method_5_code, 2, (some .boolean), 2, 9, 0, 0)
def tm_89 : mm_M := (⟨"ReplayedBeansModel", "hasNumber", "(II)Z"⟩, prog_11_method_6_code, 3, (some .boolean), 3, 9, 0, 0)
def tm_90 : mm_M := (⟨"ReplayedBeansModel", "hasLink", "(II)Z"⟩, prog_11_method_7_code, 3, (some .boolean), 3, 9, 0, 0)
def tm_91 : mm_M := (⟨"ReplayedBeansModel", "make", "(I)I"⟩, prog_11_method_8_code, 3, (some .int), 2, 9, 0, 0)
def tm_92 : mm_M := (⟨"ReplayedBeansModel", "clear", "()V"⟩, prog_11_method_9_code, 1, none, 1, 9, 0, 0)
def tm_93 : mm_M := (⟨"ReplayedBeansModel", "count", "()I"⟩, prog_11_method_10_code, 1, (some .int), 1, 9, 0, 0)
def tm_94 : mm_M := (⟨"ReplayedBeansModel", "kind", "(I)I"⟩, prog_11_method_11_code, 2, (some .int), 2, 9, 0, 0)
def tm_95 : mm_M := (⟨"ReplayedBeansModel", "inRange", "(III)Z"⟩, prog_11_method_12_code, 5, (some .boolean), 4, 9, 0, 0)
def tm_96 : mm_M := (⟨"ReplayedBeansModel", "setNumber", "(III)Z"⟩, prog_11_method_13_code, 4, (some .boolean), 4, 9, 0, 0)
def tm_97 : mm_M := (⟨"ReplayedBeansModel", "setLink", "(III)Z"⟩, prog_11_method_14_code, 4, (some .boolean), 4, 9, 0, 0)
def tm_98 : mm_M := (⟨"ReplayedBeansModel", "number", "(II)I"⟩, prog_11_method_15_code, 3, (some .int), 3, 9, 0, 0)
def tm_99 : mm_M := (⟨"ReplayedBeansModel", "link", "(II)I"⟩, prog_11_method_16_code, 3, (some .int), 3, 9, 0, 0)
def tm_100 : mm_M := (⟨"ReplayedBeansModel", "spread", "(I)I"⟩, prog_11_method_17_code, 7, (some .int), 2, 9, 0, 0)
def tm_101 : mm_M := (⟨"ReplayedBeansModel", "reachable", "(I)I"⟩, prog_11_method_18_code, 2, (some .int), 2, 9, 0, 0)
def tm_102 : mm_M := (⟨"ReplayedBeansModel", "join", "(II)Z"⟩, prog_11_method_19_code, 3, (some .boolean), 3, 9, 0, 0)
def tm_103 : mm_M := (⟨"ReplayedBeansModel", "sameNumbers", "(II)Z"⟩, prog_11_method_20_code, 5, (some .boolean), 3, 9, 0, 0)
def tm_104 : mm_M := (⟨"ReplayedBeansModel", "alike", "(II)Z"⟩, prog_11_method_21_code, 7, (some .boolean), 3, 9, 0, 0)
def tm_105 : mm_M := (⟨"ReplayedBeansModel", "put", "(I)V"⟩, prog_11_method_22_code, 2, none, 2, 9, 0, 0)
def tm_106 : mm_M := (⟨"ReplayedBeansModel", "putNumber", "(I)V"⟩, prog_11_method_23_code, 4, none, 2, 9, 0, 0)
def tm_107 : mm_M := (⟨"ReplayedBeansModel", "leading", "(I)I"⟩, prog_11_method_24_code, 5, (some .int), 2, 9, 0, 0)
def tm_108 : mm_M := (⟨"ReplayedBeansModel", "beginObject", "(II)V"⟩, prog_11_method_25_code, 4, none, 3, 9, 0, 0)
def tm_109 : mm_M := (⟨"ReplayedBeansModel", "write", "(I)I"⟩, prog_11_method_26_code, 6, (some .int), 2, 9, 0, 0)
def tm_110 : mm_M := (⟨"ReplayedBeansModel", "type", "(C)Z"⟩, prog_11_method_27_code, 2, (some .boolean), 2, 9, 0, 0)
def tm_111 : mm_M := (⟨"ReplayedBeansModel", "wipe", "()V"⟩, prog_11_method_28_code, 1, none, 1, 9, 0, 0)
def tm_112 : mm_M := (⟨"ReplayedBeansModel", "length", "()I"⟩, prog_11_method_29_code, 1, (some .int), 1, 9, 0, 0)
def tm_113 : mm_M := (⟨"ReplayedBeansModel", "at", "(I)I"⟩, prog_11_method_30_code, 2, (some .int), 2, 9, 0, 0)
def tm_114 : mm_M := (⟨"ReplayedBeansModel", "figure", "(I)Z"⟩, prog_11_method_31_code, 1, (some .boolean), 1, 9, 0, 0)
def tm_115 : mm_M := (⟨"ReplayedBeansModel", "after", "(IZ)I"⟩, prog_11_method_32_code, 3, (some .int), 3, 9, 0, 0)
def tm_116 : mm_M := (⟨"ReplayedBeansModel", "inside", "(IZ)I"⟩, prog_11_method_33_code, 5, (some .int), 3, 9, 0, 0)
def tm_117 : mm_M := (⟨"ReplayedBeansModel", "settle", "()V"⟩, prog_11_method_34_code, 1, none, 1, 9, 0, 0)
def tm_118 : mm_M := (⟨"ReplayedBeansModel", "fail", "(I)V"⟩, prog_11_method_35_code, 2, none, 2, 9, 0, 0)
def tm_119 : mm_M := (⟨"ReplayedBeansModel", "name", "()V"⟩, prog_11_method_36_code, 2, none, 1, 9, 0, 0)
def tm_120 : mm_M := (⟨"ReplayedBeansModel", "assignNumber", "()V"⟩, prog_11_method_37_code, 4, none, 1, 9, 0, 0)
def tm_121 : mm_M := (⟨"ReplayedBeansModel", "assignLink", "(IZ)V"⟩, prog_11_method_38_code, 5, none, 3, 9, 0, 0)
def tm_122 : mm_M := (⟨"ReplayedBeansModel", "note", "(IIIZ)V"⟩, prog_11_method_39_code, 5, none, 5, 9, 0, 0)
def tm_123 : mm_M := (⟨"ReplayedBeansModel", "close", "(Z)V"⟩, prog_11_method_40_code, 3, none, 2, 9, 0, 0)
def tm_124 : mm_M := (⟨"ReplayedBeansModel", "go", "(Z)I"⟩, prog_11_method_41_code, 4, (some .int), 2, 9, 0, 0)
def tm_125 : mm_M := (⟨"ReplayedBeansModel", "read", "()I"⟩, prog_11_method_42_code, 3, (some .int), 1, 9, 0, 0)
def tm_126 : mm_M := (⟨"ReplayedBeansModel", "failures", "()I"⟩, prog_11_method_43_code, 1, (some .int), 1, 9, 0, 0)
def tm_127 : mm_M := (⟨"ReplayedBeansModel", "failure", "(I)I"⟩, prog_11_method_44_code, 2, (some .int), 2, 9, 0, 0)
def tm_128 : mm_M := (⟨"ReplayedBeansLaw", "law", "([I)Z"⟩, code, 4, (some .boolean), 1, 99, 0, 0)
def tmi (i : Nat) : mm_M := cond (Nat.blt i 64) (cond (Nat.blt i 32) (cond (Nat.blt i 16) (cond (Nat.blt i 8) (cond (Nat.blt i 4) (cond (Nat.blt i 2) (cond (Nat.blt i 1) (tm_0) (tm_1)) (cond (Nat.blt i 3) (tm_2) (tm_3))) (cond (Nat.blt i 6) (cond (Nat.blt i 5) (tm_4) (tm_5)) (cond (Nat.blt i 7) (tm_6) (tm_7)))) (cond (Nat.blt i 12) (cond (Nat.blt i 10) (cond (Nat.blt i 9) (tm_8) (tm_9)) (cond (Nat.blt i 11) (tm_10) (tm_11))) (cond (Nat.blt i 14) (cond (Nat.blt i 13) (tm_12) (tm_13)) (cond (Nat.blt i 15) (tm_14) (tm_15))))) (cond (Nat.blt i 24) (cond (Nat.blt i 20) (cond (Nat.blt i 18) (cond (Nat.blt i 17) (tm_16) (tm_17)) (cond (Nat.blt i 19) (tm_18) (tm_19))) (cond (Nat.blt i 22) (cond (Nat.blt i 21) (tm_20) (tm_21)) (cond (Nat.blt i 23) (tm_22) (tm_23)))) (cond (Nat.blt i 28) (cond (Nat.blt i 26) (cond (Nat.blt i 25) (tm_24) (tm_25)) (cond (Nat.blt i 27) (tm_26) (tm_27))) (cond (Nat.blt i 30) (cond (Nat.blt i 29) (tm_28) (tm_29)) (cond (Nat.blt i 31) (tm_30) (tm_31)))))) (cond (Nat.blt i 48) (cond (Nat.blt i 40) (cond (Nat.blt i 36) (cond (Nat.blt i 34) (cond (Nat.blt i 33) (tm_32) (tm_33)) (cond (Nat.blt i 35) (tm_34) (tm_35))) (cond (Nat.blt i 38) (cond (Nat.blt i 37) (tm_36) (tm_37)) (cond (Nat.blt i 39) (tm_38) (tm_39)))) (cond (Nat.blt i 44) (cond (Nat.blt i 42) (cond (Nat.blt i 41) (tm_40) (tm_41)) (cond (Nat.blt i 43) (tm_42) (tm_43))) (cond (Nat.blt i 46) (cond (Nat.blt i 45) (tm_44) (tm_45)) (cond (Nat.blt i 47) (tm_46) (tm_47))))) (cond (Nat.blt i 56) (cond (Nat.blt i 52) (cond (Nat.blt i 50) (cond (Nat.blt i 49) (tm_48) (tm_49)) (cond (Nat.blt i 51) (tm_50) (tm_51))) (cond (Nat.blt i 54) (cond (Nat.blt i 53) (tm_52) (tm_53)) (cond (Nat.blt i 55) (tm_54) (tm_55)))) (cond (Nat.blt i 60) (cond (Nat.blt i 58) (cond (Nat.blt i 57) (tm_56) (tm_57)) (cond (Nat.blt i 59) (tm_58) (tm_59))) (cond (Nat.blt i 62) (cond (Nat.blt i 61) (tm_60) (tm_61)) (cond (Nat.blt i 63) (tm_62) (tm_63))))))) (cond (Nat.blt i 96) (cond (Nat.blt i 80) (cond (Nat.blt i 72) (cond (Nat.blt i 68) (cond (Nat.blt i 66) (cond (Nat.blt i 65) (tm_64) (tm_65)) (cond (Nat.blt i 67) (tm_66) (tm_67))) (cond (Nat.blt i 70) (cond (Nat.blt i 69) (tm_68) (tm_69)) (cond (Nat.blt i 71) (tm_70) (tm_71)))) (cond (Nat.blt i 76) (cond (Nat.blt i 74) (cond (Nat.blt i 73) (tm_72) (tm_73)) (cond (Nat.blt i 75) (tm_74) (tm_75))) (cond (Nat.blt i 78) (cond (Nat.blt i 77) (tm_76) (tm_77)) (cond (Nat.blt i 79) (tm_78) (tm_79))))) (cond (Nat.blt i 88) (cond (Nat.blt i 84) (cond (Nat.blt i 82) (cond (Nat.blt i 81) (tm_80) (tm_81)) (cond (Nat.blt i 83) (tm_82) (tm_83))) (cond (Nat.blt i 86) (cond (Nat.blt i 85) (tm_84) (tm_85)) (cond (Nat.blt i 87) (tm_86) (tm_87)))) (cond (Nat.blt i 92) (cond (Nat.blt i 90) (cond (Nat.blt i 89) (tm_88) (tm_89)) (cond (Nat.blt i 91) (tm_90) (tm_91))) (cond (Nat.blt i 94) (cond (Nat.blt i 93) (tm_92) (tm_93)) (cond (Nat.blt i 95) (tm_94) (tm_95)))))) (cond (Nat.blt i 112) (cond (Nat.blt i 104) (cond (Nat.blt i 100) (cond (Nat.blt i 98) (cond (Nat.blt i 97) (tm_96) (tm_97)) (cond (Nat.blt i 99) (tm_98) (tm_99))) (cond (Nat.blt i 102) (cond (Nat.blt i 101) (tm_100) (tm_101)) (cond (Nat.blt i 103) (tm_102) (tm_103)))) (cond (Nat.blt i 108) (cond (Nat.blt i 106) (cond (Nat.blt i 105) (tm_104) (tm_105)) (cond (Nat.blt i 107) (tm_106) (tm_107))) (cond (Nat.blt i 110) (cond (Nat.blt i 109) (tm_108) (tm_109)) (cond (Nat.blt i 111) (tm_110) (tm_111))))) (cond (Nat.blt i 120) (cond (Nat.blt i 116) (cond (Nat.blt i 114) (cond (Nat.blt i 113) (tm_112) (tm_113)) (cond (Nat.blt i 115) (tm_114) (tm_115))) (cond (Nat.blt i 118) (cond (Nat.blt i 117) (tm_116) (tm_117)) (cond (Nat.blt i 119) (tm_118) (tm_119)))) (cond (Nat.blt i 124) (cond (Nat.blt i 122) (cond (Nat.blt i 121) (tm_120) (tm_121)) (cond (Nat.blt i 123) (tm_122) (tm_123))) (cond (Nat.blt i 126) (cond (Nat.blt i 125) (tm_124) (tm_125)) (cond (Nat.blt i 127) (tm_126) (cond (Nat.blt i 128) (tm_127) (tm_128))))))))
end
section
def tt_0 (pc : Nat) : Option mm_E := cond (Nat.blt pc 7) (cond (Nat.blt pc 3) (cond (Nat.blt pc 1) (cond (Nat.beq pc 0) (some (.iconst 0, 1, 0, 0, 0)) none) (cond (Nat.blt pc 2) (cond (Nat.beq pc 1) (some (.istore_n 2, 1, 2, 0, 0)) none) (cond (Nat.beq pc 2) (some (.aload_n 0, 1, 0, 0, 0)) none))) (cond (Nat.blt pc 5) (cond (Nat.blt pc 4) (cond (Nat.beq pc 3) (some (.arraylength, 1, 0, 0, 0)) none) (cond (Nat.beq pc 4) (some (.istore_n 3, 1, 3, 0, 0)) none)) (cond (Nat.blt pc 6) (cond (Nat.beq pc 5) (some (.iload_n 2, 1, 2, 0, 0)) none) (cond (Nat.beq pc 6) (some (.iload_n 3, 1, 3, 0, 0)) none)))) (cond (Nat.blt pc 13) (cond (Nat.blt pc 11) (cond (Nat.blt pc 10) (cond (Nat.beq pc 7) (some (.if_icmp .ge 13, 3, 20, 0, 0)) none) (cond (Nat.beq pc 10) (some (.aload_n 0, 1, 0, 0, 0)) none)) (cond (Nat.blt pc 12) (cond (Nat.beq pc 11) (some (.iload_n 2, 1, 2, 0, 0)) none) (cond (Nat.beq pc 12) (some (.iload_n 1, 1, 1, 0, 0)) none))) (cond (Nat.blt pc 17) (cond (Nat.blt pc 14) (cond (Nat.beq pc 13) (some (.iastore, 1, 0, 0, 0)) none) (cond (Nat.beq pc 14) (some (.iinc 2 1, 3, 2, 0, 1)) none)) (cond (Nat.blt pc 20) (cond (Nat.beq pc 17) (some (.goto (-12), 3, 5, 0, 0)) none) (cond (Nat.beq pc 20) (some (.return_, 1, 0, 0, 0)) none))))
def tb_0 (pc : Nat) : Option mm_E := cond (Nat.blt pc 21) (tt_0 pc) none
def tt_1 (pc : Nat) : Option mm_E := cond (Nat.blt pc 64) (cond (Nat.blt pc 31) (cond (Nat.blt pc 15) (cond (Nat.blt pc 5) (cond (Nat.blt pc 1) (cond (Nat.beq pc 0) (some (.aload_n 0, 1, 0, 0, 0)) none) (cond (Nat.blt pc 4) (cond (Nat.beq pc 1) (some (.invokespecial 1, 3, 0, 0, 0)) none) (cond (Nat.beq pc 4) (some (.aload_n 0, 1, 0, 0, 0)) none))) (cond (Nat.blt pc 9) (cond (Nat.blt pc 8) (cond (Nat.beq pc 5) (some (.new 7, 3, 1, 6, 0)) none) (cond (Nat.beq pc 8) (some (.dup, 1, 0, 0, 0)) none)) (cond (Nat.blt pc 12) (cond (Nat.beq pc 9) (some (.invokespecial 9, 3, 22, 1, 0)) none) (cond (Nat.beq pc 12) (some (.putfield 10, 3, 0, 0, 3)) none)))) (cond (Nat.blt pc 21) (cond (Nat.blt pc 19) (cond (Nat.blt pc 16) (cond (Nat.beq pc 15) (some (.aload_n 0, 1, 0, 0, 0)) none) (cond (Nat.beq pc 16) (some (.new 16, 3, 2, 5, 0)) none)) (cond (Nat.blt pc 20) (cond (Nat.beq pc 19) (some (.dup, 1, 0, 0, 0)) none) (cond (Nat.beq pc 20) (some (.aload_n 0, 1, 0, 0, 0)) none))) (cond (Nat.blt pc 27) (cond (Nat.blt pc 24) (cond (Nat.beq pc 21) (some (.getfield 10, 3, 0, 0, 0)) none) (cond (Nat.beq pc 24) (some (.invokespecial 18, 3, 30, 1, 0)) none)) (cond (Nat.blt pc 30) (cond (Nat.beq pc 27) (some (.putfield 21, 3, 0, 1, 3)) none) (cond (Nat.beq pc 30) (some (.aload_n 0, 1, 0, 0, 0)) none))))) (cond (Nat.blt pc 46) (cond (Nat.blt pc 36) (cond (Nat.blt pc 34) (cond (Nat.beq pc 31) (some (.new 25, 3, 3, 4, 0)) none) (cond (Nat.blt pc 35) (cond (Nat.beq pc 34) (some (.dup, 1, 0, 0, 0)) none) (cond (Nat.beq pc 35) (some (.aload_n 0, 1, 0, 0, 0)) none))) (cond (Nat.blt pc 42) (cond (Nat.blt pc 39) (cond (Nat.beq pc 36) (some (.getfield 21, 3, 0, 1, 0)) none) (cond (Nat.beq pc 39) (some (.invokespecial 27, 3, 40, 1, 0)) none)) (cond (Nat.blt pc 45) (cond (Nat.beq pc 42) (some (.putfield 30, 3, 0, 2, 3)) none) (cond (Nat.beq pc 45) (some (.aload_n 0, 1, 0, 0, 0)) none)))) (cond (Nat.blt pc 54) (cond (Nat.blt pc 50) (cond (Nat.blt pc 49) (cond (Nat.beq pc 46) (some (.new 34, 3, 4, 5, 0)) none) (cond (Nat.beq pc 49) (some (.dup, 1, 0, 0, 0)) none)) (cond (Nat.blt pc 51) (cond (Nat.beq pc 50) (some (.aload_n 0, 1, 0, 0, 0)) none) (cond (Nat.beq pc 51) (some (.getfield 21, 3, 0, 1, 0)) none))) (cond (Nat.blt pc 60) (cond (Nat.blt pc 57) (cond (Nat.beq pc 54) (some (.invokespecial 36, 3, 43, 1, 0)) none) (cond (Nat.beq pc 57) (some (.putfield 37, 3, 0, 3, 3)) none)) (cond (Nat.blt pc 61) (cond (Nat.beq pc 60) (some (.aload_n 0, 1, 0, 0, 0)) none) (cond (Nat.beq pc 61) (some (.new 41, 3, 5, 2, 0)) none)))))) (cond (Nat.blt pc 95) (cond (Nat.blt pc 77) (cond (Nat.blt pc 71) (cond (Nat.blt pc 65) (cond (Nat.beq pc 64) (some (.dup, 1, 0, 0, 0)) none) (cond (Nat.blt pc 68) (cond (Nat.beq pc 65) (some (.invokespecial 43, 3, 48, 1, 0)) none) (cond (Nat.beq pc 68) (some (.putfield 44, 3, 0, 4, 3)) none))) (cond (Nat.blt pc 75) (cond (Nat.blt pc 72) (cond (Nat.beq pc 71) (some (.aload_n 0, 1, 0, 0, 0)) none) (cond (Nat.beq pc 72) (some (.new 48, 3, 6, 11, 0)) none)) (cond (Nat.blt pc 76) (cond (Nat.beq pc 75) (some (.dup, 1, 0, 0, 0)) none) (cond (Nat.beq pc 76) (some (.aload_n 0, 1, 0, 0, 0)) none)))) (cond (Nat.blt pc 85) (cond (Nat.blt pc 81) (cond (Nat.blt pc 80) (cond (Nat.beq pc 77) (some (.getfield 10, 3, 0, 0, 0)) none) (cond (Nat.beq pc 80) (some (.aload_n 0, 1, 0, 0, 0)) none)) (cond (Nat.blt pc 84) (cond (Nat.beq pc 81) (some (.getfield 21, 3, 0, 1, 0)) none) (cond (Nat.beq pc 84) (some (.aload_n 0, 1, 0, 0, 0)) none))) (cond (Nat.blt pc 91) (cond (Nat.blt pc 88) (cond (Nat.beq pc 85) (some (.getfield 30, 3, 0, 2, 0)) none) (cond (Nat.beq pc 88) (some (.invokespecial 50, 3, 52, 1, 0)) none)) (cond (Nat.blt pc 94) (cond (Nat.beq pc 91) (some (.putfield 53, 3, 0, 5, 3)) none) (cond (Nat.beq pc 94) (some (.aload_n 0, 1, 0, 0, 0)) none))))) (cond (Nat.blt pc 113) (cond (Nat.blt pc 103) (cond (Nat.blt pc 99) (cond (Nat.blt pc 98) (cond (Nat.beq pc 95) (some (.new 57, 3, 7, 4, 0)) none) (cond (Nat.beq pc 98) (some (.dup, 1, 0, 0, 0)) none)) (cond (Nat.blt pc 100) (cond (Nat.beq pc 99) (some (.aload_n 0, 1, 0, 0, 0)) none) (cond (Nat.beq pc 100) (some (.getfield 44, 3, 0, 4, 0)) none))) (cond (Nat.blt pc 109) (cond (Nat.blt pc 106) (cond (Nat.beq pc 103) (some (.invokespecial 59, 3, 61, 1, 0)) none) (cond (Nat.beq pc 106) (some (.putfield 62, 3, 0, 6, 3)) none)) (cond (Nat.blt pc 110) (cond (Nat.beq pc 109) (some (.aload_n 0, 1, 0, 0, 0)) none) (cond (Nat.beq pc 110) (some (.new 66, 3, 8, 6, 0)) none)))) (cond (Nat.blt pc 119) (cond (Nat.blt pc 115) (cond (Nat.blt pc 114) (cond (Nat.beq pc 113) (some (.dup, 1, 0, 0, 0)) none) (cond (Nat.beq pc 114) (some (.aload_n 0, 1, 0, 0, 0)) none)) (cond (Nat.blt pc 118) (cond (Nat.beq pc 115) (some (.getfield 21, 3, 0, 1, 0)) none) (cond (Nat.beq pc 118) (some (.aload_n 0, 1, 0, 0, 0)) none))) (cond (Nat.blt pc 125) (cond (Nat.blt pc 122) (cond (Nat.beq pc 119) (some (.getfield 44, 3, 0, 4, 0)) none) (cond (Nat.beq pc 122) (some (.invokespecial 68, 3, 73, 1, 0)) none)) (cond (Nat.blt pc 128) (cond (Nat.beq pc 125) (some (.putfield 71, 3, 0, 7, 3)) none) (cond (Nat.beq pc 128) (some (.return_, 1, 0, 0, 0)) none))))))
def tb_1 (pc : Nat) : Option mm_E := cond (Nat.blt pc 129) (tt_1 pc) none
def tt_2 (pc : Nat) : Option mm_E := cond (Nat.blt pc 5) (cond (Nat.blt pc 1) (cond (Nat.beq pc 0) (some (.aload_n 0, 1, 0, 0, 0)) none) (cond (Nat.blt pc 4) (cond (Nat.beq pc 1) (some (.getfield 10, 3, 0, 0, 0)) none) (cond (Nat.beq pc 4) (some (.iload_n 1, 1, 1, 0, 0)) none))) (cond (Nat.blt pc 7) (cond (Nat.blt pc 6) (cond (Nat.beq pc 5) (some (.iload_n 2, 1, 2, 0, 0)) none) (cond (Nat.beq pc 6) (some (.iload_n 3, 1, 3, 0, 0)) none)) (cond (Nat.blt pc 10) (cond (Nat.beq pc 7) (some (.invokevirtual 75, 3, 26, 1, 0)) none) (cond (Nat.beq pc 10) (some (.ireturn, 1, 0, 0, 0)) none)))
def tb_2 (pc : Nat) : Option mm_E := cond (Nat.blt pc 11) (tt_2 pc) none
def tt_3 (pc : Nat) : Option mm_E := cond (Nat.blt pc 6) (cond (Nat.blt pc 4) (cond (Nat.blt pc 1) (cond (Nat.beq pc 0) (some (.aload_n 0, 1, 0, 0, 0)) none) (cond (Nat.beq pc 1) (some (.getfield 10, 3, 0, 0, 0)) none)) (cond (Nat.blt pc 5) (cond (Nat.beq pc 4) (some (.iload_n 1, 1, 1, 0, 0)) none) (cond (Nat.beq pc 5) (some (.iload_n 2, 1, 2, 0, 0)) none))) (cond (Nat.blt pc 9) (cond (Nat.blt pc 7) (cond (Nat.beq pc 6) (some (.iload_n 3, 1, 3, 0, 0)) none) (cond (Nat.beq pc 7) (some (.iload 4, 2, 4, 0, 0)) none)) (cond (Nat.blt pc 11) (cond (Nat.beq pc 9) (some (.iload 5, 2, 5, 0, 0)) none) (cond (Nat.blt pc 14) (cond (Nat.beq pc 11) (some (.invokevirtual 79, 3, 27, 1, 0)) none) (cond (Nat.beq pc 14) (some (.ireturn, 1, 0, 0, 0)) none))))
def tb_3 (pc : Nat) : Option mm_E := cond (Nat.blt pc 15) (tt_3 pc) none
def tt_4 (pc : Nat) : Option mm_E := cond (Nat.blt pc 4) (cond (Nat.blt pc 1) (cond (Nat.beq pc 0) (some (.aload_n 0, 1, 0, 0, 0)) none) (cond (Nat.beq pc 1) (some (.getfield 21, 3, 0, 1, 0)) none)) (cond (Nat.blt pc 5) (cond (Nat.beq pc 4) (some (.iload_n 1, 1, 1, 0, 0)) none) (cond (Nat.blt pc 8) (cond (Nat.beq pc 5) (some (.invokevirtual 83, 3, 32, 1, 0)) none) (cond (Nat.beq pc 8) (some (.ireturn, 1, 0, 0, 0)) none)))
def tb_4 (pc : Nat) : Option mm_E := cond (Nat.blt pc 9) (tt_4 pc) none
def tt_5 (pc : Nat) : Option mm_E := cond (Nat.blt pc 4) (cond (Nat.blt pc 1) (cond (Nat.beq pc 0) (some (.aload_n 0, 1, 0, 0, 0)) none) (cond (Nat.beq pc 1) (some (.getfield 21, 3, 0, 1, 0)) none)) (cond (Nat.blt pc 7) (cond (Nat.beq pc 4) (some (.invokevirtual 87, 3, 33, 1, 0)) none) (cond (Nat.beq pc 7) (some (.return_, 1, 0, 0, 0)) none))
def tb_5 (pc : Nat) : Option mm_E := cond (Nat.blt pc 8) (tt_5 pc) none
def tt_6 (pc : Nat) : Option mm_E := cond (Nat.blt pc 4) (cond (Nat.blt pc 1) (cond (Nat.beq pc 0) (some (.aload_n 0, 1, 0, 0, 0)) none) (cond (Nat.beq pc 1) (some (.getfield 21, 3, 0, 1, 0)) none)) (cond (Nat.blt pc 7) (cond (Nat.beq pc 4) (some (.getfield 90, 3, 2, 4, 0)) none) (cond (Nat.beq pc 7) (some (.ireturn, 1, 0, 0, 0)) none))
def tb_6 (pc : Nat) : Option mm_E := cond (Nat.blt pc 8) (tt_6 pc) none
def tt_7 (pc : Nat) : Option mm_E := cond (Nat.blt pc 4) (cond (Nat.blt pc 1) (cond (Nat.beq pc 0) (some (.aload_n 0, 1, 0, 0, 0)) none) (cond (Nat.beq pc 1) (some (.getfield 21, 3, 0, 1, 0)) none)) (cond (Nat.blt pc 5) (cond (Nat.beq pc 4) (some (.iload_n 1, 1, 1, 0, 0)) none) (cond (Nat.blt pc 8) (cond (Nat.beq pc 5) (some (.invokevirtual 94, 3, 34, 1, 0)) none) (cond (Nat.beq pc 8) (some (.ireturn, 1, 0, 0, 0)) none)))
def tb_7 (pc : Nat) : Option mm_E := cond (Nat.blt pc 9) (tt_7 pc) none
def tt_8 (pc : Nat) : Option mm_E := cond (Nat.blt pc 5) (cond (Nat.blt pc 1) (cond (Nat.beq pc 0) (some (.aload_n 0, 1, 0, 0, 0)) none) (cond (Nat.blt pc 4) (cond (Nat.beq pc 1) (some (.getfield 21, 3, 0, 1, 0)) none) (cond (Nat.beq pc 4) (some (.iload_n 1, 1, 1, 0, 0)) none))) (cond (Nat.blt pc 7) (cond (Nat.blt pc 6) (cond (Nat.beq pc 5) (some (.iload_n 2, 1, 2, 0, 0)) none) (cond (Nat.beq pc 6) (some (.iload_n 3, 1, 3, 0, 0)) none)) (cond (Nat.blt pc 10) (cond (Nat.beq pc 7) (some (.invokevirtual 97, 3, 35, 1, 0)) none) (cond (Nat.beq pc 10) (some (.ireturn, 1, 0, 0, 0)) none)))
def tb_8 (pc : Nat) : Option mm_E := cond (Nat.blt pc 11) (tt_8 pc) none
def tt_9 (pc : Nat) : Option mm_E := cond (Nat.blt pc 5) (cond (Nat.blt pc 1) (cond (Nat.beq pc 0) (some (.aload_n 0, 1, 0, 0, 0)) none) (cond (Nat.blt pc 4) (cond (Nat.beq pc 1) (some (.getfield 21, 3, 0, 1, 0)) none) (cond (Nat.beq pc 4) (some (.iload_n 1, 1, 1, 0, 0)) none))) (cond (Nat.blt pc 7) (cond (Nat.blt pc 6) (cond (Nat.beq pc 5) (some (.iload_n 2, 1, 2, 0, 0)) none) (cond (Nat.beq pc 6) (some (.iload_n 3, 1, 3, 0, 0)) none)) (cond (Nat.blt pc 10) (cond (Nat.beq pc 7) (some (.invokevirtual 100, 3, 36, 1, 0)) none) (cond (Nat.beq pc 10) (some (.ireturn, 1, 0, 0, 0)) none)))
def tb_9 (pc : Nat) : Option mm_E := cond (Nat.blt pc 11) (tt_9 pc) none
def tt_10 (pc : Nat) : Option mm_E := cond (Nat.blt pc 5) (cond (Nat.blt pc 1) (cond (Nat.beq pc 0) (some (.aload_n 0, 1, 0, 0, 0)) none) (cond (Nat.blt pc 4) (cond (Nat.beq pc 1) (some (.getfield 21, 3, 0, 1, 0)) none) (cond (Nat.beq pc 4) (some (.iload_n 1, 1, 1, 0, 0)) none))) (cond (Nat.blt pc 6) (cond (Nat.beq pc 5) (some (.iload_n 2, 1, 2, 0, 0)) none) (cond (Nat.blt pc 9) (cond (Nat.beq pc 6) (some (.invokevirtual 103, 3, 37, 1, 0)) none) (cond (Nat.beq pc 9) (some (.ireturn, 1, 0, 0, 0)) none)))
def tb_10 (pc : Nat) : Option mm_E := cond (Nat.blt pc 10) (tt_10 pc) none
def tt_11 (pc : Nat) : Option mm_E := cond (Nat.blt pc 5) (cond (Nat.blt pc 1) (cond (Nat.beq pc 0) (some (.aload_n 0, 1, 0, 0, 0)) none) (cond (Nat.blt pc 4) (cond (Nat.beq pc 1) (some (.getfield 21, 3, 0, 1, 0)) none) (cond (Nat.beq pc 4) (some (.iload_n 1, 1, 1, 0, 0)) none))) (cond (Nat.blt pc 6) (cond (Nat.beq pc 5) (some (.iload_n 2, 1, 2, 0, 0)) none) (cond (Nat.blt pc 9) (cond (Nat.beq pc 6) (some (.invokevirtual 107, 3, 38, 1, 0)) none) (cond (Nat.beq pc 9) (some (.ireturn, 1, 0, 0, 0)) none)))
def tb_11 (pc : Nat) : Option mm_E := cond (Nat.blt pc 10) (tt_11 pc) none
def tt_12 (pc : Nat) : Option mm_E := cond (Nat.blt pc 8) (cond (Nat.blt pc 4) (cond (Nat.blt pc 1) (cond (Nat.beq pc 0) (some (.aload_n 0, 1, 0, 0, 0)) none) (cond (Nat.beq pc 1) (some (.getfield 30, 3, 0, 2, 0)) none)) (cond (Nat.blt pc 5) (cond (Nat.beq pc 4) (some (.iload_n 1, 1, 1, 0, 0)) none) (cond (Nat.beq pc 5) (some (.invokevirtual 110, 3, 41, 1, 0)) none))) (cond (Nat.blt pc 12) (cond (Nat.blt pc 9) (cond (Nat.beq pc 8) (some (.aload_n 0, 1, 0, 0, 0)) none) (cond (Nat.beq pc 9) (some (.getfield 30, 3, 0, 2, 0)) none)) (cond (Nat.blt pc 15) (cond (Nat.beq pc 12) (some (.getfield 114, 3, 3, 3, 0)) none) (cond (Nat.beq pc 15) (some (.ireturn, 1, 0, 0, 0)) none)))
def tb_12 (pc : Nat) : Option mm_E := cond (Nat.blt pc 16) (tt_12 pc) none
def tt_13 (pc : Nat) : Option mm_E := cond (Nat.blt pc 5) (cond (Nat.blt pc 1) (cond (Nat.beq pc 0) (some (.aload_n 0, 1, 0, 0, 0)) none) (cond (Nat.blt pc 4) (cond (Nat.beq pc 1) (some (.getfield 37, 3, 0, 3, 0)) none) (cond (Nat.beq pc 4) (some (.iload_n 1, 1, 1, 0, 0)) none))) (cond (Nat.blt pc 6) (cond (Nat.beq pc 5) (some (.iload_n 2, 1, 2, 0, 0)) none) (cond (Nat.blt pc 9) (cond (Nat.beq pc 6) (some (.invokevirtual 117, 3, 44, 1, 0)) none) (cond (Nat.beq pc 9) (some (.ireturn, 1, 0, 0, 0)) none)))
def tb_13 (pc : Nat) : Option mm_E := cond (Nat.blt pc 10) (tt_13 pc) none
def tt_14 (pc : Nat) : Option mm_E := cond (Nat.blt pc 33) (cond (Nat.blt pc 14) (cond (Nat.blt pc 8) (cond (Nat.blt pc 4) (cond (Nat.blt pc 1) (cond (Nat.beq pc 0) (some (.aload_n 0, 1, 0, 0, 0)) none) (cond (Nat.beq pc 1) (some (.getfield 21, 3, 0, 1, 0)) none)) (cond (Nat.blt pc 5) (cond (Nat.beq pc 4) (some (.iload_n 1, 1, 1, 0, 0)) none) (cond (Nat.beq pc 5) (some (.invokevirtual 121, 3, 31, 1, 0)) none))) (cond (Nat.blt pc 12) (cond (Nat.blt pc 11) (cond (Nat.beq pc 8) (some (.ifCond .ne 5, 3, 13, 0, 0)) none) (cond (Nat.beq pc 11) (some (.iconst (-1), 1, 0, 0, (-1))) none)) (cond (Nat.blt pc 13) (cond (Nat.beq pc 12) (some (.ireturn, 1, 0, 0, 0)) none) (cond (Nat.beq pc 13) (some (.aload_n 0, 1, 0, 0, 0)) none)))) (cond (Nat.blt pc 22) (cond (Nat.blt pc 18) (cond (Nat.blt pc 17) (cond (Nat.beq pc 14) (some (.getfield 53, 3, 0, 5, 0)) none) (cond (Nat.beq pc 17) (some (.iload_n 1, 1, 1, 0, 0)) none)) (cond (Nat.blt pc 21) (cond (Nat.beq pc 18) (some (.invokevirtual 125, 3, 53, 1, 0)) none) (cond (Nat.beq pc 21) (some (.aload_n 0, 1, 0, 0, 0)) none))) (cond (Nat.blt pc 28) (cond (Nat.blt pc 25) (cond (Nat.beq pc 22) (some (.getfield 53, 3, 0, 5, 0)) none) (cond (Nat.beq pc 25) (some (.getfield 128, 3, 6, 9, 0)) none)) (cond (Nat.blt pc 31) (cond (Nat.beq pc 28) (some (.ifCond .eq 6, 3, 34, 0, 0)) none) (cond (Nat.beq pc 31) (some (.bipush (-2), 2, 0, 0, (-2))) none))))) (cond (Nat.blt pc 48) (cond (Nat.blt pc 41) (cond (Nat.blt pc 35) (cond (Nat.blt pc 34) (cond (Nat.beq pc 33) (some (.ireturn, 1, 0, 0, 0)) none) (cond (Nat.beq pc 34) (some (.aload_n 0, 1, 0, 0, 0)) none)) (cond (Nat.blt pc 38) (cond (Nat.beq pc 35) (some (.getfield 53, 3, 0, 5, 0)) none) (cond (Nat.beq pc 38) (some (.getfield 132, 3, 6, 10, 0)) none))) (cond (Nat.blt pc 46) (cond (Nat.blt pc 44) (cond (Nat.beq pc 41) (some (.ifCond .eq 6, 3, 47, 0, 0)) none) (cond (Nat.beq pc 44) (some (.bipush (-3), 2, 0, 0, (-3))) none)) (cond (Nat.blt pc 47) (cond (Nat.beq pc 46) (some (.ireturn, 1, 0, 0, 0)) none) (cond (Nat.beq pc 47) (some (.aload_n 0, 1, 0, 0, 0)) none)))) (cond (Nat.blt pc 58) (cond (Nat.blt pc 52) (cond (Nat.blt pc 51) (cond (Nat.beq pc 48) (some (.getfield 44, 3, 0, 4, 0)) none) (cond (Nat.beq pc 51) (some (.aload_n 0, 1, 0, 0, 0)) none)) (cond (Nat.blt pc 55) (cond (Nat.beq pc 52) (some (.getfield 53, 3, 0, 5, 0)) none) (cond (Nat.beq pc 55) (some (.getfield 135, 3, 6, 3, 0)) none))) (cond (Nat.blt pc 62) (cond (Nat.blt pc 61) (cond (Nat.beq pc 58) (some (.invokevirtual 138, 3, 51, 1, 0)) none) (cond (Nat.beq pc 61) (some (.aload_n 0, 1, 0, 0, 0)) none)) (cond (Nat.blt pc 65) (cond (Nat.beq pc 62) (some (.getfield 44, 3, 0, 4, 0)) none) (cond (Nat.blt pc 68) (cond (Nat.beq pc 65) (some (.getfield 141, 3, 5, 1, 0)) none) (cond (Nat.beq pc 68) (some (.ireturn, 1, 0, 0, 0)) none))))))
def tb_14 (pc : Nat) : Option mm_E := cond (Nat.blt pc 69) (tt_14 pc) none
def tt_15 (pc : Nat) : Option mm_E := cond (Nat.blt pc 4) (cond (Nat.blt pc 1) (cond (Nat.beq pc 0) (some (.aload_n 0, 1, 0, 0, 0)) none) (cond (Nat.beq pc 1) (some (.getfield 44, 3, 0, 4, 0)) none)) (cond (Nat.blt pc 5) (cond (Nat.beq pc 4) (some (.iload_n 1, 1, 1, 0, 0)) none) (cond (Nat.blt pc 8) (cond (Nat.beq pc 5) (some (.invokevirtual 142, 3, 49, 1, 0)) none) (cond (Nat.beq pc 8) (some (.ireturn, 1, 0, 0, 0)) none)))
def tb_15 (pc : Nat) : Option mm_E := cond (Nat.blt pc 9) (tt_15 pc) none
def tt_16 (pc : Nat) : Option mm_E := cond (Nat.blt pc 4) (cond (Nat.blt pc 1) (cond (Nat.beq pc 0) (some (.aload_n 0, 1, 0, 0, 0)) none) (cond (Nat.beq pc 1) (some (.getfield 44, 3, 0, 4, 0)) none)) (cond (Nat.blt pc 5) (cond (Nat.beq pc 4) (some (.iconst 0, 1, 0, 0, 0)) none) (cond (Nat.blt pc 8) (cond (Nat.beq pc 5) (some (.putfield 141, 3, 5, 1, 0)) none) (cond (Nat.beq pc 8) (some (.return_, 1, 0, 0, 0)) none)))
def tb_16 (pc : Nat) : Option mm_E := cond (Nat.blt pc 9) (tt_16 pc) none
def tt_17 (pc : Nat) : Option mm_E := cond (Nat.blt pc 4) (cond (Nat.blt pc 1) (cond (Nat.beq pc 0) (some (.aload_n 0, 1, 0, 0, 0)) none) (cond (Nat.beq pc 1) (some (.getfield 44, 3, 0, 4, 0)) none)) (cond (Nat.blt pc 7) (cond (Nat.beq pc 4) (some (.getfield 141, 3, 5, 1, 0)) none) (cond (Nat.beq pc 7) (some (.ireturn, 1, 0, 0, 0)) none))
def tb_17 (pc : Nat) : Option mm_E := cond (Nat.blt pc 8) (tt_17 pc) none
def tt_18 (pc : Nat) : Option mm_E := cond (Nat.blt pc 4) (cond (Nat.blt pc 1) (cond (Nat.beq pc 0) (some (.aload_n 0, 1, 0, 0, 0)) none) (cond (Nat.beq pc 1) (some (.getfield 44, 3, 0, 4, 0)) none)) (cond (Nat.blt pc 5) (cond (Nat.beq pc 4) (some (.iload_n 1, 1, 1, 0, 0)) none) (cond (Nat.blt pc 8) (cond (Nat.beq pc 5) (some (.invokevirtual 145, 3, 50, 1, 0)) none) (cond (Nat.beq pc 8) (some (.ireturn, 1, 0, 0, 0)) none)))
def tb_18 (pc : Nat) : Option mm_E := cond (Nat.blt pc 9) (tt_18 pc) none
def tt_19 (pc : Nat) : Option mm_E := cond (Nat.blt pc 15) (cond (Nat.blt pc 7) (cond (Nat.blt pc 1) (cond (Nat.beq pc 0) (some (.aload_n 0, 1, 0, 0, 0)) none) (cond (Nat.blt pc 4) (cond (Nat.beq pc 1) (some (.getfield 62, 3, 0, 6, 0)) none) (cond (Nat.beq pc 4) (some (.invokevirtual 148, 3, 62, 1, 0)) none))) (cond (Nat.blt pc 9) (cond (Nat.blt pc 8) (cond (Nat.beq pc 7) (some (.istore_n 1, 1, 1, 0, 0)) none) (cond (Nat.beq pc 8) (some (.iload_n 1, 1, 1, 0, 0)) none)) (cond (Nat.blt pc 12) (cond (Nat.beq pc 9) (some (.ifCond .eq 9, 3, 18, 0, 0)) none) (cond (Nat.beq pc 12) (some (.sipush (-1000), 3, 0, 0, (-1000))) none)))) (cond (Nat.blt pc 18) (cond (Nat.blt pc 16) (cond (Nat.beq pc 15) (some (.iload_n 1, 1, 1, 0, 0)) none) (cond (Nat.blt pc 17) (cond (Nat.beq pc 16) (some (.isub, 1, 0, 0, 0)) none) (cond (Nat.beq pc 17) (some (.ireturn, 1, 0, 0, 0)) none))) (cond (Nat.blt pc 22) (cond (Nat.blt pc 19) (cond (Nat.beq pc 18) (some (.aload_n 0, 1, 0, 0, 0)) none) (cond (Nat.beq pc 19) (some (.getfield 71, 3, 0, 7, 0)) none)) (cond (Nat.blt pc 25) (cond (Nat.beq pc 22) (some (.invokevirtual 152, 3, 74, 1, 0)) none) (cond (Nat.beq pc 25) (some (.ireturn, 1, 0, 0, 0)) none))))
def tb_19 (pc : Nat) : Option mm_E := cond (Nat.blt pc 26) (tt_19 pc) none
def tt_20 (pc : Nat) : Option mm_E := cond (Nat.blt pc 4) (cond (Nat.blt pc 1) (cond (Nat.beq pc 0) (some (.aload_n 0, 1, 0, 0, 0)) none) (cond (Nat.beq pc 1) (some (.getfield 71, 3, 0, 7, 0)) none)) (cond (Nat.blt pc 7) (cond (Nat.beq pc 4) (some (.getfield 155, 3, 8, 4, 0)) none) (cond (Nat.beq pc 7) (some (.ireturn, 1, 0, 0, 0)) none))
def tb_20 (pc : Nat) : Option mm_E := cond (Nat.blt pc 8) (tt_20 pc) none
def tt_21 (pc : Nat) : Option mm_E := cond (Nat.blt pc 4) (cond (Nat.blt pc 1) (cond (Nat.beq pc 0) (some (.aload_n 0, 1, 0, 0, 0)) none) (cond (Nat.beq pc 1) (some (.getfield 71, 3, 0, 7, 0)) none)) (cond (Nat.blt pc 5) (cond (Nat.beq pc 4) (some (.iload_n 1, 1, 1, 0, 0)) none) (cond (Nat.blt pc 8) (cond (Nat.beq pc 5) (some (.invokevirtual 158, 3, 75, 1, 0)) none) (cond (Nat.beq pc 8) (some (.ireturn, 1, 0, 0, 0)) none)))
def tb_21 (pc : Nat) : Option mm_E := cond (Nat.blt pc 9) (tt_21 pc) none
def tt_22 (pc : Nat) : Option mm_E := cond (Nat.blt pc 30) (cond (Nat.blt pc 13) (cond (Nat.blt pc 6) (cond (Nat.blt pc 4) (cond (Nat.blt pc 1) (cond (Nat.beq pc 0) (some (.aload_n 0, 1, 0, 0, 0)) none) (cond (Nat.beq pc 1) (some (.invokespecial 3, 3, 0, 0, 0)) none)) (cond (Nat.blt pc 5) (cond (Nat.beq pc 4) (some (.aload_n 0, 1, 0, 0, 0)) none) (cond (Nat.beq pc 5) (some (.iconst 4, 1, 0, 0, 4)) none))) (cond (Nat.blt pc 11) (cond (Nat.blt pc 8) (cond (Nat.beq pc 6) (some (.newarray .boolean, 2, 0, 0, 0)) none) (cond (Nat.beq pc 8) (some (.putfield 9, 3, 1, 0, 3)) none)) (cond (Nat.blt pc 12) (cond (Nat.beq pc 11) (some (.aload_n 0, 1, 0, 0, 0)) none) (cond (Nat.beq pc 12) (some (.iconst 4, 1, 0, 0, 4)) none)))) (cond (Nat.blt pc 20) (cond (Nat.blt pc 18) (cond (Nat.blt pc 15) (cond (Nat.beq pc 13) (some (.newarray .int, 2, 0, 0, 0)) none) (cond (Nat.beq pc 15) (some (.putfield 15, 3, 1, 1, 3)) none)) (cond (Nat.blt pc 19) (cond (Nat.beq pc 18) (some (.aload_n 0, 1, 0, 0, 0)) none) (cond (Nat.beq pc 19) (some (.iconst 4, 1, 0, 0, 4)) none))) (cond (Nat.blt pc 25) (cond (Nat.blt pc 22) (cond (Nat.beq pc 20) (some (.newarray .int, 2, 0, 0, 0)) none) (cond (Nat.beq pc 22) (some (.putfield 19, 3, 1, 2, 3)) none)) (cond (Nat.blt pc 26) (cond (Nat.beq pc 25) (some (.aload_n 0, 1, 0, 0, 0)) none) (cond (Nat.blt pc 28) (cond (Nat.beq pc 26) (some (.bipush 12, 2, 0, 0, 12)) none) (cond (Nat.beq pc 28) (some (.newarray .int, 2, 0, 0, 0)) none)))))) (cond (Nat.blt pc 49) (cond (Nat.blt pc 38) (cond (Nat.blt pc 34) (cond (Nat.blt pc 33) (cond (Nat.beq pc 30) (some (.putfield 22, 3, 1, 3, 3)) none) (cond (Nat.beq pc 33) (some (.aload_n 0, 1, 0, 0, 0)) none)) (cond (Nat.blt pc 36) (cond (Nat.beq pc 34) (some (.bipush 12, 2, 0, 0, 12)) none) (cond (Nat.beq pc 36) (some (.newarray .int, 2, 0, 0, 0)) none))) (cond (Nat.blt pc 42) (cond (Nat.blt pc 41) (cond (Nat.beq pc 38) (some (.putfield 25, 3, 1, 4, 3)) none) (cond (Nat.beq pc 41) (some (.aload_n 0, 1, 0, 0, 0)) none)) (cond (Nat.blt pc 44) (cond (Nat.beq pc 42) (some (.bipush 12, 2, 0, 0, 12)) none) (cond (Nat.blt pc 46) (cond (Nat.beq pc 44) (some (.newarray .int, 2, 0, 0, 0)) none) (cond (Nat.beq pc 46) (some (.putfield 28, 3, 1, 5, 3)) none))))) (cond (Nat.blt pc 59) (cond (Nat.blt pc 53) (cond (Nat.blt pc 50) (cond (Nat.beq pc 49) (some (.aload_n 0, 1, 0, 0, 0)) none) (cond (Nat.beq pc 50) (some (.getfield 25, 3, 1, 4, 0)) none)) (cond (Nat.blt pc 56) (cond (Nat.beq pc 53) (some (.sipush (-1000), 3, 0, 0, (-1000))) none) (cond (Nat.beq pc 56) (some (.invokestatic 31, 3, 0, 1, 0)) none))) (cond (Nat.blt pc 63) (cond (Nat.blt pc 60) (cond (Nat.beq pc 59) (some (.aload_n 0, 1, 0, 0, 0)) none) (cond (Nat.beq pc 60) (some (.getfield 28, 3, 1, 5, 0)) none)) (cond (Nat.blt pc 66) (cond (Nat.beq pc 63) (some (.sipush 1000, 3, 0, 0, 1000)) none) (cond (Nat.blt pc 69) (cond (Nat.beq pc 66) (some (.invokestatic 31, 3, 0, 1, 0)) none) (cond (Nat.beq pc 69) (some (.return_, 1, 0, 0, 0)) none))))))
def tb_22 (pc : Nat) : Option mm_E := cond (Nat.blt pc 70) (tt_22 pc) none
def tt_23 (pc : Nat) : Option mm_E := cond (Nat.blt pc 13) (cond (Nat.blt pc 5) (cond (Nat.blt pc 1) (cond (Nat.beq pc 0) (some (.iload_n 1, 1, 1, 0, 0)) none) (cond (Nat.blt pc 4) (cond (Nat.beq pc 1) (some (.ifCond .lt 21, 3, 22, 0, 0)) none) (cond (Nat.beq pc 4) (some (.iload_n 1, 1, 1, 0, 0)) none))) (cond (Nat.blt pc 9) (cond (Nat.blt pc 6) (cond (Nat.beq pc 5) (some (.iconst 4, 1, 0, 0, 4)) none) (cond (Nat.beq pc 6) (some (.if_icmp .ge 16, 3, 22, 0, 0)) none)) (cond (Nat.blt pc 10) (cond (Nat.beq pc 9) (some (.aload_n 0, 1, 0, 0, 0)) none) (cond (Nat.beq pc 10) (some (.getfield 9, 3, 1, 0, 0)) none)))) (cond (Nat.blt pc 18) (cond (Nat.blt pc 14) (cond (Nat.beq pc 13) (some (.iload_n 1, 1, 1, 0, 0)) none) (cond (Nat.blt pc 15) (cond (Nat.beq pc 14) (some (.baload, 1, 0, 0, 0)) none) (cond (Nat.beq pc 15) (some (.ifCond .eq 7, 3, 22, 0, 0)) none))) (cond (Nat.blt pc 22) (cond (Nat.blt pc 19) (cond (Nat.beq pc 18) (some (.iconst 1, 1, 0, 0, 1)) none) (cond (Nat.beq pc 19) (some (.goto 4, 3, 23, 0, 0)) none)) (cond (Nat.blt pc 23) (cond (Nat.beq pc 22) (some (.iconst 0, 1, 0, 0, 0)) none) (cond (Nat.beq pc 23) (some (.ireturn, 1, 0, 0, 0)) none))))
def tb_23 (pc : Nat) : Option mm_E := cond (Nat.blt pc 24) (tt_23 pc) none
def tt_24 (pc : Nat) : Option mm_E := cond (Nat.blt pc 14) (cond (Nat.blt pc 6) (cond (Nat.blt pc 4) (cond (Nat.blt pc 1) (cond (Nat.beq pc 0) (some (.iload_n 1, 1, 1, 0, 0)) none) (cond (Nat.beq pc 1) (some (.ifCond .lt 26, 3, 27, 0, 0)) none)) (cond (Nat.blt pc 5) (cond (Nat.beq pc 4) (some (.iload_n 1, 1, 1, 0, 0)) none) (cond (Nat.beq pc 5) (some (.iconst 4, 1, 0, 0, 4)) none))) (cond (Nat.blt pc 10) (cond (Nat.blt pc 9) (cond (Nat.beq pc 6) (some (.if_icmp .ge 21, 3, 27, 0, 0)) none) (cond (Nat.beq pc 9) (some (.iload_n 2, 1, 2, 0, 0)) none)) (cond (Nat.blt pc 13) (cond (Nat.beq pc 10) (some (.ifCond .lt 17, 3, 27, 0, 0)) none) (cond (Nat.beq pc 13) (some (.iload_n 2, 1, 2, 0, 0)) none)))) (cond (Nat.blt pc 20) (cond (Nat.blt pc 18) (cond (Nat.blt pc 15) (cond (Nat.beq pc 14) (some (.aload_n 0, 1, 0, 0, 0)) none) (cond (Nat.beq pc 15) (some (.getfield 15, 3, 1, 1, 0)) none)) (cond (Nat.blt pc 19) (cond (Nat.beq pc 18) (some (.iload_n 1, 1, 1, 0, 0)) none) (cond (Nat.beq pc 19) (some (.iaload, 1, 0, 0, 0)) none))) (cond (Nat.blt pc 24) (cond (Nat.blt pc 23) (cond (Nat.beq pc 20) (some (.if_icmp .ge 7, 3, 27, 0, 0)) none) (cond (Nat.beq pc 23) (some (.iconst 1, 1, 0, 0, 1)) none)) (cond (Nat.blt pc 27) (cond (Nat.beq pc 24) (some (.goto 4, 3, 28, 0, 0)) none) (cond (Nat.blt pc 28) (cond (Nat.beq pc 27) (some (.iconst 0, 1, 0, 0, 0)) none) (cond (Nat.beq pc 28) (some (.ireturn, 1, 0, 0, 0)) none)))))
def tb_24 (pc : Nat) : Option mm_E := cond (Nat.blt pc 29) (tt_24 pc) none
def tt_25 (pc : Nat) : Option mm_E := cond (Nat.blt pc 14) (cond (Nat.blt pc 6) (cond (Nat.blt pc 4) (cond (Nat.blt pc 1) (cond (Nat.beq pc 0) (some (.iload_n 1, 1, 1, 0, 0)) none) (cond (Nat.beq pc 1) (some (.ifCond .lt 26, 3, 27, 0, 0)) none)) (cond (Nat.blt pc 5) (cond (Nat.beq pc 4) (some (.iload_n 1, 1, 1, 0, 0)) none) (cond (Nat.beq pc 5) (some (.iconst 4, 1, 0, 0, 4)) none))) (cond (Nat.blt pc 10) (cond (Nat.blt pc 9) (cond (Nat.beq pc 6) (some (.if_icmp .ge 21, 3, 27, 0, 0)) none) (cond (Nat.beq pc 9) (some (.iload_n 2, 1, 2, 0, 0)) none)) (cond (Nat.blt pc 13) (cond (Nat.beq pc 10) (some (.ifCond .lt 17, 3, 27, 0, 0)) none) (cond (Nat.beq pc 13) (some (.iload_n 2, 1, 2, 0, 0)) none)))) (cond (Nat.blt pc 20) (cond (Nat.blt pc 18) (cond (Nat.blt pc 15) (cond (Nat.beq pc 14) (some (.aload_n 0, 1, 0, 0, 0)) none) (cond (Nat.beq pc 15) (some (.getfield 19, 3, 1, 2, 0)) none)) (cond (Nat.blt pc 19) (cond (Nat.beq pc 18) (some (.iload_n 1, 1, 1, 0, 0)) none) (cond (Nat.beq pc 19) (some (.iaload, 1, 0, 0, 0)) none))) (cond (Nat.blt pc 24) (cond (Nat.blt pc 23) (cond (Nat.beq pc 20) (some (.if_icmp .ge 7, 3, 27, 0, 0)) none) (cond (Nat.beq pc 23) (some (.iconst 1, 1, 0, 0, 1)) none)) (cond (Nat.blt pc 27) (cond (Nat.beq pc 24) (some (.goto 4, 3, 28, 0, 0)) none) (cond (Nat.blt pc 28) (cond (Nat.beq pc 27) (some (.iconst 0, 1, 0, 0, 0)) none) (cond (Nat.beq pc 28) (some (.ireturn, 1, 0, 0, 0)) none)))))
def tb_25 (pc : Nat) : Option mm_E := cond (Nat.blt pc 29) (tt_25 pc) none
def tt_26 (pc : Nat) : Option mm_E := cond (Nat.blt pc 35) (cond (Nat.blt pc 18) (cond (Nat.blt pc 9) (cond (Nat.blt pc 4) (cond (Nat.blt pc 1) (cond (Nat.beq pc 0) (some (.iload_n 1, 1, 1, 0, 0)) none) (cond (Nat.beq pc 1) (some (.ifCond .lt 17, 3, 18, 0, 0)) none)) (cond (Nat.blt pc 5) (cond (Nat.beq pc 4) (some (.iload_n 1, 1, 1, 0, 0)) none) (cond (Nat.blt pc 6) (cond (Nat.beq pc 5) (some (.iconst 4, 1, 0, 0, 4)) none) (cond (Nat.beq pc 6) (some (.if_icmp .ge 12, 3, 18, 0, 0)) none)))) (cond (Nat.blt pc 13) (cond (Nat.blt pc 10) (cond (Nat.beq pc 9) (some (.aload_n 0, 1, 0, 0, 0)) none) (cond (Nat.beq pc 10) (some (.getfield 9, 3, 1, 0, 0)) none)) (cond (Nat.blt pc 14) (cond (Nat.beq pc 13) (some (.iload_n 1, 1, 1, 0, 0)) none) (cond (Nat.blt pc 15) (cond (Nat.beq pc 14) (some (.baload, 1, 0, 0, 0)) none) (cond (Nat.beq pc 15) (some (.ifCond .eq 5, 3, 20, 0, 0)) none))))) (cond (Nat.blt pc 25) (cond (Nat.blt pc 20) (cond (Nat.blt pc 19) (cond (Nat.beq pc 18) (some (.iconst 0, 1, 0, 0, 0)) none) (cond (Nat.beq pc 19) (some (.ireturn, 1, 0, 0, 0)) none)) (cond (Nat.blt pc 21) (cond (Nat.beq pc 20) (some (.iload_n 2, 1, 2, 0, 0)) none) (cond (Nat.blt pc 24) (cond (Nat.beq pc 21) (some (.ifCond .lt 8, 3, 29, 0, 0)) none) (cond (Nat.beq pc 24) (some (.iload_n 2, 1, 2, 0, 0)) none)))) (cond (Nat.blt pc 30) (cond (Nat.blt pc 26) (cond (Nat.beq pc 25) (some (.iconst 3, 1, 0, 0, 3)) none) (cond (Nat.blt pc 29) (cond (Nat.beq pc 26) (some (.if_icmp .le 5, 3, 31, 0, 0)) none) (cond (Nat.beq pc 29) (some (.iconst 0, 1, 0, 0, 0)) none))) (cond (Nat.blt pc 31) (cond (Nat.beq pc 30) (some (.ireturn, 1, 0, 0, 0)) none) (cond (Nat.blt pc 32) (cond (Nat.beq pc 31) (some (.iload_n 3, 1, 3, 0, 0)) none) (cond (Nat.beq pc 32) (some (.ifCond .lt 8, 3, 40, 0, 0)) none)))))) (cond (Nat.blt pc 50) (cond (Nat.blt pc 42) (cond (Nat.blt pc 37) (cond (Nat.blt pc 36) (cond (Nat.beq pc 35) (some (.iload_n 3, 1, 3, 0, 0)) none) (cond (Nat.beq pc 36) (some (.iconst 2, 1, 0, 0, 2)) none)) (cond (Nat.blt pc 40) (cond (Nat.beq pc 37) (some (.if_icmp .le 5, 3, 42, 0, 0)) none) (cond (Nat.blt pc 41) (cond (Nat.beq pc 40) (some (.iconst 0, 1, 0, 0, 0)) none) (cond (Nat.beq pc 41) (some (.ireturn, 1, 0, 0, 0)) none)))) (cond (Nat.blt pc 47) (cond (Nat.blt pc 43) (cond (Nat.beq pc 42) (some (.aload_n 0, 1, 0, 0, 0)) none) (cond (Nat.blt pc 46) (cond (Nat.beq pc 43) (some (.getfield 9, 3, 1, 0, 0)) none) (cond (Nat.beq pc 46) (some (.iload_n 1, 1, 1, 0, 0)) none))) (cond (Nat.blt pc 48) (cond (Nat.beq pc 47) (some (.iconst 1, 1, 0, 0, 1)) none) (cond (Nat.blt pc 49) (cond (Nat.beq pc 48) (some (.bastore, 1, 0, 0, 0)) none) (cond (Nat.beq pc 49) (some (.aload_n 0, 1, 0, 0, 0)) none))))) (cond (Nat.blt pc 57) (cond (Nat.blt pc 54) (cond (Nat.blt pc 53) (cond (Nat.beq pc 50) (some (.getfield 15, 3, 1, 1, 0)) none) (cond (Nat.beq pc 53) (some (.iload_n 1, 1, 1, 0, 0)) none)) (cond (Nat.blt pc 55) (cond (Nat.beq pc 54) (some (.iload_n 2, 1, 2, 0, 0)) none) (cond (Nat.blt pc 56) (cond (Nat.beq pc 55) (some (.iastore, 1, 0, 0, 0)) none) (cond (Nat.beq pc 56) (some (.aload_n 0, 1, 0, 0, 0)) none)))) (cond (Nat.blt pc 62) (cond (Nat.blt pc 60) (cond (Nat.beq pc 57) (some (.getfield 19, 3, 1, 2, 0)) none) (cond (Nat.blt pc 61) (cond (Nat.beq pc 60) (some (.iload_n 1, 1, 1, 0, 0)) none) (cond (Nat.beq pc 61) (some (.iload_n 3, 1, 3, 0, 0)) none))) (cond (Nat.blt pc 63) (cond (Nat.beq pc 62) (some (.iastore, 1, 0, 0, 0)) none) (cond (Nat.blt pc 64) (cond (Nat.beq pc 63) (some (.iconst 1, 1, 0, 0, 1)) none) (cond (Nat.beq pc 64) (some (.ireturn, 1, 0, 0, 0)) none))))))
def tb_26 (pc : Nat) : Option mm_E := cond (Nat.blt pc 65) (tt_26 pc) none
def tt_27 (pc : Nat) : Option mm_E := cond (Nat.blt pc 41) (cond (Nat.blt pc 20) (cond (Nat.blt pc 9) (cond (Nat.blt pc 2) (cond (Nat.blt pc 1) (cond (Nat.beq pc 0) (some (.aload_n 0, 1, 0, 0, 0)) none) (cond (Nat.beq pc 1) (some (.iload_n 1, 1, 1, 0, 0)) none)) (cond (Nat.blt pc 3) (cond (Nat.beq pc 2) (some (.iload_n 2, 1, 2, 0, 0)) none) (cond (Nat.blt pc 6) (cond (Nat.beq pc 3) (some (.invokevirtual 37, 3, 24, 1, 0)) none) (cond (Nat.beq pc 6) (some (.ifCond .ne 5, 3, 11, 0, 0)) none)))) (cond (Nat.blt pc 13) (cond (Nat.blt pc 10) (cond (Nat.beq pc 9) (some (.iconst 0, 1, 0, 0, 0)) none) (cond (Nat.blt pc 11) (cond (Nat.beq pc 10) (some (.ireturn, 1, 0, 0, 0)) none) (cond (Nat.beq pc 11) (some (.iload 4, 2, 4, 0, 0)) none))) (cond (Nat.blt pc 15) (cond (Nat.beq pc 13) (some (.ldc 41, 2, 0, 0, (-99999))) none) (cond (Nat.blt pc 18) (cond (Nat.beq pc 15) (some (.if_icmp .lt 10, 3, 25, 0, 0)) none) (cond (Nat.beq pc 18) (some (.iload 5, 2, 5, 0, 0)) none))))) (cond (Nat.blt pc 30) (cond (Nat.blt pc 26) (cond (Nat.blt pc 22) (cond (Nat.beq pc 20) (some (.ldc 42, 2, 0, 0, 99999)) none) (cond (Nat.blt pc 25) (cond (Nat.beq pc 22) (some (.if_icmp .le 5, 3, 27, 0, 0)) none) (cond (Nat.beq pc 25) (some (.iconst 0, 1, 0, 0, 0)) none))) (cond (Nat.blt pc 27) (cond (Nat.beq pc 26) (some (.ireturn, 1, 0, 0, 0)) none) (cond (Nat.blt pc 28) (cond (Nat.beq pc 27) (some (.iload_n 3, 1, 3, 0, 0)) none) (cond (Nat.beq pc 28) (some (.iload 4, 2, 4, 0, 0)) none)))) (cond (Nat.blt pc 36) (cond (Nat.blt pc 33) (cond (Nat.beq pc 30) (some (.if_icmp .lt 9, 3, 39, 0, 0)) none) (cond (Nat.blt pc 34) (cond (Nat.beq pc 33) (some (.iload_n 3, 1, 3, 0, 0)) none) (cond (Nat.beq pc 34) (some (.iload 5, 2, 5, 0, 0)) none))) (cond (Nat.blt pc 39) (cond (Nat.beq pc 36) (some (.if_icmp .le 5, 3, 41, 0, 0)) none) (cond (Nat.blt pc 40) (cond (Nat.beq pc 39) (some (.iconst 0, 1, 0, 0, 0)) none) (cond (Nat.beq pc 40) (some (.ireturn, 1, 0, 0, 0)) none)))))) (cond (Nat.blt pc 56) (cond (Nat.blt pc 46) (cond (Nat.blt pc 43) (cond (Nat.blt pc 42) (cond (Nat.beq pc 41) (some (.iload_n 1, 1, 1, 0, 0)) none) (cond (Nat.beq pc 42) (some (.iconst 3, 1, 0, 0, 3)) none)) (cond (Nat.blt pc 44) (cond (Nat.beq pc 43) (some (.imul, 1, 0, 0, 0)) none) (cond (Nat.blt pc 45) (cond (Nat.beq pc 44) (some (.iload_n 2, 1, 2, 0, 0)) none) (cond (Nat.beq pc 45) (some (.iadd, 1, 0, 0, 0)) none)))) (cond (Nat.blt pc 52) (cond (Nat.blt pc 48) (cond (Nat.beq pc 46) (some (.istore 6, 2, 6, 0, 0)) none) (cond (Nat.blt pc 49) (cond (Nat.beq pc 48) (some (.aload_n 0, 1, 0, 0, 0)) none) (cond (Nat.beq pc 49) (some (.getfield 22, 3, 1, 3, 0)) none))) (cond (Nat.blt pc 54) (cond (Nat.beq pc 52) (some (.iload 6, 2, 6, 0, 0)) none) (cond (Nat.blt pc 55) (cond (Nat.beq pc 54) (some (.iload_n 3, 1, 3, 0, 0)) none) (cond (Nat.beq pc 55) (some (.iastore, 1, 0, 0, 0)) none))))) (cond (Nat.blt pc 66) (cond (Nat.blt pc 62) (cond (Nat.blt pc 57) (cond (Nat.beq pc 56) (some (.aload_n 0, 1, 0, 0, 0)) none) (cond (Nat.blt pc 60) (cond (Nat.beq pc 57) (some (.getfield 25, 3, 1, 4, 0)) none) (cond (Nat.beq pc 60) (some (.iload 6, 2, 6, 0, 0)) none))) (cond (Nat.blt pc 64) (cond (Nat.beq pc 62) (some (.iload 4, 2, 4, 0, 0)) none) (cond (Nat.blt pc 65) (cond (Nat.beq pc 64) (some (.iastore, 1, 0, 0, 0)) none) (cond (Nat.beq pc 65) (some (.aload_n 0, 1, 0, 0, 0)) none)))) (cond (Nat.blt pc 73) (cond (Nat.blt pc 69) (cond (Nat.beq pc 66) (some (.getfield 28, 3, 1, 5, 0)) none) (cond (Nat.blt pc 71) (cond (Nat.beq pc 69) (some (.iload 6, 2, 6, 0, 0)) none) (cond (Nat.beq pc 71) (some (.iload 5, 2, 5, 0, 0)) none))) (cond (Nat.blt pc 74) (cond (Nat.beq pc 73) (some (.iastore, 1, 0, 0, 0)) none) (cond (Nat.blt pc 75) (cond (Nat.beq pc 74) (some (.iconst 1, 1, 0, 0, 1)) none) (cond (Nat.beq pc 75) (some (.ireturn, 1, 0, 0, 0)) none))))))
def tb_27 (pc : Nat) : Option mm_E := cond (Nat.blt pc 76) (tt_27 pc) none
def tt_28 (pc : Nat) : Option mm_E := cond (Nat.blt pc 14) (cond (Nat.blt pc 6) (cond (Nat.blt pc 2) (cond (Nat.blt pc 1) (cond (Nat.beq pc 0) (some (.aload_n 0, 1, 0, 0, 0)) none) (cond (Nat.beq pc 1) (some (.iload_n 1, 1, 1, 0, 0)) none)) (cond (Nat.blt pc 3) (cond (Nat.beq pc 2) (some (.iload_n 2, 1, 2, 0, 0)) none) (cond (Nat.beq pc 3) (some (.invokevirtual 37, 3, 24, 1, 0)) none))) (cond (Nat.blt pc 10) (cond (Nat.blt pc 9) (cond (Nat.beq pc 6) (some (.ifCond .eq 16, 3, 22, 0, 0)) none) (cond (Nat.beq pc 9) (some (.aload_n 0, 1, 0, 0, 0)) none)) (cond (Nat.blt pc 13) (cond (Nat.beq pc 10) (some (.getfield 22, 3, 1, 3, 0)) none) (cond (Nat.beq pc 13) (some (.iload_n 1, 1, 1, 0, 0)) none)))) (cond (Nat.blt pc 18) (cond (Nat.blt pc 16) (cond (Nat.blt pc 15) (cond (Nat.beq pc 14) (some (.iconst 3, 1, 0, 0, 3)) none) (cond (Nat.beq pc 15) (some (.imul, 1, 0, 0, 0)) none)) (cond (Nat.blt pc 17) (cond (Nat.beq pc 16) (some (.iload_n 2, 1, 2, 0, 0)) none) (cond (Nat.beq pc 17) (some (.iadd, 1, 0, 0, 0)) none))) (cond (Nat.blt pc 22) (cond (Nat.blt pc 19) (cond (Nat.beq pc 18) (some (.iaload, 1, 0, 0, 0)) none) (cond (Nat.beq pc 19) (some (.goto 4, 3, 23, 0, 0)) none)) (cond (Nat.blt pc 23) (cond (Nat.beq pc 22) (some (.iconst 0, 1, 0, 0, 0)) none) (cond (Nat.beq pc 23) (some (.ireturn, 1, 0, 0, 0)) none))))
def tb_28 (pc : Nat) : Option mm_E := cond (Nat.blt pc 24) (tt_28 pc) none
def tt_29 (pc : Nat) : Option mm_E := cond (Nat.blt pc 19) (cond (Nat.blt pc 11) (cond (Nat.blt pc 3) (cond (Nat.blt pc 1) (cond (Nat.beq pc 0) (some (.aload_n 0, 1, 0, 0, 0)) none) (cond (Nat.blt pc 2) (cond (Nat.beq pc 1) (some (.iload_n 1, 1, 1, 0, 0)) none) (cond (Nat.beq pc 2) (some (.iload_n 2, 1, 2, 0, 0)) none))) (cond (Nat.blt pc 9) (cond (Nat.blt pc 6) (cond (Nat.beq pc 3) (some (.invokevirtual 37, 3, 24, 1, 0)) none) (cond (Nat.beq pc 6) (some (.ifCond .ne 5, 3, 11, 0, 0)) none)) (cond (Nat.blt pc 10) (cond (Nat.beq pc 9) (some (.iconst 0, 1, 0, 0, 0)) none) (cond (Nat.beq pc 10) (some (.ireturn, 1, 0, 0, 0)) none)))) (cond (Nat.blt pc 14) (cond (Nat.blt pc 12) (cond (Nat.beq pc 11) (some (.iload_n 1, 1, 1, 0, 0)) none) (cond (Nat.blt pc 13) (cond (Nat.beq pc 12) (some (.iconst 3, 1, 0, 0, 3)) none) (cond (Nat.beq pc 13) (some (.imul, 1, 0, 0, 0)) none))) (cond (Nat.blt pc 16) (cond (Nat.blt pc 15) (cond (Nat.beq pc 14) (some (.iload_n 2, 1, 2, 0, 0)) none) (cond (Nat.beq pc 15) (some (.iadd, 1, 0, 0, 0)) none)) (cond (Nat.blt pc 18) (cond (Nat.beq pc 16) (some (.istore 4, 2, 4, 0, 0)) none) (cond (Nat.beq pc 18) (some (.iload_n 3, 1, 3, 0, 0)) none))))) (cond (Nat.blt pc 31) (cond (Nat.blt pc 25) (cond (Nat.blt pc 20) (cond (Nat.beq pc 19) (some (.aload_n 0, 1, 0, 0, 0)) none) (cond (Nat.blt pc 23) (cond (Nat.beq pc 20) (some (.getfield 25, 3, 1, 4, 0)) none) (cond (Nat.beq pc 23) (some (.iload 4, 2, 4, 0, 0)) none))) (cond (Nat.blt pc 29) (cond (Nat.blt pc 26) (cond (Nat.beq pc 25) (some (.iaload, 1, 0, 0, 0)) none) (cond (Nat.beq pc 26) (some (.if_icmp .lt 18, 3, 44, 0, 0)) none)) (cond (Nat.blt pc 30) (cond (Nat.beq pc 29) (some (.iload_n 3, 1, 3, 0, 0)) none) (cond (Nat.beq pc 30) (some (.aload_n 0, 1, 0, 0, 0)) none)))) (cond (Nat.blt pc 40) (cond (Nat.blt pc 36) (cond (Nat.blt pc 34) (cond (Nat.beq pc 31) (some (.getfield 28, 3, 1, 5, 0)) none) (cond (Nat.beq pc 34) (some (.iload 4, 2, 4, 0, 0)) none)) (cond (Nat.blt pc 37) (cond (Nat.beq pc 36) (some (.iaload, 1, 0, 0, 0)) none) (cond (Nat.beq pc 37) (some (.if_icmp .gt 7, 3, 44, 0, 0)) none))) (cond (Nat.blt pc 44) (cond (Nat.blt pc 41) (cond (Nat.beq pc 40) (some (.iconst 1, 1, 0, 0, 1)) none) (cond (Nat.beq pc 41) (some (.goto 4, 3, 45, 0, 0)) none)) (cond (Nat.blt pc 45) (cond (Nat.beq pc 44) (some (.iconst 0, 1, 0, 0, 0)) none) (cond (Nat.beq pc 45) (some (.ireturn, 1, 0, 0, 0)) none)))))
def tb_29 (pc : Nat) : Option mm_E := cond (Nat.blt pc 46) (tt_29 pc) none
def tt_30 (pc : Nat) : Option mm_E := cond (Nat.blt pc 17) (cond (Nat.blt pc 7) (cond (Nat.blt pc 4) (cond (Nat.blt pc 1) (cond (Nat.beq pc 0) (some (.aload_n 0, 1, 0, 0, 0)) none) (cond (Nat.beq pc 1) (some (.invokespecial 3, 3, 0, 0, 0)) none)) (cond (Nat.blt pc 5) (cond (Nat.beq pc 4) (some (.aload_n 0, 1, 0, 0, 0)) none) (cond (Nat.beq pc 5) (some (.bipush 24, 2, 0, 0, 24)) none))) (cond (Nat.blt pc 12) (cond (Nat.blt pc 9) (cond (Nat.beq pc 7) (some (.newarray .int, 2, 0, 0, 0)) none) (cond (Nat.beq pc 9) (some (.putfield 9, 3, 2, 1, 3)) none)) (cond (Nat.blt pc 13) (cond (Nat.beq pc 12) (some (.aload_n 0, 1, 0, 0, 0)) none) (cond (Nat.blt pc 15) (cond (Nat.beq pc 13) (some (.bipush 72, 2, 0, 0, 72)) none) (cond (Nat.beq pc 15) (some (.newarray .int, 2, 0, 0, 0)) none))))) (cond (Nat.blt pc 25) (cond (Nat.blt pc 21) (cond (Nat.blt pc 20) (cond (Nat.beq pc 17) (some (.putfield 15, 3, 2, 2, 3)) none) (cond (Nat.beq pc 20) (some (.aload_n 0, 1, 0, 0, 0)) none)) (cond (Nat.blt pc 23) (cond (Nat.beq pc 21) (some (.bipush 48, 2, 0, 0, 48)) none) (cond (Nat.beq pc 23) (some (.newarray .int, 2, 0, 0, 0)) none))) (cond (Nat.blt pc 29) (cond (Nat.blt pc 28) (cond (Nat.beq pc 25) (some (.putfield 18, 3, 2, 3, 3)) none) (cond (Nat.beq pc 28) (some (.aload_n 0, 1, 0, 0, 0)) none)) (cond (Nat.blt pc 30) (cond (Nat.beq pc 29) (some (.aload_n 1, 1, 1, 0, 0)) none) (cond (Nat.blt pc 33) (cond (Nat.beq pc 30) (some (.putfield 21, 3, 2, 0, 3)) none) (cond (Nat.beq pc 33) (some (.return_, 1, 0, 0, 0)) none)))))
def tb_30 (pc : Nat) : Option mm_E := cond (Nat.blt pc 34) (tt_30 pc) none
def tt_31 (pc : Nat) : Option mm_E := cond (Nat.blt pc 9) (cond (Nat.blt pc 4) (cond (Nat.blt pc 1) (cond (Nat.beq pc 0) (some (.iload_n 1, 1, 1, 0, 0)) none) (cond (Nat.beq pc 1) (some (.ifCond .lt 15, 3, 16, 0, 0)) none)) (cond (Nat.blt pc 5) (cond (Nat.beq pc 4) (some (.iload_n 1, 1, 1, 0, 0)) none) (cond (Nat.blt pc 6) (cond (Nat.beq pc 5) (some (.aload_n 0, 1, 0, 0, 0)) none) (cond (Nat.beq pc 6) (some (.getfield 25, 3, 2, 4, 0)) none)))) (cond (Nat.blt pc 13) (cond (Nat.blt pc 12) (cond (Nat.beq pc 9) (some (.if_icmp .ge 7, 3, 16, 0, 0)) none) (cond (Nat.beq pc 12) (some (.iconst 1, 1, 0, 0, 1)) none)) (cond (Nat.blt pc 16) (cond (Nat.beq pc 13) (some (.goto 4, 3, 17, 0, 0)) none) (cond (Nat.blt pc 17) (cond (Nat.beq pc 16) (some (.iconst 0, 1, 0, 0, 0)) none) (cond (Nat.beq pc 17) (some (.ireturn, 1, 0, 0, 0)) none))))
def tb_31 (pc : Nat) : Option mm_E := cond (Nat.blt pc 18) (tt_31 pc) none
def tt_32 (pc : Nat) : Option mm_E := cond (Nat.blt pc 50) (cond (Nat.blt pc 28) (cond (Nat.blt pc 15) (cond (Nat.blt pc 5) (cond (Nat.blt pc 1) (cond (Nat.beq pc 0) (some (.aload_n 0, 1, 0, 0, 0)) none) (cond (Nat.blt pc 4) (cond (Nat.beq pc 1) (some (.getfield 21, 3, 2, 0, 0)) none) (cond (Nat.beq pc 4) (some (.iload_n 1, 1, 1, 0, 0)) none))) (cond (Nat.blt pc 11) (cond (Nat.blt pc 8) (cond (Nat.beq pc 5) (some (.invokevirtual 29, 3, 23, 1, 0)) none) (cond (Nat.beq pc 8) (some (.ifCond .eq 12, 3, 20, 0, 0)) none)) (cond (Nat.blt pc 12) (cond (Nat.beq pc 11) (some (.aload_n 0, 1, 0, 0, 0)) none) (cond (Nat.beq pc 12) (some (.getfield 25, 3, 2, 4, 0)) none)))) (cond (Nat.blt pc 22) (cond (Nat.blt pc 20) (cond (Nat.blt pc 17) (cond (Nat.beq pc 15) (some (.bipush 24, 2, 0, 0, 24)) none) (cond (Nat.beq pc 17) (some (.if_icmp .lt 5, 3, 22, 0, 0)) none)) (cond (Nat.blt pc 21) (cond (Nat.beq pc 20) (some (.iconst (-1), 1, 0, 0, (-1))) none) (cond (Nat.beq pc 21) (some (.ireturn, 1, 0, 0, 0)) none))) (cond (Nat.blt pc 26) (cond (Nat.blt pc 23) (cond (Nat.beq pc 22) (some (.aload_n 0, 1, 0, 0, 0)) none) (cond (Nat.beq pc 23) (some (.getfield 25, 3, 2, 4, 0)) none)) (cond (Nat.blt pc 27) (cond (Nat.beq pc 26) (some (.istore_n 2, 1, 2, 0, 0)) none) (cond (Nat.beq pc 27) (some (.aload_n 0, 1, 0, 0, 0)) none))))) (cond (Nat.blt pc 38) (cond (Nat.blt pc 34) (cond (Nat.blt pc 32) (cond (Nat.blt pc 31) (cond (Nat.beq pc 28) (some (.getfield 9, 3, 2, 1, 0)) none) (cond (Nat.beq pc 31) (some (.iload_n 2, 1, 2, 0, 0)) none)) (cond (Nat.blt pc 33) (cond (Nat.beq pc 32) (some (.iload_n 1, 1, 1, 0, 0)) none) (cond (Nat.beq pc 33) (some (.iastore, 1, 0, 0, 0)) none))) (cond (Nat.blt pc 36) (cond (Nat.blt pc 35) (cond (Nat.beq pc 34) (some (.iconst 0, 1, 0, 0, 0)) none) (cond (Nat.beq pc 35) (some (.istore_n 3, 1, 3, 0, 0)) none)) (cond (Nat.blt pc 37) (cond (Nat.beq pc 36) (some (.iload_n 3, 1, 3, 0, 0)) none) (cond (Nat.beq pc 37) (some (.iconst 3, 1, 0, 0, 3)) none)))) (cond (Nat.blt pc 46) (cond (Nat.blt pc 42) (cond (Nat.blt pc 41) (cond (Nat.beq pc 38) (some (.if_icmp .ge 28, 3, 66, 0, 0)) none) (cond (Nat.beq pc 41) (some (.aload_n 0, 1, 0, 0, 0)) none)) (cond (Nat.blt pc 45) (cond (Nat.beq pc 42) (some (.getfield 15, 3, 2, 2, 0)) none) (cond (Nat.beq pc 45) (some (.iload_n 2, 1, 2, 0, 0)) none))) (cond (Nat.blt pc 48) (cond (Nat.blt pc 47) (cond (Nat.beq pc 46) (some (.iconst 3, 1, 0, 0, 3)) none) (cond (Nat.beq pc 47) (some (.imul, 1, 0, 0, 0)) none)) (cond (Nat.blt pc 49) (cond (Nat.beq pc 48) (some (.iload_n 3, 1, 3, 0, 0)) none) (cond (Nat.beq pc 49) (some (.iadd, 1, 0, 0, 0)) none)))))) (cond (Nat.blt pc 78) (cond (Nat.blt pc 66) (cond (Nat.blt pc 56) (cond (Nat.blt pc 54) (cond (Nat.blt pc 51) (cond (Nat.beq pc 50) (some (.aload_n 0, 1, 0, 0, 0)) none) (cond (Nat.beq pc 51) (some (.getfield 21, 3, 2, 0, 0)) none)) (cond (Nat.blt pc 55) (cond (Nat.beq pc 54) (some (.iload_n 1, 1, 1, 0, 0)) none) (cond (Nat.beq pc 55) (some (.iload_n 3, 1, 3, 0, 0)) none))) (cond (Nat.blt pc 60) (cond (Nat.blt pc 59) (cond (Nat.beq pc 56) (some (.invokevirtual 35, 3, 28, 1, 0)) none) (cond (Nat.beq pc 59) (some (.iastore, 1, 0, 0, 0)) none)) (cond (Nat.blt pc 63) (cond (Nat.beq pc 60) (some (.iinc 3 1, 3, 3, 0, 1)) none) (cond (Nat.beq pc 63) (some (.goto (-27), 3, 36, 0, 0)) none)))) (cond (Nat.blt pc 70) (cond (Nat.blt pc 68) (cond (Nat.blt pc 67) (cond (Nat.beq pc 66) (some (.iconst 0, 1, 0, 0, 0)) none) (cond (Nat.beq pc 67) (some (.istore_n 3, 1, 3, 0, 0)) none)) (cond (Nat.blt pc 69) (cond (Nat.beq pc 68) (some (.iload_n 3, 1, 3, 0, 0)) none) (cond (Nat.beq pc 69) (some (.iconst 2, 1, 0, 0, 2)) none))) (cond (Nat.blt pc 74) (cond (Nat.blt pc 73) (cond (Nat.beq pc 70) (some (.if_icmp .ge 20, 3, 90, 0, 0)) none) (cond (Nat.beq pc 73) (some (.aload_n 0, 1, 0, 0, 0)) none)) (cond (Nat.blt pc 77) (cond (Nat.beq pc 74) (some (.getfield 18, 3, 2, 3, 0)) none) (cond (Nat.beq pc 77) (some (.iload_n 2, 1, 2, 0, 0)) none))))) (cond (Nat.blt pc 90) (cond (Nat.blt pc 82) (cond (Nat.blt pc 80) (cond (Nat.blt pc 79) (cond (Nat.beq pc 78) (some (.iconst 2, 1, 0, 0, 2)) none) (cond (Nat.beq pc 79) (some (.imul, 1, 0, 0, 0)) none)) (cond (Nat.blt pc 81) (cond (Nat.beq pc 80) (some (.iload_n 3, 1, 3, 0, 0)) none) (cond (Nat.beq pc 81) (some (.iadd, 1, 0, 0, 0)) none))) (cond (Nat.blt pc 84) (cond (Nat.blt pc 83) (cond (Nat.beq pc 82) (some (.iconst (-1), 1, 0, 0, (-1))) none) (cond (Nat.beq pc 83) (some (.iastore, 1, 0, 0, 0)) none)) (cond (Nat.blt pc 87) (cond (Nat.beq pc 84) (some (.iinc 3 1, 3, 3, 0, 1)) none) (cond (Nat.beq pc 87) (some (.goto (-19), 3, 68, 0, 0)) none)))) (cond (Nat.blt pc 96) (cond (Nat.blt pc 92) (cond (Nat.blt pc 91) (cond (Nat.beq pc 90) (some (.aload_n 0, 1, 0, 0, 0)) none) (cond (Nat.beq pc 91) (some (.dup, 1, 0, 0, 0)) none)) (cond (Nat.blt pc 95) (cond (Nat.beq pc 92) (some (.getfield 25, 3, 2, 4, 0)) none) (cond (Nat.beq pc 95) (some (.iconst 1, 1, 0, 0, 1)) none))) (cond (Nat.blt pc 100) (cond (Nat.blt pc 97) (cond (Nat.beq pc 96) (some (.iadd, 1, 0, 0, 0)) none) (cond (Nat.beq pc 97) (some (.putfield 25, 3, 2, 4, 0)) none)) (cond (Nat.blt pc 101) (cond (Nat.beq pc 100) (some (.iload_n 2, 1, 2, 0, 0)) none) (cond (Nat.beq pc 101) (some (.ireturn, 1, 0, 0, 0)) none))))))
def tb_32 (pc : Nat) : Option mm_E := cond (Nat.blt pc 102) (tt_32 pc) none
def tt_33 (pc : Nat) : Option mm_E := cond (Nat.blt pc 2) (cond (Nat.blt pc 1) (cond (Nat.beq pc 0) (some (.aload_n 0, 1, 0, 0, 0)) none) (cond (Nat.beq pc 1) (some (.iconst 0, 1, 0, 0, 0)) none)) (cond (Nat.blt pc 5) (cond (Nat.beq pc 2) (some (.putfield 25, 3, 2, 4, 0)) none) (cond (Nat.beq pc 5) (some (.return_, 1, 0, 0, 0)) none))
def tb_33 (pc : Nat) : Option mm_E := cond (Nat.blt pc 6) (tt_33 pc) none
def tt_34 (pc : Nat) : Option mm_E := cond (Nat.blt pc 9) (cond (Nat.blt pc 2) (cond (Nat.blt pc 1) (cond (Nat.beq pc 0) (some (.aload_n 0, 1, 0, 0, 0)) none) (cond (Nat.beq pc 1) (some (.iload_n 1, 1, 1, 0, 0)) none)) (cond (Nat.blt pc 5) (cond (Nat.beq pc 2) (some (.invokevirtual 39, 3, 31, 1, 0)) none) (cond (Nat.blt pc 8) (cond (Nat.beq pc 5) (some (.ifCond .eq 12, 3, 17, 0, 0)) none) (cond (Nat.beq pc 8) (some (.aload_n 0, 1, 0, 0, 0)) none)))) (cond (Nat.blt pc 14) (cond (Nat.blt pc 12) (cond (Nat.beq pc 9) (some (.getfield 9, 3, 2, 1, 0)) none) (cond (Nat.blt pc 13) (cond (Nat.beq pc 12) (some (.iload_n 1, 1, 1, 0, 0)) none) (cond (Nat.beq pc 13) (some (.iaload, 1, 0, 0, 0)) none))) (cond (Nat.blt pc 17) (cond (Nat.beq pc 14) (some (.goto 4, 3, 18, 0, 0)) none) (cond (Nat.blt pc 18) (cond (Nat.beq pc 17) (some (.iconst (-1), 1, 0, 0, (-1))) none) (cond (Nat.beq pc 18) (some (.ireturn, 1, 0, 0, 0)) none))))
def tb_34 (pc : Nat) : Option mm_E := cond (Nat.blt pc 19) (tt_34 pc) none
def tt_35 (pc : Nat) : Option mm_E := cond (Nat.blt pc 19) (cond (Nat.blt pc 9) (cond (Nat.blt pc 4) (cond (Nat.blt pc 1) (cond (Nat.beq pc 0) (some (.aload_n 0, 1, 0, 0, 0)) none) (cond (Nat.beq pc 1) (some (.getfield 21, 3, 2, 0, 0)) none)) (cond (Nat.blt pc 5) (cond (Nat.beq pc 4) (some (.aload_n 0, 1, 0, 0, 0)) none) (cond (Nat.blt pc 6) (cond (Nat.beq pc 5) (some (.iload_n 1, 1, 1, 0, 0)) none) (cond (Nat.beq pc 6) (some (.invokevirtual 42, 3, 34, 1, 0)) none)))) (cond (Nat.blt pc 14) (cond (Nat.blt pc 10) (cond (Nat.beq pc 9) (some (.iload_n 2, 1, 2, 0, 0)) none) (cond (Nat.blt pc 11) (cond (Nat.beq pc 10) (some (.iload_n 3, 1, 3, 0, 0)) none) (cond (Nat.beq pc 11) (some (.invokevirtual 46, 3, 29, 1, 0)) none))) (cond (Nat.blt pc 17) (cond (Nat.beq pc 14) (some (.ifCond .ne 5, 3, 19, 0, 0)) none) (cond (Nat.blt pc 18) (cond (Nat.beq pc 17) (some (.iconst 0, 1, 0, 0, 0)) none) (cond (Nat.beq pc 18) (some (.ireturn, 1, 0, 0, 0)) none))))) (cond (Nat.blt pc 26) (cond (Nat.blt pc 23) (cond (Nat.blt pc 20) (cond (Nat.beq pc 19) (some (.aload_n 0, 1, 0, 0, 0)) none) (cond (Nat.beq pc 20) (some (.getfield 15, 3, 2, 2, 0)) none)) (cond (Nat.blt pc 24) (cond (Nat.beq pc 23) (some (.iload_n 1, 1, 1, 0, 0)) none) (cond (Nat.blt pc 25) (cond (Nat.beq pc 24) (some (.iconst 3, 1, 0, 0, 3)) none) (cond (Nat.beq pc 25) (some (.imul, 1, 0, 0, 0)) none)))) (cond (Nat.blt pc 29) (cond (Nat.blt pc 27) (cond (Nat.beq pc 26) (some (.iload_n 2, 1, 2, 0, 0)) none) (cond (Nat.blt pc 28) (cond (Nat.beq pc 27) (some (.iadd, 1, 0, 0, 0)) none) (cond (Nat.beq pc 28) (some (.iload_n 3, 1, 3, 0, 0)) none))) (cond (Nat.blt pc 30) (cond (Nat.beq pc 29) (some (.iastore, 1, 0, 0, 0)) none) (cond (Nat.blt pc 31) (cond (Nat.beq pc 30) (some (.iconst 1, 1, 0, 0, 1)) none) (cond (Nat.beq pc 31) (some (.ireturn, 1, 0, 0, 0)) none)))))
def tb_35 (pc : Nat) : Option mm_E := cond (Nat.blt pc 32) (tt_35 pc) none
def tt_36 (pc : Nat) : Option mm_E := cond (Nat.blt pc 25) (cond (Nat.blt pc 13) (cond (Nat.blt pc 5) (cond (Nat.blt pc 1) (cond (Nat.beq pc 0) (some (.aload_n 0, 1, 0, 0, 0)) none) (cond (Nat.blt pc 4) (cond (Nat.beq pc 1) (some (.getfield 21, 3, 2, 0, 0)) none) (cond (Nat.beq pc 4) (some (.aload_n 0, 1, 0, 0, 0)) none))) (cond (Nat.blt pc 9) (cond (Nat.blt pc 6) (cond (Nat.beq pc 5) (some (.iload_n 1, 1, 1, 0, 0)) none) (cond (Nat.beq pc 6) (some (.invokevirtual 42, 3, 34, 1, 0)) none)) (cond (Nat.blt pc 10) (cond (Nat.beq pc 9) (some (.iload_n 2, 1, 2, 0, 0)) none) (cond (Nat.beq pc 10) (some (.invokevirtual 50, 3, 25, 1, 0)) none)))) (cond (Nat.blt pc 19) (cond (Nat.blt pc 17) (cond (Nat.blt pc 16) (cond (Nat.beq pc 13) (some (.ifCond .ne 5, 3, 18, 0, 0)) none) (cond (Nat.beq pc 16) (some (.iconst 0, 1, 0, 0, 0)) none)) (cond (Nat.blt pc 18) (cond (Nat.beq pc 17) (some (.ireturn, 1, 0, 0, 0)) none) (cond (Nat.beq pc 18) (some (.iload_n 3, 1, 3, 0, 0)) none))) (cond (Nat.blt pc 23) (cond (Nat.blt pc 20) (cond (Nat.beq pc 19) (some (.iconst (-1), 1, 0, 0, (-1))) none) (cond (Nat.beq pc 20) (some (.if_icmp .eq 13, 3, 33, 0, 0)) none)) (cond (Nat.blt pc 24) (cond (Nat.beq pc 23) (some (.aload_n 0, 1, 0, 0, 0)) none) (cond (Nat.beq pc 24) (some (.iload_n 3, 1, 3, 0, 0)) none))))) (cond (Nat.blt pc 38) (cond (Nat.blt pc 32) (cond (Nat.blt pc 28) (cond (Nat.beq pc 25) (some (.invokevirtual 39, 3, 31, 1, 0)) none) (cond (Nat.blt pc 31) (cond (Nat.beq pc 28) (some (.ifCond .ne 5, 3, 33, 0, 0)) none) (cond (Nat.beq pc 31) (some (.iconst 0, 1, 0, 0, 0)) none))) (cond (Nat.blt pc 34) (cond (Nat.blt pc 33) (cond (Nat.beq pc 32) (some (.ireturn, 1, 0, 0, 0)) none) (cond (Nat.beq pc 33) (some (.aload_n 0, 1, 0, 0, 0)) none)) (cond (Nat.blt pc 37) (cond (Nat.beq pc 34) (some (.getfield 18, 3, 2, 3, 0)) none) (cond (Nat.beq pc 37) (some (.iload_n 1, 1, 1, 0, 0)) none)))) (cond (Nat.blt pc 42) (cond (Nat.blt pc 40) (cond (Nat.blt pc 39) (cond (Nat.beq pc 38) (some (.iconst 2, 1, 0, 0, 2)) none) (cond (Nat.beq pc 39) (some (.imul, 1, 0, 0, 0)) none)) (cond (Nat.blt pc 41) (cond (Nat.beq pc 40) (some (.iload_n 2, 1, 2, 0, 0)) none) (cond (Nat.beq pc 41) (some (.iadd, 1, 0, 0, 0)) none))) (cond (Nat.blt pc 44) (cond (Nat.blt pc 43) (cond (Nat.beq pc 42) (some (.iload_n 3, 1, 3, 0, 0)) none) (cond (Nat.beq pc 43) (some (.iastore, 1, 0, 0, 0)) none)) (cond (Nat.blt pc 45) (cond (Nat.beq pc 44) (some (.iconst 1, 1, 0, 0, 1)) none) (cond (Nat.beq pc 45) (some (.ireturn, 1, 0, 0, 0)) none)))))
def tb_36 (pc : Nat) : Option mm_E := cond (Nat.blt pc 46) (tt_36 pc) none
def tt_37 (pc : Nat) : Option mm_E := cond (Nat.blt pc 17) (cond (Nat.blt pc 6) (cond (Nat.blt pc 4) (cond (Nat.blt pc 1) (cond (Nat.beq pc 0) (some (.aload_n 0, 1, 0, 0, 0)) none) (cond (Nat.beq pc 1) (some (.getfield 21, 3, 2, 0, 0)) none)) (cond (Nat.blt pc 5) (cond (Nat.beq pc 4) (some (.aload_n 0, 1, 0, 0, 0)) none) (cond (Nat.beq pc 5) (some (.iload_n 1, 1, 1, 0, 0)) none))) (cond (Nat.blt pc 10) (cond (Nat.blt pc 9) (cond (Nat.beq pc 6) (some (.invokevirtual 42, 3, 34, 1, 0)) none) (cond (Nat.beq pc 9) (some (.iload_n 2, 1, 2, 0, 0)) none)) (cond (Nat.blt pc 13) (cond (Nat.beq pc 10) (some (.invokevirtual 54, 3, 24, 1, 0)) none) (cond (Nat.blt pc 16) (cond (Nat.beq pc 13) (some (.ifCond .eq 16, 3, 29, 0, 0)) none) (cond (Nat.beq pc 16) (some (.aload_n 0, 1, 0, 0, 0)) none))))) (cond (Nat.blt pc 24) (cond (Nat.blt pc 21) (cond (Nat.blt pc 20) (cond (Nat.beq pc 17) (some (.getfield 15, 3, 2, 2, 0)) none) (cond (Nat.beq pc 20) (some (.iload_n 1, 1, 1, 0, 0)) none)) (cond (Nat.blt pc 22) (cond (Nat.beq pc 21) (some (.iconst 3, 1, 0, 0, 3)) none) (cond (Nat.blt pc 23) (cond (Nat.beq pc 22) (some (.imul, 1, 0, 0, 0)) none) (cond (Nat.beq pc 23) (some (.iload_n 2, 1, 2, 0, 0)) none)))) (cond (Nat.blt pc 26) (cond (Nat.blt pc 25) (cond (Nat.beq pc 24) (some (.iadd, 1, 0, 0, 0)) none) (cond (Nat.beq pc 25) (some (.iaload, 1, 0, 0, 0)) none)) (cond (Nat.blt pc 29) (cond (Nat.beq pc 26) (some (.goto 4, 3, 30, 0, 0)) none) (cond (Nat.blt pc 30) (cond (Nat.beq pc 29) (some (.iconst 0, 1, 0, 0, 0)) none) (cond (Nat.beq pc 30) (some (.ireturn, 1, 0, 0, 0)) none)))))
def tb_37 (pc : Nat) : Option mm_E := cond (Nat.blt pc 31) (tt_37 pc) none
def tt_38 (pc : Nat) : Option mm_E := cond (Nat.blt pc 17) (cond (Nat.blt pc 6) (cond (Nat.blt pc 4) (cond (Nat.blt pc 1) (cond (Nat.beq pc 0) (some (.aload_n 0, 1, 0, 0, 0)) none) (cond (Nat.beq pc 1) (some (.getfield 21, 3, 2, 0, 0)) none)) (cond (Nat.blt pc 5) (cond (Nat.beq pc 4) (some (.aload_n 0, 1, 0, 0, 0)) none) (cond (Nat.beq pc 5) (some (.iload_n 1, 1, 1, 0, 0)) none))) (cond (Nat.blt pc 10) (cond (Nat.blt pc 9) (cond (Nat.beq pc 6) (some (.invokevirtual 42, 3, 34, 1, 0)) none) (cond (Nat.beq pc 9) (some (.iload_n 2, 1, 2, 0, 0)) none)) (cond (Nat.blt pc 13) (cond (Nat.beq pc 10) (some (.invokevirtual 50, 3, 25, 1, 0)) none) (cond (Nat.blt pc 16) (cond (Nat.beq pc 13) (some (.ifCond .eq 16, 3, 29, 0, 0)) none) (cond (Nat.beq pc 16) (some (.aload_n 0, 1, 0, 0, 0)) none))))) (cond (Nat.blt pc 24) (cond (Nat.blt pc 21) (cond (Nat.blt pc 20) (cond (Nat.beq pc 17) (some (.getfield 18, 3, 2, 3, 0)) none) (cond (Nat.beq pc 20) (some (.iload_n 1, 1, 1, 0, 0)) none)) (cond (Nat.blt pc 22) (cond (Nat.beq pc 21) (some (.iconst 2, 1, 0, 0, 2)) none) (cond (Nat.blt pc 23) (cond (Nat.beq pc 22) (some (.imul, 1, 0, 0, 0)) none) (cond (Nat.beq pc 23) (some (.iload_n 2, 1, 2, 0, 0)) none)))) (cond (Nat.blt pc 26) (cond (Nat.blt pc 25) (cond (Nat.beq pc 24) (some (.iadd, 1, 0, 0, 0)) none) (cond (Nat.beq pc 25) (some (.iaload, 1, 0, 0, 0)) none)) (cond (Nat.blt pc 29) (cond (Nat.beq pc 26) (some (.goto 4, 3, 30, 0, 0)) none) (cond (Nat.blt pc 30) (cond (Nat.beq pc 29) (some (.iconst (-1), 1, 0, 0, (-1))) none) (cond (Nat.beq pc 30) (some (.ireturn, 1, 0, 0, 0)) none)))))
def tb_38 (pc : Nat) : Option mm_E := cond (Nat.blt pc 31) (tt_38 pc) none
def tt_39 (pc : Nat) : Option mm_E := cond (Nat.blt pc 22) (cond (Nat.blt pc 13) (cond (Nat.blt pc 5) (cond (Nat.blt pc 1) (cond (Nat.beq pc 0) (some (.aload_n 0, 1, 0, 0, 0)) none) (cond (Nat.blt pc 2) (cond (Nat.beq pc 1) (some (.iload_n 1, 1, 1, 0, 0)) none) (cond (Nat.beq pc 2) (some (.invokevirtual 42, 3, 34, 1, 0)) none))) (cond (Nat.blt pc 7) (cond (Nat.blt pc 6) (cond (Nat.beq pc 5) (some (.aload_n 0, 1, 0, 0, 0)) none) (cond (Nat.beq pc 6) (some (.iload_n 2, 1, 2, 0, 0)) none)) (cond (Nat.blt pc 10) (cond (Nat.beq pc 7) (some (.invokevirtual 42, 3, 34, 1, 0)) none) (cond (Nat.beq pc 10) (some (.if_icmp .eq 5, 3, 15, 0, 0)) none)))) (cond (Nat.blt pc 16) (cond (Nat.blt pc 14) (cond (Nat.beq pc 13) (some (.iconst 0, 1, 0, 0, 0)) none) (cond (Nat.blt pc 15) (cond (Nat.beq pc 14) (some (.ireturn, 1, 0, 0, 0)) none) (cond (Nat.beq pc 15) (some (.iconst 0, 1, 0, 0, 0)) none))) (cond (Nat.blt pc 18) (cond (Nat.blt pc 17) (cond (Nat.beq pc 16) (some (.istore_n 3, 1, 3, 0, 0)) none) (cond (Nat.beq pc 17) (some (.iload_n 3, 1, 3, 0, 0)) none)) (cond (Nat.blt pc 19) (cond (Nat.beq pc 18) (some (.iconst 3, 1, 0, 0, 3)) none) (cond (Nat.beq pc 19) (some (.if_icmp .ge 26, 3, 45, 0, 0)) none))))) (cond (Nat.blt pc 31) (cond (Nat.blt pc 25) (cond (Nat.blt pc 23) (cond (Nat.beq pc 22) (some (.aload_n 0, 1, 0, 0, 0)) none) (cond (Nat.blt pc 24) (cond (Nat.beq pc 23) (some (.iload_n 1, 1, 1, 0, 0)) none) (cond (Nat.beq pc 24) (some (.iload_n 3, 1, 3, 0, 0)) none))) (cond (Nat.blt pc 29) (cond (Nat.blt pc 28) (cond (Nat.beq pc 25) (some (.invokevirtual 57, 3, 37, 1, 0)) none) (cond (Nat.beq pc 28) (some (.aload_n 0, 1, 0, 0, 0)) none)) (cond (Nat.blt pc 30) (cond (Nat.beq pc 29) (some (.iload_n 2, 1, 2, 0, 0)) none) (cond (Nat.beq pc 30) (some (.iload_n 3, 1, 3, 0, 0)) none)))) (cond (Nat.blt pc 39) (cond (Nat.blt pc 37) (cond (Nat.blt pc 34) (cond (Nat.beq pc 31) (some (.invokevirtual 57, 3, 37, 1, 0)) none) (cond (Nat.beq pc 34) (some (.if_icmp .eq 5, 3, 39, 0, 0)) none)) (cond (Nat.blt pc 38) (cond (Nat.beq pc 37) (some (.iconst 0, 1, 0, 0, 0)) none) (cond (Nat.beq pc 38) (some (.ireturn, 1, 0, 0, 0)) none))) (cond (Nat.blt pc 45) (cond (Nat.blt pc 42) (cond (Nat.beq pc 39) (some (.iinc 3 1, 3, 3, 0, 1)) none) (cond (Nat.beq pc 42) (some (.goto (-25), 3, 17, 0, 0)) none)) (cond (Nat.blt pc 46) (cond (Nat.beq pc 45) (some (.iconst 1, 1, 0, 0, 1)) none) (cond (Nat.beq pc 46) (some (.ireturn, 1, 0, 0, 0)) none)))))
def tb_39 (pc : Nat) : Option mm_E := cond (Nat.blt pc 47) (tt_39 pc) none
def tt_40 (pc : Nat) : Option mm_E := cond (Nat.blt pc 13) (cond (Nat.blt pc 5) (cond (Nat.blt pc 1) (cond (Nat.beq pc 0) (some (.aload_n 0, 1, 0, 0, 0)) none) (cond (Nat.blt pc 4) (cond (Nat.beq pc 1) (some (.invokespecial 3, 3, 0, 0, 0)) none) (cond (Nat.beq pc 4) (some (.aload_n 0, 1, 0, 0, 0)) none))) (cond (Nat.blt pc 9) (cond (Nat.blt pc 7) (cond (Nat.beq pc 5) (some (.bipush 24, 2, 0, 0, 24)) none) (cond (Nat.beq pc 7) (some (.newarray .int, 2, 0, 0, 0)) none)) (cond (Nat.blt pc 12) (cond (Nat.beq pc 9) (some (.putfield 9, 3, 3, 1, 3)) none) (cond (Nat.beq pc 12) (some (.aload_n 0, 1, 0, 0, 0)) none)))) (cond (Nat.blt pc 20) (cond (Nat.blt pc 15) (cond (Nat.beq pc 13) (some (.bipush 24, 2, 0, 0, 24)) none) (cond (Nat.blt pc 17) (cond (Nat.beq pc 15) (some (.newarray .boolean, 2, 0, 0, 0)) none) (cond (Nat.beq pc 17) (some (.putfield 15, 3, 3, 2, 3)) none))) (cond (Nat.blt pc 22) (cond (Nat.blt pc 21) (cond (Nat.beq pc 20) (some (.aload_n 0, 1, 0, 0, 0)) none) (cond (Nat.beq pc 21) (some (.aload_n 1, 1, 1, 0, 0)) none)) (cond (Nat.blt pc 25) (cond (Nat.beq pc 22) (some (.putfield 19, 3, 3, 0, 3)) none) (cond (Nat.beq pc 25) (some (.return_, 1, 0, 0, 0)) none))))
def tb_40 (pc : Nat) : Option mm_E := cond (Nat.blt pc 26) (tt_40 pc) none
def tt_41 (pc : Nat) : Option mm_E := cond (Nat.blt pc 39) (cond (Nat.blt pc 18) (cond (Nat.blt pc 8) (cond (Nat.blt pc 2) (cond (Nat.blt pc 1) (cond (Nat.beq pc 0) (some (.iconst 0, 1, 0, 0, 0)) none) (cond (Nat.beq pc 1) (some (.istore_n 2, 1, 2, 0, 0)) none)) (cond (Nat.blt pc 3) (cond (Nat.beq pc 2) (some (.iload_n 2, 1, 2, 0, 0)) none) (cond (Nat.blt pc 5) (cond (Nat.beq pc 3) (some (.bipush 24, 2, 0, 0, 24)) none) (cond (Nat.beq pc 5) (some (.if_icmp .ge 16, 3, 21, 0, 0)) none)))) (cond (Nat.blt pc 13) (cond (Nat.blt pc 9) (cond (Nat.beq pc 8) (some (.aload_n 0, 1, 0, 0, 0)) none) (cond (Nat.blt pc 12) (cond (Nat.beq pc 9) (some (.getfield 15, 3, 3, 2, 0)) none) (cond (Nat.beq pc 12) (some (.iload_n 2, 1, 2, 0, 0)) none))) (cond (Nat.blt pc 14) (cond (Nat.beq pc 13) (some (.iconst 0, 1, 0, 0, 0)) none) (cond (Nat.blt pc 15) (cond (Nat.beq pc 14) (some (.bastore, 1, 0, 0, 0)) none) (cond (Nat.beq pc 15) (some (.iinc 2 1, 3, 2, 0, 1)) none))))) (cond (Nat.blt pc 28) (cond (Nat.blt pc 23) (cond (Nat.blt pc 21) (cond (Nat.beq pc 18) (some (.goto (-16), 3, 2, 0, 0)) none) (cond (Nat.blt pc 22) (cond (Nat.beq pc 21) (some (.aload_n 0, 1, 0, 0, 0)) none) (cond (Nat.beq pc 22) (some (.iconst 0, 1, 0, 0, 0)) none))) (cond (Nat.blt pc 26) (cond (Nat.beq pc 23) (some (.putfield 23, 3, 3, 3, 0)) none) (cond (Nat.blt pc 27) (cond (Nat.beq pc 26) (some (.aload_n 0, 1, 0, 0, 0)) none) (cond (Nat.beq pc 27) (some (.iload_n 1, 1, 1, 0, 0)) none)))) (cond (Nat.blt pc 33) (cond (Nat.blt pc 31) (cond (Nat.beq pc 28) (some (.invokevirtual 27, 3, 42, 1, 0)) none) (cond (Nat.blt pc 32) (cond (Nat.beq pc 31) (some (.iconst 0, 1, 0, 0, 0)) none) (cond (Nat.beq pc 32) (some (.istore_n 2, 1, 2, 0, 0)) none))) (cond (Nat.blt pc 34) (cond (Nat.beq pc 33) (some (.iload_n 2, 1, 2, 0, 0)) none) (cond (Nat.blt pc 36) (cond (Nat.beq pc 34) (some (.bipush 24, 2, 0, 0, 24)) none) (cond (Nat.beq pc 36) (some (.if_icmp .ge 48, 3, 84, 0, 0)) none)))))) (cond (Nat.blt pc 59) (cond (Nat.blt pc 49) (cond (Nat.blt pc 44) (cond (Nat.blt pc 40) (cond (Nat.beq pc 39) (some (.iload_n 2, 1, 2, 0, 0)) none) (cond (Nat.blt pc 41) (cond (Nat.beq pc 40) (some (.aload_n 0, 1, 0, 0, 0)) none) (cond (Nat.beq pc 41) (some (.getfield 23, 3, 3, 3, 0)) none))) (cond (Nat.blt pc 47) (cond (Nat.beq pc 44) (some (.if_icmp .ge 40, 3, 84, 0, 0)) none) (cond (Nat.blt pc 48) (cond (Nat.beq pc 47) (some (.iconst 0, 1, 0, 0, 0)) none) (cond (Nat.beq pc 48) (some (.istore_n 3, 1, 3, 0, 0)) none)))) (cond (Nat.blt pc 54) (cond (Nat.blt pc 50) (cond (Nat.beq pc 49) (some (.iload_n 3, 1, 3, 0, 0)) none) (cond (Nat.blt pc 51) (cond (Nat.beq pc 50) (some (.iconst 2, 1, 0, 0, 2)) none) (cond (Nat.beq pc 51) (some (.if_icmp .ge 27, 3, 78, 0, 0)) none))) (cond (Nat.blt pc 55) (cond (Nat.beq pc 54) (some (.aload_n 0, 1, 0, 0, 0)) none) (cond (Nat.blt pc 56) (cond (Nat.beq pc 55) (some (.aload_n 0, 1, 0, 0, 0)) none) (cond (Nat.beq pc 56) (some (.getfield 19, 3, 3, 0, 0)) none))))) (cond (Nat.blt pc 69) (cond (Nat.blt pc 64) (cond (Nat.blt pc 60) (cond (Nat.beq pc 59) (some (.aload_n 0, 1, 0, 0, 0)) none) (cond (Nat.blt pc 63) (cond (Nat.beq pc 60) (some (.getfield 9, 3, 3, 1, 0)) none) (cond (Nat.beq pc 63) (some (.iload_n 2, 1, 2, 0, 0)) none))) (cond (Nat.blt pc 65) (cond (Nat.beq pc 64) (some (.iaload, 1, 0, 0, 0)) none) (cond (Nat.blt pc 66) (cond (Nat.beq pc 65) (some (.iload_n 3, 1, 3, 0, 0)) none) (cond (Nat.beq pc 66) (some (.invokevirtual 31, 3, 38, 1, 0)) none)))) (cond (Nat.blt pc 78) (cond (Nat.blt pc 72) (cond (Nat.beq pc 69) (some (.invokevirtual 27, 3, 42, 1, 0)) none) (cond (Nat.blt pc 75) (cond (Nat.beq pc 72) (some (.iinc 3 1, 3, 3, 0, 1)) none) (cond (Nat.beq pc 75) (some (.goto (-26), 3, 49, 0, 0)) none))) (cond (Nat.blt pc 81) (cond (Nat.beq pc 78) (some (.iinc 2 1, 3, 2, 0, 1)) none) (cond (Nat.blt pc 84) (cond (Nat.beq pc 81) (some (.goto (-48), 3, 33, 0, 0)) none) (cond (Nat.beq pc 84) (some (.return_, 1, 0, 0, 0)) none))))))
def tb_41 (pc : Nat) : Option mm_E := cond (Nat.blt pc 85) (tt_41 pc) none
def tt_42 (pc : Nat) : Option mm_E := cond (Nat.blt pc 26) (cond (Nat.blt pc 15) (cond (Nat.blt pc 5) (cond (Nat.blt pc 1) (cond (Nat.beq pc 0) (some (.aload_n 0, 1, 0, 0, 0)) none) (cond (Nat.blt pc 4) (cond (Nat.beq pc 1) (some (.getfield 19, 3, 3, 0, 0)) none) (cond (Nat.beq pc 4) (some (.iload_n 1, 1, 1, 0, 0)) none))) (cond (Nat.blt pc 11) (cond (Nat.blt pc 8) (cond (Nat.beq pc 5) (some (.invokevirtual 37, 3, 31, 1, 0)) none) (cond (Nat.beq pc 8) (some (.ifCond .eq 39, 3, 47, 0, 0)) none)) (cond (Nat.blt pc 12) (cond (Nat.beq pc 11) (some (.aload_n 0, 1, 0, 0, 0)) none) (cond (Nat.beq pc 12) (some (.getfield 15, 3, 3, 2, 0)) none)))) (cond (Nat.blt pc 20) (cond (Nat.blt pc 16) (cond (Nat.beq pc 15) (some (.iload_n 1, 1, 1, 0, 0)) none) (cond (Nat.blt pc 17) (cond (Nat.beq pc 16) (some (.baload, 1, 0, 0, 0)) none) (cond (Nat.beq pc 17) (some (.ifCond .ne 30, 3, 47, 0, 0)) none))) (cond (Nat.blt pc 24) (cond (Nat.blt pc 21) (cond (Nat.beq pc 20) (some (.aload_n 0, 1, 0, 0, 0)) none) (cond (Nat.beq pc 21) (some (.getfield 15, 3, 3, 2, 0)) none)) (cond (Nat.blt pc 25) (cond (Nat.beq pc 24) (some (.iload_n 1, 1, 1, 0, 0)) none) (cond (Nat.beq pc 25) (some (.iconst 1, 1, 0, 0, 1)) none))))) (cond (Nat.blt pc 37) (cond (Nat.blt pc 31) (cond (Nat.blt pc 27) (cond (Nat.beq pc 26) (some (.bastore, 1, 0, 0, 0)) none) (cond (Nat.blt pc 28) (cond (Nat.beq pc 27) (some (.aload_n 0, 1, 0, 0, 0)) none) (cond (Nat.beq pc 28) (some (.getfield 9, 3, 3, 1, 0)) none))) (cond (Nat.blt pc 35) (cond (Nat.blt pc 32) (cond (Nat.beq pc 31) (some (.aload_n 0, 1, 0, 0, 0)) none) (cond (Nat.beq pc 32) (some (.getfield 23, 3, 3, 3, 0)) none)) (cond (Nat.blt pc 36) (cond (Nat.beq pc 35) (some (.iload_n 1, 1, 1, 0, 0)) none) (cond (Nat.beq pc 36) (some (.iastore, 1, 0, 0, 0)) none)))) (cond (Nat.blt pc 42) (cond (Nat.blt pc 38) (cond (Nat.beq pc 37) (some (.aload_n 0, 1, 0, 0, 0)) none) (cond (Nat.blt pc 39) (cond (Nat.beq pc 38) (some (.dup, 1, 0, 0, 0)) none) (cond (Nat.beq pc 39) (some (.getfield 23, 3, 3, 3, 0)) none))) (cond (Nat.blt pc 44) (cond (Nat.blt pc 43) (cond (Nat.beq pc 42) (some (.iconst 1, 1, 0, 0, 1)) none) (cond (Nat.beq pc 43) (some (.iadd, 1, 0, 0, 0)) none)) (cond (Nat.blt pc 47) (cond (Nat.beq pc 44) (some (.putfield 23, 3, 3, 3, 0)) none) (cond (Nat.beq pc 47) (some (.return_, 1, 0, 0, 0)) none)))))
def tb_42 (pc : Nat) : Option mm_E := cond (Nat.blt pc 48) (tt_42 pc) none
def tt_43 (pc : Nat) : Option mm_E := cond (Nat.blt pc 17) (cond (Nat.blt pc 7) (cond (Nat.blt pc 4) (cond (Nat.blt pc 1) (cond (Nat.beq pc 0) (some (.aload_n 0, 1, 0, 0, 0)) none) (cond (Nat.beq pc 1) (some (.invokespecial 3, 3, 0, 0, 0)) none)) (cond (Nat.blt pc 5) (cond (Nat.beq pc 4) (some (.aload_n 0, 1, 0, 0, 0)) none) (cond (Nat.beq pc 5) (some (.bipush 24, 2, 0, 0, 24)) none))) (cond (Nat.blt pc 12) (cond (Nat.blt pc 9) (cond (Nat.beq pc 7) (some (.newarray .int, 2, 0, 0, 0)) none) (cond (Nat.beq pc 9) (some (.putfield 9, 3, 4, 1, 3)) none)) (cond (Nat.blt pc 13) (cond (Nat.beq pc 12) (some (.aload_n 0, 1, 0, 0, 0)) none) (cond (Nat.blt pc 15) (cond (Nat.beq pc 13) (some (.bipush 24, 2, 0, 0, 24)) none) (cond (Nat.beq pc 15) (some (.newarray .int, 2, 0, 0, 0)) none))))) (cond (Nat.blt pc 25) (cond (Nat.blt pc 21) (cond (Nat.blt pc 20) (cond (Nat.beq pc 17) (some (.putfield 15, 3, 4, 2, 3)) none) (cond (Nat.beq pc 20) (some (.aload_n 0, 1, 0, 0, 0)) none)) (cond (Nat.blt pc 23) (cond (Nat.beq pc 21) (some (.bipush 24, 2, 0, 0, 24)) none) (cond (Nat.beq pc 23) (some (.newarray .int, 2, 0, 0, 0)) none))) (cond (Nat.blt pc 29) (cond (Nat.blt pc 28) (cond (Nat.beq pc 25) (some (.putfield 18, 3, 4, 3, 3)) none) (cond (Nat.beq pc 28) (some (.aload_n 0, 1, 0, 0, 0)) none)) (cond (Nat.blt pc 30) (cond (Nat.beq pc 29) (some (.aload_n 1, 1, 1, 0, 0)) none) (cond (Nat.blt pc 33) (cond (Nat.beq pc 30) (some (.putfield 21, 3, 4, 0, 3)) none) (cond (Nat.beq pc 33) (some (.return_, 1, 0, 0, 0)) none)))))
def tb_43 (pc : Nat) : Option mm_E := cond (Nat.blt pc 34) (tt_43 pc) none
def tt_44 (pc : Nat) : Option mm_E := cond (Nat.blt pc 55) (cond (Nat.blt pc 28) (cond (Nat.blt pc 15) (cond (Nat.blt pc 5) (cond (Nat.blt pc 1) (cond (Nat.beq pc 0) (some (.aload_n 0, 1, 0, 0, 0)) none) (cond (Nat.blt pc 4) (cond (Nat.beq pc 1) (some (.getfield 21, 3, 4, 0, 0)) none) (cond (Nat.beq pc 4) (some (.iload_n 1, 1, 1, 0, 0)) none))) (cond (Nat.blt pc 11) (cond (Nat.blt pc 8) (cond (Nat.beq pc 5) (some (.invokevirtual 25, 3, 31, 1, 0)) none) (cond (Nat.beq pc 8) (some (.ifCond .eq 14, 3, 22, 0, 0)) none)) (cond (Nat.blt pc 12) (cond (Nat.beq pc 11) (some (.aload_n 0, 1, 0, 0, 0)) none) (cond (Nat.beq pc 12) (some (.getfield 21, 3, 4, 0, 0)) none)))) (cond (Nat.blt pc 22) (cond (Nat.blt pc 16) (cond (Nat.beq pc 15) (some (.iload_n 2, 1, 2, 0, 0)) none) (cond (Nat.blt pc 19) (cond (Nat.beq pc 16) (some (.invokevirtual 25, 3, 31, 1, 0)) none) (cond (Nat.beq pc 19) (some (.ifCond .ne 5, 3, 24, 0, 0)) none))) (cond (Nat.blt pc 24) (cond (Nat.blt pc 23) (cond (Nat.beq pc 22) (some (.iconst 0, 1, 0, 0, 0)) none) (cond (Nat.beq pc 23) (some (.ireturn, 1, 0, 0, 0)) none)) (cond (Nat.blt pc 25) (cond (Nat.beq pc 24) (some (.aload_n 0, 1, 0, 0, 0)) none) (cond (Nat.beq pc 25) (some (.getfield 15, 3, 4, 2, 0)) none))))) (cond (Nat.blt pc 41) (cond (Nat.blt pc 33) (cond (Nat.blt pc 29) (cond (Nat.beq pc 28) (some (.iconst (-1), 1, 0, 0, (-1))) none) (cond (Nat.blt pc 32) (cond (Nat.beq pc 29) (some (.invokestatic 31, 3, 0, 1, 0)) none) (cond (Nat.beq pc 32) (some (.aload_n 0, 1, 0, 0, 0)) none))) (cond (Nat.blt pc 37) (cond (Nat.blt pc 36) (cond (Nat.beq pc 33) (some (.getfield 18, 3, 4, 3, 0)) none) (cond (Nat.beq pc 36) (some (.iconst (-1), 1, 0, 0, (-1))) none)) (cond (Nat.blt pc 40) (cond (Nat.beq pc 37) (some (.invokestatic 31, 3, 0, 1, 0)) none) (cond (Nat.beq pc 40) (some (.aload_n 0, 1, 0, 0, 0)) none)))) (cond (Nat.blt pc 47) (cond (Nat.blt pc 45) (cond (Nat.blt pc 42) (cond (Nat.beq pc 41) (some (.iconst 0, 1, 0, 0, 0)) none) (cond (Nat.beq pc 42) (some (.putfield 37, 3, 4, 4, 0)) none)) (cond (Nat.blt pc 46) (cond (Nat.beq pc 45) (some (.aload_n 0, 1, 0, 0, 0)) none) (cond (Nat.beq pc 46) (some (.iload_n 1, 1, 1, 0, 0)) none))) (cond (Nat.blt pc 51) (cond (Nat.blt pc 48) (cond (Nat.beq pc 47) (some (.iload_n 2, 1, 2, 0, 0)) none) (cond (Nat.beq pc 48) (some (.invokevirtual 41, 3, 47, 1, 0)) none)) (cond (Nat.blt pc 54) (cond (Nat.beq pc 51) (some (.ifCond .ne 5, 3, 56, 0, 0)) none) (cond (Nat.beq pc 54) (some (.iconst 0, 1, 0, 0, 0)) none)))))) (cond (Nat.blt pc 78) (cond (Nat.blt pc 65) (cond (Nat.blt pc 58) (cond (Nat.blt pc 56) (cond (Nat.beq pc 55) (some (.ireturn, 1, 0, 0, 0)) none) (cond (Nat.blt pc 57) (cond (Nat.beq pc 56) (some (.iconst 0, 1, 0, 0, 0)) none) (cond (Nat.beq pc 57) (some (.istore_n 3, 1, 3, 0, 0)) none))) (cond (Nat.blt pc 61) (cond (Nat.blt pc 59) (cond (Nat.beq pc 58) (some (.iload_n 3, 1, 3, 0, 0)) none) (cond (Nat.beq pc 59) (some (.bipush 24, 2, 0, 0, 24)) none)) (cond (Nat.blt pc 64) (cond (Nat.beq pc 61) (some (.if_icmp .ge 43, 3, 104, 0, 0)) none) (cond (Nat.beq pc 64) (some (.iload_n 3, 1, 3, 0, 0)) none)))) (cond (Nat.blt pc 72) (cond (Nat.blt pc 66) (cond (Nat.beq pc 65) (some (.aload_n 0, 1, 0, 0, 0)) none) (cond (Nat.blt pc 69) (cond (Nat.beq pc 66) (some (.getfield 37, 3, 4, 4, 0)) none) (cond (Nat.beq pc 69) (some (.if_icmp .ge 35, 3, 104, 0, 0)) none))) (cond (Nat.blt pc 76) (cond (Nat.blt pc 73) (cond (Nat.beq pc 72) (some (.aload_n 0, 1, 0, 0, 0)) none) (cond (Nat.beq pc 73) (some (.getfield 9, 3, 4, 1, 0)) none)) (cond (Nat.blt pc 77) (cond (Nat.beq pc 76) (some (.iload_n 3, 1, 3, 0, 0)) none) (cond (Nat.beq pc 77) (some (.iaload, 1, 0, 0, 0)) none))))) (cond (Nat.blt pc 90) (cond (Nat.blt pc 83) (cond (Nat.blt pc 80) (cond (Nat.beq pc 78) (some (.istore 4, 2, 4, 0, 0)) none) (cond (Nat.blt pc 81) (cond (Nat.beq pc 80) (some (.aload_n 0, 1, 0, 0, 0)) none) (cond (Nat.beq pc 81) (some (.iload 4, 2, 4, 0, 0)) none))) (cond (Nat.blt pc 87) (cond (Nat.blt pc 84) (cond (Nat.beq pc 83) (some (.aload_n 0, 1, 0, 0, 0)) none) (cond (Nat.beq pc 84) (some (.getfield 15, 3, 4, 2, 0)) none)) (cond (Nat.blt pc 89) (cond (Nat.beq pc 87) (some (.iload 4, 2, 4, 0, 0)) none) (cond (Nat.beq pc 89) (some (.iaload, 1, 0, 0, 0)) none)))) (cond (Nat.blt pc 98) (cond (Nat.blt pc 96) (cond (Nat.blt pc 93) (cond (Nat.beq pc 90) (some (.invokevirtual 45, 3, 45, 1, 0)) none) (cond (Nat.beq pc 93) (some (.ifCond .ne 5, 3, 98, 0, 0)) none)) (cond (Nat.blt pc 97) (cond (Nat.beq pc 96) (some (.iconst 0, 1, 0, 0, 0)) none) (cond (Nat.beq pc 97) (some (.ireturn, 1, 0, 0, 0)) none))) (cond (Nat.blt pc 104) (cond (Nat.blt pc 101) (cond (Nat.beq pc 98) (some (.iinc 3 1, 3, 3, 0, 1)) none) (cond (Nat.beq pc 101) (some (.goto (-43), 3, 58, 0, 0)) none)) (cond (Nat.blt pc 105) (cond (Nat.beq pc 104) (some (.iconst 1, 1, 0, 0, 1)) none) (cond (Nat.beq pc 105) (some (.ireturn, 1, 0, 0, 0)) none))))))
def tb_44 (pc : Nat) : Option mm_E := cond (Nat.blt pc 106) (tt_44 pc) none
def tt_45 (pc : Nat) : Option mm_E := cond (Nat.blt pc 18) (cond (Nat.blt pc 8) (cond (Nat.blt pc 3) (cond (Nat.blt pc 1) (cond (Nat.beq pc 0) (some (.iconst 0, 1, 0, 0, 0)) none) (cond (Nat.blt pc 2) (cond (Nat.beq pc 1) (some (.istore_n 3, 1, 3, 0, 0)) none) (cond (Nat.beq pc 2) (some (.iload_n 3, 1, 3, 0, 0)) none))) (cond (Nat.blt pc 4) (cond (Nat.beq pc 3) (some (.iconst 2, 1, 0, 0, 2)) none) (cond (Nat.blt pc 7) (cond (Nat.beq pc 4) (some (.if_icmp .ge 36, 3, 40, 0, 0)) none) (cond (Nat.beq pc 7) (some (.aload_n 0, 1, 0, 0, 0)) none)))) (cond (Nat.blt pc 13) (cond (Nat.blt pc 9) (cond (Nat.beq pc 8) (some (.aload_n 0, 1, 0, 0, 0)) none) (cond (Nat.blt pc 12) (cond (Nat.beq pc 9) (some (.getfield 21, 3, 4, 0, 0)) none) (cond (Nat.beq pc 12) (some (.iload_n 1, 1, 1, 0, 0)) none))) (cond (Nat.blt pc 14) (cond (Nat.beq pc 13) (some (.iload_n 3, 1, 3, 0, 0)) none) (cond (Nat.blt pc 17) (cond (Nat.beq pc 14) (some (.invokevirtual 48, 3, 38, 1, 0)) none) (cond (Nat.beq pc 17) (some (.aload_n 0, 1, 0, 0, 0)) none))))) (cond (Nat.blt pc 32) (cond (Nat.blt pc 23) (cond (Nat.blt pc 21) (cond (Nat.beq pc 18) (some (.getfield 21, 3, 4, 0, 0)) none) (cond (Nat.blt pc 22) (cond (Nat.beq pc 21) (some (.iload_n 2, 1, 2, 0, 0)) none) (cond (Nat.beq pc 22) (some (.iload_n 3, 1, 3, 0, 0)) none))) (cond (Nat.blt pc 26) (cond (Nat.beq pc 23) (some (.invokevirtual 48, 3, 38, 1, 0)) none) (cond (Nat.blt pc 29) (cond (Nat.beq pc 26) (some (.invokevirtual 52, 3, 46, 1, 0)) none) (cond (Nat.beq pc 29) (some (.ifCond .ne 5, 3, 34, 0, 0)) none)))) (cond (Nat.blt pc 37) (cond (Nat.blt pc 33) (cond (Nat.beq pc 32) (some (.iconst 0, 1, 0, 0, 0)) none) (cond (Nat.blt pc 34) (cond (Nat.beq pc 33) (some (.ireturn, 1, 0, 0, 0)) none) (cond (Nat.beq pc 34) (some (.iinc 3 1, 3, 3, 0, 1)) none))) (cond (Nat.blt pc 40) (cond (Nat.beq pc 37) (some (.goto (-35), 3, 2, 0, 0)) none) (cond (Nat.blt pc 41) (cond (Nat.beq pc 40) (some (.iconst 1, 1, 0, 0, 1)) none) (cond (Nat.beq pc 41) (some (.ireturn, 1, 0, 0, 0)) none)))))
def tb_45 (pc : Nat) : Option mm_E := cond (Nat.blt pc 42) (tt_45 pc) none
def tt_46 (pc : Nat) : Option mm_E := cond (Nat.blt pc 23) (cond (Nat.blt pc 11) (cond (Nat.blt pc 4) (cond (Nat.blt pc 1) (cond (Nat.beq pc 0) (some (.aload_n 0, 1, 0, 0, 0)) none) (cond (Nat.beq pc 1) (some (.getfield 21, 3, 4, 0, 0)) none)) (cond (Nat.blt pc 5) (cond (Nat.beq pc 4) (some (.iload_n 1, 1, 1, 0, 0)) none) (cond (Nat.blt pc 8) (cond (Nat.beq pc 5) (some (.invokevirtual 25, 3, 31, 1, 0)) none) (cond (Nat.beq pc 8) (some (.ifCond .eq 14, 3, 22, 0, 0)) none)))) (cond (Nat.blt pc 16) (cond (Nat.blt pc 12) (cond (Nat.beq pc 11) (some (.aload_n 0, 1, 0, 0, 0)) none) (cond (Nat.blt pc 15) (cond (Nat.beq pc 12) (some (.getfield 21, 3, 4, 0, 0)) none) (cond (Nat.beq pc 15) (some (.iload_n 2, 1, 2, 0, 0)) none))) (cond (Nat.blt pc 19) (cond (Nat.beq pc 16) (some (.invokevirtual 25, 3, 31, 1, 0)) none) (cond (Nat.blt pc 22) (cond (Nat.beq pc 19) (some (.ifCond .ne 14, 3, 33, 0, 0)) none) (cond (Nat.beq pc 22) (some (.iload_n 1, 1, 1, 0, 0)) none))))) (cond (Nat.blt pc 32) (cond (Nat.blt pc 27) (cond (Nat.blt pc 24) (cond (Nat.beq pc 23) (some (.iload_n 2, 1, 2, 0, 0)) none) (cond (Nat.beq pc 24) (some (.if_icmp .ne 7, 3, 31, 0, 0)) none)) (cond (Nat.blt pc 28) (cond (Nat.beq pc 27) (some (.iconst 1, 1, 0, 0, 1)) none) (cond (Nat.blt pc 31) (cond (Nat.beq pc 28) (some (.goto 4, 3, 32, 0, 0)) none) (cond (Nat.beq pc 31) (some (.iconst 0, 1, 0, 0, 0)) none)))) (cond (Nat.blt pc 35) (cond (Nat.blt pc 33) (cond (Nat.beq pc 32) (some (.ireturn, 1, 0, 0, 0)) none) (cond (Nat.blt pc 34) (cond (Nat.beq pc 33) (some (.aload_n 0, 1, 0, 0, 0)) none) (cond (Nat.beq pc 34) (some (.iload_n 1, 1, 1, 0, 0)) none))) (cond (Nat.blt pc 36) (cond (Nat.beq pc 35) (some (.iload_n 2, 1, 2, 0, 0)) none) (cond (Nat.blt pc 39) (cond (Nat.beq pc 36) (some (.invokevirtual 41, 3, 47, 1, 0)) none) (cond (Nat.beq pc 39) (some (.ireturn, 1, 0, 0, 0)) none)))))
def tb_46 (pc : Nat) : Option mm_E := cond (Nat.blt pc 40) (tt_46 pc) none
def tt_47 (pc : Nat) : Option mm_E := cond (Nat.blt pc 45) (cond (Nat.blt pc 21) (cond (Nat.blt pc 10) (cond (Nat.blt pc 5) (cond (Nat.blt pc 1) (cond (Nat.beq pc 0) (some (.aload_n 0, 1, 0, 0, 0)) none) (cond (Nat.blt pc 4) (cond (Nat.beq pc 1) (some (.getfield 15, 3, 4, 2, 0)) none) (cond (Nat.beq pc 4) (some (.iload_n 1, 1, 1, 0, 0)) none))) (cond (Nat.blt pc 6) (cond (Nat.beq pc 5) (some (.iaload, 1, 0, 0, 0)) none) (cond (Nat.blt pc 7) (cond (Nat.beq pc 6) (some (.iconst (-1), 1, 0, 0, (-1))) none) (cond (Nat.beq pc 7) (some (.if_icmp .ne 13, 3, 20, 0, 0)) none)))) (cond (Nat.blt pc 15) (cond (Nat.blt pc 11) (cond (Nat.beq pc 10) (some (.aload_n 0, 1, 0, 0, 0)) none) (cond (Nat.blt pc 14) (cond (Nat.beq pc 11) (some (.getfield 18, 3, 4, 3, 0)) none) (cond (Nat.beq pc 14) (some (.iload_n 2, 1, 2, 0, 0)) none))) (cond (Nat.blt pc 17) (cond (Nat.blt pc 16) (cond (Nat.beq pc 15) (some (.iaload, 1, 0, 0, 0)) none) (cond (Nat.beq pc 16) (some (.iconst (-1), 1, 0, 0, (-1))) none)) (cond (Nat.blt pc 20) (cond (Nat.beq pc 17) (some (.if_icmp .eq 19, 3, 36, 0, 0)) none) (cond (Nat.beq pc 20) (some (.aload_n 0, 1, 0, 0, 0)) none))))) (cond (Nat.blt pc 34) (cond (Nat.blt pc 26) (cond (Nat.blt pc 24) (cond (Nat.beq pc 21) (some (.getfield 15, 3, 4, 2, 0)) none) (cond (Nat.blt pc 25) (cond (Nat.beq pc 24) (some (.iload_n 1, 1, 1, 0, 0)) none) (cond (Nat.beq pc 25) (some (.iaload, 1, 0, 0, 0)) none))) (cond (Nat.blt pc 30) (cond (Nat.blt pc 27) (cond (Nat.beq pc 26) (some (.iload_n 2, 1, 2, 0, 0)) none) (cond (Nat.beq pc 27) (some (.if_icmp .ne 7, 3, 34, 0, 0)) none)) (cond (Nat.blt pc 31) (cond (Nat.beq pc 30) (some (.iconst 1, 1, 0, 0, 1)) none) (cond (Nat.beq pc 31) (some (.goto 4, 3, 35, 0, 0)) none)))) (cond (Nat.blt pc 37) (cond (Nat.blt pc 35) (cond (Nat.beq pc 34) (some (.iconst 0, 1, 0, 0, 0)) none) (cond (Nat.blt pc 36) (cond (Nat.beq pc 35) (some (.ireturn, 1, 0, 0, 0)) none) (cond (Nat.beq pc 36) (some (.aload_n 0, 1, 0, 0, 0)) none))) (cond (Nat.blt pc 41) (cond (Nat.blt pc 40) (cond (Nat.beq pc 37) (some (.getfield 21, 3, 4, 0, 0)) none) (cond (Nat.beq pc 40) (some (.iload_n 1, 1, 1, 0, 0)) none)) (cond (Nat.blt pc 42) (cond (Nat.beq pc 41) (some (.iload_n 2, 1, 2, 0, 0)) none) (cond (Nat.beq pc 42) (some (.invokevirtual 55, 3, 39, 1, 0)) none)))))) (cond (Nat.blt pc 64) (cond (Nat.blt pc 55) (cond (Nat.blt pc 50) (cond (Nat.blt pc 48) (cond (Nat.beq pc 45) (some (.ifCond .ne 5, 3, 50, 0, 0)) none) (cond (Nat.blt pc 49) (cond (Nat.beq pc 48) (some (.iconst 0, 1, 0, 0, 0)) none) (cond (Nat.beq pc 49) (some (.ireturn, 1, 0, 0, 0)) none))) (cond (Nat.blt pc 51) (cond (Nat.beq pc 50) (some (.aload_n 0, 1, 0, 0, 0)) none) (cond (Nat.blt pc 54) (cond (Nat.beq pc 51) (some (.getfield 15, 3, 4, 2, 0)) none) (cond (Nat.beq pc 54) (some (.iload_n 1, 1, 1, 0, 0)) none)))) (cond (Nat.blt pc 58) (cond (Nat.blt pc 56) (cond (Nat.beq pc 55) (some (.iload_n 2, 1, 2, 0, 0)) none) (cond (Nat.blt pc 57) (cond (Nat.beq pc 56) (some (.iastore, 1, 0, 0, 0)) none) (cond (Nat.beq pc 57) (some (.aload_n 0, 1, 0, 0, 0)) none))) (cond (Nat.blt pc 62) (cond (Nat.blt pc 61) (cond (Nat.beq pc 58) (some (.getfield 18, 3, 4, 3, 0)) none) (cond (Nat.beq pc 61) (some (.iload_n 2, 1, 2, 0, 0)) none)) (cond (Nat.blt pc 63) (cond (Nat.beq pc 62) (some (.iload_n 1, 1, 1, 0, 0)) none) (cond (Nat.beq pc 63) (some (.iastore, 1, 0, 0, 0)) none))))) (cond (Nat.blt pc 75) (cond (Nat.blt pc 69) (cond (Nat.blt pc 65) (cond (Nat.beq pc 64) (some (.aload_n 0, 1, 0, 0, 0)) none) (cond (Nat.blt pc 68) (cond (Nat.beq pc 65) (some (.getfield 9, 3, 4, 1, 0)) none) (cond (Nat.beq pc 68) (some (.aload_n 0, 1, 0, 0, 0)) none))) (cond (Nat.blt pc 73) (cond (Nat.blt pc 72) (cond (Nat.beq pc 69) (some (.getfield 37, 3, 4, 4, 0)) none) (cond (Nat.beq pc 72) (some (.iload_n 1, 1, 1, 0, 0)) none)) (cond (Nat.blt pc 74) (cond (Nat.beq pc 73) (some (.iastore, 1, 0, 0, 0)) none) (cond (Nat.beq pc 74) (some (.aload_n 0, 1, 0, 0, 0)) none)))) (cond (Nat.blt pc 80) (cond (Nat.blt pc 76) (cond (Nat.beq pc 75) (some (.dup, 1, 0, 0, 0)) none) (cond (Nat.blt pc 79) (cond (Nat.beq pc 76) (some (.getfield 37, 3, 4, 4, 0)) none) (cond (Nat.beq pc 79) (some (.iconst 1, 1, 0, 0, 1)) none))) (cond (Nat.blt pc 84) (cond (Nat.blt pc 81) (cond (Nat.beq pc 80) (some (.iadd, 1, 0, 0, 0)) none) (cond (Nat.beq pc 81) (some (.putfield 37, 3, 4, 4, 0)) none)) (cond (Nat.blt pc 85) (cond (Nat.beq pc 84) (some (.iconst 1, 1, 0, 0, 1)) none) (cond (Nat.beq pc 85) (some (.ireturn, 1, 0, 0, 0)) none))))))
def tb_47 (pc : Nat) : Option mm_E := cond (Nat.blt pc 86) (tt_47 pc) none
def tt_48 (pc : Nat) : Option mm_E := cond (Nat.blt pc 5) (cond (Nat.blt pc 1) (cond (Nat.beq pc 0) (some (.aload_n 0, 1, 0, 0, 0)) none) (cond (Nat.blt pc 4) (cond (Nat.beq pc 1) (some (.invokespecial 3, 3, 0, 0, 0)) none) (cond (Nat.beq pc 4) (some (.aload_n 0, 1, 0, 0, 0)) none))) (cond (Nat.blt pc 10) (cond (Nat.blt pc 8) (cond (Nat.beq pc 5) (some (.sipush 300, 3, 0, 0, 300)) none) (cond (Nat.beq pc 8) (some (.newarray .char, 2, 0, 0, 0)) none)) (cond (Nat.blt pc 13) (cond (Nat.beq pc 10) (some (.putfield 9, 3, 5, 0, 3)) none) (cond (Nat.beq pc 13) (some (.return_, 1, 0, 0, 0)) none)))
def tb_48 (pc : Nat) : Option mm_E := cond (Nat.blt pc 14) (tt_48 pc) none
def tt_49 (pc : Nat) : Option mm_E := cond (Nat.blt pc 25) (cond (Nat.blt pc 12) (cond (Nat.blt pc 6) (cond (Nat.blt pc 1) (cond (Nat.beq pc 0) (some (.iload_n 1, 1, 1, 0, 0)) none) (cond (Nat.blt pc 3) (cond (Nat.beq pc 1) (some (.bipush 32, 2, 0, 0, 32)) none) (cond (Nat.beq pc 3) (some (.if_icmp .lt 19, 3, 22, 0, 0)) none))) (cond (Nat.blt pc 7) (cond (Nat.beq pc 6) (some (.iload_n 1, 1, 1, 0, 0)) none) (cond (Nat.blt pc 9) (cond (Nat.beq pc 7) (some (.bipush 126, 2, 0, 0, 126)) none) (cond (Nat.beq pc 9) (some (.if_icmp .gt 13, 3, 22, 0, 0)) none)))) (cond (Nat.blt pc 19) (cond (Nat.blt pc 13) (cond (Nat.beq pc 12) (some (.aload_n 0, 1, 0, 0, 0)) none) (cond (Nat.blt pc 16) (cond (Nat.beq pc 13) (some (.getfield 15, 3, 5, 1, 0)) none) (cond (Nat.beq pc 16) (some (.sipush 300, 3, 0, 0, 300)) none))) (cond (Nat.blt pc 23) (cond (Nat.blt pc 22) (cond (Nat.beq pc 19) (some (.if_icmp .lt 5, 3, 24, 0, 0)) none) (cond (Nat.beq pc 22) (some (.iconst 0, 1, 0, 0, 0)) none)) (cond (Nat.blt pc 24) (cond (Nat.beq pc 23) (some (.ireturn, 1, 0, 0, 0)) none) (cond (Nat.beq pc 24) (some (.aload_n 0, 1, 0, 0, 0)) none))))) (cond (Nat.blt pc 35) (cond (Nat.blt pc 32) (cond (Nat.blt pc 28) (cond (Nat.beq pc 25) (some (.getfield 9, 3, 5, 0, 0)) none) (cond (Nat.blt pc 29) (cond (Nat.beq pc 28) (some (.aload_n 0, 1, 0, 0, 0)) none) (cond (Nat.beq pc 29) (some (.getfield 15, 3, 5, 1, 0)) none))) (cond (Nat.blt pc 33) (cond (Nat.beq pc 32) (some (.iload_n 1, 1, 1, 0, 0)) none) (cond (Nat.blt pc 34) (cond (Nat.beq pc 33) (some (.castore, 1, 0, 0, 0)) none) (cond (Nat.beq pc 34) (some (.aload_n 0, 1, 0, 0, 0)) none)))) (cond (Nat.blt pc 40) (cond (Nat.blt pc 36) (cond (Nat.beq pc 35) (some (.dup, 1, 0, 0, 0)) none) (cond (Nat.blt pc 39) (cond (Nat.beq pc 36) (some (.getfield 15, 3, 5, 1, 0)) none) (cond (Nat.beq pc 39) (some (.iconst 1, 1, 0, 0, 1)) none))) (cond (Nat.blt pc 44) (cond (Nat.blt pc 41) (cond (Nat.beq pc 40) (some (.iadd, 1, 0, 0, 0)) none) (cond (Nat.beq pc 41) (some (.putfield 15, 3, 5, 1, 0)) none)) (cond (Nat.blt pc 45) (cond (Nat.beq pc 44) (some (.iconst 1, 1, 0, 0, 1)) none) (cond (Nat.beq pc 45) (some (.ireturn, 1, 0, 0, 0)) none)))))
def tb_49 (pc : Nat) : Option mm_E := cond (Nat.blt pc 46) (tt_49 pc) none
def tt_50 (pc : Nat) : Option mm_E := cond (Nat.blt pc 14) (cond (Nat.blt pc 6) (cond (Nat.blt pc 2) (cond (Nat.blt pc 1) (cond (Nat.beq pc 0) (some (.iload_n 1, 1, 1, 0, 0)) none) (cond (Nat.beq pc 1) (some (.iconst 1, 1, 0, 0, 1)) none)) (cond (Nat.blt pc 5) (cond (Nat.beq pc 2) (some (.if_icmp .lt 22, 3, 24, 0, 0)) none) (cond (Nat.beq pc 5) (some (.iload_n 1, 1, 1, 0, 0)) none))) (cond (Nat.blt pc 10) (cond (Nat.blt pc 7) (cond (Nat.beq pc 6) (some (.aload_n 0, 1, 0, 0, 0)) none) (cond (Nat.beq pc 7) (some (.getfield 15, 3, 5, 1, 0)) none)) (cond (Nat.blt pc 13) (cond (Nat.beq pc 10) (some (.if_icmp .gt 14, 3, 24, 0, 0)) none) (cond (Nat.beq pc 13) (some (.aload_n 0, 1, 0, 0, 0)) none)))) (cond (Nat.blt pc 20) (cond (Nat.blt pc 18) (cond (Nat.blt pc 17) (cond (Nat.beq pc 14) (some (.getfield 9, 3, 5, 0, 0)) none) (cond (Nat.beq pc 17) (some (.iload_n 1, 1, 1, 0, 0)) none)) (cond (Nat.blt pc 19) (cond (Nat.beq pc 18) (some (.iconst 1, 1, 0, 0, 1)) none) (cond (Nat.beq pc 19) (some (.isub, 1, 0, 0, 0)) none))) (cond (Nat.blt pc 24) (cond (Nat.blt pc 21) (cond (Nat.beq pc 20) (some (.caload, 1, 0, 0, 0)) none) (cond (Nat.beq pc 21) (some (.goto 4, 3, 25, 0, 0)) none)) (cond (Nat.blt pc 25) (cond (Nat.beq pc 24) (some (.iconst (-1), 1, 0, 0, (-1))) none) (cond (Nat.beq pc 25) (some (.ireturn, 1, 0, 0, 0)) none))))
def tb_50 (pc : Nat) : Option mm_E := cond (Nat.blt pc 26) (tt_50 pc) none
def tt_51 (pc : Nat) : Option mm_E := cond (Nat.blt pc 11) (cond (Nat.blt pc 5) (cond (Nat.blt pc 1) (cond (Nat.beq pc 0) (some (.aload_n 1, 1, 1, 0, 0)) none) (cond (Nat.blt pc 4) (cond (Nat.beq pc 1) (some (.getfield 9, 3, 5, 0, 0)) none) (cond (Nat.beq pc 4) (some (.iconst 0, 1, 0, 0, 0)) none))) (cond (Nat.blt pc 9) (cond (Nat.blt pc 6) (cond (Nat.beq pc 5) (some (.aload_n 0, 1, 0, 0, 0)) none) (cond (Nat.beq pc 6) (some (.getfield 9, 3, 5, 0, 0)) none)) (cond (Nat.blt pc 10) (cond (Nat.beq pc 9) (some (.iconst 0, 1, 0, 0, 0)) none) (cond (Nat.beq pc 10) (some (.aload_n 1, 1, 1, 0, 0)) none)))) (cond (Nat.blt pc 18) (cond (Nat.blt pc 14) (cond (Nat.beq pc 11) (some (.getfield 15, 3, 5, 1, 0)) none) (cond (Nat.blt pc 17) (cond (Nat.beq pc 14) (some (.invokestatic 19, 3, 0, 0, 0)) none) (cond (Nat.beq pc 17) (some (.aload_n 0, 1, 0, 0, 0)) none))) (cond (Nat.blt pc 22) (cond (Nat.blt pc 19) (cond (Nat.beq pc 18) (some (.aload_n 1, 1, 1, 0, 0)) none) (cond (Nat.beq pc 19) (some (.getfield 15, 3, 5, 1, 0)) none)) (cond (Nat.blt pc 25) (cond (Nat.beq pc 22) (some (.putfield 15, 3, 5, 1, 0)) none) (cond (Nat.beq pc 25) (some (.return_, 1, 0, 0, 0)) none))))
def tb_51 (pc : Nat) : Option mm_E := cond (Nat.blt pc 26) (tt_51 pc) none
def tt_52 (pc : Nat) : Option mm_E := cond (Nat.blt pc 28) (cond (Nat.blt pc 15) (cond (Nat.blt pc 5) (cond (Nat.blt pc 1) (cond (Nat.beq pc 0) (some (.aload_n 0, 1, 0, 0, 0)) none) (cond (Nat.blt pc 4) (cond (Nat.beq pc 1) (some (.invokespecial 3, 3, 0, 0, 0)) none) (cond (Nat.beq pc 4) (some (.aload_n 0, 1, 0, 0, 0)) none))) (cond (Nat.blt pc 9) (cond (Nat.blt pc 8) (cond (Nat.beq pc 5) (some (.new 9, 3, 5, 2, 0)) none) (cond (Nat.beq pc 8) (some (.dup, 1, 0, 0, 0)) none)) (cond (Nat.blt pc 12) (cond (Nat.beq pc 9) (some (.invokespecial 11, 3, 48, 1, 0)) none) (cond (Nat.beq pc 12) (some (.putfield 12, 3, 6, 3, 3)) none)))) (cond (Nat.blt pc 20) (cond (Nat.blt pc 16) (cond (Nat.beq pc 15) (some (.aload_n 0, 1, 0, 0, 0)) none) (cond (Nat.blt pc 18) (cond (Nat.beq pc 16) (some (.bipush 24, 2, 0, 0, 24)) none) (cond (Nat.beq pc 18) (some (.newarray .int, 2, 0, 0, 0)) none))) (cond (Nat.blt pc 24) (cond (Nat.blt pc 23) (cond (Nat.beq pc 20) (some (.putfield 18, 3, 6, 4, 3)) none) (cond (Nat.beq pc 23) (some (.aload_n 0, 1, 0, 0, 0)) none)) (cond (Nat.blt pc 26) (cond (Nat.beq pc 24) (some (.bipush 24, 2, 0, 0, 24)) none) (cond (Nat.beq pc 26) (some (.newarray .int, 2, 0, 0, 0)) none))))) (cond (Nat.blt pc 41) (cond (Nat.blt pc 34) (cond (Nat.blt pc 31) (cond (Nat.beq pc 28) (some (.putfield 22, 3, 6, 5, 3)) none) (cond (Nat.blt pc 32) (cond (Nat.beq pc 31) (some (.aload_n 0, 1, 0, 0, 0)) none) (cond (Nat.beq pc 32) (some (.bipush 24, 2, 0, 0, 24)) none))) (cond (Nat.blt pc 39) (cond (Nat.blt pc 36) (cond (Nat.beq pc 34) (some (.newarray .boolean, 2, 0, 0, 0)) none) (cond (Nat.beq pc 36) (some (.putfield 25, 3, 6, 6, 3)) none)) (cond (Nat.blt pc 40) (cond (Nat.beq pc 39) (some (.aload_n 0, 1, 0, 0, 0)) none) (cond (Nat.beq pc 40) (some (.aload_n 1, 1, 1, 0, 0)) none)))) (cond (Nat.blt pc 49) (cond (Nat.blt pc 45) (cond (Nat.blt pc 44) (cond (Nat.beq pc 41) (some (.putfield 29, 3, 6, 0, 3)) none) (cond (Nat.beq pc 44) (some (.aload_n 0, 1, 0, 0, 0)) none)) (cond (Nat.blt pc 46) (cond (Nat.beq pc 45) (some (.aload_n 2, 1, 2, 0, 0)) none) (cond (Nat.beq pc 46) (some (.putfield 33, 3, 6, 1, 3)) none))) (cond (Nat.blt pc 51) (cond (Nat.blt pc 50) (cond (Nat.beq pc 49) (some (.aload_n 0, 1, 0, 0, 0)) none) (cond (Nat.beq pc 50) (some (.aload_n 3, 1, 3, 0, 0)) none)) (cond (Nat.blt pc 54) (cond (Nat.beq pc 51) (some (.putfield 37, 3, 6, 2, 3)) none) (cond (Nat.beq pc 54) (some (.return_, 1, 0, 0, 0)) none)))))
def tb_52 (pc : Nat) : Option mm_E := cond (Nat.blt pc 55) (tt_52 pc) none
def tt_53 (pc : Nat) : Option mm_E := cond (Nat.blt pc 29) (cond (Nat.blt pc 14) (cond (Nat.blt pc 8) (cond (Nat.blt pc 4) (cond (Nat.blt pc 1) (cond (Nat.beq pc 0) (some (.aload_n 0, 1, 0, 0, 0)) none) (cond (Nat.beq pc 1) (some (.getfield 12, 3, 6, 3, 0)) none)) (cond (Nat.blt pc 5) (cond (Nat.beq pc 4) (some (.iconst 0, 1, 0, 0, 0)) none) (cond (Nat.beq pc 5) (some (.putfield 41, 3, 5, 1, 0)) none))) (cond (Nat.blt pc 10) (cond (Nat.blt pc 9) (cond (Nat.beq pc 8) (some (.aload_n 0, 1, 0, 0, 0)) none) (cond (Nat.beq pc 9) (some (.iload_n 1, 1, 1, 0, 0)) none)) (cond (Nat.blt pc 13) (cond (Nat.beq pc 10) (some (.putfield 45, 3, 6, 7, 0)) none) (cond (Nat.beq pc 13) (some (.aload_n 0, 1, 0, 0, 0)) none)))) (cond (Nat.blt pc 20) (cond (Nat.blt pc 18) (cond (Nat.blt pc 15) (cond (Nat.beq pc 14) (some (.iconst 0, 1, 0, 0, 0)) none) (cond (Nat.beq pc 15) (some (.putfield 48, 3, 6, 8, 0)) none)) (cond (Nat.blt pc 19) (cond (Nat.beq pc 18) (some (.aload_n 0, 1, 0, 0, 0)) none) (cond (Nat.beq pc 19) (some (.iconst 0, 1, 0, 0, 0)) none))) (cond (Nat.blt pc 24) (cond (Nat.blt pc 23) (cond (Nat.beq pc 20) (some (.putfield 51, 3, 6, 9, 1)) none) (cond (Nat.beq pc 23) (some (.aload_n 0, 1, 0, 0, 0)) none)) (cond (Nat.blt pc 25) (cond (Nat.beq pc 24) (some (.iconst 0, 1, 0, 0, 0)) none) (cond (Nat.blt pc 28) (cond (Nat.beq pc 25) (some (.putfield 55, 3, 6, 10, 1)) none) (cond (Nat.beq pc 28) (some (.iconst 0, 1, 0, 0, 0)) none)))))) (cond (Nat.blt pc 43) (cond (Nat.blt pc 36) (cond (Nat.blt pc 31) (cond (Nat.blt pc 30) (cond (Nat.beq pc 29) (some (.istore_n 2, 1, 2, 0, 0)) none) (cond (Nat.beq pc 30) (some (.iload_n 2, 1, 2, 0, 0)) none)) (cond (Nat.blt pc 33) (cond (Nat.beq pc 31) (some (.bipush 24, 2, 0, 0, 24)) none) (cond (Nat.beq pc 33) (some (.if_icmp .ge 16, 3, 49, 0, 0)) none))) (cond (Nat.blt pc 40) (cond (Nat.blt pc 37) (cond (Nat.beq pc 36) (some (.aload_n 0, 1, 0, 0, 0)) none) (cond (Nat.beq pc 37) (some (.getfield 25, 3, 6, 6, 0)) none)) (cond (Nat.blt pc 41) (cond (Nat.beq pc 40) (some (.iload_n 2, 1, 2, 0, 0)) none) (cond (Nat.blt pc 42) (cond (Nat.beq pc 41) (some (.iconst 0, 1, 0, 0, 0)) none) (cond (Nat.beq pc 42) (some (.bastore, 1, 0, 0, 0)) none))))) (cond (Nat.blt pc 53) (cond (Nat.blt pc 49) (cond (Nat.blt pc 46) (cond (Nat.beq pc 43) (some (.iinc 2 1, 3, 2, 0, 1)) none) (cond (Nat.beq pc 46) (some (.goto (-16), 3, 30, 0, 0)) none)) (cond (Nat.blt pc 50) (cond (Nat.beq pc 49) (some (.aload_n 0, 1, 0, 0, 0)) none) (cond (Nat.beq pc 50) (some (.invokevirtual 58, 3, 54, 1, 0)) none))) (cond (Nat.blt pc 55) (cond (Nat.blt pc 54) (cond (Nat.beq pc 53) (some (.aload_n 0, 1, 0, 0, 0)) none) (cond (Nat.beq pc 54) (some (.iload_n 1, 1, 1, 0, 0)) none)) (cond (Nat.blt pc 56) (cond (Nat.beq pc 55) (some (.iconst 1, 1, 0, 0, 1)) none) (cond (Nat.blt pc 59) (cond (Nat.beq pc 56) (some (.invokevirtual 61, 3, 56, 1, 0)) none) (cond (Nat.beq pc 59) (some (.return_, 1, 0, 0, 0)) none))))))
def tb_53 (pc : Nat) : Option mm_E := cond (Nat.blt pc 60) (tt_53 pc) none
def tt_54 (pc : Nat) : Option mm_E := cond (Nat.blt pc 44) (cond (Nat.blt pc 22) (cond (Nat.blt pc 12) (cond (Nat.blt pc 5) (cond (Nat.blt pc 1) (cond (Nat.beq pc 0) (some (.aload_n 0, 1, 0, 0, 0)) none) (cond (Nat.blt pc 4) (cond (Nat.beq pc 1) (some (.getfield 18, 3, 6, 4, 0)) none) (cond (Nat.beq pc 4) (some (.iconst 0, 1, 0, 0, 0)) none))) (cond (Nat.blt pc 8) (cond (Nat.beq pc 5) (some (.invokestatic 65, 3, 0, 1, 0)) none) (cond (Nat.blt pc 9) (cond (Nat.beq pc 8) (some (.aload_n 0, 1, 0, 0, 0)) none) (cond (Nat.beq pc 9) (some (.getfield 37, 3, 6, 2, 0)) none)))) (cond (Nat.blt pc 19) (cond (Nat.blt pc 13) (cond (Nat.beq pc 12) (some (.aload_n 0, 1, 0, 0, 0)) none) (cond (Nat.blt pc 16) (cond (Nat.beq pc 13) (some (.getfield 45, 3, 6, 7, 0)) none) (cond (Nat.beq pc 16) (some (.invokevirtual 71, 3, 41, 1, 0)) none))) (cond (Nat.blt pc 20) (cond (Nat.beq pc 19) (some (.iconst 0, 1, 0, 0, 0)) none) (cond (Nat.blt pc 21) (cond (Nat.beq pc 20) (some (.istore_n 1, 1, 1, 0, 0)) none) (cond (Nat.beq pc 21) (some (.iload_n 1, 1, 1, 0, 0)) none))))) (cond (Nat.blt pc 34) (cond (Nat.blt pc 29) (cond (Nat.blt pc 23) (cond (Nat.beq pc 22) (some (.aload_n 0, 1, 0, 0, 0)) none) (cond (Nat.blt pc 26) (cond (Nat.beq pc 23) (some (.getfield 37, 3, 6, 2, 0)) none) (cond (Nat.beq pc 26) (some (.getfield 77, 3, 3, 3, 0)) none))) (cond (Nat.blt pc 32) (cond (Nat.beq pc 29) (some (.if_icmp .ge 61, 3, 90, 0, 0)) none) (cond (Nat.blt pc 33) (cond (Nat.beq pc 32) (some (.iconst 0, 1, 0, 0, 0)) none) (cond (Nat.beq pc 33) (some (.istore_n 2, 1, 2, 0, 0)) none)))) (cond (Nat.blt pc 39) (cond (Nat.blt pc 35) (cond (Nat.beq pc 34) (some (.iload_n 2, 1, 2, 0, 0)) none) (cond (Nat.blt pc 36) (cond (Nat.beq pc 35) (some (.iconst 2, 1, 0, 0, 2)) none) (cond (Nat.beq pc 36) (some (.if_icmp .ge 48, 3, 84, 0, 0)) none))) (cond (Nat.blt pc 40) (cond (Nat.beq pc 39) (some (.aload_n 0, 1, 0, 0, 0)) none) (cond (Nat.blt pc 43) (cond (Nat.beq pc 40) (some (.getfield 33, 3, 6, 1, 0)) none) (cond (Nat.beq pc 43) (some (.aload_n 0, 1, 0, 0, 0)) none)))))) (cond (Nat.blt pc 68) (cond (Nat.blt pc 56) (cond (Nat.blt pc 51) (cond (Nat.blt pc 47) (cond (Nat.beq pc 44) (some (.getfield 37, 3, 6, 2, 0)) none) (cond (Nat.blt pc 50) (cond (Nat.beq pc 47) (some (.getfield 80, 3, 3, 1, 0)) none) (cond (Nat.beq pc 50) (some (.iload_n 1, 1, 1, 0, 0)) none))) (cond (Nat.blt pc 52) (cond (Nat.beq pc 51) (some (.iaload, 1, 0, 0, 0)) none) (cond (Nat.blt pc 53) (cond (Nat.beq pc 52) (some (.iload_n 2, 1, 2, 0, 0)) none) (cond (Nat.beq pc 53) (some (.invokevirtual 83, 3, 38, 1, 0)) none)))) (cond (Nat.blt pc 61) (cond (Nat.blt pc 57) (cond (Nat.beq pc 56) (some (.istore_n 3, 1, 3, 0, 0)) none) (cond (Nat.blt pc 58) (cond (Nat.beq pc 57) (some (.aload_n 0, 1, 0, 0, 0)) none) (cond (Nat.beq pc 58) (some (.getfield 33, 3, 6, 1, 0)) none))) (cond (Nat.blt pc 62) (cond (Nat.beq pc 61) (some (.iload_n 3, 1, 3, 0, 0)) none) (cond (Nat.blt pc 65) (cond (Nat.beq pc 62) (some (.invokevirtual 89, 3, 31, 1, 0)) none) (cond (Nat.beq pc 65) (some (.ifCond .eq 13, 3, 78, 0, 0)) none))))) (cond (Nat.blt pc 76) (cond (Nat.blt pc 73) (cond (Nat.blt pc 69) (cond (Nat.beq pc 68) (some (.aload_n 0, 1, 0, 0, 0)) none) (cond (Nat.blt pc 72) (cond (Nat.beq pc 69) (some (.getfield 18, 3, 6, 4, 0)) none) (cond (Nat.beq pc 72) (some (.iload_n 3, 1, 3, 0, 0)) none))) (cond (Nat.blt pc 74) (cond (Nat.beq pc 73) (some (.dup2, 1, 0, 0, 0)) none) (cond (Nat.blt pc 75) (cond (Nat.beq pc 74) (some (.iaload, 1, 0, 0, 0)) none) (cond (Nat.beq pc 75) (some (.iconst 1, 1, 0, 0, 1)) none)))) (cond (Nat.blt pc 81) (cond (Nat.blt pc 77) (cond (Nat.beq pc 76) (some (.iadd, 1, 0, 0, 0)) none) (cond (Nat.blt pc 78) (cond (Nat.beq pc 77) (some (.iastore, 1, 0, 0, 0)) none) (cond (Nat.beq pc 78) (some (.iinc 2 1, 3, 2, 0, 1)) none))) (cond (Nat.blt pc 87) (cond (Nat.blt pc 84) (cond (Nat.beq pc 81) (some (.goto (-47), 3, 34, 0, 0)) none) (cond (Nat.beq pc 84) (some (.iinc 1 1, 3, 1, 0, 1)) none)) (cond (Nat.blt pc 90) (cond (Nat.beq pc 87) (some (.goto (-66), 3, 21, 0, 0)) none) (cond (Nat.beq pc 90) (some (.return_, 1, 0, 0, 0)) none))))))
def tb_54 (pc : Nat) : Option mm_E := cond (Nat.blt pc 91) (tt_54 pc) none
def tt_55 (pc : Nat) : Option mm_E := cond (Nat.blt pc 14) (cond (Nat.blt pc 6) (cond (Nat.blt pc 4) (cond (Nat.blt pc 1) (cond (Nat.beq pc 0) (some (.aload_n 0, 1, 0, 0, 0)) none) (cond (Nat.beq pc 1) (some (.getfield 18, 3, 6, 4, 0)) none)) (cond (Nat.blt pc 5) (cond (Nat.beq pc 4) (some (.iload_n 1, 1, 1, 0, 0)) none) (cond (Nat.beq pc 5) (some (.iaload, 1, 0, 0, 0)) none))) (cond (Nat.blt pc 8) (cond (Nat.blt pc 7) (cond (Nat.beq pc 6) (some (.iload_n 1, 1, 1, 0, 0)) none) (cond (Nat.beq pc 7) (some (.aload_n 0, 1, 0, 0, 0)) none)) (cond (Nat.blt pc 11) (cond (Nat.beq pc 8) (some (.getfield 45, 3, 6, 7, 0)) none) (cond (Nat.beq pc 11) (some (.if_icmp .ne 7, 3, 18, 0, 0)) none)))) (cond (Nat.blt pc 22) (cond (Nat.blt pc 18) (cond (Nat.blt pc 15) (cond (Nat.beq pc 14) (some (.iconst 1, 1, 0, 0, 1)) none) (cond (Nat.beq pc 15) (some (.goto 4, 3, 19, 0, 0)) none)) (cond (Nat.blt pc 19) (cond (Nat.beq pc 18) (some (.iconst 2, 1, 0, 0, 2)) none) (cond (Nat.beq pc 19) (some (.if_icmp .lt 7, 3, 26, 0, 0)) none))) (cond (Nat.blt pc 26) (cond (Nat.blt pc 23) (cond (Nat.beq pc 22) (some (.iconst 1, 1, 0, 0, 1)) none) (cond (Nat.beq pc 23) (some (.goto 4, 3, 27, 0, 0)) none)) (cond (Nat.blt pc 27) (cond (Nat.beq pc 26) (some (.iconst 0, 1, 0, 0, 0)) none) (cond (Nat.beq pc 27) (some (.ireturn, 1, 0, 0, 0)) none))))
def tb_55 (pc : Nat) : Option mm_E := cond (Nat.blt pc 28) (tt_55 pc) none
def tt_56 (pc : Nat) : Option mm_E := cond (Nat.blt pc 66) (cond (Nat.blt pc 32) (cond (Nat.blt pc 16) (cond (Nat.blt pc 7) (cond (Nat.blt pc 3) (cond (Nat.blt pc 1) (cond (Nat.beq pc 0) (some (.iload_n 2, 1, 2, 0, 0)) none) (cond (Nat.beq pc 1) (some (.bipush 10, 2, 0, 0, 10)) none)) (cond (Nat.blt pc 6) (cond (Nat.beq pc 3) (some (.if_icmp .le 9, 3, 12, 0, 0)) none) (cond (Nat.beq pc 6) (some (.aload_n 0, 1, 0, 0, 0)) none))) (cond (Nat.blt pc 11) (cond (Nat.blt pc 8) (cond (Nat.beq pc 7) (some (.iconst 1, 1, 0, 0, 1)) none) (cond (Nat.beq pc 8) (some (.putfield 51, 3, 6, 9, 1)) none)) (cond (Nat.blt pc 12) (cond (Nat.beq pc 11) (some (.return_, 1, 0, 0, 0)) none) (cond (Nat.blt pc 13) (cond (Nat.beq pc 12) (some (.aload_n 0, 1, 0, 0, 0)) none) (cond (Nat.beq pc 13) (some (.getfield 25, 3, 6, 6, 0)) none))))) (cond (Nat.blt pc 22) (cond (Nat.blt pc 18) (cond (Nat.blt pc 17) (cond (Nat.beq pc 16) (some (.iload_n 1, 1, 1, 0, 0)) none) (cond (Nat.beq pc 17) (some (.iconst 1, 1, 0, 0, 1)) none)) (cond (Nat.blt pc 19) (cond (Nat.beq pc 18) (some (.bastore, 1, 0, 0, 0)) none) (cond (Nat.blt pc 20) (cond (Nat.beq pc 19) (some (.aload_n 0, 1, 0, 0, 0)) none) (cond (Nat.beq pc 20) (some (.bipush 40, 2, 0, 0, 40)) none)))) (cond (Nat.blt pc 26) (cond (Nat.blt pc 25) (cond (Nat.beq pc 22) (some (.invokevirtual 93, 3, 60, 1, 0)) none) (cond (Nat.beq pc 25) (some (.aload_n 0, 1, 0, 0, 0)) none)) (cond (Nat.blt pc 28) (cond (Nat.beq pc 26) (some (.bipush 97, 2, 0, 0, 97)) none) (cond (Nat.blt pc 29) (cond (Nat.beq pc 28) (some (.aload_n 0, 1, 0, 0, 0)) none) (cond (Nat.beq pc 29) (some (.getfield 33, 3, 6, 1, 0)) none)))))) (cond (Nat.blt pc 50) (cond (Nat.blt pc 41) (cond (Nat.blt pc 36) (cond (Nat.blt pc 33) (cond (Nat.beq pc 32) (some (.iload_n 1, 1, 1, 0, 0)) none) (cond (Nat.beq pc 33) (some (.invokevirtual 97, 3, 34, 1, 0)) none)) (cond (Nat.blt pc 37) (cond (Nat.beq pc 36) (some (.iadd, 1, 0, 0, 0)) none) (cond (Nat.blt pc 38) (cond (Nat.beq pc 37) (some (.i2c, 1, 0, 0, 0)) none) (cond (Nat.beq pc 38) (some (.invokevirtual 93, 3, 60, 1, 0)) none)))) (cond (Nat.blt pc 43) (cond (Nat.blt pc 42) (cond (Nat.beq pc 41) (some (.aload_n 0, 1, 0, 0, 0)) none) (cond (Nat.beq pc 42) (some (.iload_n 1, 1, 1, 0, 0)) none)) (cond (Nat.blt pc 46) (cond (Nat.beq pc 43) (some (.invokevirtual 101, 3, 55, 1, 0)) none) (cond (Nat.blt pc 49) (cond (Nat.beq pc 46) (some (.ifCond .eq 39, 3, 85, 0, 0)) none) (cond (Nat.beq pc 49) (some (.aload_n 0, 1, 0, 0, 0)) none))))) (cond (Nat.blt pc 59) (cond (Nat.blt pc 54) (cond (Nat.blt pc 53) (cond (Nat.beq pc 50) (some (.getfield 22, 3, 6, 5, 0)) none) (cond (Nat.beq pc 53) (some (.iload_n 1, 1, 1, 0, 0)) none)) (cond (Nat.blt pc 55) (cond (Nat.beq pc 54) (some (.aload_n 0, 1, 0, 0, 0)) none) (cond (Nat.blt pc 58) (cond (Nat.beq pc 55) (some (.getfield 48, 3, 6, 8, 0)) none) (cond (Nat.beq pc 58) (some (.iastore, 1, 0, 0, 0)) none)))) (cond (Nat.blt pc 61) (cond (Nat.blt pc 60) (cond (Nat.beq pc 59) (some (.aload_n 0, 1, 0, 0, 0)) none) (cond (Nat.beq pc 60) (some (.dup, 1, 0, 0, 0)) none)) (cond (Nat.blt pc 64) (cond (Nat.beq pc 61) (some (.getfield 48, 3, 6, 8, 0)) none) (cond (Nat.blt pc 65) (cond (Nat.beq pc 64) (some (.iconst 1, 1, 0, 0, 1)) none) (cond (Nat.beq pc 65) (some (.iadd, 1, 0, 0, 0)) none))))))) (cond (Nat.blt pc 101) (cond (Nat.blt pc 85) (cond (Nat.blt pc 76) (cond (Nat.blt pc 70) (cond (Nat.blt pc 69) (cond (Nat.beq pc 66) (some (.putfield 48, 3, 6, 8, 0)) none) (cond (Nat.beq pc 69) (some (.aload_n 0, 1, 0, 0, 0)) none)) (cond (Nat.blt pc 72) (cond (Nat.beq pc 70) (some (.bipush 35, 2, 0, 0, 35)) none) (cond (Nat.blt pc 75) (cond (Nat.beq pc 72) (some (.invokevirtual 93, 3, 60, 1, 0)) none) (cond (Nat.beq pc 75) (some (.aload_n 0, 1, 0, 0, 0)) none)))) (cond (Nat.blt pc 80) (cond (Nat.blt pc 77) (cond (Nat.beq pc 76) (some (.aload_n 0, 1, 0, 0, 0)) none) (cond (Nat.beq pc 77) (some (.getfield 22, 3, 6, 5, 0)) none)) (cond (Nat.blt pc 81) (cond (Nat.beq pc 80) (some (.iload_n 1, 1, 1, 0, 0)) none) (cond (Nat.blt pc 82) (cond (Nat.beq pc 81) (some (.iaload, 1, 0, 0, 0)) none) (cond (Nat.beq pc 82) (some (.invokevirtual 104, 3, 59, 1, 0)) none))))) (cond (Nat.blt pc 92) (cond (Nat.blt pc 87) (cond (Nat.blt pc 86) (cond (Nat.beq pc 85) (some (.aload_n 0, 1, 0, 0, 0)) none) (cond (Nat.beq pc 86) (some (.iload_n 1, 1, 1, 0, 0)) none)) (cond (Nat.blt pc 90) (cond (Nat.beq pc 87) (some (.invokevirtual 107, 3, 57, 1, 0)) none) (cond (Nat.blt pc 91) (cond (Nat.beq pc 90) (some (.iconst 0, 1, 0, 0, 0)) none) (cond (Nat.beq pc 91) (some (.istore_n 3, 1, 3, 0, 0)) none)))) (cond (Nat.blt pc 94) (cond (Nat.blt pc 93) (cond (Nat.beq pc 92) (some (.iload_n 3, 1, 3, 0, 0)) none) (cond (Nat.beq pc 93) (some (.iconst 2, 1, 0, 0, 2)) none)) (cond (Nat.blt pc 97) (cond (Nat.beq pc 94) (some (.if_icmp .ge 40, 3, 134, 0, 0)) none) (cond (Nat.blt pc 98) (cond (Nat.beq pc 97) (some (.aload_n 0, 1, 0, 0, 0)) none) (cond (Nat.beq pc 98) (some (.getfield 33, 3, 6, 1, 0)) none)))))) (cond (Nat.blt pc 121) (cond (Nat.blt pc 109) (cond (Nat.blt pc 103) (cond (Nat.blt pc 102) (cond (Nat.beq pc 101) (some (.iload_n 1, 1, 1, 0, 0)) none) (cond (Nat.beq pc 102) (some (.iload_n 3, 1, 3, 0, 0)) none)) (cond (Nat.blt pc 106) (cond (Nat.beq pc 103) (some (.invokevirtual 83, 3, 38, 1, 0)) none) (cond (Nat.blt pc 108) (cond (Nat.beq pc 106) (some (.istore 4, 2, 4, 0, 0)) none) (cond (Nat.beq pc 108) (some (.aload_n 0, 1, 0, 0, 0)) none)))) (cond (Nat.blt pc 114) (cond (Nat.blt pc 112) (cond (Nat.beq pc 109) (some (.getfield 33, 3, 6, 1, 0)) none) (cond (Nat.beq pc 112) (some (.iload 4, 2, 4, 0, 0)) none)) (cond (Nat.blt pc 117) (cond (Nat.beq pc 114) (some (.invokevirtual 89, 3, 31, 1, 0)) none) (cond (Nat.blt pc 120) (cond (Nat.beq pc 117) (some (.ifCond .eq 11, 3, 128, 0, 0)) none) (cond (Nat.beq pc 120) (some (.aload_n 0, 1, 0, 0, 0)) none))))) (cond (Nat.blt pc 131) (cond (Nat.blt pc 124) (cond (Nat.blt pc 122) (cond (Nat.beq pc 121) (some (.iload_n 3, 1, 3, 0, 0)) none) (cond (Nat.beq pc 122) (some (.iload 4, 2, 4, 0, 0)) none)) (cond (Nat.blt pc 125) (cond (Nat.beq pc 124) (some (.iload_n 2, 1, 2, 0, 0)) none) (cond (Nat.blt pc 128) (cond (Nat.beq pc 125) (some (.invokevirtual 110, 3, 58, 1, 0)) none) (cond (Nat.beq pc 128) (some (.iinc 3 1, 3, 3, 0, 1)) none)))) (cond (Nat.blt pc 135) (cond (Nat.blt pc 134) (cond (Nat.beq pc 131) (some (.goto (-39), 3, 92, 0, 0)) none) (cond (Nat.beq pc 134) (some (.aload_n 0, 1, 0, 0, 0)) none)) (cond (Nat.blt pc 137) (cond (Nat.beq pc 135) (some (.bipush 41, 2, 0, 0, 41)) none) (cond (Nat.blt pc 140) (cond (Nat.beq pc 137) (some (.invokevirtual 93, 3, 60, 1, 0)) none) (cond (Nat.beq pc 140) (some (.return_, 1, 0, 0, 0)) none)))))))
def tb_56 (pc : Nat) : Option mm_E := cond (Nat.blt pc 141) (tt_56 pc) none
def tt_57 (pc : Nat) : Option mm_E := cond (Nat.blt pc 33) (cond (Nat.blt pc 13) (cond (Nat.blt pc 8) (cond (Nat.blt pc 4) (cond (Nat.blt pc 1) (cond (Nat.beq pc 0) (some (.aload_n 0, 1, 0, 0, 0)) none) (cond (Nat.beq pc 1) (some (.getfield 33, 3, 6, 1, 0)) none)) (cond (Nat.blt pc 5) (cond (Nat.beq pc 4) (some (.iload_n 1, 1, 1, 0, 0)) none) (cond (Nat.beq pc 5) (some (.invokevirtual 97, 3, 34, 1, 0)) none))) (cond (Nat.blt pc 10) (cond (Nat.blt pc 9) (cond (Nat.beq pc 8) (some (.istore_n 2, 1, 2, 0, 0)) none) (cond (Nat.beq pc 9) (some (.iconst 0, 1, 0, 0, 0)) none)) (cond (Nat.blt pc 11) (cond (Nat.beq pc 10) (some (.istore_n 3, 1, 3, 0, 0)) none) (cond (Nat.blt pc 12) (cond (Nat.beq pc 11) (some (.iload_n 3, 1, 3, 0, 0)) none) (cond (Nat.beq pc 12) (some (.iconst 3, 1, 0, 0, 3)) none))))) (cond (Nat.blt pc 22) (cond (Nat.blt pc 17) (cond (Nat.blt pc 16) (cond (Nat.beq pc 13) (some (.if_icmp .ge 55, 3, 68, 0, 0)) none) (cond (Nat.beq pc 16) (some (.aload_n 0, 1, 0, 0, 0)) none)) (cond (Nat.blt pc 20) (cond (Nat.beq pc 17) (some (.getfield 33, 3, 6, 1, 0)) none) (cond (Nat.blt pc 21) (cond (Nat.beq pc 20) (some (.iload_n 1, 1, 1, 0, 0)) none) (cond (Nat.beq pc 21) (some (.iload_n 3, 1, 3, 0, 0)) none)))) (cond (Nat.blt pc 27) (cond (Nat.blt pc 25) (cond (Nat.beq pc 22) (some (.invokevirtual 114, 3, 37, 1, 0)) none) (cond (Nat.beq pc 25) (some (.istore 4, 2, 4, 0, 0)) none)) (cond (Nat.blt pc 29) (cond (Nat.beq pc 27) (some (.iload 4, 2, 4, 0, 0)) none) (cond (Nat.blt pc 30) (cond (Nat.beq pc 29) (some (.aload_n 0, 1, 0, 0, 0)) none) (cond (Nat.beq pc 30) (some (.getfield 29, 3, 6, 0, 0)) none)))))) (cond (Nat.blt pc 47) (cond (Nat.blt pc 41) (cond (Nat.blt pc 35) (cond (Nat.blt pc 34) (cond (Nat.beq pc 33) (some (.iload_n 2, 1, 2, 0, 0)) none) (cond (Nat.beq pc 34) (some (.iload_n 3, 1, 3, 0, 0)) none)) (cond (Nat.blt pc 38) (cond (Nat.beq pc 35) (some (.invokevirtual 117, 3, 28, 1, 0)) none) (cond (Nat.beq pc 38) (some (.if_icmp .eq 24, 3, 62, 0, 0)) none))) (cond (Nat.blt pc 44) (cond (Nat.blt pc 42) (cond (Nat.beq pc 41) (some (.aload_n 0, 1, 0, 0, 0)) none) (cond (Nat.beq pc 42) (some (.bipush 120, 2, 0, 0, 120)) none)) (cond (Nat.blt pc 45) (cond (Nat.beq pc 44) (some (.iload_n 3, 1, 3, 0, 0)) none) (cond (Nat.blt pc 46) (cond (Nat.beq pc 45) (some (.iadd, 1, 0, 0, 0)) none) (cond (Nat.beq pc 46) (some (.i2c, 1, 0, 0, 0)) none))))) (cond (Nat.blt pc 57) (cond (Nat.blt pc 51) (cond (Nat.blt pc 50) (cond (Nat.beq pc 47) (some (.invokevirtual 93, 3, 60, 1, 0)) none) (cond (Nat.beq pc 50) (some (.aload_n 0, 1, 0, 0, 0)) none)) (cond (Nat.blt pc 53) (cond (Nat.beq pc 51) (some (.bipush 61, 2, 0, 0, 61)) none) (cond (Nat.blt pc 56) (cond (Nat.beq pc 53) (some (.invokevirtual 93, 3, 60, 1, 0)) none) (cond (Nat.beq pc 56) (some (.aload_n 0, 1, 0, 0, 0)) none)))) (cond (Nat.blt pc 62) (cond (Nat.blt pc 59) (cond (Nat.beq pc 57) (some (.iload 4, 2, 4, 0, 0)) none) (cond (Nat.beq pc 59) (some (.invokevirtual 104, 3, 59, 1, 0)) none)) (cond (Nat.blt pc 65) (cond (Nat.beq pc 62) (some (.iinc 3 1, 3, 3, 0, 1)) none) (cond (Nat.blt pc 68) (cond (Nat.beq pc 65) (some (.goto (-54), 3, 11, 0, 0)) none) (cond (Nat.beq pc 68) (some (.return_, 1, 0, 0, 0)) none))))))
def tb_57 (pc : Nat) : Option mm_E := cond (Nat.blt pc 69) (tt_57 pc) none
def tt_58 (pc : Nat) : Option mm_E := cond (Nat.blt pc 25) (cond (Nat.blt pc 10) (cond (Nat.blt pc 4) (cond (Nat.blt pc 1) (cond (Nat.beq pc 0) (some (.aload_n 0, 1, 0, 0, 0)) none) (cond (Nat.blt pc 3) (cond (Nat.beq pc 1) (some (.bipush 112, 2, 0, 0, 112)) none) (cond (Nat.beq pc 3) (some (.iload_n 1, 1, 1, 0, 0)) none))) (cond (Nat.blt pc 6) (cond (Nat.blt pc 5) (cond (Nat.beq pc 4) (some (.iadd, 1, 0, 0, 0)) none) (cond (Nat.beq pc 5) (some (.i2c, 1, 0, 0, 0)) none)) (cond (Nat.blt pc 9) (cond (Nat.beq pc 6) (some (.invokevirtual 93, 3, 60, 1, 0)) none) (cond (Nat.beq pc 9) (some (.aload_n 0, 1, 0, 0, 0)) none)))) (cond (Nat.blt pc 19) (cond (Nat.blt pc 15) (cond (Nat.blt pc 12) (cond (Nat.beq pc 10) (some (.bipush 61, 2, 0, 0, 61)) none) (cond (Nat.beq pc 12) (some (.invokevirtual 93, 3, 60, 1, 0)) none)) (cond (Nat.blt pc 16) (cond (Nat.beq pc 15) (some (.aload_n 0, 1, 0, 0, 0)) none) (cond (Nat.beq pc 16) (some (.getfield 25, 3, 6, 6, 0)) none))) (cond (Nat.blt pc 21) (cond (Nat.blt pc 20) (cond (Nat.beq pc 19) (some (.iload_n 2, 1, 2, 0, 0)) none) (cond (Nat.beq pc 20) (some (.baload, 1, 0, 0, 0)) none)) (cond (Nat.blt pc 24) (cond (Nat.beq pc 21) (some (.ifCond .eq 22, 3, 43, 0, 0)) none) (cond (Nat.beq pc 24) (some (.aload_n 0, 1, 0, 0, 0)) none))))) (cond (Nat.blt pc 40) (cond (Nat.blt pc 32) (cond (Nat.blt pc 30) (cond (Nat.blt pc 27) (cond (Nat.beq pc 25) (some (.bipush 64, 2, 0, 0, 64)) none) (cond (Nat.beq pc 27) (some (.invokevirtual 93, 3, 60, 1, 0)) none)) (cond (Nat.blt pc 31) (cond (Nat.beq pc 30) (some (.aload_n 0, 1, 0, 0, 0)) none) (cond (Nat.beq pc 31) (some (.aload_n 0, 1, 0, 0, 0)) none))) (cond (Nat.blt pc 36) (cond (Nat.blt pc 35) (cond (Nat.beq pc 32) (some (.getfield 22, 3, 6, 5, 0)) none) (cond (Nat.beq pc 35) (some (.iload_n 2, 1, 2, 0, 0)) none)) (cond (Nat.blt pc 37) (cond (Nat.beq pc 36) (some (.iaload, 1, 0, 0, 0)) none) (cond (Nat.beq pc 37) (some (.invokevirtual 104, 3, 59, 1, 0)) none)))) (cond (Nat.blt pc 46) (cond (Nat.blt pc 44) (cond (Nat.blt pc 43) (cond (Nat.beq pc 40) (some (.goto 11, 3, 51, 0, 0)) none) (cond (Nat.beq pc 43) (some (.aload_n 0, 1, 0, 0, 0)) none)) (cond (Nat.blt pc 45) (cond (Nat.beq pc 44) (some (.iload_n 2, 1, 2, 0, 0)) none) (cond (Nat.beq pc 45) (some (.iload_n 3, 1, 3, 0, 0)) none))) (cond (Nat.blt pc 48) (cond (Nat.blt pc 47) (cond (Nat.beq pc 46) (some (.iconst 1, 1, 0, 0, 1)) none) (cond (Nat.beq pc 47) (some (.iadd, 1, 0, 0, 0)) none)) (cond (Nat.blt pc 51) (cond (Nat.beq pc 48) (some (.invokevirtual 61, 3, 56, 1, 0)) none) (cond (Nat.beq pc 51) (some (.return_, 1, 0, 0, 0)) none)))))
def tb_58 (pc : Nat) : Option mm_E := cond (Nat.blt pc 52) (tt_58 pc) none
def tt_59 (pc : Nat) : Option mm_E := cond (Nat.blt pc 40) (cond (Nat.blt pc 21) (cond (Nat.blt pc 11) (cond (Nat.blt pc 5) (cond (Nat.blt pc 1) (cond (Nat.beq pc 0) (some (.iload_n 1, 1, 1, 0, 0)) none) (cond (Nat.blt pc 4) (cond (Nat.beq pc 1) (some (.ifCond .ge 9, 3, 10, 0, 0)) none) (cond (Nat.beq pc 4) (some (.aload_n 0, 1, 0, 0, 0)) none))) (cond (Nat.blt pc 7) (cond (Nat.beq pc 5) (some (.bipush 45, 2, 0, 0, 45)) none) (cond (Nat.blt pc 10) (cond (Nat.beq pc 7) (some (.invokevirtual 93, 3, 60, 1, 0)) none) (cond (Nat.beq pc 10) (some (.iload_n 1, 1, 1, 0, 0)) none)))) (cond (Nat.blt pc 16) (cond (Nat.blt pc 14) (cond (Nat.beq pc 11) (some (.ifCond .ge 8, 3, 19, 0, 0)) none) (cond (Nat.blt pc 15) (cond (Nat.beq pc 14) (some (.iload_n 1, 1, 1, 0, 0)) none) (cond (Nat.beq pc 15) (some (.ineg, 1, 0, 0, 0)) none))) (cond (Nat.blt pc 19) (cond (Nat.beq pc 16) (some (.goto 4, 3, 20, 0, 0)) none) (cond (Nat.blt pc 20) (cond (Nat.beq pc 19) (some (.iload_n 1, 1, 1, 0, 0)) none) (cond (Nat.beq pc 20) (some (.istore_n 2, 1, 2, 0, 0)) none))))) (cond (Nat.blt pc 29) (cond (Nat.blt pc 24) (cond (Nat.blt pc 22) (cond (Nat.beq pc 21) (some (.iconst 1, 1, 0, 0, 1)) none) (cond (Nat.blt pc 23) (cond (Nat.beq pc 22) (some (.istore_n 3, 1, 3, 0, 0)) none) (cond (Nat.beq pc 23) (some (.iconst 1, 1, 0, 0, 1)) none))) (cond (Nat.blt pc 26) (cond (Nat.beq pc 24) (some (.istore 4, 2, 4, 0, 0)) none) (cond (Nat.blt pc 28) (cond (Nat.beq pc 26) (some (.iload 4, 2, 4, 0, 0)) none) (cond (Nat.beq pc 28) (some (.iconst 5, 1, 0, 0, 5)) none)))) (cond (Nat.blt pc 34) (cond (Nat.blt pc 32) (cond (Nat.beq pc 29) (some (.if_icmp .ge 22, 3, 51, 0, 0)) none) (cond (Nat.blt pc 33) (cond (Nat.beq pc 32) (some (.iload_n 2, 1, 2, 0, 0)) none) (cond (Nat.beq pc 33) (some (.iload_n 3, 1, 3, 0, 0)) none))) (cond (Nat.blt pc 35) (cond (Nat.beq pc 34) (some (.idiv, 1, 0, 0, 0)) none) (cond (Nat.blt pc 37) (cond (Nat.beq pc 35) (some (.bipush 10, 2, 0, 0, 10)) none) (cond (Nat.beq pc 37) (some (.if_icmp .lt 14, 3, 51, 0, 0)) none)))))) (cond (Nat.blt pc 60) (cond (Nat.blt pc 51) (cond (Nat.blt pc 44) (cond (Nat.blt pc 41) (cond (Nat.beq pc 40) (some (.iload_n 3, 1, 3, 0, 0)) none) (cond (Nat.blt pc 43) (cond (Nat.beq pc 41) (some (.bipush 10, 2, 0, 0, 10)) none) (cond (Nat.beq pc 43) (some (.imul, 1, 0, 0, 0)) none))) (cond (Nat.blt pc 45) (cond (Nat.beq pc 44) (some (.istore_n 3, 1, 3, 0, 0)) none) (cond (Nat.blt pc 48) (cond (Nat.beq pc 45) (some (.iinc 4 1, 3, 4, 0, 1)) none) (cond (Nat.beq pc 48) (some (.goto (-22), 3, 26, 0, 0)) none)))) (cond (Nat.blt pc 56) (cond (Nat.blt pc 52) (cond (Nat.beq pc 51) (some (.iload_n 3, 1, 3, 0, 0)) none) (cond (Nat.blt pc 55) (cond (Nat.beq pc 52) (some (.ifCond .le 25, 3, 77, 0, 0)) none) (cond (Nat.beq pc 55) (some (.aload_n 0, 1, 0, 0, 0)) none))) (cond (Nat.blt pc 58) (cond (Nat.beq pc 56) (some (.bipush 48, 2, 0, 0, 48)) none) (cond (Nat.blt pc 59) (cond (Nat.beq pc 58) (some (.iload_n 2, 1, 2, 0, 0)) none) (cond (Nat.beq pc 59) (some (.iload_n 3, 1, 3, 0, 0)) none))))) (cond (Nat.blt pc 69) (cond (Nat.blt pc 64) (cond (Nat.blt pc 61) (cond (Nat.beq pc 60) (some (.idiv, 1, 0, 0, 0)) none) (cond (Nat.blt pc 63) (cond (Nat.beq pc 61) (some (.bipush 10, 2, 0, 0, 10)) none) (cond (Nat.beq pc 63) (some (.irem, 1, 0, 0, 0)) none))) (cond (Nat.blt pc 65) (cond (Nat.beq pc 64) (some (.iadd, 1, 0, 0, 0)) none) (cond (Nat.blt pc 66) (cond (Nat.beq pc 65) (some (.i2c, 1, 0, 0, 0)) none) (cond (Nat.beq pc 66) (some (.invokevirtual 93, 3, 60, 1, 0)) none)))) (cond (Nat.blt pc 73) (cond (Nat.blt pc 70) (cond (Nat.beq pc 69) (some (.iload_n 3, 1, 3, 0, 0)) none) (cond (Nat.blt pc 72) (cond (Nat.beq pc 70) (some (.bipush 10, 2, 0, 0, 10)) none) (cond (Nat.beq pc 72) (some (.idiv, 1, 0, 0, 0)) none))) (cond (Nat.blt pc 74) (cond (Nat.beq pc 73) (some (.istore_n 3, 1, 3, 0, 0)) none) (cond (Nat.blt pc 77) (cond (Nat.beq pc 74) (some (.goto (-23), 3, 51, 0, 0)) none) (cond (Nat.beq pc 77) (some (.return_, 1, 0, 0, 0)) none))))))
def tb_59 (pc : Nat) : Option mm_E := cond (Nat.blt pc 78) (tt_59 pc) none
def tt_60 (pc : Nat) : Option mm_E := cond (Nat.blt pc 8) (cond (Nat.blt pc 4) (cond (Nat.blt pc 1) (cond (Nat.beq pc 0) (some (.aload_n 0, 1, 0, 0, 0)) none) (cond (Nat.beq pc 1) (some (.getfield 12, 3, 6, 3, 0)) none)) (cond (Nat.blt pc 5) (cond (Nat.beq pc 4) (some (.iload_n 1, 1, 1, 0, 0)) none) (cond (Nat.beq pc 5) (some (.invokevirtual 122, 3, 49, 1, 0)) none))) (cond (Nat.blt pc 12) (cond (Nat.blt pc 11) (cond (Nat.beq pc 8) (some (.ifCond .ne 8, 3, 16, 0, 0)) none) (cond (Nat.beq pc 11) (some (.aload_n 0, 1, 0, 0, 0)) none)) (cond (Nat.blt pc 13) (cond (Nat.beq pc 12) (some (.iconst 1, 1, 0, 0, 1)) none) (cond (Nat.blt pc 16) (cond (Nat.beq pc 13) (some (.putfield 55, 3, 6, 10, 1)) none) (cond (Nat.beq pc 16) (some (.return_, 1, 0, 0, 0)) none))))
def tb_60 (pc : Nat) : Option mm_E := cond (Nat.blt pc 17) (tt_60 pc) none
def tt_61 (pc : Nat) : Option mm_E := cond (Nat.blt pc 5) (cond (Nat.blt pc 1) (cond (Nat.beq pc 0) (some (.aload_n 0, 1, 0, 0, 0)) none) (cond (Nat.blt pc 4) (cond (Nat.beq pc 1) (some (.invokespecial 3, 3, 0, 0, 0)) none) (cond (Nat.beq pc 4) (some (.aload_n 0, 1, 0, 0, 0)) none))) (cond (Nat.blt pc 6) (cond (Nat.beq pc 5) (some (.aload_n 1, 1, 1, 0, 0)) none) (cond (Nat.blt pc 9) (cond (Nat.beq pc 6) (some (.putfield 9, 3, 7, 0, 3)) none) (cond (Nat.beq pc 9) (some (.return_, 1, 0, 0, 0)) none)))
def tb_61 (pc : Nat) : Option mm_E := cond (Nat.blt pc 10) (tt_61 pc) none
def tt_62 (pc : Nat) : Option mm_E := cond (Nat.blt pc 38) (cond (Nat.blt pc 17) (cond (Nat.blt pc 7) (cond (Nat.blt pc 2) (cond (Nat.blt pc 1) (cond (Nat.beq pc 0) (some (.aload_n 0, 1, 0, 0, 0)) none) (cond (Nat.beq pc 1) (some (.iconst 0, 1, 0, 0, 0)) none)) (cond (Nat.blt pc 5) (cond (Nat.beq pc 2) (some (.putfield 15, 3, 7, 1, 0)) none) (cond (Nat.blt pc 6) (cond (Nat.beq pc 5) (some (.aload_n 0, 1, 0, 0, 0)) none) (cond (Nat.beq pc 6) (some (.iconst 0, 1, 0, 0, 0)) none)))) (cond (Nat.blt pc 12) (cond (Nat.blt pc 10) (cond (Nat.beq pc 7) (some (.putfield 19, 3, 7, 2, 0)) none) (cond (Nat.blt pc 11) (cond (Nat.beq pc 10) (some (.aload_n 0, 1, 0, 0, 0)) none) (cond (Nat.beq pc 11) (some (.iconst 0, 1, 0, 0, 0)) none))) (cond (Nat.blt pc 15) (cond (Nat.beq pc 12) (some (.putfield 22, 3, 7, 3, 0)) none) (cond (Nat.blt pc 16) (cond (Nat.beq pc 15) (some (.iconst 1, 1, 0, 0, 1)) none) (cond (Nat.beq pc 16) (some (.istore_n 1, 1, 1, 0, 0)) none))))) (cond (Nat.blt pc 28) (cond (Nat.blt pc 19) (cond (Nat.blt pc 18) (cond (Nat.beq pc 17) (some (.iload_n 1, 1, 1, 0, 0)) none) (cond (Nat.beq pc 18) (some (.aload_n 0, 1, 0, 0, 0)) none)) (cond (Nat.blt pc 22) (cond (Nat.beq pc 19) (some (.getfield 9, 3, 7, 0, 0)) none) (cond (Nat.blt pc 25) (cond (Nat.beq pc 22) (some (.getfield 25, 3, 5, 1, 0)) none) (cond (Nat.beq pc 25) (some (.if_icmp .gt 36, 3, 61, 0, 0)) none)))) (cond (Nat.blt pc 31) (cond (Nat.blt pc 29) (cond (Nat.beq pc 28) (some (.aload_n 0, 1, 0, 0, 0)) none) (cond (Nat.blt pc 30) (cond (Nat.beq pc 29) (some (.aload_n 0, 1, 0, 0, 0)) none) (cond (Nat.beq pc 30) (some (.aload_n 0, 1, 0, 0, 0)) none))) (cond (Nat.blt pc 34) (cond (Nat.beq pc 31) (some (.getfield 9, 3, 7, 0, 0)) none) (cond (Nat.blt pc 35) (cond (Nat.beq pc 34) (some (.iload_n 1, 1, 1, 0, 0)) none) (cond (Nat.beq pc 35) (some (.invokevirtual 30, 3, 50, 1, 0)) none)))))) (cond (Nat.blt pc 62) (cond (Nat.blt pc 50) (cond (Nat.blt pc 44) (cond (Nat.blt pc 41) (cond (Nat.beq pc 38) (some (.invokevirtual 34, 3, 63, 1, 0)) none) (cond (Nat.beq pc 41) (some (.putfield 15, 3, 7, 1, 0)) none)) (cond (Nat.blt pc 45) (cond (Nat.beq pc 44) (some (.aload_n 0, 1, 0, 0, 0)) none) (cond (Nat.blt pc 48) (cond (Nat.beq pc 45) (some (.getfield 15, 3, 7, 1, 0)) none) (cond (Nat.beq pc 48) (some (.bipush 11, 2, 0, 0, 11)) none)))) (cond (Nat.blt pc 55) (cond (Nat.blt pc 53) (cond (Nat.beq pc 50) (some (.if_icmp .ne 5, 3, 55, 0, 0)) none) (cond (Nat.blt pc 54) (cond (Nat.beq pc 53) (some (.iload_n 1, 1, 1, 0, 0)) none) (cond (Nat.beq pc 54) (some (.ireturn, 1, 0, 0, 0)) none))) (cond (Nat.blt pc 58) (cond (Nat.beq pc 55) (some (.iinc 1 1, 3, 1, 0, 1)) none) (cond (Nat.blt pc 61) (cond (Nat.beq pc 58) (some (.goto (-41), 3, 17, 0, 0)) none) (cond (Nat.beq pc 61) (some (.aload_n 0, 1, 0, 0, 0)) none))))) (cond (Nat.blt pc 74) (cond (Nat.blt pc 67) (cond (Nat.blt pc 65) (cond (Nat.beq pc 62) (some (.getfield 15, 3, 7, 1, 0)) none) (cond (Nat.beq pc 65) (some (.bipush 10, 2, 0, 0, 10)) none)) (cond (Nat.blt pc 70) (cond (Nat.beq pc 67) (some (.if_icmp .ne 7, 3, 74, 0, 0)) none) (cond (Nat.blt pc 71) (cond (Nat.beq pc 70) (some (.iconst 0, 1, 0, 0, 0)) none) (cond (Nat.beq pc 71) (some (.goto 12, 3, 83, 0, 0)) none)))) (cond (Nat.blt pc 81) (cond (Nat.blt pc 75) (cond (Nat.beq pc 74) (some (.aload_n 0, 1, 0, 0, 0)) none) (cond (Nat.blt pc 78) (cond (Nat.beq pc 75) (some (.getfield 9, 3, 7, 0, 0)) none) (cond (Nat.beq pc 78) (some (.getfield 25, 3, 5, 1, 0)) none))) (cond (Nat.blt pc 82) (cond (Nat.beq pc 81) (some (.iconst 1, 1, 0, 0, 1)) none) (cond (Nat.blt pc 83) (cond (Nat.beq pc 82) (some (.iadd, 1, 0, 0, 0)) none) (cond (Nat.beq pc 83) (some (.ireturn, 1, 0, 0, 0)) none))))))
def tb_62 (pc : Nat) : Option mm_E := cond (Nat.blt pc 84) (tt_62 pc) none
def tt_63 (pc : Nat) : Option mm_E := cond (Nat.blt pc 133) (cond (Nat.blt pc 94) (cond (Nat.blt pc 75) (cond (Nat.blt pc 63) (cond (Nat.blt pc 4) (cond (Nat.blt pc 1) (cond (Nat.beq pc 0) (some (.aload_n 0, 1, 0, 0, 0)) none) (cond (Nat.beq pc 1) (some (.getfield 15, 3, 7, 1, 0)) none)) (cond (Nat.blt pc 60) (cond (Nat.beq pc 4) (some (.tableswitch 199 0 9 #[56, 72, 91, 110, 116, 130, 144, 166, 172, 178], 56, 0, 0, 0)) none) (cond (Nat.blt pc 61) (cond (Nat.beq pc 60) (some (.iload_n 1, 1, 1, 0, 0)) none) (cond (Nat.beq pc 61) (some (.bipush 40, 2, 0, 0, 40)) none)))) (cond (Nat.blt pc 67) (cond (Nat.blt pc 66) (cond (Nat.beq pc 63) (some (.if_icmp .ne 10, 3, 73, 0, 0)) none) (cond (Nat.beq pc 66) (some (.aload_n 0, 1, 0, 0, 0)) none)) (cond (Nat.blt pc 70) (cond (Nat.beq pc 67) (some (.invokevirtual 37, 3, 64, 1, 0)) none) (cond (Nat.blt pc 73) (cond (Nat.beq pc 70) (some (.goto 5, 3, 75, 0, 0)) none) (cond (Nat.beq pc 73) (some (.bipush 11, 2, 0, 0, 11)) none))))) (cond (Nat.blt pc 83) (cond (Nat.blt pc 77) (cond (Nat.blt pc 76) (cond (Nat.beq pc 75) (some (.ireturn, 1, 0, 0, 0)) none) (cond (Nat.beq pc 76) (some (.iload_n 1, 1, 1, 0, 0)) none)) (cond (Nat.blt pc 79) (cond (Nat.beq pc 77) (some (.bipush 97, 2, 0, 0, 97)) none) (cond (Nat.blt pc 82) (cond (Nat.beq pc 79) (some (.if_icmp .lt 13, 3, 92, 0, 0)) none) (cond (Nat.beq pc 82) (some (.iload_n 1, 1, 1, 0, 0)) none)))) (cond (Nat.blt pc 88) (cond (Nat.blt pc 85) (cond (Nat.beq pc 83) (some (.bipush 100, 2, 0, 0, 100)) none) (cond (Nat.beq pc 85) (some (.if_icmp .gt 7, 3, 92, 0, 0)) none)) (cond (Nat.blt pc 89) (cond (Nat.beq pc 88) (some (.iconst 2, 1, 0, 0, 2)) none) (cond (Nat.blt pc 92) (cond (Nat.beq pc 89) (some (.goto 5, 3, 94, 0, 0)) none) (cond (Nat.beq pc 92) (some (.bipush 11, 2, 0, 0, 11)) none)))))) (cond (Nat.blt pc 113) (cond (Nat.blt pc 102) (cond (Nat.blt pc 96) (cond (Nat.blt pc 95) (cond (Nat.beq pc 94) (some (.ireturn, 1, 0, 0, 0)) none) (cond (Nat.beq pc 95) (some (.iload_n 1, 1, 1, 0, 0)) none)) (cond (Nat.blt pc 98) (cond (Nat.beq pc 96) (some (.bipush 35, 2, 0, 0, 35)) none) (cond (Nat.blt pc 101) (cond (Nat.beq pc 98) (some (.if_icmp .ne 10, 3, 108, 0, 0)) none) (cond (Nat.beq pc 101) (some (.aload_n 0, 1, 0, 0, 0)) none)))) (cond (Nat.blt pc 108) (cond (Nat.blt pc 105) (cond (Nat.beq pc 102) (some (.invokevirtual 41, 3, 66, 1, 0)) none) (cond (Nat.beq pc 105) (some (.goto 8, 3, 113, 0, 0)) none)) (cond (Nat.blt pc 109) (cond (Nat.beq pc 108) (some (.aload_n 0, 1, 0, 0, 0)) none) (cond (Nat.blt pc 110) (cond (Nat.beq pc 109) (some (.iload_n 1, 1, 1, 0, 0)) none) (cond (Nat.beq pc 110) (some (.invokevirtual 44, 3, 68, 1, 0)) none))))) (cond (Nat.blt pc 120) (cond (Nat.blt pc 115) (cond (Nat.blt pc 114) (cond (Nat.beq pc 113) (some (.ireturn, 1, 0, 0, 0)) none) (cond (Nat.beq pc 114) (some (.aload_n 0, 1, 0, 0, 0)) none)) (cond (Nat.blt pc 116) (cond (Nat.beq pc 115) (some (.iload_n 1, 1, 1, 0, 0)) none) (cond (Nat.blt pc 119) (cond (Nat.beq pc 116) (some (.invokevirtual 44, 3, 68, 1, 0)) none) (cond (Nat.beq pc 119) (some (.ireturn, 1, 0, 0, 0)) none)))) (cond (Nat.blt pc 126) (cond (Nat.blt pc 121) (cond (Nat.beq pc 120) (some (.iload_n 1, 1, 1, 0, 0)) none) (cond (Nat.blt pc 123) (cond (Nat.beq pc 121) (some (.bipush 61, 2, 0, 0, 61)) none) (cond (Nat.beq pc 123) (some (.if_icmp .ne 8, 3, 131, 0, 0)) none))) (cond (Nat.blt pc 128) (cond (Nat.beq pc 126) (some (.bipush 6, 2, 0, 0, 6)) none) (cond (Nat.blt pc 131) (cond (Nat.beq pc 128) (some (.goto 5, 3, 133, 0, 0)) none) (cond (Nat.beq pc 131) (some (.bipush 11, 2, 0, 0, 11)) none))))))) (cond (Nat.blt pc 170) (cond (Nat.blt pc 150) (cond (Nat.blt pc 142) (cond (Nat.blt pc 135) (cond (Nat.blt pc 134) (cond (Nat.beq pc 133) (some (.ireturn, 1, 0, 0, 0)) none) (cond (Nat.beq pc 134) (some (.iload_n 1, 1, 1, 0, 0)) none)) (cond (Nat.blt pc 137) (cond (Nat.beq pc 135) (some (.bipush 61, 2, 0, 0, 61)) none) (cond (Nat.blt pc 140) (cond (Nat.beq pc 137) (some (.if_icmp .ne 8, 3, 145, 0, 0)) none) (cond (Nat.beq pc 140) (some (.bipush 7, 2, 0, 0, 7)) none)))) (cond (Nat.blt pc 147) (cond (Nat.blt pc 145) (cond (Nat.beq pc 142) (some (.goto 5, 3, 147, 0, 0)) none) (cond (Nat.beq pc 145) (some (.bipush 11, 2, 0, 0, 11)) none)) (cond (Nat.blt pc 148) (cond (Nat.beq pc 147) (some (.ireturn, 1, 0, 0, 0)) none) (cond (Nat.blt pc 149) (cond (Nat.beq pc 148) (some (.aload_n 0, 1, 0, 0, 0)) none) (cond (Nat.beq pc 149) (some (.iconst 5, 1, 0, 0, 5)) none))))) (cond (Nat.blt pc 161) (cond (Nat.blt pc 154) (cond (Nat.blt pc 153) (cond (Nat.beq pc 150) (some (.putfield 22, 3, 7, 3, 0)) none) (cond (Nat.beq pc 153) (some (.iload_n 1, 1, 1, 0, 0)) none)) (cond (Nat.blt pc 156) (cond (Nat.beq pc 154) (some (.bipush 45, 2, 0, 0, 45)) none) (cond (Nat.blt pc 159) (cond (Nat.beq pc 156) (some (.if_icmp .ne 8, 3, 164, 0, 0)) none) (cond (Nat.beq pc 159) (some (.bipush 8, 2, 0, 0, 8)) none)))) (cond (Nat.blt pc 165) (cond (Nat.blt pc 164) (cond (Nat.beq pc 161) (some (.goto 8, 3, 169, 0, 0)) none) (cond (Nat.beq pc 164) (some (.aload_n 0, 1, 0, 0, 0)) none)) (cond (Nat.blt pc 166) (cond (Nat.beq pc 165) (some (.iload_n 1, 1, 1, 0, 0)) none) (cond (Nat.blt pc 169) (cond (Nat.beq pc 166) (some (.invokevirtual 47, 3, 67, 1, 0)) none) (cond (Nat.beq pc 169) (some (.ireturn, 1, 0, 0, 0)) none)))))) (cond (Nat.blt pc 186) (cond (Nat.blt pc 177) (cond (Nat.blt pc 172) (cond (Nat.blt pc 171) (cond (Nat.beq pc 170) (some (.aload_n 0, 1, 0, 0, 0)) none) (cond (Nat.beq pc 171) (some (.iload_n 1, 1, 1, 0, 0)) none)) (cond (Nat.blt pc 175) (cond (Nat.beq pc 172) (some (.invokevirtual 50, 3, 69, 1, 0)) none) (cond (Nat.blt pc 176) (cond (Nat.beq pc 175) (some (.ireturn, 1, 0, 0, 0)) none) (cond (Nat.beq pc 176) (some (.aload_n 0, 1, 0, 0, 0)) none)))) (cond (Nat.blt pc 181) (cond (Nat.blt pc 178) (cond (Nat.beq pc 177) (some (.iload_n 1, 1, 1, 0, 0)) none) (cond (Nat.beq pc 178) (some (.invokevirtual 47, 3, 67, 1, 0)) none)) (cond (Nat.blt pc 182) (cond (Nat.beq pc 181) (some (.ireturn, 1, 0, 0, 0)) none) (cond (Nat.blt pc 183) (cond (Nat.beq pc 182) (some (.iload_n 1, 1, 1, 0, 0)) none) (cond (Nat.beq pc 183) (some (.invokestatic 53, 3, 70, 1, 0)) none))))) (cond (Nat.blt pc 197) (cond (Nat.blt pc 190) (cond (Nat.blt pc 189) (cond (Nat.beq pc 186) (some (.ifCond .eq 11, 3, 197, 0, 0)) none) (cond (Nat.beq pc 189) (some (.aload_n 0, 1, 0, 0, 0)) none)) (cond (Nat.blt pc 191) (cond (Nat.beq pc 190) (some (.iload_n 1, 1, 1, 0, 0)) none) (cond (Nat.blt pc 194) (cond (Nat.beq pc 191) (some (.invokevirtual 47, 3, 67, 1, 0)) none) (cond (Nat.beq pc 194) (some (.goto 8, 3, 202, 0, 0)) none)))) (cond (Nat.blt pc 202) (cond (Nat.blt pc 198) (cond (Nat.beq pc 197) (some (.aload_n 0, 1, 0, 0, 0)) none) (cond (Nat.blt pc 199) (cond (Nat.beq pc 198) (some (.iload_n 1, 1, 1, 0, 0)) none) (cond (Nat.beq pc 199) (some (.invokevirtual 44, 3, 68, 1, 0)) none))) (cond (Nat.blt pc 203) (cond (Nat.beq pc 202) (some (.ireturn, 1, 0, 0, 0)) none) (cond (Nat.blt pc 205) (cond (Nat.beq pc 203) (some (.bipush 11, 2, 0, 0, 11)) none) (cond (Nat.beq pc 205) (some (.ireturn, 1, 0, 0, 0)) none)))))))
def tb_63 (pc : Nat) : Option mm_E := cond (Nat.blt pc 206) (tt_63 pc) none
def tt_64 (pc : Nat) : Option mm_E := cond (Nat.blt pc 13) (cond (Nat.blt pc 6) (cond (Nat.blt pc 1) (cond (Nat.beq pc 0) (some (.aload_n 0, 1, 0, 0, 0)) none) (cond (Nat.blt pc 4) (cond (Nat.beq pc 1) (some (.getfield 19, 3, 7, 2, 0)) none) (cond (Nat.beq pc 4) (some (.bipush 10, 2, 0, 0, 10)) none))) (cond (Nat.blt pc 11) (cond (Nat.blt pc 9) (cond (Nat.beq pc 6) (some (.if_icmp .lt 6, 3, 12, 0, 0)) none) (cond (Nat.beq pc 9) (some (.bipush 11, 2, 0, 0, 11)) none)) (cond (Nat.blt pc 12) (cond (Nat.beq pc 11) (some (.ireturn, 1, 0, 0, 0)) none) (cond (Nat.beq pc 12) (some (.aload_n 0, 1, 0, 0, 0)) none)))) (cond (Nat.blt pc 18) (cond (Nat.blt pc 14) (cond (Nat.beq pc 13) (some (.dup, 1, 0, 0, 0)) none) (cond (Nat.blt pc 17) (cond (Nat.beq pc 14) (some (.getfield 19, 3, 7, 2, 0)) none) (cond (Nat.beq pc 17) (some (.iconst 1, 1, 0, 0, 1)) none))) (cond (Nat.blt pc 22) (cond (Nat.blt pc 19) (cond (Nat.beq pc 18) (some (.iadd, 1, 0, 0, 0)) none) (cond (Nat.beq pc 19) (some (.putfield 19, 3, 7, 2, 0)) none)) (cond (Nat.blt pc 23) (cond (Nat.beq pc 22) (some (.iconst 1, 1, 0, 0, 1)) none) (cond (Nat.beq pc 23) (some (.ireturn, 1, 0, 0, 0)) none))))
def tb_64 (pc : Nat) : Option mm_E := cond (Nat.blt pc 24) (tt_64 pc) none
def tt_65 (pc : Nat) : Option mm_E := cond (Nat.blt pc 10) (cond (Nat.blt pc 5) (cond (Nat.blt pc 1) (cond (Nat.beq pc 0) (some (.aload_n 0, 1, 0, 0, 0)) none) (cond (Nat.blt pc 2) (cond (Nat.beq pc 1) (some (.dup, 1, 0, 0, 0)) none) (cond (Nat.beq pc 2) (some (.getfield 19, 3, 7, 2, 0)) none))) (cond (Nat.blt pc 6) (cond (Nat.beq pc 5) (some (.iconst 1, 1, 0, 0, 1)) none) (cond (Nat.blt pc 7) (cond (Nat.beq pc 6) (some (.isub, 1, 0, 0, 0)) none) (cond (Nat.beq pc 7) (some (.putfield 19, 3, 7, 2, 0)) none)))) (cond (Nat.blt pc 17) (cond (Nat.blt pc 11) (cond (Nat.beq pc 10) (some (.aload_n 0, 1, 0, 0, 0)) none) (cond (Nat.blt pc 14) (cond (Nat.beq pc 11) (some (.getfield 19, 3, 7, 2, 0)) none) (cond (Nat.beq pc 14) (some (.ifCond .ne 8, 3, 22, 0, 0)) none))) (cond (Nat.blt pc 22) (cond (Nat.blt pc 19) (cond (Nat.beq pc 17) (some (.bipush 10, 2, 0, 0, 10)) none) (cond (Nat.beq pc 19) (some (.goto 4, 3, 23, 0, 0)) none)) (cond (Nat.blt pc 23) (cond (Nat.beq pc 22) (some (.iconst 3, 1, 0, 0, 3)) none) (cond (Nat.beq pc 23) (some (.ireturn, 1, 0, 0, 0)) none))))
def tb_65 (pc : Nat) : Option mm_E := cond (Nat.blt pc 24) (tt_65 pc) none
def tt_66 (pc : Nat) : Option mm_E := cond (Nat.blt pc 2) (cond (Nat.blt pc 1) (cond (Nat.beq pc 0) (some (.aload_n 0, 1, 0, 0, 0)) none) (cond (Nat.beq pc 1) (some (.iconst 2, 1, 0, 0, 2)) none)) (cond (Nat.blt pc 5) (cond (Nat.beq pc 2) (some (.putfield 22, 3, 7, 3, 0)) none) (cond (Nat.blt pc 7) (cond (Nat.beq pc 5) (some (.bipush 8, 2, 0, 0, 8)) none) (cond (Nat.beq pc 7) (some (.ireturn, 1, 0, 0, 0)) none)))
def tb_66 (pc : Nat) : Option mm_E := cond (Nat.blt pc 8) (tt_66 pc) none
def tt_67 (pc : Nat) : Option mm_E := cond (Nat.blt pc 17) (cond (Nat.blt pc 8) (cond (Nat.blt pc 4) (cond (Nat.blt pc 1) (cond (Nat.beq pc 0) (some (.iload_n 1, 1, 1, 0, 0)) none) (cond (Nat.beq pc 1) (some (.invokestatic 53, 3, 70, 1, 0)) none)) (cond (Nat.blt pc 7) (cond (Nat.beq pc 4) (some (.ifCond .eq 10, 3, 14, 0, 0)) none) (cond (Nat.beq pc 7) (some (.aload_n 0, 1, 0, 0, 0)) none))) (cond (Nat.blt pc 14) (cond (Nat.blt pc 11) (cond (Nat.beq pc 8) (some (.getfield 22, 3, 7, 3, 0)) none) (cond (Nat.beq pc 11) (some (.ifCond .gt 6, 3, 17, 0, 0)) none)) (cond (Nat.blt pc 16) (cond (Nat.beq pc 14) (some (.bipush 11, 2, 0, 0, 11)) none) (cond (Nat.beq pc 16) (some (.ireturn, 1, 0, 0, 0)) none)))) (cond (Nat.blt pc 23) (cond (Nat.blt pc 19) (cond (Nat.blt pc 18) (cond (Nat.beq pc 17) (some (.aload_n 0, 1, 0, 0, 0)) none) (cond (Nat.beq pc 18) (some (.dup, 1, 0, 0, 0)) none)) (cond (Nat.blt pc 22) (cond (Nat.beq pc 19) (some (.getfield 22, 3, 7, 3, 0)) none) (cond (Nat.beq pc 22) (some (.iconst 1, 1, 0, 0, 1)) none))) (cond (Nat.blt pc 27) (cond (Nat.blt pc 24) (cond (Nat.beq pc 23) (some (.isub, 1, 0, 0, 0)) none) (cond (Nat.beq pc 24) (some (.putfield 22, 3, 7, 3, 0)) none)) (cond (Nat.blt pc 29) (cond (Nat.beq pc 27) (some (.bipush 9, 2, 0, 0, 9)) none) (cond (Nat.beq pc 29) (some (.ireturn, 1, 0, 0, 0)) none))))
def tb_67 (pc : Nat) : Option mm_E := cond (Nat.blt pc 30) (tt_67 pc) none
def tt_68 (pc : Nat) : Option mm_E := cond (Nat.blt pc 19) (cond (Nat.blt pc 8) (cond (Nat.blt pc 4) (cond (Nat.blt pc 1) (cond (Nat.beq pc 0) (some (.iload_n 1, 1, 1, 0, 0)) none) (cond (Nat.beq pc 1) (some (.invokestatic 57, 3, 72, 1, 0)) none)) (cond (Nat.blt pc 7) (cond (Nat.beq pc 4) (some (.ifCond .eq 16, 3, 20, 0, 0)) none) (cond (Nat.beq pc 7) (some (.iload_n 1, 1, 1, 0, 0)) none))) (cond (Nat.blt pc 14) (cond (Nat.blt pc 11) (cond (Nat.beq pc 8) (some (.invokestatic 60, 3, 71, 1, 0)) none) (cond (Nat.beq pc 11) (some (.ifCond .eq 7, 3, 18, 0, 0)) none)) (cond (Nat.blt pc 15) (cond (Nat.beq pc 14) (some (.iconst 4, 1, 0, 0, 4)) none) (cond (Nat.blt pc 18) (cond (Nat.beq pc 15) (some (.goto 4, 3, 19, 0, 0)) none) (cond (Nat.beq pc 18) (some (.iconst 5, 1, 0, 0, 5)) none))))) (cond (Nat.blt pc 26) (cond (Nat.blt pc 21) (cond (Nat.blt pc 20) (cond (Nat.beq pc 19) (some (.ireturn, 1, 0, 0, 0)) none) (cond (Nat.beq pc 20) (some (.iload_n 1, 1, 1, 0, 0)) none)) (cond (Nat.blt pc 23) (cond (Nat.beq pc 21) (some (.bipush 41, 2, 0, 0, 41)) none) (cond (Nat.beq pc 23) (some (.if_icmp .ne 10, 3, 33, 0, 0)) none))) (cond (Nat.blt pc 30) (cond (Nat.blt pc 27) (cond (Nat.beq pc 26) (some (.aload_n 0, 1, 0, 0, 0)) none) (cond (Nat.beq pc 27) (some (.invokevirtual 63, 3, 65, 1, 0)) none)) (cond (Nat.blt pc 33) (cond (Nat.beq pc 30) (some (.goto 5, 3, 35, 0, 0)) none) (cond (Nat.blt pc 35) (cond (Nat.beq pc 33) (some (.bipush 11, 2, 0, 0, 11)) none) (cond (Nat.beq pc 35) (some (.ireturn, 1, 0, 0, 0)) none)))))
def tb_68 (pc : Nat) : Option mm_E := cond (Nat.blt pc 36) (tt_68 pc) none
def tt_69 (pc : Nat) : Option mm_E := cond (Nat.blt pc 42) (cond (Nat.blt pc 37) (cond (Nat.blt pc 1) (cond (Nat.beq pc 0) (some (.iload_n 1, 1, 1, 0, 0)) none) (cond (Nat.blt pc 36) (cond (Nat.beq pc 1) (some (.lookupswitch 47 #[(40, 35), (64, 40), (126, 45)], 35, 0, 0, 0)) none) (cond (Nat.beq pc 36) (some (.aload_n 0, 1, 0, 0, 0)) none))) (cond (Nat.blt pc 40) (cond (Nat.beq pc 37) (some (.invokevirtual 37, 3, 64, 1, 0)) none) (cond (Nat.blt pc 41) (cond (Nat.beq pc 40) (some (.ireturn, 1, 0, 0, 0)) none) (cond (Nat.beq pc 41) (some (.aload_n 0, 1, 0, 0, 0)) none)))) (cond (Nat.blt pc 47) (cond (Nat.blt pc 45) (cond (Nat.beq pc 42) (some (.invokevirtual 41, 3, 66, 1, 0)) none) (cond (Nat.blt pc 46) (cond (Nat.beq pc 45) (some (.ireturn, 1, 0, 0, 0)) none) (cond (Nat.beq pc 46) (some (.iconst 3, 1, 0, 0, 3)) none))) (cond (Nat.blt pc 48) (cond (Nat.beq pc 47) (some (.ireturn, 1, 0, 0, 0)) none) (cond (Nat.blt pc 50) (cond (Nat.beq pc 48) (some (.bipush 11, 2, 0, 0, 11)) none) (cond (Nat.beq pc 50) (some (.ireturn, 1, 0, 0, 0)) none))))
def tb_69 (pc : Nat) : Option mm_E := cond (Nat.blt pc 51) (tt_69 pc) none
def tt_70 (pc : Nat) : Option mm_E := cond (Nat.blt pc 9) (cond (Nat.blt pc 3) (cond (Nat.blt pc 1) (cond (Nat.beq pc 0) (some (.iload_n 0, 1, 0, 0, 0)) none) (cond (Nat.beq pc 1) (some (.bipush 48, 2, 0, 0, 48)) none)) (cond (Nat.blt pc 6) (cond (Nat.beq pc 3) (some (.if_icmp .lt 13, 3, 16, 0, 0)) none) (cond (Nat.blt pc 7) (cond (Nat.beq pc 6) (some (.iload_n 0, 1, 0, 0, 0)) none) (cond (Nat.beq pc 7) (some (.bipush 57, 2, 0, 0, 57)) none)))) (cond (Nat.blt pc 13) (cond (Nat.blt pc 12) (cond (Nat.beq pc 9) (some (.if_icmp .gt 7, 3, 16, 0, 0)) none) (cond (Nat.beq pc 12) (some (.iconst 1, 1, 0, 0, 1)) none)) (cond (Nat.blt pc 16) (cond (Nat.beq pc 13) (some (.goto 4, 3, 17, 0, 0)) none) (cond (Nat.blt pc 17) (cond (Nat.beq pc 16) (some (.iconst 0, 1, 0, 0, 0)) none) (cond (Nat.beq pc 17) (some (.ireturn, 1, 0, 0, 0)) none))))
def tb_70 (pc : Nat) : Option mm_E := cond (Nat.blt pc 18) (tt_70 pc) none
def tt_71 (pc : Nat) : Option mm_E := cond (Nat.blt pc 9) (cond (Nat.blt pc 3) (cond (Nat.blt pc 1) (cond (Nat.beq pc 0) (some (.iload_n 0, 1, 0, 0, 0)) none) (cond (Nat.beq pc 1) (some (.bipush 120, 2, 0, 0, 120)) none)) (cond (Nat.blt pc 6) (cond (Nat.beq pc 3) (some (.if_icmp .lt 13, 3, 16, 0, 0)) none) (cond (Nat.blt pc 7) (cond (Nat.beq pc 6) (some (.iload_n 0, 1, 0, 0, 0)) none) (cond (Nat.beq pc 7) (some (.bipush 122, 2, 0, 0, 122)) none)))) (cond (Nat.blt pc 13) (cond (Nat.blt pc 12) (cond (Nat.beq pc 9) (some (.if_icmp .gt 7, 3, 16, 0, 0)) none) (cond (Nat.beq pc 12) (some (.iconst 1, 1, 0, 0, 1)) none)) (cond (Nat.blt pc 16) (cond (Nat.beq pc 13) (some (.goto 4, 3, 17, 0, 0)) none) (cond (Nat.blt pc 17) (cond (Nat.beq pc 16) (some (.iconst 0, 1, 0, 0, 0)) none) (cond (Nat.beq pc 17) (some (.ireturn, 1, 0, 0, 0)) none))))
def tb_71 (pc : Nat) : Option mm_E := cond (Nat.blt pc 18) (tt_71 pc) none
def tt_72 (pc : Nat) : Option mm_E := cond (Nat.blt pc 13) (cond (Nat.blt pc 7) (cond (Nat.blt pc 1) (cond (Nat.beq pc 0) (some (.iload_n 0, 1, 0, 0, 0)) none) (cond (Nat.blt pc 4) (cond (Nat.beq pc 1) (some (.invokestatic 60, 3, 71, 1, 0)) none) (cond (Nat.beq pc 4) (some (.ifCond .ne 15, 3, 19, 0, 0)) none))) (cond (Nat.blt pc 8) (cond (Nat.beq pc 7) (some (.iload_n 0, 1, 0, 0, 0)) none) (cond (Nat.blt pc 10) (cond (Nat.beq pc 8) (some (.bipush 112, 2, 0, 0, 112)) none) (cond (Nat.beq pc 10) (some (.if_icmp .eq 9, 3, 19, 0, 0)) none)))) (cond (Nat.blt pc 19) (cond (Nat.blt pc 14) (cond (Nat.beq pc 13) (some (.iload_n 0, 1, 0, 0, 0)) none) (cond (Nat.blt pc 16) (cond (Nat.beq pc 14) (some (.bipush 113, 2, 0, 0, 113)) none) (cond (Nat.beq pc 16) (some (.if_icmp .ne 7, 3, 23, 0, 0)) none))) (cond (Nat.blt pc 23) (cond (Nat.blt pc 20) (cond (Nat.beq pc 19) (some (.iconst 1, 1, 0, 0, 1)) none) (cond (Nat.beq pc 20) (some (.goto 4, 3, 24, 0, 0)) none)) (cond (Nat.blt pc 24) (cond (Nat.beq pc 23) (some (.iconst 0, 1, 0, 0, 0)) none) (cond (Nat.beq pc 24) (some (.ireturn, 1, 0, 0, 0)) none))))
def tb_72 (pc : Nat) : Option mm_E := cond (Nat.blt pc 25) (tt_72 pc) none
def tt_73 (pc : Nat) : Option mm_E := cond (Nat.blt pc 16) (cond (Nat.blt pc 7) (cond (Nat.blt pc 4) (cond (Nat.blt pc 1) (cond (Nat.beq pc 0) (some (.aload_n 0, 1, 0, 0, 0)) none) (cond (Nat.beq pc 1) (some (.invokespecial 3, 3, 0, 0, 0)) none)) (cond (Nat.blt pc 5) (cond (Nat.beq pc 4) (some (.aload_n 0, 1, 0, 0, 0)) none) (cond (Nat.beq pc 5) (some (.bipush 100, 2, 0, 0, 100)) none))) (cond (Nat.blt pc 12) (cond (Nat.blt pc 9) (cond (Nat.beq pc 7) (some (.newarray .int, 2, 0, 0, 0)) none) (cond (Nat.beq pc 9) (some (.putfield 9, 3, 8, 2, 3)) none)) (cond (Nat.blt pc 13) (cond (Nat.beq pc 12) (some (.aload_n 0, 1, 0, 0, 0)) none) (cond (Nat.beq pc 13) (some (.sipush 300, 3, 0, 0, 300)) none)))) (cond (Nat.blt pc 23) (cond (Nat.blt pc 21) (cond (Nat.blt pc 18) (cond (Nat.beq pc 16) (some (.newarray .int, 2, 0, 0, 0)) none) (cond (Nat.beq pc 18) (some (.putfield 15, 3, 8, 3, 3)) none)) (cond (Nat.blt pc 22) (cond (Nat.beq pc 21) (some (.aload_n 0, 1, 0, 0, 0)) none) (cond (Nat.beq pc 22) (some (.aload_n 1, 1, 1, 0, 0)) none))) (cond (Nat.blt pc 27) (cond (Nat.blt pc 26) (cond (Nat.beq pc 23) (some (.putfield 18, 3, 8, 0, 3)) none) (cond (Nat.beq pc 26) (some (.aload_n 0, 1, 0, 0, 0)) none)) (cond (Nat.blt pc 28) (cond (Nat.beq pc 27) (some (.aload_n 2, 1, 2, 0, 0)) none) (cond (Nat.blt pc 31) (cond (Nat.beq pc 28) (some (.putfield 22, 3, 8, 1, 3)) none) (cond (Nat.beq pc 31) (some (.return_, 1, 0, 0, 0)) none)))))
def tb_73 (pc : Nat) : Option mm_E := cond (Nat.blt pc 32) (tt_73 pc) none
def tt_74 (pc : Nat) : Option mm_E := cond (Nat.blt pc 13) (cond (Nat.blt pc 5) (cond (Nat.blt pc 1) (cond (Nat.beq pc 0) (some (.aload_n 0, 1, 0, 0, 0)) none) (cond (Nat.blt pc 4) (cond (Nat.beq pc 1) (some (.getfield 9, 3, 8, 2, 0)) none) (cond (Nat.beq pc 4) (some (.iconst (-1), 1, 0, 0, (-1))) none))) (cond (Nat.blt pc 9) (cond (Nat.blt pc 8) (cond (Nat.beq pc 5) (some (.invokestatic 26, 3, 0, 1, 0)) none) (cond (Nat.beq pc 8) (some (.aload_n 0, 1, 0, 0, 0)) none)) (cond (Nat.blt pc 10) (cond (Nat.beq pc 9) (some (.iconst 0, 1, 0, 0, 0)) none) (cond (Nat.beq pc 10) (some (.putfield 32, 3, 8, 4, 0)) none)))) (cond (Nat.blt pc 18) (cond (Nat.blt pc 14) (cond (Nat.beq pc 13) (some (.aload_n 0, 1, 0, 0, 0)) none) (cond (Nat.blt pc 15) (cond (Nat.beq pc 14) (some (.iconst 1, 1, 0, 0, 1)) none) (cond (Nat.beq pc 15) (some (.putfield 36, 3, 8, 5, 0)) none))) (cond (Nat.blt pc 20) (cond (Nat.blt pc 19) (cond (Nat.beq pc 18) (some (.aload_n 0, 1, 0, 0, 0)) none) (cond (Nat.beq pc 19) (some (.iconst 1, 1, 0, 0, 1)) none)) (cond (Nat.blt pc 23) (cond (Nat.beq pc 20) (some (.invokevirtual 39, 3, 77, 1, 0)) none) (cond (Nat.beq pc 23) (some (.ireturn, 1, 0, 0, 0)) none))))
def tb_74 (pc : Nat) : Option mm_E := cond (Nat.blt pc 24) (tt_74 pc) none
def tt_75 (pc : Nat) : Option mm_E := cond (Nat.blt pc 12) (cond (Nat.blt pc 5) (cond (Nat.blt pc 1) (cond (Nat.beq pc 0) (some (.iload_n 1, 1, 1, 0, 0)) none) (cond (Nat.blt pc 4) (cond (Nat.beq pc 1) (some (.ifCond .lt 20, 3, 21, 0, 0)) none) (cond (Nat.beq pc 4) (some (.iload_n 1, 1, 1, 0, 0)) none))) (cond (Nat.blt pc 6) (cond (Nat.beq pc 5) (some (.aload_n 0, 1, 0, 0, 0)) none) (cond (Nat.blt pc 9) (cond (Nat.beq pc 6) (some (.getfield 32, 3, 8, 4, 0)) none) (cond (Nat.beq pc 9) (some (.if_icmp .ge 12, 3, 21, 0, 0)) none)))) (cond (Nat.blt pc 17) (cond (Nat.blt pc 13) (cond (Nat.beq pc 12) (some (.aload_n 0, 1, 0, 0, 0)) none) (cond (Nat.blt pc 16) (cond (Nat.beq pc 13) (some (.getfield 15, 3, 8, 3, 0)) none) (cond (Nat.beq pc 16) (some (.iload_n 1, 1, 1, 0, 0)) none))) (cond (Nat.blt pc 21) (cond (Nat.blt pc 18) (cond (Nat.beq pc 17) (some (.iaload, 1, 0, 0, 0)) none) (cond (Nat.beq pc 18) (some (.goto 4, 3, 22, 0, 0)) none)) (cond (Nat.blt pc 22) (cond (Nat.beq pc 21) (some (.iconst 0, 1, 0, 0, 0)) none) (cond (Nat.beq pc 22) (some (.ireturn, 1, 0, 0, 0)) none))))
def tb_75 (pc : Nat) : Option mm_E := cond (Nat.blt pc 23) (tt_75 pc) none
def tt_76 (pc : Nat) : Option mm_E := cond (Nat.blt pc 18) (cond (Nat.blt pc 10) (cond (Nat.blt pc 4) (cond (Nat.blt pc 1) (cond (Nat.beq pc 0) (some (.aload_n 0, 1, 0, 0, 0)) none) (cond (Nat.beq pc 1) (some (.getfield 32, 3, 8, 4, 0)) none)) (cond (Nat.blt pc 7) (cond (Nat.beq pc 4) (some (.sipush 300, 3, 0, 0, 300)) none) (cond (Nat.beq pc 7) (some (.if_icmp .ge 23, 3, 30, 0, 0)) none))) (cond (Nat.blt pc 14) (cond (Nat.blt pc 11) (cond (Nat.beq pc 10) (some (.aload_n 0, 1, 0, 0, 0)) none) (cond (Nat.beq pc 11) (some (.getfield 15, 3, 8, 3, 0)) none)) (cond (Nat.blt pc 15) (cond (Nat.beq pc 14) (some (.aload_n 0, 1, 0, 0, 0)) none) (cond (Nat.beq pc 15) (some (.getfield 32, 3, 8, 4, 0)) none)))) (cond (Nat.blt pc 22) (cond (Nat.blt pc 20) (cond (Nat.blt pc 19) (cond (Nat.beq pc 18) (some (.iload_n 1, 1, 1, 0, 0)) none) (cond (Nat.beq pc 19) (some (.iastore, 1, 0, 0, 0)) none)) (cond (Nat.blt pc 21) (cond (Nat.beq pc 20) (some (.aload_n 0, 1, 0, 0, 0)) none) (cond (Nat.beq pc 21) (some (.dup, 1, 0, 0, 0)) none))) (cond (Nat.blt pc 26) (cond (Nat.blt pc 25) (cond (Nat.beq pc 22) (some (.getfield 32, 3, 8, 4, 0)) none) (cond (Nat.beq pc 25) (some (.iconst 1, 1, 0, 0, 1)) none)) (cond (Nat.blt pc 27) (cond (Nat.beq pc 26) (some (.iadd, 1, 0, 0, 0)) none) (cond (Nat.blt pc 30) (cond (Nat.beq pc 27) (some (.putfield 32, 3, 8, 4, 0)) none) (cond (Nat.beq pc 30) (some (.return_, 1, 0, 0, 0)) none)))))
def tb_76 (pc : Nat) : Option mm_E := cond (Nat.blt pc 31) (tt_76 pc) none
def tt_77 (pc : Nat) : Option mm_E := cond (Nat.blt pc 59) (cond (Nat.blt pc 28) (cond (Nat.blt pc 13) (cond (Nat.blt pc 7) (cond (Nat.blt pc 3) (cond (Nat.blt pc 1) (cond (Nat.beq pc 0) (some (.iload_n 1, 1, 1, 0, 0)) none) (cond (Nat.beq pc 1) (some (.bipush 10, 2, 0, 0, 10)) none)) (cond (Nat.blt pc 6) (cond (Nat.beq pc 3) (some (.if_icmp .le 5, 3, 8, 0, 0)) none) (cond (Nat.beq pc 6) (some (.iconst (-1), 1, 0, 0, (-1))) none))) (cond (Nat.blt pc 9) (cond (Nat.blt pc 8) (cond (Nat.beq pc 7) (some (.ireturn, 1, 0, 0, 0)) none) (cond (Nat.beq pc 8) (some (.aload_n 0, 1, 0, 0, 0)) none)) (cond (Nat.blt pc 12) (cond (Nat.beq pc 9) (some (.getfield 18, 3, 8, 0, 0)) none) (cond (Nat.beq pc 12) (some (.aload_n 0, 1, 0, 0, 0)) none)))) (cond (Nat.blt pc 21) (cond (Nat.blt pc 17) (cond (Nat.blt pc 16) (cond (Nat.beq pc 13) (some (.getfield 22, 3, 8, 1, 0)) none) (cond (Nat.beq pc 16) (some (.aload_n 0, 1, 0, 0, 0)) none)) (cond (Nat.blt pc 20) (cond (Nat.beq pc 17) (some (.getfield 36, 3, 8, 5, 0)) none) (cond (Nat.beq pc 20) (some (.iconst 1, 1, 0, 0, 1)) none))) (cond (Nat.blt pc 25) (cond (Nat.blt pc 22) (cond (Nat.beq pc 21) (some (.iadd, 1, 0, 0, 0)) none) (cond (Nat.beq pc 22) (some (.invokevirtual 43, 3, 50, 1, 0)) none)) (cond (Nat.blt pc 27) (cond (Nat.beq pc 25) (some (.bipush 97, 2, 0, 0, 97)) none) (cond (Nat.beq pc 27) (some (.isub, 1, 0, 0, 0)) none))))) (cond (Nat.blt pc 42) (cond (Nat.blt pc 34) (cond (Nat.blt pc 32) (cond (Nat.blt pc 31) (cond (Nat.beq pc 28) (some (.invokevirtual 48, 3, 32, 1, 0)) none) (cond (Nat.beq pc 31) (some (.istore_n 2, 1, 2, 0, 0)) none)) (cond (Nat.blt pc 33) (cond (Nat.beq pc 32) (some (.iload_n 2, 1, 2, 0, 0)) none) (cond (Nat.beq pc 33) (some (.iconst (-1), 1, 0, 0, (-1))) none))) (cond (Nat.blt pc 38) (cond (Nat.blt pc 37) (cond (Nat.beq pc 34) (some (.if_icmp .ne 11, 3, 45, 0, 0)) none) (cond (Nat.beq pc 37) (some (.aload_n 0, 1, 0, 0, 0)) none)) (cond (Nat.blt pc 39) (cond (Nat.beq pc 38) (some (.aload_n 0, 1, 0, 0, 0)) none) (cond (Nat.beq pc 39) (some (.getfield 36, 3, 8, 5, 0)) none)))) (cond (Nat.blt pc 50) (cond (Nat.blt pc 46) (cond (Nat.blt pc 45) (cond (Nat.beq pc 42) (some (.invokevirtual 53, 3, 76, 1, 0)) none) (cond (Nat.beq pc 45) (some (.aload_n 0, 1, 0, 0, 0)) none)) (cond (Nat.blt pc 47) (cond (Nat.beq pc 46) (some (.dup, 1, 0, 0, 0)) none) (cond (Nat.beq pc 47) (some (.getfield 36, 3, 8, 5, 0)) none))) (cond (Nat.blt pc 52) (cond (Nat.blt pc 51) (cond (Nat.beq pc 50) (some (.iconst 2, 1, 0, 0, 2)) none) (cond (Nat.beq pc 51) (some (.iadd, 1, 0, 0, 0)) none)) (cond (Nat.blt pc 55) (cond (Nat.beq pc 52) (some (.putfield 36, 3, 8, 5, 0)) none) (cond (Nat.blt pc 56) (cond (Nat.beq pc 55) (some (.aload_n 0, 1, 0, 0, 0)) none) (cond (Nat.beq pc 56) (some (.getfield 22, 3, 8, 1, 0)) none))))))) (cond (Nat.blt pc 93) (cond (Nat.blt pc 76) (cond (Nat.blt pc 68) (cond (Nat.blt pc 63) (cond (Nat.blt pc 60) (cond (Nat.beq pc 59) (some (.aload_n 0, 1, 0, 0, 0)) none) (cond (Nat.beq pc 60) (some (.getfield 36, 3, 8, 5, 0)) none)) (cond (Nat.blt pc 66) (cond (Nat.beq pc 63) (some (.invokevirtual 43, 3, 50, 1, 0)) none) (cond (Nat.beq pc 66) (some (.bipush 35, 2, 0, 0, 35)) none))) (cond (Nat.blt pc 72) (cond (Nat.blt pc 71) (cond (Nat.beq pc 68) (some (.if_icmp .ne 8, 3, 76, 0, 0)) none) (cond (Nat.beq pc 71) (some (.aload_n 0, 1, 0, 0, 0)) none)) (cond (Nat.blt pc 73) (cond (Nat.beq pc 72) (some (.iload_n 2, 1, 2, 0, 0)) none) (cond (Nat.beq pc 73) (some (.invokevirtual 57, 3, 78, 1, 0)) none)))) (cond (Nat.blt pc 82) (cond (Nat.blt pc 78) (cond (Nat.blt pc 77) (cond (Nat.beq pc 76) (some (.iconst 0, 1, 0, 0, 0)) none) (cond (Nat.beq pc 77) (some (.istore_n 3, 1, 3, 0, 0)) none)) (cond (Nat.blt pc 79) (cond (Nat.beq pc 78) (some (.iload_n 3, 1, 3, 0, 0)) none) (cond (Nat.beq pc 79) (some (.sipush 300, 3, 0, 0, 300)) none))) (cond (Nat.blt pc 86) (cond (Nat.blt pc 85) (cond (Nat.beq pc 82) (some (.if_icmp .ge 32, 3, 114, 0, 0)) none) (cond (Nat.beq pc 85) (some (.aload_n 0, 1, 0, 0, 0)) none)) (cond (Nat.blt pc 89) (cond (Nat.beq pc 86) (some (.getfield 22, 3, 8, 1, 0)) none) (cond (Nat.blt pc 90) (cond (Nat.beq pc 89) (some (.aload_n 0, 1, 0, 0, 0)) none) (cond (Nat.beq pc 90) (some (.getfield 36, 3, 8, 5, 0)) none)))))) (cond (Nat.blt pc 111) (cond (Nat.blt pc 103) (cond (Nat.blt pc 99) (cond (Nat.blt pc 96) (cond (Nat.beq pc 93) (some (.invokevirtual 43, 3, 50, 1, 0)) none) (cond (Nat.beq pc 96) (some (.invokestatic 60, 3, 72, 1, 0)) none)) (cond (Nat.blt pc 102) (cond (Nat.beq pc 99) (some (.ifCond .eq 15, 3, 114, 0, 0)) none) (cond (Nat.beq pc 102) (some (.aload_n 0, 1, 0, 0, 0)) none))) (cond (Nat.blt pc 105) (cond (Nat.blt pc 104) (cond (Nat.beq pc 103) (some (.iload_n 2, 1, 2, 0, 0)) none) (cond (Nat.beq pc 104) (some (.iload_n 1, 1, 1, 0, 0)) none)) (cond (Nat.blt pc 108) (cond (Nat.beq pc 105) (some (.invokevirtual 66, 3, 79, 1, 0)) none) (cond (Nat.beq pc 108) (some (.iinc 3 1, 3, 3, 0, 1)) none)))) (cond (Nat.blt pc 119) (cond (Nat.blt pc 115) (cond (Nat.blt pc 114) (cond (Nat.beq pc 111) (some (.goto (-33), 3, 78, 0, 0)) none) (cond (Nat.beq pc 114) (some (.aload_n 0, 1, 0, 0, 0)) none)) (cond (Nat.blt pc 116) (cond (Nat.beq pc 115) (some (.dup, 1, 0, 0, 0)) none) (cond (Nat.beq pc 116) (some (.getfield 36, 3, 8, 5, 0)) none))) (cond (Nat.blt pc 121) (cond (Nat.blt pc 120) (cond (Nat.beq pc 119) (some (.iconst 1, 1, 0, 0, 1)) none) (cond (Nat.beq pc 120) (some (.iadd, 1, 0, 0, 0)) none)) (cond (Nat.blt pc 124) (cond (Nat.beq pc 121) (some (.putfield 36, 3, 8, 5, 0)) none) (cond (Nat.blt pc 125) (cond (Nat.beq pc 124) (some (.iload_n 2, 1, 2, 0, 0)) none) (cond (Nat.beq pc 125) (some (.ireturn, 1, 0, 0, 0)) none)))))))
def tb_77 (pc : Nat) : Option mm_E := cond (Nat.blt pc 126) (tt_77 pc) none
def tt_78 (pc : Nat) : Option mm_E := cond (Nat.blt pc 26) (cond (Nat.blt pc 12) (cond (Nat.blt pc 6) (cond (Nat.blt pc 4) (cond (Nat.blt pc 1) (cond (Nat.beq pc 0) (some (.aload_n 0, 1, 0, 0, 0)) none) (cond (Nat.beq pc 1) (some (.getfield 36, 3, 8, 5, 0)) none)) (cond (Nat.blt pc 5) (cond (Nat.beq pc 4) (some (.istore_n 2, 1, 2, 0, 0)) none) (cond (Nat.beq pc 5) (some (.aload_n 0, 1, 0, 0, 0)) none))) (cond (Nat.blt pc 10) (cond (Nat.blt pc 7) (cond (Nat.beq pc 6) (some (.dup, 1, 0, 0, 0)) none) (cond (Nat.beq pc 7) (some (.getfield 36, 3, 8, 5, 0)) none)) (cond (Nat.blt pc 11) (cond (Nat.beq pc 10) (some (.iconst 1, 1, 0, 0, 1)) none) (cond (Nat.beq pc 11) (some (.iadd, 1, 0, 0, 0)) none)))) (cond (Nat.blt pc 20) (cond (Nat.blt pc 16) (cond (Nat.blt pc 15) (cond (Nat.beq pc 12) (some (.putfield 36, 3, 8, 5, 0)) none) (cond (Nat.beq pc 15) (some (.aload_n 0, 1, 0, 0, 0)) none)) (cond (Nat.blt pc 17) (cond (Nat.beq pc 16) (some (.iconst 2, 1, 0, 0, 2)) none) (cond (Nat.beq pc 17) (some (.invokevirtual 70, 3, 83, 1, 0)) none))) (cond (Nat.blt pc 22) (cond (Nat.blt pc 21) (cond (Nat.beq pc 20) (some (.istore_n 3, 1, 3, 0, 0)) none) (cond (Nat.beq pc 21) (some (.iload_n 1, 1, 1, 0, 0)) none)) (cond (Nat.blt pc 23) (cond (Nat.beq pc 22) (some (.iconst (-1), 1, 0, 0, (-1))) none) (cond (Nat.beq pc 23) (some (.if_icmp .eq 13, 3, 36, 0, 0)) none))))) (cond (Nat.blt pc 38) (cond (Nat.blt pc 32) (cond (Nat.blt pc 30) (cond (Nat.blt pc 27) (cond (Nat.beq pc 26) (some (.aload_n 0, 1, 0, 0, 0)) none) (cond (Nat.beq pc 27) (some (.getfield 9, 3, 8, 2, 0)) none)) (cond (Nat.blt pc 31) (cond (Nat.beq pc 30) (some (.iload_n 3, 1, 3, 0, 0)) none) (cond (Nat.beq pc 31) (some (.iaload, 1, 0, 0, 0)) none))) (cond (Nat.blt pc 36) (cond (Nat.blt pc 33) (cond (Nat.beq pc 32) (some (.iconst (-1), 1, 0, 0, (-1))) none) (cond (Nat.beq pc 33) (some (.if_icmp .eq 11, 3, 44, 0, 0)) none)) (cond (Nat.blt pc 37) (cond (Nat.beq pc 36) (some (.aload_n 0, 1, 0, 0, 0)) none) (cond (Nat.beq pc 37) (some (.iload_n 2, 1, 2, 0, 0)) none)))) (cond (Nat.blt pc 48) (cond (Nat.blt pc 44) (cond (Nat.blt pc 41) (cond (Nat.beq pc 38) (some (.invokevirtual 53, 3, 76, 1, 0)) none) (cond (Nat.beq pc 41) (some (.goto 10, 3, 51, 0, 0)) none)) (cond (Nat.blt pc 45) (cond (Nat.beq pc 44) (some (.aload_n 0, 1, 0, 0, 0)) none) (cond (Nat.beq pc 45) (some (.getfield 9, 3, 8, 2, 0)) none))) (cond (Nat.blt pc 50) (cond (Nat.blt pc 49) (cond (Nat.beq pc 48) (some (.iload_n 3, 1, 3, 0, 0)) none) (cond (Nat.beq pc 49) (some (.iload_n 1, 1, 1, 0, 0)) none)) (cond (Nat.blt pc 51) (cond (Nat.beq pc 50) (some (.iastore, 1, 0, 0, 0)) none) (cond (Nat.beq pc 51) (some (.return_, 1, 0, 0, 0)) none)))))
def tb_78 (pc : Nat) : Option mm_E := cond (Nat.blt pc 52) (tt_78 pc) none
def tt_79 (pc : Nat) : Option mm_E := cond (Nat.blt pc 45) (cond (Nat.blt pc 20) (cond (Nat.blt pc 9) (cond (Nat.blt pc 4) (cond (Nat.blt pc 1) (cond (Nat.beq pc 0) (some (.aload_n 0, 1, 0, 0, 0)) none) (cond (Nat.beq pc 1) (some (.getfield 36, 3, 8, 5, 0)) none)) (cond (Nat.blt pc 5) (cond (Nat.beq pc 4) (some (.istore_n 3, 1, 3, 0, 0)) none) (cond (Nat.blt pc 6) (cond (Nat.beq pc 5) (some (.aload_n 0, 1, 0, 0, 0)) none) (cond (Nat.beq pc 6) (some (.getfield 22, 3, 8, 1, 0)) none)))) (cond (Nat.blt pc 16) (cond (Nat.blt pc 10) (cond (Nat.beq pc 9) (some (.aload_n 0, 1, 0, 0, 0)) none) (cond (Nat.blt pc 13) (cond (Nat.beq pc 10) (some (.getfield 36, 3, 8, 5, 0)) none) (cond (Nat.beq pc 13) (some (.invokevirtual 43, 3, 50, 1, 0)) none))) (cond (Nat.blt pc 18) (cond (Nat.beq pc 16) (some (.istore 4, 2, 4, 0, 0)) none) (cond (Nat.blt pc 19) (cond (Nat.beq pc 18) (some (.aload_n 0, 1, 0, 0, 0)) none) (cond (Nat.beq pc 19) (some (.dup, 1, 0, 0, 0)) none))))) (cond (Nat.blt pc 33) (cond (Nat.blt pc 25) (cond (Nat.blt pc 23) (cond (Nat.beq pc 20) (some (.getfield 36, 3, 8, 5, 0)) none) (cond (Nat.blt pc 24) (cond (Nat.beq pc 23) (some (.iconst 2, 1, 0, 0, 2)) none) (cond (Nat.beq pc 24) (some (.iadd, 1, 0, 0, 0)) none))) (cond (Nat.blt pc 28) (cond (Nat.beq pc 25) (some (.putfield 36, 3, 8, 5, 0)) none) (cond (Nat.blt pc 30) (cond (Nat.beq pc 28) (some (.iload 4, 2, 4, 0, 0)) none) (cond (Nat.beq pc 30) (some (.invokestatic 73, 3, 71, 1, 0)) none)))) (cond (Nat.blt pc 40) (cond (Nat.blt pc 36) (cond (Nat.beq pc 33) (some (.ifCond .eq 25, 3, 58, 0, 0)) none) (cond (Nat.blt pc 37) (cond (Nat.beq pc 36) (some (.aload_n 0, 1, 0, 0, 0)) none) (cond (Nat.beq pc 37) (some (.getfield 18, 3, 8, 0, 0)) none))) (cond (Nat.blt pc 41) (cond (Nat.beq pc 40) (some (.iload_n 1, 1, 1, 0, 0)) none) (cond (Nat.blt pc 43) (cond (Nat.beq pc 41) (some (.iload 4, 2, 4, 0, 0)) none) (cond (Nat.beq pc 43) (some (.bipush 120, 2, 0, 0, 120)) none)))))) (cond (Nat.blt pc 67) (cond (Nat.blt pc 55) (cond (Nat.blt pc 47) (cond (Nat.blt pc 46) (cond (Nat.beq pc 45) (some (.isub, 1, 0, 0, 0)) none) (cond (Nat.beq pc 46) (some (.aload_n 0, 1, 0, 0, 0)) none)) (cond (Nat.blt pc 50) (cond (Nat.beq pc 47) (some (.invokevirtual 76, 3, 80, 1, 0)) none) (cond (Nat.blt pc 53) (cond (Nat.beq pc 50) (some (.invokevirtual 80, 3, 35, 1, 0)) none) (cond (Nat.beq pc 53) (some (.istore 5, 2, 5, 0, 0)) none)))) (cond (Nat.blt pc 62) (cond (Nat.blt pc 58) (cond (Nat.beq pc 55) (some (.goto 23, 3, 78, 0, 0)) none) (cond (Nat.blt pc 59) (cond (Nat.beq pc 58) (some (.aload_n 0, 1, 0, 0, 0)) none) (cond (Nat.beq pc 59) (some (.getfield 18, 3, 8, 0, 0)) none))) (cond (Nat.blt pc 63) (cond (Nat.beq pc 62) (some (.iload_n 1, 1, 1, 0, 0)) none) (cond (Nat.blt pc 65) (cond (Nat.beq pc 63) (some (.iload 4, 2, 4, 0, 0)) none) (cond (Nat.beq pc 65) (some (.bipush 112, 2, 0, 0, 112)) none))))) (cond (Nat.blt pc 78) (cond (Nat.blt pc 70) (cond (Nat.blt pc 68) (cond (Nat.beq pc 67) (some (.isub, 1, 0, 0, 0)) none) (cond (Nat.blt pc 69) (cond (Nat.beq pc 68) (some (.aload_n 0, 1, 0, 0, 0)) none) (cond (Nat.beq pc 69) (some (.iload_n 2, 1, 2, 0, 0)) none))) (cond (Nat.blt pc 73) (cond (Nat.beq pc 70) (some (.invokevirtual 84, 3, 81, 1, 0)) none) (cond (Nat.blt pc 76) (cond (Nat.beq pc 73) (some (.invokevirtual 87, 3, 36, 1, 0)) none) (cond (Nat.beq pc 76) (some (.istore 5, 2, 5, 0, 0)) none)))) (cond (Nat.blt pc 84) (cond (Nat.blt pc 80) (cond (Nat.beq pc 78) (some (.iload 5, 2, 5, 0, 0)) none) (cond (Nat.blt pc 83) (cond (Nat.beq pc 80) (some (.ifCond .ne 8, 3, 88, 0, 0)) none) (cond (Nat.beq pc 83) (some (.aload_n 0, 1, 0, 0, 0)) none))) (cond (Nat.blt pc 85) (cond (Nat.beq pc 84) (some (.iload_n 3, 1, 3, 0, 0)) none) (cond (Nat.blt pc 88) (cond (Nat.beq pc 85) (some (.invokevirtual 53, 3, 76, 1, 0)) none) (cond (Nat.beq pc 88) (some (.return_, 1, 0, 0, 0)) none))))))
def tb_79 (pc : Nat) : Option mm_E := cond (Nat.blt pc 89) (tt_79 pc) none
def tt_80 (pc : Nat) : Option mm_E := cond (Nat.blt pc 28) (cond (Nat.blt pc 16) (cond (Nat.blt pc 5) (cond (Nat.blt pc 1) (cond (Nat.beq pc 0) (some (.aload_n 0, 1, 0, 0, 0)) none) (cond (Nat.blt pc 4) (cond (Nat.beq pc 1) (some (.getfield 22, 3, 8, 1, 0)) none) (cond (Nat.beq pc 4) (some (.aload_n 0, 1, 0, 0, 0)) none))) (cond (Nat.blt pc 11) (cond (Nat.blt pc 8) (cond (Nat.beq pc 5) (some (.getfield 36, 3, 8, 5, 0)) none) (cond (Nat.beq pc 8) (some (.invokevirtual 43, 3, 50, 1, 0)) none)) (cond (Nat.blt pc 13) (cond (Nat.beq pc 11) (some (.bipush 45, 2, 0, 0, 45)) none) (cond (Nat.beq pc 13) (some (.if_icmp .ne 7, 3, 20, 0, 0)) none)))) (cond (Nat.blt pc 22) (cond (Nat.blt pc 20) (cond (Nat.blt pc 17) (cond (Nat.beq pc 16) (some (.iconst 1, 1, 0, 0, 1)) none) (cond (Nat.beq pc 17) (some (.goto 4, 3, 21, 0, 0)) none)) (cond (Nat.blt pc 21) (cond (Nat.beq pc 20) (some (.iconst 0, 1, 0, 0, 0)) none) (cond (Nat.beq pc 21) (some (.istore_n 1, 1, 1, 0, 0)) none))) (cond (Nat.blt pc 26) (cond (Nat.blt pc 23) (cond (Nat.beq pc 22) (some (.iload_n 1, 1, 1, 0, 0)) none) (cond (Nat.beq pc 23) (some (.ifCond .eq 13, 3, 36, 0, 0)) none)) (cond (Nat.blt pc 27) (cond (Nat.beq pc 26) (some (.aload_n 0, 1, 0, 0, 0)) none) (cond (Nat.beq pc 27) (some (.dup, 1, 0, 0, 0)) none))))) (cond (Nat.blt pc 41) (cond (Nat.blt pc 33) (cond (Nat.blt pc 31) (cond (Nat.beq pc 28) (some (.getfield 36, 3, 8, 5, 0)) none) (cond (Nat.blt pc 32) (cond (Nat.beq pc 31) (some (.iconst 1, 1, 0, 0, 1)) none) (cond (Nat.beq pc 32) (some (.iadd, 1, 0, 0, 0)) none))) (cond (Nat.blt pc 37) (cond (Nat.blt pc 36) (cond (Nat.beq pc 33) (some (.putfield 36, 3, 8, 5, 0)) none) (cond (Nat.beq pc 36) (some (.aload_n 0, 1, 0, 0, 0)) none)) (cond (Nat.blt pc 38) (cond (Nat.beq pc 37) (some (.iconst 5, 1, 0, 0, 5)) none) (cond (Nat.beq pc 38) (some (.invokevirtual 70, 3, 83, 1, 0)) none)))) (cond (Nat.blt pc 47) (cond (Nat.blt pc 43) (cond (Nat.blt pc 42) (cond (Nat.beq pc 41) (some (.istore_n 2, 1, 2, 0, 0)) none) (cond (Nat.beq pc 42) (some (.iload_n 1, 1, 1, 0, 0)) none)) (cond (Nat.blt pc 46) (cond (Nat.beq pc 43) (some (.ifCond .eq 8, 3, 51, 0, 0)) none) (cond (Nat.beq pc 46) (some (.iload_n 2, 1, 2, 0, 0)) none))) (cond (Nat.blt pc 51) (cond (Nat.blt pc 48) (cond (Nat.beq pc 47) (some (.ineg, 1, 0, 0, 0)) none) (cond (Nat.beq pc 48) (some (.goto 4, 3, 52, 0, 0)) none)) (cond (Nat.blt pc 52) (cond (Nat.beq pc 51) (some (.iload_n 2, 1, 2, 0, 0)) none) (cond (Nat.beq pc 52) (some (.ireturn, 1, 0, 0, 0)) none)))))
def tb_80 (pc : Nat) : Option mm_E := cond (Nat.blt pc 53) (tt_80 pc) none
def tt_81 (pc : Nat) : Option mm_E := cond (Nat.blt pc 31) (cond (Nat.blt pc 18) (cond (Nat.blt pc 8) (cond (Nat.blt pc 4) (cond (Nat.blt pc 1) (cond (Nat.beq pc 0) (some (.aload_n 0, 1, 0, 0, 0)) none) (cond (Nat.beq pc 1) (some (.getfield 22, 3, 8, 1, 0)) none)) (cond (Nat.blt pc 5) (cond (Nat.beq pc 4) (some (.aload_n 0, 1, 0, 0, 0)) none) (cond (Nat.beq pc 5) (some (.getfield 36, 3, 8, 5, 0)) none))) (cond (Nat.blt pc 12) (cond (Nat.blt pc 11) (cond (Nat.beq pc 8) (some (.invokevirtual 43, 3, 50, 1, 0)) none) (cond (Nat.beq pc 11) (some (.istore_n 2, 1, 2, 0, 0)) none)) (cond (Nat.blt pc 13) (cond (Nat.beq pc 12) (some (.iload_n 2, 1, 2, 0, 0)) none) (cond (Nat.blt pc 15) (cond (Nat.beq pc 13) (some (.bipush 40, 2, 0, 0, 40)) none) (cond (Nat.beq pc 15) (some (.if_icmp .ne 15, 3, 30, 0, 0)) none))))) (cond (Nat.blt pc 22) (cond (Nat.blt pc 20) (cond (Nat.blt pc 19) (cond (Nat.beq pc 18) (some (.aload_n 0, 1, 0, 0, 0)) none) (cond (Nat.beq pc 19) (some (.aload_n 0, 1, 0, 0, 0)) none)) (cond (Nat.blt pc 21) (cond (Nat.beq pc 20) (some (.iload_n 1, 1, 1, 0, 0)) none) (cond (Nat.beq pc 21) (some (.iconst 1, 1, 0, 0, 1)) none))) (cond (Nat.blt pc 26) (cond (Nat.blt pc 23) (cond (Nat.beq pc 22) (some (.iadd, 1, 0, 0, 0)) none) (cond (Nat.beq pc 23) (some (.invokevirtual 39, 3, 77, 1, 0)) none)) (cond (Nat.blt pc 29) (cond (Nat.beq pc 26) (some (.invokevirtual 90, 3, 82, 1, 0)) none) (cond (Nat.blt pc 30) (cond (Nat.beq pc 29) (some (.ireturn, 1, 0, 0, 0)) none) (cond (Nat.beq pc 30) (some (.aload_n 0, 1, 0, 0, 0)) none)))))) (cond (Nat.blt pc 47) (cond (Nat.blt pc 37) (cond (Nat.blt pc 35) (cond (Nat.blt pc 32) (cond (Nat.beq pc 31) (some (.dup, 1, 0, 0, 0)) none) (cond (Nat.beq pc 32) (some (.getfield 36, 3, 8, 5, 0)) none)) (cond (Nat.blt pc 36) (cond (Nat.beq pc 35) (some (.iconst 1, 1, 0, 0, 1)) none) (cond (Nat.beq pc 36) (some (.iadd, 1, 0, 0, 0)) none))) (cond (Nat.blt pc 41) (cond (Nat.blt pc 40) (cond (Nat.beq pc 37) (some (.putfield 36, 3, 8, 5, 0)) none) (cond (Nat.beq pc 40) (some (.iload_n 2, 1, 2, 0, 0)) none)) (cond (Nat.blt pc 43) (cond (Nat.beq pc 41) (some (.bipush 64, 2, 0, 0, 64)) none) (cond (Nat.blt pc 46) (cond (Nat.beq pc 43) (some (.if_icmp .ne 18, 3, 61, 0, 0)) none) (cond (Nat.beq pc 46) (some (.aload_n 0, 1, 0, 0, 0)) none))))) (cond (Nat.blt pc 56) (cond (Nat.blt pc 51) (cond (Nat.blt pc 48) (cond (Nat.beq pc 47) (some (.aload_n 0, 1, 0, 0, 0)) none) (cond (Nat.beq pc 48) (some (.getfield 9, 3, 8, 2, 0)) none)) (cond (Nat.blt pc 52) (cond (Nat.beq pc 51) (some (.aload_n 0, 1, 0, 0, 0)) none) (cond (Nat.blt pc 53) (cond (Nat.beq pc 52) (some (.iconst 2, 1, 0, 0, 2)) none) (cond (Nat.beq pc 53) (some (.invokevirtual 70, 3, 83, 1, 0)) none)))) (cond (Nat.blt pc 60) (cond (Nat.blt pc 57) (cond (Nat.beq pc 56) (some (.iaload, 1, 0, 0, 0)) none) (cond (Nat.beq pc 57) (some (.invokevirtual 90, 3, 82, 1, 0)) none)) (cond (Nat.blt pc 61) (cond (Nat.beq pc 60) (some (.ireturn, 1, 0, 0, 0)) none) (cond (Nat.blt pc 62) (cond (Nat.beq pc 61) (some (.iconst (-1), 1, 0, 0, (-1))) none) (cond (Nat.beq pc 62) (some (.ireturn, 1, 0, 0, 0)) none))))))
def tb_81 (pc : Nat) : Option mm_E := cond (Nat.blt pc 63) (tt_81 pc) none
def tt_82 (pc : Nat) : Option mm_E := cond (Nat.blt pc 5) (cond (Nat.blt pc 1) (cond (Nat.beq pc 0) (some (.iload_n 1, 1, 1, 0, 0)) none) (cond (Nat.blt pc 2) (cond (Nat.beq pc 1) (some (.iconst (-1), 1, 0, 0, (-1))) none) (cond (Nat.beq pc 2) (some (.if_icmp .ne 8, 3, 10, 0, 0)) none))) (cond (Nat.blt pc 10) (cond (Nat.blt pc 7) (cond (Nat.beq pc 5) (some (.bipush (-2), 2, 0, 0, (-2))) none) (cond (Nat.beq pc 7) (some (.goto 4, 3, 11, 0, 0)) none)) (cond (Nat.blt pc 11) (cond (Nat.beq pc 10) (some (.iload_n 1, 1, 1, 0, 0)) none) (cond (Nat.beq pc 11) (some (.ireturn, 1, 0, 0, 0)) none)))
def tb_82 (pc : Nat) : Option mm_E := cond (Nat.blt pc 12) (tt_82 pc) none
def tt_83 (pc : Nat) : Option mm_E := cond (Nat.blt pc 31) (cond (Nat.blt pc 13) (cond (Nat.blt pc 4) (cond (Nat.blt pc 2) (cond (Nat.blt pc 1) (cond (Nat.beq pc 0) (some (.iconst 0, 1, 0, 0, 0)) none) (cond (Nat.beq pc 1) (some (.istore_n 2, 1, 2, 0, 0)) none)) (cond (Nat.blt pc 3) (cond (Nat.beq pc 2) (some (.iconst 0, 1, 0, 0, 0)) none) (cond (Nat.beq pc 3) (some (.istore_n 3, 1, 3, 0, 0)) none))) (cond (Nat.blt pc 6) (cond (Nat.blt pc 5) (cond (Nat.beq pc 4) (some (.iload_n 3, 1, 3, 0, 0)) none) (cond (Nat.beq pc 5) (some (.iload_n 1, 1, 1, 0, 0)) none)) (cond (Nat.blt pc 9) (cond (Nat.beq pc 6) (some (.if_icmp .ge 56, 3, 62, 0, 0)) none) (cond (Nat.blt pc 10) (cond (Nat.beq pc 9) (some (.aload_n 0, 1, 0, 0, 0)) none) (cond (Nat.beq pc 10) (some (.getfield 22, 3, 8, 1, 0)) none))))) (cond (Nat.blt pc 23) (cond (Nat.blt pc 17) (cond (Nat.blt pc 14) (cond (Nat.beq pc 13) (some (.aload_n 0, 1, 0, 0, 0)) none) (cond (Nat.beq pc 14) (some (.getfield 36, 3, 8, 5, 0)) none)) (cond (Nat.blt pc 20) (cond (Nat.beq pc 17) (some (.invokevirtual 43, 3, 50, 1, 0)) none) (cond (Nat.beq pc 20) (some (.invokestatic 93, 3, 70, 1, 0)) none))) (cond (Nat.blt pc 27) (cond (Nat.blt pc 26) (cond (Nat.beq pc 23) (some (.ifCond .eq 39, 3, 62, 0, 0)) none) (cond (Nat.beq pc 26) (some (.iload_n 2, 1, 2, 0, 0)) none)) (cond (Nat.blt pc 29) (cond (Nat.beq pc 27) (some (.bipush 10, 2, 0, 0, 10)) none) (cond (Nat.blt pc 30) (cond (Nat.beq pc 29) (some (.imul, 1, 0, 0, 0)) none) (cond (Nat.beq pc 30) (some (.aload_n 0, 1, 0, 0, 0)) none)))))) (cond (Nat.blt pc 47) (cond (Nat.blt pc 41) (cond (Nat.blt pc 35) (cond (Nat.blt pc 34) (cond (Nat.beq pc 31) (some (.getfield 22, 3, 8, 1, 0)) none) (cond (Nat.beq pc 34) (some (.aload_n 0, 1, 0, 0, 0)) none)) (cond (Nat.blt pc 38) (cond (Nat.beq pc 35) (some (.getfield 36, 3, 8, 5, 0)) none) (cond (Nat.beq pc 38) (some (.invokevirtual 43, 3, 50, 1, 0)) none))) (cond (Nat.blt pc 44) (cond (Nat.blt pc 42) (cond (Nat.beq pc 41) (some (.iadd, 1, 0, 0, 0)) none) (cond (Nat.beq pc 42) (some (.bipush 48, 2, 0, 0, 48)) none)) (cond (Nat.blt pc 45) (cond (Nat.beq pc 44) (some (.isub, 1, 0, 0, 0)) none) (cond (Nat.blt pc 46) (cond (Nat.beq pc 45) (some (.istore_n 2, 1, 2, 0, 0)) none) (cond (Nat.beq pc 46) (some (.aload_n 0, 1, 0, 0, 0)) none))))) (cond (Nat.blt pc 53) (cond (Nat.blt pc 51) (cond (Nat.blt pc 48) (cond (Nat.beq pc 47) (some (.dup, 1, 0, 0, 0)) none) (cond (Nat.beq pc 48) (some (.getfield 36, 3, 8, 5, 0)) none)) (cond (Nat.blt pc 52) (cond (Nat.beq pc 51) (some (.iconst 1, 1, 0, 0, 1)) none) (cond (Nat.beq pc 52) (some (.iadd, 1, 0, 0, 0)) none))) (cond (Nat.blt pc 59) (cond (Nat.blt pc 56) (cond (Nat.beq pc 53) (some (.putfield 36, 3, 8, 5, 0)) none) (cond (Nat.beq pc 56) (some (.iinc 3 1, 3, 3, 0, 1)) none)) (cond (Nat.blt pc 62) (cond (Nat.beq pc 59) (some (.goto (-55), 3, 4, 0, 0)) none) (cond (Nat.blt pc 63) (cond (Nat.beq pc 62) (some (.iload_n 2, 1, 2, 0, 0)) none) (cond (Nat.beq pc 63) (some (.ireturn, 1, 0, 0, 0)) none))))))
def tb_83 (pc : Nat) : Option mm_E := cond (Nat.blt pc 64) (tt_83 pc) none
def tt_84 (pc : Nat) : Option mm_E := cond (Nat.blt pc 83) (cond (Nat.blt pc 38) (cond (Nat.blt pc 18) (cond (Nat.blt pc 8) (cond (Nat.blt pc 4) (cond (Nat.blt pc 1) (cond (Nat.beq pc 0) (some (.aload_n 0, 1, 0, 0, 0)) none) (cond (Nat.beq pc 1) (some (.invokespecial 1, 3, 0, 0, 0)) none)) (cond (Nat.blt pc 5) (cond (Nat.beq pc 4) (some (.aload_n 0, 1, 0, 0, 0)) none) (cond (Nat.blt pc 6) (cond (Nat.beq pc 5) (some (.iconst 4, 1, 0, 0, 4)) none) (cond (Nat.beq pc 6) (some (.newarray .boolean, 2, 0, 0, 0)) none)))) (cond (Nat.blt pc 12) (cond (Nat.blt pc 11) (cond (Nat.beq pc 8) (some (.putfield 7, 3, 9, 0, 3)) none) (cond (Nat.beq pc 11) (some (.aload_n 0, 1, 0, 0, 0)) none)) (cond (Nat.blt pc 13) (cond (Nat.beq pc 12) (some (.iconst 4, 1, 0, 0, 4)) none) (cond (Nat.blt pc 15) (cond (Nat.beq pc 13) (some (.newarray .int, 2, 0, 0, 0)) none) (cond (Nat.beq pc 15) (some (.putfield 13, 3, 9, 1, 3)) none))))) (cond (Nat.blt pc 26) (cond (Nat.blt pc 20) (cond (Nat.blt pc 19) (cond (Nat.beq pc 18) (some (.aload_n 0, 1, 0, 0, 0)) none) (cond (Nat.beq pc 19) (some (.iconst 4, 1, 0, 0, 4)) none)) (cond (Nat.blt pc 22) (cond (Nat.beq pc 20) (some (.newarray .int, 2, 0, 0, 0)) none) (cond (Nat.blt pc 25) (cond (Nat.beq pc 22) (some (.putfield 17, 3, 9, 2, 3)) none) (cond (Nat.beq pc 25) (some (.aload_n 0, 1, 0, 0, 0)) none)))) (cond (Nat.blt pc 33) (cond (Nat.blt pc 28) (cond (Nat.beq pc 26) (some (.bipush 12, 2, 0, 0, 12)) none) (cond (Nat.blt pc 30) (cond (Nat.beq pc 28) (some (.newarray .int, 2, 0, 0, 0)) none) (cond (Nat.beq pc 30) (some (.putfield 20, 3, 9, 3, 3)) none))) (cond (Nat.blt pc 34) (cond (Nat.beq pc 33) (some (.aload_n 0, 1, 0, 0, 0)) none) (cond (Nat.blt pc 36) (cond (Nat.beq pc 34) (some (.bipush 12, 2, 0, 0, 12)) none) (cond (Nat.beq pc 36) (some (.newarray .int, 2, 0, 0, 0)) none)))))) (cond (Nat.blt pc 60) (cond (Nat.blt pc 49) (cond (Nat.blt pc 42) (cond (Nat.blt pc 41) (cond (Nat.beq pc 38) (some (.putfield 23, 3, 9, 4, 3)) none) (cond (Nat.beq pc 41) (some (.aload_n 0, 1, 0, 0, 0)) none)) (cond (Nat.blt pc 44) (cond (Nat.beq pc 42) (some (.bipush 12, 2, 0, 0, 12)) none) (cond (Nat.blt pc 46) (cond (Nat.beq pc 44) (some (.newarray .int, 2, 0, 0, 0)) none) (cond (Nat.beq pc 46) (some (.putfield 26, 3, 9, 5, 3)) none)))) (cond (Nat.blt pc 54) (cond (Nat.blt pc 50) (cond (Nat.beq pc 49) (some (.aload_n 0, 1, 0, 0, 0)) none) (cond (Nat.blt pc 52) (cond (Nat.beq pc 50) (some (.bipush 24, 2, 0, 0, 24)) none) (cond (Nat.beq pc 52) (some (.newarray .int, 2, 0, 0, 0)) none))) (cond (Nat.blt pc 57) (cond (Nat.beq pc 54) (some (.putfield 29, 3, 9, 7, 3)) none) (cond (Nat.blt pc 58) (cond (Nat.beq pc 57) (some (.aload_n 0, 1, 0, 0, 0)) none) (cond (Nat.beq pc 58) (some (.bipush 72, 2, 0, 0, 72)) none))))) (cond (Nat.blt pc 70) (cond (Nat.blt pc 65) (cond (Nat.blt pc 62) (cond (Nat.beq pc 60) (some (.newarray .int, 2, 0, 0, 0)) none) (cond (Nat.beq pc 62) (some (.putfield 32, 3, 9, 8, 3)) none)) (cond (Nat.blt pc 66) (cond (Nat.beq pc 65) (some (.aload_n 0, 1, 0, 0, 0)) none) (cond (Nat.blt pc 68) (cond (Nat.beq pc 66) (some (.bipush 48, 2, 0, 0, 48)) none) (cond (Nat.beq pc 68) (some (.newarray .int, 2, 0, 0, 0)) none)))) (cond (Nat.blt pc 77) (cond (Nat.blt pc 73) (cond (Nat.beq pc 70) (some (.putfield 35, 3, 9, 9, 3)) none) (cond (Nat.blt pc 74) (cond (Nat.beq pc 73) (some (.aload_n 0, 1, 0, 0, 0)) none) (cond (Nat.beq pc 74) (some (.sipush 300, 3, 0, 0, 300)) none))) (cond (Nat.blt pc 79) (cond (Nat.beq pc 77) (some (.newarray .int, 2, 0, 0, 0)) none) (cond (Nat.blt pc 82) (cond (Nat.beq pc 79) (some (.putfield 38, 3, 9, 10, 3)) none) (cond (Nat.beq pc 82) (some (.aload_n 0, 1, 0, 0, 0)) none))))))) (cond (Nat.blt pc 128) (cond (Nat.blt pc 107) (cond (Nat.blt pc 94) (cond (Nat.blt pc 88) (cond (Nat.blt pc 86) (cond (Nat.beq pc 83) (some (.sipush 300, 3, 0, 0, 300)) none) (cond (Nat.beq pc 86) (some (.newarray .int, 2, 0, 0, 0)) none)) (cond (Nat.blt pc 91) (cond (Nat.beq pc 88) (some (.putfield 41, 3, 9, 12, 3)) none) (cond (Nat.blt pc 92) (cond (Nat.beq pc 91) (some (.aload_n 0, 1, 0, 0, 0)) none) (cond (Nat.beq pc 92) (some (.bipush 24, 2, 0, 0, 24)) none)))) (cond (Nat.blt pc 100) (cond (Nat.blt pc 96) (cond (Nat.beq pc 94) (some (.newarray .boolean, 2, 0, 0, 0)) none) (cond (Nat.blt pc 99) (cond (Nat.beq pc 96) (some (.putfield 44, 3, 9, 14, 3)) none) (cond (Nat.beq pc 99) (some (.aload_n 0, 1, 0, 0, 0)) none))) (cond (Nat.blt pc 102) (cond (Nat.beq pc 100) (some (.bipush 24, 2, 0, 0, 24)) none) (cond (Nat.blt pc 104) (cond (Nat.beq pc 102) (some (.newarray .int, 2, 0, 0, 0)) none) (cond (Nat.beq pc 104) (some (.putfield 47, 3, 9, 15, 3)) none))))) (cond (Nat.blt pc 116) (cond (Nat.blt pc 110) (cond (Nat.blt pc 108) (cond (Nat.beq pc 107) (some (.aload_n 0, 1, 0, 0, 0)) none) (cond (Nat.beq pc 108) (some (.bipush 24, 2, 0, 0, 24)) none)) (cond (Nat.blt pc 112) (cond (Nat.beq pc 110) (some (.newarray .int, 2, 0, 0, 0)) none) (cond (Nat.blt pc 115) (cond (Nat.beq pc 112) (some (.putfield 50, 3, 9, 16, 3)) none) (cond (Nat.beq pc 115) (some (.aload_n 0, 1, 0, 0, 0)) none)))) (cond (Nat.blt pc 123) (cond (Nat.blt pc 118) (cond (Nat.beq pc 116) (some (.bipush 24, 2, 0, 0, 24)) none) (cond (Nat.blt pc 120) (cond (Nat.beq pc 118) (some (.newarray .int, 2, 0, 0, 0)) none) (cond (Nat.beq pc 120) (some (.putfield 53, 3, 9, 17, 3)) none))) (cond (Nat.blt pc 124) (cond (Nat.beq pc 123) (some (.aload_n 0, 1, 0, 0, 0)) none) (cond (Nat.blt pc 126) (cond (Nat.beq pc 124) (some (.bipush 24, 2, 0, 0, 24)) none) (cond (Nat.beq pc 126) (some (.newarray .boolean, 2, 0, 0, 0)) none)))))) (cond (Nat.blt pc 150) (cond (Nat.blt pc 139) (cond (Nat.blt pc 132) (cond (Nat.blt pc 131) (cond (Nat.beq pc 128) (some (.putfield 56, 3, 9, 18, 3)) none) (cond (Nat.beq pc 131) (some (.aload_n 0, 1, 0, 0, 0)) none)) (cond (Nat.blt pc 134) (cond (Nat.beq pc 132) (some (.bipush 25, 2, 0, 0, 25)) none) (cond (Nat.blt pc 136) (cond (Nat.beq pc 134) (some (.newarray .int, 2, 0, 0, 0)) none) (cond (Nat.beq pc 136) (some (.putfield 59, 3, 9, 21, 3)) none)))) (cond (Nat.blt pc 144) (cond (Nat.blt pc 140) (cond (Nat.beq pc 139) (some (.aload_n 0, 1, 0, 0, 0)) none) (cond (Nat.blt pc 142) (cond (Nat.beq pc 140) (some (.bipush 25, 2, 0, 0, 25)) none) (cond (Nat.beq pc 142) (some (.newarray .int, 2, 0, 0, 0)) none))) (cond (Nat.blt pc 147) (cond (Nat.beq pc 144) (some (.putfield 62, 3, 9, 22, 3)) none) (cond (Nat.blt pc 148) (cond (Nat.beq pc 147) (some (.aload_n 0, 1, 0, 0, 0)) none) (cond (Nat.beq pc 148) (some (.bipush 25, 2, 0, 0, 25)) none))))) (cond (Nat.blt pc 160) (cond (Nat.blt pc 155) (cond (Nat.blt pc 152) (cond (Nat.beq pc 150) (some (.newarray .int, 2, 0, 0, 0)) none) (cond (Nat.beq pc 152) (some (.putfield 65, 3, 9, 23, 3)) none)) (cond (Nat.blt pc 156) (cond (Nat.beq pc 155) (some (.aload_n 0, 1, 0, 0, 0)) none) (cond (Nat.blt pc 158) (cond (Nat.beq pc 156) (some (.bipush 100, 2, 0, 0, 100)) none) (cond (Nat.beq pc 158) (some (.newarray .int, 2, 0, 0, 0)) none)))) (cond (Nat.blt pc 167) (cond (Nat.blt pc 163) (cond (Nat.beq pc 160) (some (.putfield 68, 3, 9, 33, 3)) none) (cond (Nat.blt pc 164) (cond (Nat.beq pc 163) (some (.aload_n 0, 1, 0, 0, 0)) none) (cond (Nat.beq pc 164) (some (.sipush 300, 3, 0, 0, 300)) none))) (cond (Nat.blt pc 169) (cond (Nat.beq pc 167) (some (.newarray .int, 2, 0, 0, 0)) none) (cond (Nat.blt pc 172) (cond (Nat.beq pc 169) (some (.putfield 71, 3, 9, 35, 3)) none) (cond (Nat.beq pc 172) (some (.return_, 1, 0, 0, 0)) none)))))))
def tb_84 (pc : Nat) : Option mm_E := cond (Nat.blt pc 173) (tt_84 pc) none
def tt_85 (pc : Nat) : Option mm_E := cond (Nat.blt pc 13) (cond (Nat.blt pc 5) (cond (Nat.blt pc 1) (cond (Nat.beq pc 0) (some (.iload_n 1, 1, 1, 0, 0)) none) (cond (Nat.blt pc 4) (cond (Nat.beq pc 1) (some (.ifCond .lt 21, 3, 22, 0, 0)) none) (cond (Nat.beq pc 4) (some (.iload_n 1, 1, 1, 0, 0)) none))) (cond (Nat.blt pc 9) (cond (Nat.blt pc 6) (cond (Nat.beq pc 5) (some (.iconst 3, 1, 0, 0, 3)) none) (cond (Nat.beq pc 6) (some (.if_icmp .gt 16, 3, 22, 0, 0)) none)) (cond (Nat.blt pc 10) (cond (Nat.beq pc 9) (some (.aload_n 0, 1, 0, 0, 0)) none) (cond (Nat.beq pc 10) (some (.getfield 7, 3, 9, 0, 0)) none)))) (cond (Nat.blt pc 18) (cond (Nat.blt pc 14) (cond (Nat.beq pc 13) (some (.iload_n 1, 1, 1, 0, 0)) none) (cond (Nat.blt pc 15) (cond (Nat.beq pc 14) (some (.baload, 1, 0, 0, 0)) none) (cond (Nat.beq pc 15) (some (.ifCond .eq 7, 3, 22, 0, 0)) none))) (cond (Nat.blt pc 22) (cond (Nat.blt pc 19) (cond (Nat.beq pc 18) (some (.iconst 1, 1, 0, 0, 1)) none) (cond (Nat.beq pc 19) (some (.goto 4, 3, 23, 0, 0)) none)) (cond (Nat.blt pc 23) (cond (Nat.beq pc 22) (some (.iconst 0, 1, 0, 0, 0)) none) (cond (Nat.beq pc 23) (some (.ireturn, 1, 0, 0, 0)) none))))
def tb_85 (pc : Nat) : Option mm_E := cond (Nat.blt pc 24) (tt_85 pc) none
def tt_86 (pc : Nat) : Option mm_E := cond (Nat.blt pc 53) (cond (Nat.blt pc 28) (cond (Nat.blt pc 14) (cond (Nat.blt pc 6) (cond (Nat.blt pc 4) (cond (Nat.blt pc 1) (cond (Nat.beq pc 0) (some (.iload_n 1, 1, 1, 0, 0)) none) (cond (Nat.beq pc 1) (some (.ifCond .lt 35, 3, 36, 0, 0)) none)) (cond (Nat.blt pc 5) (cond (Nat.beq pc 4) (some (.iload_n 1, 1, 1, 0, 0)) none) (cond (Nat.beq pc 5) (some (.iconst 3, 1, 0, 0, 3)) none))) (cond (Nat.blt pc 10) (cond (Nat.blt pc 9) (cond (Nat.beq pc 6) (some (.if_icmp .gt 30, 3, 36, 0, 0)) none) (cond (Nat.beq pc 9) (some (.aload_n 0, 1, 0, 0, 0)) none)) (cond (Nat.blt pc 13) (cond (Nat.beq pc 10) (some (.getfield 7, 3, 9, 0, 0)) none) (cond (Nat.beq pc 13) (some (.iload_n 1, 1, 1, 0, 0)) none)))) (cond (Nat.blt pc 22) (cond (Nat.blt pc 18) (cond (Nat.blt pc 15) (cond (Nat.beq pc 14) (some (.baload, 1, 0, 0, 0)) none) (cond (Nat.beq pc 15) (some (.ifCond .ne 21, 3, 36, 0, 0)) none)) (cond (Nat.blt pc 19) (cond (Nat.beq pc 18) (some (.iload_n 2, 1, 2, 0, 0)) none) (cond (Nat.beq pc 19) (some (.ifCond .lt 17, 3, 36, 0, 0)) none))) (cond (Nat.blt pc 24) (cond (Nat.blt pc 23) (cond (Nat.beq pc 22) (some (.iload_n 2, 1, 2, 0, 0)) none) (cond (Nat.beq pc 23) (some (.iconst 3, 1, 0, 0, 3)) none)) (cond (Nat.blt pc 27) (cond (Nat.beq pc 24) (some (.if_icmp .gt 12, 3, 36, 0, 0)) none) (cond (Nat.beq pc 27) (some (.iload_n 3, 1, 3, 0, 0)) none))))) (cond (Nat.blt pc 42) (cond (Nat.blt pc 36) (cond (Nat.blt pc 32) (cond (Nat.blt pc 31) (cond (Nat.beq pc 28) (some (.ifCond .lt 8, 3, 36, 0, 0)) none) (cond (Nat.beq pc 31) (some (.iload_n 3, 1, 3, 0, 0)) none)) (cond (Nat.blt pc 33) (cond (Nat.beq pc 32) (some (.iconst 2, 1, 0, 0, 2)) none) (cond (Nat.beq pc 33) (some (.if_icmp .le 5, 3, 38, 0, 0)) none))) (cond (Nat.blt pc 38) (cond (Nat.blt pc 37) (cond (Nat.beq pc 36) (some (.iconst 0, 1, 0, 0, 0)) none) (cond (Nat.beq pc 37) (some (.ireturn, 1, 0, 0, 0)) none)) (cond (Nat.blt pc 39) (cond (Nat.beq pc 38) (some (.aload_n 0, 1, 0, 0, 0)) none) (cond (Nat.beq pc 39) (some (.getfield 7, 3, 9, 0, 0)) none)))) (cond (Nat.blt pc 46) (cond (Nat.blt pc 44) (cond (Nat.blt pc 43) (cond (Nat.beq pc 42) (some (.iload_n 1, 1, 1, 0, 0)) none) (cond (Nat.beq pc 43) (some (.iconst 1, 1, 0, 0, 1)) none)) (cond (Nat.blt pc 45) (cond (Nat.beq pc 44) (some (.bastore, 1, 0, 0, 0)) none) (cond (Nat.beq pc 45) (some (.aload_n 0, 1, 0, 0, 0)) none))) (cond (Nat.blt pc 50) (cond (Nat.blt pc 49) (cond (Nat.beq pc 46) (some (.getfield 13, 3, 9, 1, 0)) none) (cond (Nat.beq pc 49) (some (.iload_n 1, 1, 1, 0, 0)) none)) (cond (Nat.blt pc 51) (cond (Nat.beq pc 50) (some (.iload_n 2, 1, 2, 0, 0)) none) (cond (Nat.blt pc 52) (cond (Nat.beq pc 51) (some (.iastore, 1, 0, 0, 0)) none) (cond (Nat.beq pc 52) (some (.aload_n 0, 1, 0, 0, 0)) none))))))) (cond (Nat.blt pc 78) (cond (Nat.blt pc 64) (cond (Nat.blt pc 59) (cond (Nat.blt pc 57) (cond (Nat.blt pc 56) (cond (Nat.beq pc 53) (some (.getfield 17, 3, 9, 2, 0)) none) (cond (Nat.beq pc 56) (some (.iload_n 1, 1, 1, 0, 0)) none)) (cond (Nat.blt pc 58) (cond (Nat.beq pc 57) (some (.iload_n 3, 1, 3, 0, 0)) none) (cond (Nat.beq pc 58) (some (.iastore, 1, 0, 0, 0)) none))) (cond (Nat.blt pc 61) (cond (Nat.blt pc 60) (cond (Nat.beq pc 59) (some (.iconst 3, 1, 0, 0, 3)) none) (cond (Nat.beq pc 60) (some (.iload_n 1, 1, 1, 0, 0)) none)) (cond (Nat.blt pc 62) (cond (Nat.beq pc 61) (some (.imul, 1, 0, 0, 0)) none) (cond (Nat.beq pc 62) (some (.istore 4, 2, 4, 0, 0)) none)))) (cond (Nat.blt pc 69) (cond (Nat.blt pc 67) (cond (Nat.blt pc 66) (cond (Nat.beq pc 64) (some (.iload 4, 2, 4, 0, 0)) none) (cond (Nat.beq pc 66) (some (.iconst 3, 1, 0, 0, 3)) none)) (cond (Nat.blt pc 68) (cond (Nat.beq pc 67) (some (.iload_n 1, 1, 1, 0, 0)) none) (cond (Nat.beq pc 68) (some (.imul, 1, 0, 0, 0)) none))) (cond (Nat.blt pc 71) (cond (Nat.blt pc 70) (cond (Nat.beq pc 69) (some (.iconst 3, 1, 0, 0, 3)) none) (cond (Nat.beq pc 70) (some (.iadd, 1, 0, 0, 0)) none)) (cond (Nat.blt pc 74) (cond (Nat.beq pc 71) (some (.if_icmp .ge 37, 3, 108, 0, 0)) none) (cond (Nat.blt pc 75) (cond (Nat.beq pc 74) (some (.aload_n 0, 1, 0, 0, 0)) none) (cond (Nat.beq pc 75) (some (.getfield 20, 3, 9, 3, 0)) none)))))) (cond (Nat.blt pc 92) (cond (Nat.blt pc 83) (cond (Nat.blt pc 81) (cond (Nat.blt pc 80) (cond (Nat.beq pc 78) (some (.iload 4, 2, 4, 0, 0)) none) (cond (Nat.beq pc 80) (some (.iconst 0, 1, 0, 0, 0)) none)) (cond (Nat.blt pc 82) (cond (Nat.beq pc 81) (some (.iastore, 1, 0, 0, 0)) none) (cond (Nat.beq pc 82) (some (.aload_n 0, 1, 0, 0, 0)) none))) (cond (Nat.blt pc 88) (cond (Nat.blt pc 86) (cond (Nat.beq pc 83) (some (.getfield 23, 3, 9, 4, 0)) none) (cond (Nat.beq pc 86) (some (.iload 4, 2, 4, 0, 0)) none)) (cond (Nat.blt pc 91) (cond (Nat.beq pc 88) (some (.sipush (-1000), 3, 0, 0, (-1000))) none) (cond (Nat.beq pc 91) (some (.iastore, 1, 0, 0, 0)) none)))) (cond (Nat.blt pc 101) (cond (Nat.blt pc 96) (cond (Nat.blt pc 93) (cond (Nat.beq pc 92) (some (.aload_n 0, 1, 0, 0, 0)) none) (cond (Nat.beq pc 93) (some (.getfield 26, 3, 9, 5, 0)) none)) (cond (Nat.blt pc 98) (cond (Nat.beq pc 96) (some (.iload 4, 2, 4, 0, 0)) none) (cond (Nat.beq pc 98) (some (.sipush 1000, 3, 0, 0, 1000)) none))) (cond (Nat.blt pc 105) (cond (Nat.blt pc 102) (cond (Nat.beq pc 101) (some (.iastore, 1, 0, 0, 0)) none) (cond (Nat.beq pc 102) (some (.iinc 4 1, 3, 4, 0, 1)) none)) (cond (Nat.blt pc 108) (cond (Nat.beq pc 105) (some (.goto (-41), 3, 64, 0, 0)) none) (cond (Nat.blt pc 109) (cond (Nat.beq pc 108) (some (.iconst 1, 1, 0, 0, 1)) none) (cond (Nat.beq pc 109) (some (.ireturn, 1, 0, 0, 0)) none)))))))
def tb_86 (pc : Nat) : Option mm_E := cond (Nat.blt pc 110) (tt_86 pc) none
def tt_87 (pc : Nat) : Option mm_E := cond (Nat.blt pc 51) (cond (Nat.blt pc 24) (cond (Nat.blt pc 12) (cond (Nat.blt pc 5) (cond (Nat.blt pc 1) (cond (Nat.beq pc 0) (some (.aload_n 0, 1, 0, 0, 0)) none) (cond (Nat.blt pc 2) (cond (Nat.beq pc 1) (some (.iload_n 1, 1, 1, 0, 0)) none) (cond (Nat.beq pc 2) (some (.invokevirtual 74, 3, 85, 1, 0)) none))) (cond (Nat.blt pc 8) (cond (Nat.beq pc 5) (some (.ifCond .eq 43, 3, 48, 0, 0)) none) (cond (Nat.blt pc 9) (cond (Nat.beq pc 8) (some (.iload_n 2, 1, 2, 0, 0)) none) (cond (Nat.beq pc 9) (some (.ifCond .lt 39, 3, 48, 0, 0)) none)))) (cond (Nat.blt pc 17) (cond (Nat.blt pc 13) (cond (Nat.beq pc 12) (some (.iload_n 2, 1, 2, 0, 0)) none) (cond (Nat.blt pc 14) (cond (Nat.beq pc 13) (some (.aload_n 0, 1, 0, 0, 0)) none) (cond (Nat.beq pc 14) (some (.getfield 13, 3, 9, 1, 0)) none))) (cond (Nat.blt pc 19) (cond (Nat.blt pc 18) (cond (Nat.beq pc 17) (some (.iload_n 1, 1, 1, 0, 0)) none) (cond (Nat.beq pc 18) (some (.iaload, 1, 0, 0, 0)) none)) (cond (Nat.blt pc 22) (cond (Nat.beq pc 19) (some (.if_icmp .ge 29, 3, 48, 0, 0)) none) (cond (Nat.beq pc 22) (some (.iload 4, 2, 4, 0, 0)) none))))) (cond (Nat.blt pc 39) (cond (Nat.blt pc 31) (cond (Nat.blt pc 26) (cond (Nat.beq pc 24) (some (.ldc 78, 2, 0, 0, (-99999))) none) (cond (Nat.blt pc 29) (cond (Nat.beq pc 26) (some (.if_icmp .lt 22, 3, 48, 0, 0)) none) (cond (Nat.beq pc 29) (some (.iload 5, 2, 5, 0, 0)) none))) (cond (Nat.blt pc 36) (cond (Nat.blt pc 33) (cond (Nat.beq pc 31) (some (.ldc 79, 2, 0, 0, 99999)) none) (cond (Nat.beq pc 33) (some (.if_icmp .gt 15, 3, 48, 0, 0)) none)) (cond (Nat.blt pc 38) (cond (Nat.beq pc 36) (some (.iload 4, 2, 4, 0, 0)) none) (cond (Nat.beq pc 38) (some (.iload_n 3, 1, 3, 0, 0)) none)))) (cond (Nat.blt pc 45) (cond (Nat.blt pc 42) (cond (Nat.beq pc 39) (some (.if_icmp .gt 9, 3, 48, 0, 0)) none) (cond (Nat.blt pc 43) (cond (Nat.beq pc 42) (some (.iload_n 3, 1, 3, 0, 0)) none) (cond (Nat.beq pc 43) (some (.iload 5, 2, 5, 0, 0)) none))) (cond (Nat.blt pc 49) (cond (Nat.blt pc 48) (cond (Nat.beq pc 45) (some (.if_icmp .le 5, 3, 50, 0, 0)) none) (cond (Nat.beq pc 48) (some (.iconst 0, 1, 0, 0, 0)) none)) (cond (Nat.blt pc 50) (cond (Nat.beq pc 49) (some (.ireturn, 1, 0, 0, 0)) none) (cond (Nat.beq pc 50) (some (.aload_n 0, 1, 0, 0, 0)) none)))))) (cond (Nat.blt pc 69) (cond (Nat.blt pc 60) (cond (Nat.blt pc 56) (cond (Nat.blt pc 54) (cond (Nat.beq pc 51) (some (.getfield 20, 3, 9, 3, 0)) none) (cond (Nat.blt pc 55) (cond (Nat.beq pc 54) (some (.iconst 3, 1, 0, 0, 3)) none) (cond (Nat.beq pc 55) (some (.iload_n 1, 1, 1, 0, 0)) none))) (cond (Nat.blt pc 58) (cond (Nat.blt pc 57) (cond (Nat.beq pc 56) (some (.imul, 1, 0, 0, 0)) none) (cond (Nat.beq pc 57) (some (.iload_n 2, 1, 2, 0, 0)) none)) (cond (Nat.blt pc 59) (cond (Nat.beq pc 58) (some (.iadd, 1, 0, 0, 0)) none) (cond (Nat.beq pc 59) (some (.iload_n 3, 1, 3, 0, 0)) none)))) (cond (Nat.blt pc 65) (cond (Nat.blt pc 61) (cond (Nat.beq pc 60) (some (.iastore, 1, 0, 0, 0)) none) (cond (Nat.blt pc 62) (cond (Nat.beq pc 61) (some (.aload_n 0, 1, 0, 0, 0)) none) (cond (Nat.beq pc 62) (some (.getfield 23, 3, 9, 4, 0)) none))) (cond (Nat.blt pc 67) (cond (Nat.blt pc 66) (cond (Nat.beq pc 65) (some (.iconst 3, 1, 0, 0, 3)) none) (cond (Nat.beq pc 66) (some (.iload_n 1, 1, 1, 0, 0)) none)) (cond (Nat.blt pc 68) (cond (Nat.beq pc 67) (some (.imul, 1, 0, 0, 0)) none) (cond (Nat.beq pc 68) (some (.iload_n 2, 1, 2, 0, 0)) none))))) (cond (Nat.blt pc 79) (cond (Nat.blt pc 73) (cond (Nat.blt pc 70) (cond (Nat.beq pc 69) (some (.iadd, 1, 0, 0, 0)) none) (cond (Nat.blt pc 72) (cond (Nat.beq pc 70) (some (.iload 4, 2, 4, 0, 0)) none) (cond (Nat.beq pc 72) (some (.iastore, 1, 0, 0, 0)) none))) (cond (Nat.blt pc 77) (cond (Nat.blt pc 74) (cond (Nat.beq pc 73) (some (.aload_n 0, 1, 0, 0, 0)) none) (cond (Nat.beq pc 74) (some (.getfield 26, 3, 9, 5, 0)) none)) (cond (Nat.blt pc 78) (cond (Nat.beq pc 77) (some (.iconst 3, 1, 0, 0, 3)) none) (cond (Nat.beq pc 78) (some (.iload_n 1, 1, 1, 0, 0)) none)))) (cond (Nat.blt pc 82) (cond (Nat.blt pc 80) (cond (Nat.beq pc 79) (some (.imul, 1, 0, 0, 0)) none) (cond (Nat.blt pc 81) (cond (Nat.beq pc 80) (some (.iload_n 2, 1, 2, 0, 0)) none) (cond (Nat.beq pc 81) (some (.iadd, 1, 0, 0, 0)) none))) (cond (Nat.blt pc 85) (cond (Nat.blt pc 84) (cond (Nat.beq pc 82) (some (.iload 5, 2, 5, 0, 0)) none) (cond (Nat.beq pc 84) (some (.iastore, 1, 0, 0, 0)) none)) (cond (Nat.blt pc 86) (cond (Nat.beq pc 85) (some (.iconst 1, 1, 0, 0, 1)) none) (cond (Nat.beq pc 86) (some (.ireturn, 1, 0, 0, 0)) none))))))
def tb_87 (pc : Nat) : Option mm_E := cond (Nat.blt pc 87) (tt_87 pc) none
def tt_88 (pc : Nat) : Option mm_E := cond (Nat.blt pc 9) (cond (Nat.blt pc 4) (cond (Nat.blt pc 1) (cond (Nat.beq pc 0) (some (.iload_n 1, 1, 1, 0, 0)) none) (cond (Nat.beq pc 1) (some (.ifCond .lt 15, 3, 16, 0, 0)) none)) (cond (Nat.blt pc 5) (cond (Nat.beq pc 4) (some (.iload_n 1, 1, 1, 0, 0)) none) (cond (Nat.blt pc 6) (cond (Nat.beq pc 5) (some (.aload_n 0, 1, 0, 0, 0)) none) (cond (Nat.beq pc 6) (some (.getfield 80, 3, 9, 6, 0)) none)))) (cond (Nat.blt pc 13) (cond (Nat.blt pc 12) (cond (Nat.beq pc 9) (some (.if_icmp .ge 7, 3, 16, 0, 0)) none) (cond (Nat.beq pc 12) (some (.iconst 1, 1, 0, 0, 1)) none)) (cond (Nat.blt pc 16) (cond (Nat.beq pc 13) (some (.goto 4, 3, 17, 0, 0)) none) (cond (Nat.blt pc 17) (cond (Nat.beq pc 16) (some (.iconst 0, 1, 0, 0, 0)) none) (cond (Nat.beq pc 17) (some (.ireturn, 1, 0, 0, 0)) none))))
def tb_88 (pc : Nat) : Option mm_E := cond (Nat.blt pc 18) (tt_88 pc) none
def tt_89 (pc : Nat) : Option mm_E := cond (Nat.blt pc 17) (cond (Nat.blt pc 8) (cond (Nat.blt pc 2) (cond (Nat.blt pc 1) (cond (Nat.beq pc 0) (some (.aload_n 0, 1, 0, 0, 0)) none) (cond (Nat.beq pc 1) (some (.iload_n 1, 1, 1, 0, 0)) none)) (cond (Nat.blt pc 5) (cond (Nat.beq pc 2) (some (.invokevirtual 84, 3, 88, 1, 0)) none) (cond (Nat.beq pc 5) (some (.ifCond .eq 26, 3, 31, 0, 0)) none))) (cond (Nat.blt pc 12) (cond (Nat.blt pc 9) (cond (Nat.beq pc 8) (some (.iload_n 2, 1, 2, 0, 0)) none) (cond (Nat.beq pc 9) (some (.ifCond .lt 22, 3, 31, 0, 0)) none)) (cond (Nat.blt pc 13) (cond (Nat.beq pc 12) (some (.iload_n 2, 1, 2, 0, 0)) none) (cond (Nat.blt pc 14) (cond (Nat.beq pc 13) (some (.aload_n 0, 1, 0, 0, 0)) none) (cond (Nat.beq pc 14) (some (.getfield 13, 3, 9, 1, 0)) none))))) (cond (Nat.blt pc 24) (cond (Nat.blt pc 21) (cond (Nat.blt pc 18) (cond (Nat.beq pc 17) (some (.aload_n 0, 1, 0, 0, 0)) none) (cond (Nat.beq pc 18) (some (.getfield 29, 3, 9, 7, 0)) none)) (cond (Nat.blt pc 22) (cond (Nat.beq pc 21) (some (.iload_n 1, 1, 1, 0, 0)) none) (cond (Nat.blt pc 23) (cond (Nat.beq pc 22) (some (.iaload, 1, 0, 0, 0)) none) (cond (Nat.beq pc 23) (some (.iaload, 1, 0, 0, 0)) none)))) (cond (Nat.blt pc 28) (cond (Nat.blt pc 27) (cond (Nat.beq pc 24) (some (.if_icmp .ge 7, 3, 31, 0, 0)) none) (cond (Nat.beq pc 27) (some (.iconst 1, 1, 0, 0, 1)) none)) (cond (Nat.blt pc 31) (cond (Nat.beq pc 28) (some (.goto 4, 3, 32, 0, 0)) none) (cond (Nat.blt pc 32) (cond (Nat.beq pc 31) (some (.iconst 0, 1, 0, 0, 0)) none) (cond (Nat.beq pc 32) (some (.ireturn, 1, 0, 0, 0)) none)))))
def tb_89 (pc : Nat) : Option mm_E := cond (Nat.blt pc 33) (tt_89 pc) none
def tt_90 (pc : Nat) : Option mm_E := cond (Nat.blt pc 17) (cond (Nat.blt pc 8) (cond (Nat.blt pc 2) (cond (Nat.blt pc 1) (cond (Nat.beq pc 0) (some (.aload_n 0, 1, 0, 0, 0)) none) (cond (Nat.beq pc 1) (some (.iload_n 1, 1, 1, 0, 0)) none)) (cond (Nat.blt pc 5) (cond (Nat.beq pc 2) (some (.invokevirtual 84, 3, 88, 1, 0)) none) (cond (Nat.beq pc 5) (some (.ifCond .eq 26, 3, 31, 0, 0)) none))) (cond (Nat.blt pc 12) (cond (Nat.blt pc 9) (cond (Nat.beq pc 8) (some (.iload_n 2, 1, 2, 0, 0)) none) (cond (Nat.beq pc 9) (some (.ifCond .lt 22, 3, 31, 0, 0)) none)) (cond (Nat.blt pc 13) (cond (Nat.beq pc 12) (some (.iload_n 2, 1, 2, 0, 0)) none) (cond (Nat.blt pc 14) (cond (Nat.beq pc 13) (some (.aload_n 0, 1, 0, 0, 0)) none) (cond (Nat.beq pc 14) (some (.getfield 17, 3, 9, 2, 0)) none))))) (cond (Nat.blt pc 24) (cond (Nat.blt pc 21) (cond (Nat.blt pc 18) (cond (Nat.beq pc 17) (some (.aload_n 0, 1, 0, 0, 0)) none) (cond (Nat.beq pc 18) (some (.getfield 29, 3, 9, 7, 0)) none)) (cond (Nat.blt pc 22) (cond (Nat.beq pc 21) (some (.iload_n 1, 1, 1, 0, 0)) none) (cond (Nat.blt pc 23) (cond (Nat.beq pc 22) (some (.iaload, 1, 0, 0, 0)) none) (cond (Nat.beq pc 23) (some (.iaload, 1, 0, 0, 0)) none)))) (cond (Nat.blt pc 28) (cond (Nat.blt pc 27) (cond (Nat.beq pc 24) (some (.if_icmp .ge 7, 3, 31, 0, 0)) none) (cond (Nat.beq pc 27) (some (.iconst 1, 1, 0, 0, 1)) none)) (cond (Nat.blt pc 31) (cond (Nat.beq pc 28) (some (.goto 4, 3, 32, 0, 0)) none) (cond (Nat.blt pc 32) (cond (Nat.beq pc 31) (some (.iconst 0, 1, 0, 0, 0)) none) (cond (Nat.beq pc 32) (some (.ireturn, 1, 0, 0, 0)) none)))))
def tb_90 (pc : Nat) : Option mm_E := cond (Nat.blt pc 33) (tt_90 pc) none
def tt_91 (pc : Nat) : Option mm_E := cond (Nat.blt pc 55) (cond (Nat.blt pc 30) (cond (Nat.blt pc 17) (cond (Nat.blt pc 8) (cond (Nat.blt pc 2) (cond (Nat.blt pc 1) (cond (Nat.beq pc 0) (some (.aload_n 0, 1, 0, 0, 0)) none) (cond (Nat.beq pc 1) (some (.iload_n 1, 1, 1, 0, 0)) none)) (cond (Nat.blt pc 5) (cond (Nat.beq pc 2) (some (.invokevirtual 74, 3, 85, 1, 0)) none) (cond (Nat.beq pc 5) (some (.ifCond .eq 12, 3, 17, 0, 0)) none))) (cond (Nat.blt pc 12) (cond (Nat.blt pc 9) (cond (Nat.beq pc 8) (some (.aload_n 0, 1, 0, 0, 0)) none) (cond (Nat.beq pc 9) (some (.getfield 80, 3, 9, 6, 0)) none)) (cond (Nat.blt pc 14) (cond (Nat.beq pc 12) (some (.bipush 24, 2, 0, 0, 24)) none) (cond (Nat.beq pc 14) (some (.if_icmp .ne 5, 3, 19, 0, 0)) none)))) (cond (Nat.blt pc 23) (cond (Nat.blt pc 19) (cond (Nat.blt pc 18) (cond (Nat.beq pc 17) (some (.iconst (-1), 1, 0, 0, (-1))) none) (cond (Nat.beq pc 18) (some (.ireturn, 1, 0, 0, 0)) none)) (cond (Nat.blt pc 20) (cond (Nat.beq pc 19) (some (.aload_n 0, 1, 0, 0, 0)) none) (cond (Nat.beq pc 20) (some (.getfield 29, 3, 9, 7, 0)) none))) (cond (Nat.blt pc 27) (cond (Nat.blt pc 24) (cond (Nat.beq pc 23) (some (.aload_n 0, 1, 0, 0, 0)) none) (cond (Nat.beq pc 24) (some (.getfield 80, 3, 9, 6, 0)) none)) (cond (Nat.blt pc 28) (cond (Nat.beq pc 27) (some (.iload_n 1, 1, 1, 0, 0)) none) (cond (Nat.blt pc 29) (cond (Nat.beq pc 28) (some (.iastore, 1, 0, 0, 0)) none) (cond (Nat.beq pc 29) (some (.iconst 0, 1, 0, 0, 0)) none)))))) (cond (Nat.blt pc 42) (cond (Nat.blt pc 36) (cond (Nat.blt pc 32) (cond (Nat.blt pc 31) (cond (Nat.beq pc 30) (some (.istore_n 2, 1, 2, 0, 0)) none) (cond (Nat.beq pc 31) (some (.iload_n 2, 1, 2, 0, 0)) none)) (cond (Nat.blt pc 33) (cond (Nat.beq pc 32) (some (.iconst 3, 1, 0, 0, 3)) none) (cond (Nat.beq pc 33) (some (.if_icmp .ge 32, 3, 65, 0, 0)) none))) (cond (Nat.blt pc 40) (cond (Nat.blt pc 37) (cond (Nat.beq pc 36) (some (.aload_n 0, 1, 0, 0, 0)) none) (cond (Nat.beq pc 37) (some (.getfield 32, 3, 9, 8, 0)) none)) (cond (Nat.blt pc 41) (cond (Nat.beq pc 40) (some (.iconst 3, 1, 0, 0, 3)) none) (cond (Nat.beq pc 41) (some (.aload_n 0, 1, 0, 0, 0)) none)))) (cond (Nat.blt pc 48) (cond (Nat.blt pc 46) (cond (Nat.blt pc 45) (cond (Nat.beq pc 42) (some (.getfield 80, 3, 9, 6, 0)) none) (cond (Nat.beq pc 45) (some (.imul, 1, 0, 0, 0)) none)) (cond (Nat.blt pc 47) (cond (Nat.beq pc 46) (some (.iload_n 2, 1, 2, 0, 0)) none) (cond (Nat.beq pc 47) (some (.iadd, 1, 0, 0, 0)) none))) (cond (Nat.blt pc 52) (cond (Nat.blt pc 49) (cond (Nat.beq pc 48) (some (.aload_n 0, 1, 0, 0, 0)) none) (cond (Nat.beq pc 49) (some (.getfield 20, 3, 9, 3, 0)) none)) (cond (Nat.blt pc 53) (cond (Nat.beq pc 52) (some (.iconst 3, 1, 0, 0, 3)) none) (cond (Nat.blt pc 54) (cond (Nat.beq pc 53) (some (.iload_n 1, 1, 1, 0, 0)) none) (cond (Nat.beq pc 54) (some (.imul, 1, 0, 0, 0)) none))))))) (cond (Nat.blt pc 82) (cond (Nat.blt pc 69) (cond (Nat.blt pc 59) (cond (Nat.blt pc 57) (cond (Nat.blt pc 56) (cond (Nat.beq pc 55) (some (.iload_n 2, 1, 2, 0, 0)) none) (cond (Nat.beq pc 56) (some (.iadd, 1, 0, 0, 0)) none)) (cond (Nat.blt pc 58) (cond (Nat.beq pc 57) (some (.iaload, 1, 0, 0, 0)) none) (cond (Nat.beq pc 58) (some (.iastore, 1, 0, 0, 0)) none))) (cond (Nat.blt pc 65) (cond (Nat.blt pc 62) (cond (Nat.beq pc 59) (some (.iinc 2 1, 3, 2, 0, 1)) none) (cond (Nat.beq pc 62) (some (.goto (-31), 3, 31, 0, 0)) none)) (cond (Nat.blt pc 66) (cond (Nat.beq pc 65) (some (.aload_n 0, 1, 0, 0, 0)) none) (cond (Nat.beq pc 66) (some (.getfield 35, 3, 9, 9, 0)) none)))) (cond (Nat.blt pc 75) (cond (Nat.blt pc 71) (cond (Nat.blt pc 70) (cond (Nat.beq pc 69) (some (.iconst 2, 1, 0, 0, 2)) none) (cond (Nat.beq pc 70) (some (.aload_n 0, 1, 0, 0, 0)) none)) (cond (Nat.blt pc 74) (cond (Nat.beq pc 71) (some (.getfield 80, 3, 9, 6, 0)) none) (cond (Nat.beq pc 74) (some (.imul, 1, 0, 0, 0)) none))) (cond (Nat.blt pc 77) (cond (Nat.blt pc 76) (cond (Nat.beq pc 75) (some (.iconst (-1), 1, 0, 0, (-1))) none) (cond (Nat.beq pc 76) (some (.iastore, 1, 0, 0, 0)) none)) (cond (Nat.blt pc 78) (cond (Nat.beq pc 77) (some (.aload_n 0, 1, 0, 0, 0)) none) (cond (Nat.blt pc 81) (cond (Nat.beq pc 78) (some (.getfield 35, 3, 9, 9, 0)) none) (cond (Nat.beq pc 81) (some (.iconst 2, 1, 0, 0, 2)) none)))))) (cond (Nat.blt pc 93) (cond (Nat.blt pc 88) (cond (Nat.blt pc 86) (cond (Nat.blt pc 83) (cond (Nat.beq pc 82) (some (.aload_n 0, 1, 0, 0, 0)) none) (cond (Nat.beq pc 83) (some (.getfield 80, 3, 9, 6, 0)) none)) (cond (Nat.blt pc 87) (cond (Nat.beq pc 86) (some (.imul, 1, 0, 0, 0)) none) (cond (Nat.beq pc 87) (some (.iconst 1, 1, 0, 0, 1)) none))) (cond (Nat.blt pc 90) (cond (Nat.blt pc 89) (cond (Nat.beq pc 88) (some (.iadd, 1, 0, 0, 0)) none) (cond (Nat.beq pc 89) (some (.iconst (-1), 1, 0, 0, (-1))) none)) (cond (Nat.blt pc 91) (cond (Nat.beq pc 90) (some (.iastore, 1, 0, 0, 0)) none) (cond (Nat.blt pc 92) (cond (Nat.beq pc 91) (some (.aload_n 0, 1, 0, 0, 0)) none) (cond (Nat.beq pc 92) (some (.dup, 1, 0, 0, 0)) none))))) (cond (Nat.blt pc 101) (cond (Nat.blt pc 97) (cond (Nat.blt pc 96) (cond (Nat.beq pc 93) (some (.getfield 80, 3, 9, 6, 0)) none) (cond (Nat.beq pc 96) (some (.iconst 1, 1, 0, 0, 1)) none)) (cond (Nat.blt pc 98) (cond (Nat.beq pc 97) (some (.iadd, 1, 0, 0, 0)) none) (cond (Nat.beq pc 98) (some (.putfield 80, 3, 9, 6, 0)) none))) (cond (Nat.blt pc 105) (cond (Nat.blt pc 102) (cond (Nat.beq pc 101) (some (.aload_n 0, 1, 0, 0, 0)) none) (cond (Nat.beq pc 102) (some (.getfield 80, 3, 9, 6, 0)) none)) (cond (Nat.blt pc 106) (cond (Nat.beq pc 105) (some (.iconst 1, 1, 0, 0, 1)) none) (cond (Nat.blt pc 107) (cond (Nat.beq pc 106) (some (.isub, 1, 0, 0, 0)) none) (cond (Nat.beq pc 107) (some (.ireturn, 1, 0, 0, 0)) none)))))))
def tb_91 (pc : Nat) : Option mm_E := cond (Nat.blt pc 108) (tt_91 pc) none
def tt_92 (pc : Nat) : Option mm_E := cond (Nat.blt pc 2) (cond (Nat.blt pc 1) (cond (Nat.beq pc 0) (some (.aload_n 0, 1, 0, 0, 0)) none) (cond (Nat.beq pc 1) (some (.iconst 0, 1, 0, 0, 0)) none)) (cond (Nat.blt pc 5) (cond (Nat.beq pc 2) (some (.putfield 80, 3, 9, 6, 0)) none) (cond (Nat.beq pc 5) (some (.return_, 1, 0, 0, 0)) none))
def tb_92 (pc : Nat) : Option mm_E := cond (Nat.blt pc 6) (tt_92 pc) none
def tt_93 (pc : Nat) : Option mm_E := cond (Nat.blt pc 1) (cond (Nat.beq pc 0) (some (.aload_n 0, 1, 0, 0, 0)) none) (cond (Nat.blt pc 4) (cond (Nat.beq pc 1) (some (.getfield 80, 3, 9, 6, 0)) none) (cond (Nat.beq pc 4) (some (.ireturn, 1, 0, 0, 0)) none))
def tb_93 (pc : Nat) : Option mm_E := cond (Nat.blt pc 5) (tt_93 pc) none
def tt_94 (pc : Nat) : Option mm_E := cond (Nat.blt pc 9) (cond (Nat.blt pc 2) (cond (Nat.blt pc 1) (cond (Nat.beq pc 0) (some (.aload_n 0, 1, 0, 0, 0)) none) (cond (Nat.beq pc 1) (some (.iload_n 1, 1, 1, 0, 0)) none)) (cond (Nat.blt pc 5) (cond (Nat.beq pc 2) (some (.invokevirtual 84, 3, 88, 1, 0)) none) (cond (Nat.blt pc 8) (cond (Nat.beq pc 5) (some (.ifCond .eq 12, 3, 17, 0, 0)) none) (cond (Nat.beq pc 8) (some (.aload_n 0, 1, 0, 0, 0)) none)))) (cond (Nat.blt pc 14) (cond (Nat.blt pc 12) (cond (Nat.beq pc 9) (some (.getfield 29, 3, 9, 7, 0)) none) (cond (Nat.blt pc 13) (cond (Nat.beq pc 12) (some (.iload_n 1, 1, 1, 0, 0)) none) (cond (Nat.beq pc 13) (some (.iaload, 1, 0, 0, 0)) none))) (cond (Nat.blt pc 17) (cond (Nat.beq pc 14) (some (.goto 4, 3, 18, 0, 0)) none) (cond (Nat.blt pc 18) (cond (Nat.beq pc 17) (some (.iconst (-1), 1, 0, 0, (-1))) none) (cond (Nat.beq pc 18) (some (.ireturn, 1, 0, 0, 0)) none))))
def tb_94 (pc : Nat) : Option mm_E := cond (Nat.blt pc 19) (tt_94 pc) none
def tt_95 (pc : Nat) : Option mm_E := cond (Nat.blt pc 17) (cond (Nat.blt pc 8) (cond (Nat.blt pc 5) (cond (Nat.blt pc 1) (cond (Nat.beq pc 0) (some (.iconst 3, 1, 0, 0, 3)) none) (cond (Nat.blt pc 2) (cond (Nat.beq pc 1) (some (.aload_n 0, 1, 0, 0, 0)) none) (cond (Nat.beq pc 2) (some (.getfield 29, 3, 9, 7, 0)) none))) (cond (Nat.blt pc 6) (cond (Nat.beq pc 5) (some (.iload_n 1, 1, 1, 0, 0)) none) (cond (Nat.blt pc 7) (cond (Nat.beq pc 6) (some (.iaload, 1, 0, 0, 0)) none) (cond (Nat.beq pc 7) (some (.imul, 1, 0, 0, 0)) none)))) (cond (Nat.blt pc 12) (cond (Nat.blt pc 9) (cond (Nat.beq pc 8) (some (.iload_n 2, 1, 2, 0, 0)) none) (cond (Nat.blt pc 10) (cond (Nat.beq pc 9) (some (.iadd, 1, 0, 0, 0)) none) (cond (Nat.beq pc 10) (some (.istore 4, 2, 4, 0, 0)) none))) (cond (Nat.blt pc 13) (cond (Nat.beq pc 12) (some (.iload_n 3, 1, 3, 0, 0)) none) (cond (Nat.blt pc 14) (cond (Nat.beq pc 13) (some (.aload_n 0, 1, 0, 0, 0)) none) (cond (Nat.beq pc 14) (some (.getfield 23, 3, 9, 4, 0)) none))))) (cond (Nat.blt pc 28) (cond (Nat.blt pc 23) (cond (Nat.blt pc 19) (cond (Nat.beq pc 17) (some (.iload 4, 2, 4, 0, 0)) none) (cond (Nat.blt pc 20) (cond (Nat.beq pc 19) (some (.iaload, 1, 0, 0, 0)) none) (cond (Nat.beq pc 20) (some (.if_icmp .lt 18, 3, 38, 0, 0)) none))) (cond (Nat.blt pc 24) (cond (Nat.beq pc 23) (some (.iload_n 3, 1, 3, 0, 0)) none) (cond (Nat.blt pc 25) (cond (Nat.beq pc 24) (some (.aload_n 0, 1, 0, 0, 0)) none) (cond (Nat.beq pc 25) (some (.getfield 26, 3, 9, 5, 0)) none)))) (cond (Nat.blt pc 34) (cond (Nat.blt pc 30) (cond (Nat.beq pc 28) (some (.iload 4, 2, 4, 0, 0)) none) (cond (Nat.blt pc 31) (cond (Nat.beq pc 30) (some (.iaload, 1, 0, 0, 0)) none) (cond (Nat.beq pc 31) (some (.if_icmp .gt 7, 3, 38, 0, 0)) none))) (cond (Nat.blt pc 38) (cond (Nat.blt pc 35) (cond (Nat.beq pc 34) (some (.iconst 1, 1, 0, 0, 1)) none) (cond (Nat.beq pc 35) (some (.goto 4, 3, 39, 0, 0)) none)) (cond (Nat.blt pc 39) (cond (Nat.beq pc 38) (some (.iconst 0, 1, 0, 0, 0)) none) (cond (Nat.beq pc 39) (some (.ireturn, 1, 0, 0, 0)) none)))))
def tb_95 (pc : Nat) : Option mm_E := cond (Nat.blt pc 40) (tt_95 pc) none
def tt_96 (pc : Nat) : Option mm_E := cond (Nat.blt pc 20) (cond (Nat.blt pc 10) (cond (Nat.blt pc 3) (cond (Nat.blt pc 1) (cond (Nat.beq pc 0) (some (.aload_n 0, 1, 0, 0, 0)) none) (cond (Nat.blt pc 2) (cond (Nat.beq pc 1) (some (.iload_n 1, 1, 1, 0, 0)) none) (cond (Nat.beq pc 2) (some (.iload_n 2, 1, 2, 0, 0)) none))) (cond (Nat.blt pc 6) (cond (Nat.beq pc 3) (some (.invokevirtual 87, 3, 89, 1, 0)) none) (cond (Nat.blt pc 9) (cond (Nat.beq pc 6) (some (.ifCond .eq 13, 3, 19, 0, 0)) none) (cond (Nat.beq pc 9) (some (.aload_n 0, 1, 0, 0, 0)) none)))) (cond (Nat.blt pc 13) (cond (Nat.blt pc 11) (cond (Nat.beq pc 10) (some (.iload_n 1, 1, 1, 0, 0)) none) (cond (Nat.blt pc 12) (cond (Nat.beq pc 11) (some (.iload_n 2, 1, 2, 0, 0)) none) (cond (Nat.beq pc 12) (some (.iload_n 3, 1, 3, 0, 0)) none))) (cond (Nat.blt pc 16) (cond (Nat.beq pc 13) (some (.invokevirtual 91, 3, 95, 1, 0)) none) (cond (Nat.blt pc 19) (cond (Nat.beq pc 16) (some (.ifCond .ne 5, 3, 21, 0, 0)) none) (cond (Nat.beq pc 19) (some (.iconst 0, 1, 0, 0, 0)) none))))) (cond (Nat.blt pc 28) (cond (Nat.blt pc 25) (cond (Nat.blt pc 21) (cond (Nat.beq pc 20) (some (.ireturn, 1, 0, 0, 0)) none) (cond (Nat.blt pc 22) (cond (Nat.beq pc 21) (some (.aload_n 0, 1, 0, 0, 0)) none) (cond (Nat.beq pc 22) (some (.getfield 32, 3, 9, 8, 0)) none))) (cond (Nat.blt pc 26) (cond (Nat.beq pc 25) (some (.iconst 3, 1, 0, 0, 3)) none) (cond (Nat.blt pc 27) (cond (Nat.beq pc 26) (some (.iload_n 1, 1, 1, 0, 0)) none) (cond (Nat.beq pc 27) (some (.imul, 1, 0, 0, 0)) none)))) (cond (Nat.blt pc 31) (cond (Nat.blt pc 29) (cond (Nat.beq pc 28) (some (.iload_n 2, 1, 2, 0, 0)) none) (cond (Nat.blt pc 30) (cond (Nat.beq pc 29) (some (.iadd, 1, 0, 0, 0)) none) (cond (Nat.beq pc 30) (some (.iload_n 3, 1, 3, 0, 0)) none))) (cond (Nat.blt pc 32) (cond (Nat.beq pc 31) (some (.iastore, 1, 0, 0, 0)) none) (cond (Nat.blt pc 33) (cond (Nat.beq pc 32) (some (.iconst 1, 1, 0, 0, 1)) none) (cond (Nat.beq pc 33) (some (.ireturn, 1, 0, 0, 0)) none)))))
def tb_96 (pc : Nat) : Option mm_E := cond (Nat.blt pc 34) (tt_96 pc) none
def tt_97 (pc : Nat) : Option mm_E := cond (Nat.blt pc 22) (cond (Nat.blt pc 10) (cond (Nat.blt pc 3) (cond (Nat.blt pc 1) (cond (Nat.beq pc 0) (some (.aload_n 0, 1, 0, 0, 0)) none) (cond (Nat.blt pc 2) (cond (Nat.beq pc 1) (some (.iload_n 1, 1, 1, 0, 0)) none) (cond (Nat.beq pc 2) (some (.iload_n 2, 1, 2, 0, 0)) none))) (cond (Nat.blt pc 6) (cond (Nat.beq pc 3) (some (.invokevirtual 95, 3, 90, 1, 0)) none) (cond (Nat.blt pc 9) (cond (Nat.beq pc 6) (some (.ifCond .eq 16, 3, 22, 0, 0)) none) (cond (Nat.beq pc 9) (some (.iload_n 3, 1, 3, 0, 0)) none)))) (cond (Nat.blt pc 15) (cond (Nat.blt pc 11) (cond (Nat.beq pc 10) (some (.iconst (-1), 1, 0, 0, (-1))) none) (cond (Nat.blt pc 14) (cond (Nat.beq pc 11) (some (.if_icmp .eq 13, 3, 24, 0, 0)) none) (cond (Nat.beq pc 14) (some (.aload_n 0, 1, 0, 0, 0)) none))) (cond (Nat.blt pc 16) (cond (Nat.beq pc 15) (some (.iload_n 3, 1, 3, 0, 0)) none) (cond (Nat.blt pc 19) (cond (Nat.beq pc 16) (some (.invokevirtual 84, 3, 88, 1, 0)) none) (cond (Nat.beq pc 19) (some (.ifCond .ne 5, 3, 24, 0, 0)) none))))) (cond (Nat.blt pc 30) (cond (Nat.blt pc 25) (cond (Nat.blt pc 23) (cond (Nat.beq pc 22) (some (.iconst 0, 1, 0, 0, 0)) none) (cond (Nat.blt pc 24) (cond (Nat.beq pc 23) (some (.ireturn, 1, 0, 0, 0)) none) (cond (Nat.beq pc 24) (some (.aload_n 0, 1, 0, 0, 0)) none))) (cond (Nat.blt pc 28) (cond (Nat.beq pc 25) (some (.getfield 35, 3, 9, 9, 0)) none) (cond (Nat.blt pc 29) (cond (Nat.beq pc 28) (some (.iconst 2, 1, 0, 0, 2)) none) (cond (Nat.beq pc 29) (some (.iload_n 1, 1, 1, 0, 0)) none)))) (cond (Nat.blt pc 33) (cond (Nat.blt pc 31) (cond (Nat.beq pc 30) (some (.imul, 1, 0, 0, 0)) none) (cond (Nat.blt pc 32) (cond (Nat.beq pc 31) (some (.iload_n 2, 1, 2, 0, 0)) none) (cond (Nat.beq pc 32) (some (.iadd, 1, 0, 0, 0)) none))) (cond (Nat.blt pc 35) (cond (Nat.blt pc 34) (cond (Nat.beq pc 33) (some (.iload_n 3, 1, 3, 0, 0)) none) (cond (Nat.beq pc 34) (some (.iastore, 1, 0, 0, 0)) none)) (cond (Nat.blt pc 36) (cond (Nat.beq pc 35) (some (.iconst 1, 1, 0, 0, 1)) none) (cond (Nat.beq pc 36) (some (.ireturn, 1, 0, 0, 0)) none)))))
def tb_97 (pc : Nat) : Option mm_E := cond (Nat.blt pc 37) (tt_97 pc) none
def tt_98 (pc : Nat) : Option mm_E := cond (Nat.blt pc 14) (cond (Nat.blt pc 6) (cond (Nat.blt pc 2) (cond (Nat.blt pc 1) (cond (Nat.beq pc 0) (some (.aload_n 0, 1, 0, 0, 0)) none) (cond (Nat.beq pc 1) (some (.iload_n 1, 1, 1, 0, 0)) none)) (cond (Nat.blt pc 3) (cond (Nat.beq pc 2) (some (.iload_n 2, 1, 2, 0, 0)) none) (cond (Nat.beq pc 3) (some (.invokevirtual 87, 3, 89, 1, 0)) none))) (cond (Nat.blt pc 10) (cond (Nat.blt pc 9) (cond (Nat.beq pc 6) (some (.ifCond .eq 16, 3, 22, 0, 0)) none) (cond (Nat.beq pc 9) (some (.aload_n 0, 1, 0, 0, 0)) none)) (cond (Nat.blt pc 13) (cond (Nat.beq pc 10) (some (.getfield 32, 3, 9, 8, 0)) none) (cond (Nat.beq pc 13) (some (.iconst 3, 1, 0, 0, 3)) none)))) (cond (Nat.blt pc 18) (cond (Nat.blt pc 16) (cond (Nat.blt pc 15) (cond (Nat.beq pc 14) (some (.iload_n 1, 1, 1, 0, 0)) none) (cond (Nat.beq pc 15) (some (.imul, 1, 0, 0, 0)) none)) (cond (Nat.blt pc 17) (cond (Nat.beq pc 16) (some (.iload_n 2, 1, 2, 0, 0)) none) (cond (Nat.beq pc 17) (some (.iadd, 1, 0, 0, 0)) none))) (cond (Nat.blt pc 22) (cond (Nat.blt pc 19) (cond (Nat.beq pc 18) (some (.iaload, 1, 0, 0, 0)) none) (cond (Nat.beq pc 19) (some (.goto 4, 3, 23, 0, 0)) none)) (cond (Nat.blt pc 23) (cond (Nat.beq pc 22) (some (.iconst 0, 1, 0, 0, 0)) none) (cond (Nat.beq pc 23) (some (.ireturn, 1, 0, 0, 0)) none))))
def tb_98 (pc : Nat) : Option mm_E := cond (Nat.blt pc 24) (tt_98 pc) none
def tt_99 (pc : Nat) : Option mm_E := cond (Nat.blt pc 14) (cond (Nat.blt pc 6) (cond (Nat.blt pc 2) (cond (Nat.blt pc 1) (cond (Nat.beq pc 0) (some (.aload_n 0, 1, 0, 0, 0)) none) (cond (Nat.beq pc 1) (some (.iload_n 1, 1, 1, 0, 0)) none)) (cond (Nat.blt pc 3) (cond (Nat.beq pc 2) (some (.iload_n 2, 1, 2, 0, 0)) none) (cond (Nat.beq pc 3) (some (.invokevirtual 95, 3, 90, 1, 0)) none))) (cond (Nat.blt pc 10) (cond (Nat.blt pc 9) (cond (Nat.beq pc 6) (some (.ifCond .eq 16, 3, 22, 0, 0)) none) (cond (Nat.beq pc 9) (some (.aload_n 0, 1, 0, 0, 0)) none)) (cond (Nat.blt pc 13) (cond (Nat.beq pc 10) (some (.getfield 35, 3, 9, 9, 0)) none) (cond (Nat.beq pc 13) (some (.iconst 2, 1, 0, 0, 2)) none)))) (cond (Nat.blt pc 18) (cond (Nat.blt pc 16) (cond (Nat.blt pc 15) (cond (Nat.beq pc 14) (some (.iload_n 1, 1, 1, 0, 0)) none) (cond (Nat.beq pc 15) (some (.imul, 1, 0, 0, 0)) none)) (cond (Nat.blt pc 17) (cond (Nat.beq pc 16) (some (.iload_n 2, 1, 2, 0, 0)) none) (cond (Nat.beq pc 17) (some (.iadd, 1, 0, 0, 0)) none))) (cond (Nat.blt pc 22) (cond (Nat.blt pc 19) (cond (Nat.beq pc 18) (some (.iaload, 1, 0, 0, 0)) none) (cond (Nat.beq pc 19) (some (.goto 4, 3, 23, 0, 0)) none)) (cond (Nat.blt pc 23) (cond (Nat.beq pc 22) (some (.iconst (-1), 1, 0, 0, (-1))) none) (cond (Nat.beq pc 23) (some (.ireturn, 1, 0, 0, 0)) none))))
def tb_99 (pc : Nat) : Option mm_E := cond (Nat.blt pc 24) (tt_99 pc) none
def tt_100 (pc : Nat) : Option mm_E := cond (Nat.blt pc 58) (cond (Nat.blt pc 30) (cond (Nat.blt pc 13) (cond (Nat.blt pc 5) (cond (Nat.blt pc 2) (cond (Nat.blt pc 1) (cond (Nat.beq pc 0) (some (.iconst 0, 1, 0, 0, 0)) none) (cond (Nat.beq pc 1) (some (.istore_n 2, 1, 2, 0, 0)) none)) (cond (Nat.blt pc 3) (cond (Nat.beq pc 2) (some (.iload_n 2, 1, 2, 0, 0)) none) (cond (Nat.beq pc 3) (some (.bipush 24, 2, 0, 0, 24)) none))) (cond (Nat.blt pc 9) (cond (Nat.blt pc 8) (cond (Nat.beq pc 5) (some (.if_icmp .ge 25, 3, 30, 0, 0)) none) (cond (Nat.beq pc 8) (some (.aload_n 0, 1, 0, 0, 0)) none)) (cond (Nat.blt pc 12) (cond (Nat.beq pc 9) (some (.getfield 44, 3, 9, 14, 0)) none) (cond (Nat.beq pc 12) (some (.iload_n 2, 1, 2, 0, 0)) none)))) (cond (Nat.blt pc 19) (cond (Nat.blt pc 15) (cond (Nat.blt pc 14) (cond (Nat.beq pc 13) (some (.iload_n 2, 1, 2, 0, 0)) none) (cond (Nat.beq pc 14) (some (.iload_n 1, 1, 1, 0, 0)) none)) (cond (Nat.blt pc 18) (cond (Nat.beq pc 15) (some (.if_icmp .ne 7, 3, 22, 0, 0)) none) (cond (Nat.beq pc 18) (some (.iconst 1, 1, 0, 0, 1)) none))) (cond (Nat.blt pc 23) (cond (Nat.blt pc 22) (cond (Nat.beq pc 19) (some (.goto 4, 3, 23, 0, 0)) none) (cond (Nat.beq pc 22) (some (.iconst 0, 1, 0, 0, 0)) none)) (cond (Nat.blt pc 24) (cond (Nat.beq pc 23) (some (.bastore, 1, 0, 0, 0)) none) (cond (Nat.blt pc 27) (cond (Nat.beq pc 24) (some (.iinc 2 1, 3, 2, 0, 1)) none) (cond (Nat.beq pc 27) (some (.goto (-25), 3, 2, 0, 0)) none)))))) (cond (Nat.blt pc 41) (cond (Nat.blt pc 34) (cond (Nat.blt pc 32) (cond (Nat.blt pc 31) (cond (Nat.beq pc 30) (some (.iconst 1, 1, 0, 0, 1)) none) (cond (Nat.beq pc 31) (some (.istore_n 2, 1, 2, 0, 0)) none)) (cond (Nat.blt pc 33) (cond (Nat.beq pc 32) (some (.iconst 0, 1, 0, 0, 0)) none) (cond (Nat.beq pc 33) (some (.istore_n 3, 1, 3, 0, 0)) none))) (cond (Nat.blt pc 37) (cond (Nat.blt pc 35) (cond (Nat.beq pc 34) (some (.iload_n 3, 1, 3, 0, 0)) none) (cond (Nat.beq pc 35) (some (.bipush 24, 2, 0, 0, 24)) none)) (cond (Nat.blt pc 40) (cond (Nat.beq pc 37) (some (.if_icmp .ge 93, 3, 130, 0, 0)) none) (cond (Nat.beq pc 40) (some (.iconst 0, 1, 0, 0, 0)) none)))) (cond (Nat.blt pc 49) (cond (Nat.blt pc 45) (cond (Nat.blt pc 43) (cond (Nat.beq pc 41) (some (.istore 4, 2, 4, 0, 0)) none) (cond (Nat.beq pc 43) (some (.iload 4, 2, 4, 0, 0)) none)) (cond (Nat.blt pc 46) (cond (Nat.beq pc 45) (some (.aload_n 0, 1, 0, 0, 0)) none) (cond (Nat.beq pc 46) (some (.getfield 80, 3, 9, 6, 0)) none))) (cond (Nat.blt pc 53) (cond (Nat.blt pc 52) (cond (Nat.beq pc 49) (some (.if_icmp .ge 75, 3, 124, 0, 0)) none) (cond (Nat.beq pc 52) (some (.iconst 0, 1, 0, 0, 0)) none)) (cond (Nat.blt pc 55) (cond (Nat.beq pc 53) (some (.istore 5, 2, 5, 0, 0)) none) (cond (Nat.blt pc 57) (cond (Nat.beq pc 55) (some (.iload 5, 2, 5, 0, 0)) none) (cond (Nat.beq pc 57) (some (.iconst 2, 1, 0, 0, 2)) none))))))) (cond (Nat.blt pc 92) (cond (Nat.blt pc 74) (cond (Nat.blt pc 67) (cond (Nat.blt pc 62) (cond (Nat.blt pc 61) (cond (Nat.beq pc 58) (some (.if_icmp .ge 60, 3, 118, 0, 0)) none) (cond (Nat.beq pc 61) (some (.aload_n 0, 1, 0, 0, 0)) none)) (cond (Nat.blt pc 65) (cond (Nat.beq pc 62) (some (.getfield 44, 3, 9, 14, 0)) none) (cond (Nat.beq pc 65) (some (.iload 4, 2, 4, 0, 0)) none))) (cond (Nat.blt pc 71) (cond (Nat.blt pc 68) (cond (Nat.beq pc 67) (some (.baload, 1, 0, 0, 0)) none) (cond (Nat.beq pc 68) (some (.ifCond .eq 14, 3, 82, 0, 0)) none)) (cond (Nat.blt pc 72) (cond (Nat.beq pc 71) (some (.aload_n 0, 1, 0, 0, 0)) none) (cond (Nat.beq pc 72) (some (.iload 4, 2, 4, 0, 0)) none)))) (cond (Nat.blt pc 83) (cond (Nat.blt pc 79) (cond (Nat.blt pc 76) (cond (Nat.beq pc 74) (some (.iload 5, 2, 5, 0, 0)) none) (cond (Nat.beq pc 76) (some (.invokevirtual 98, 3, 99, 1, 0)) none)) (cond (Nat.blt pc 82) (cond (Nat.beq pc 79) (some (.goto 4, 3, 83, 0, 0)) none) (cond (Nat.beq pc 82) (some (.iconst (-1), 1, 0, 0, (-1))) none))) (cond (Nat.blt pc 87) (cond (Nat.blt pc 85) (cond (Nat.beq pc 83) (some (.istore 6, 2, 6, 0, 0)) none) (cond (Nat.beq pc 85) (some (.iload 6, 2, 6, 0, 0)) none)) (cond (Nat.blt pc 88) (cond (Nat.beq pc 87) (some (.iconst (-1), 1, 0, 0, (-1))) none) (cond (Nat.blt pc 91) (cond (Nat.beq pc 88) (some (.if_icmp .eq 24, 3, 112, 0, 0)) none) (cond (Nat.beq pc 91) (some (.aload_n 0, 1, 0, 0, 0)) none)))))) (cond (Nat.blt pc 109) (cond (Nat.blt pc 101) (cond (Nat.blt pc 97) (cond (Nat.blt pc 95) (cond (Nat.beq pc 92) (some (.getfield 44, 3, 9, 14, 0)) none) (cond (Nat.beq pc 95) (some (.iload 6, 2, 6, 0, 0)) none)) (cond (Nat.blt pc 98) (cond (Nat.beq pc 97) (some (.baload, 1, 0, 0, 0)) none) (cond (Nat.beq pc 98) (some (.ifCond .ne 14, 3, 112, 0, 0)) none))) (cond (Nat.blt pc 105) (cond (Nat.blt pc 102) (cond (Nat.beq pc 101) (some (.aload_n 0, 1, 0, 0, 0)) none) (cond (Nat.beq pc 102) (some (.getfield 44, 3, 9, 14, 0)) none)) (cond (Nat.blt pc 107) (cond (Nat.beq pc 105) (some (.iload 6, 2, 6, 0, 0)) none) (cond (Nat.blt pc 108) (cond (Nat.beq pc 107) (some (.iconst 1, 1, 0, 0, 1)) none) (cond (Nat.beq pc 108) (some (.bastore, 1, 0, 0, 0)) none))))) (cond (Nat.blt pc 121) (cond (Nat.blt pc 115) (cond (Nat.blt pc 112) (cond (Nat.beq pc 109) (some (.iinc 2 1, 3, 2, 0, 1)) none) (cond (Nat.beq pc 112) (some (.iinc 5 1, 3, 5, 0, 1)) none)) (cond (Nat.blt pc 118) (cond (Nat.beq pc 115) (some (.goto (-60), 3, 55, 0, 0)) none) (cond (Nat.beq pc 118) (some (.iinc 4 1, 3, 4, 0, 1)) none))) (cond (Nat.blt pc 127) (cond (Nat.blt pc 124) (cond (Nat.beq pc 121) (some (.goto (-78), 3, 43, 0, 0)) none) (cond (Nat.beq pc 124) (some (.iinc 3 1, 3, 3, 0, 1)) none)) (cond (Nat.blt pc 130) (cond (Nat.beq pc 127) (some (.goto (-93), 3, 34, 0, 0)) none) (cond (Nat.blt pc 131) (cond (Nat.beq pc 130) (some (.iload_n 2, 1, 2, 0, 0)) none) (cond (Nat.beq pc 131) (some (.ireturn, 1, 0, 0, 0)) none)))))))
def tb_100 (pc : Nat) : Option mm_E := cond (Nat.blt pc 132) (tt_100 pc) none
def tt_101 (pc : Nat) : Option mm_E := cond (Nat.blt pc 9) (cond (Nat.blt pc 2) (cond (Nat.blt pc 1) (cond (Nat.beq pc 0) (some (.aload_n 0, 1, 0, 0, 0)) none) (cond (Nat.beq pc 1) (some (.iload_n 1, 1, 1, 0, 0)) none)) (cond (Nat.blt pc 5) (cond (Nat.beq pc 2) (some (.invokevirtual 84, 3, 88, 1, 0)) none) (cond (Nat.blt pc 8) (cond (Nat.beq pc 5) (some (.ifCond .eq 11, 3, 16, 0, 0)) none) (cond (Nat.beq pc 8) (some (.aload_n 0, 1, 0, 0, 0)) none)))) (cond (Nat.blt pc 13) (cond (Nat.blt pc 10) (cond (Nat.beq pc 9) (some (.iload_n 1, 1, 1, 0, 0)) none) (cond (Nat.beq pc 10) (some (.invokevirtual 102, 3, 100, 1, 0)) none)) (cond (Nat.blt pc 16) (cond (Nat.beq pc 13) (some (.goto 4, 3, 17, 0, 0)) none) (cond (Nat.blt pc 17) (cond (Nat.beq pc 16) (some (.iconst 0, 1, 0, 0, 0)) none) (cond (Nat.beq pc 17) (some (.ireturn, 1, 0, 0, 0)) none))))
def tb_101 (pc : Nat) : Option mm_E := cond (Nat.blt pc 18) (tt_101 pc) none
def tt_102 (pc : Nat) : Option mm_E := cond (Nat.blt pc 42) (cond (Nat.blt pc 21) (cond (Nat.blt pc 10) (cond (Nat.blt pc 5) (cond (Nat.blt pc 1) (cond (Nat.beq pc 0) (some (.iload_n 1, 1, 1, 0, 0)) none) (cond (Nat.blt pc 2) (cond (Nat.beq pc 1) (some (.iconst (-1), 1, 0, 0, (-1))) none) (cond (Nat.beq pc 2) (some (.if_icmp .eq 8, 3, 10, 0, 0)) none))) (cond (Nat.blt pc 6) (cond (Nat.beq pc 5) (some (.iload_n 2, 1, 2, 0, 0)) none) (cond (Nat.blt pc 7) (cond (Nat.beq pc 6) (some (.iconst (-1), 1, 0, 0, (-1))) none) (cond (Nat.beq pc 7) (some (.if_icmp .ne 14, 3, 21, 0, 0)) none)))) (cond (Nat.blt pc 15) (cond (Nat.blt pc 11) (cond (Nat.beq pc 10) (some (.iload_n 1, 1, 1, 0, 0)) none) (cond (Nat.blt pc 12) (cond (Nat.beq pc 11) (some (.iload_n 2, 1, 2, 0, 0)) none) (cond (Nat.beq pc 12) (some (.if_icmp .ne 7, 3, 19, 0, 0)) none))) (cond (Nat.blt pc 19) (cond (Nat.blt pc 16) (cond (Nat.beq pc 15) (some (.iconst 1, 1, 0, 0, 1)) none) (cond (Nat.beq pc 16) (some (.goto 4, 3, 20, 0, 0)) none)) (cond (Nat.blt pc 20) (cond (Nat.beq pc 19) (some (.iconst 0, 1, 0, 0, 0)) none) (cond (Nat.beq pc 20) (some (.ireturn, 1, 0, 0, 0)) none))))) (cond (Nat.blt pc 31) (cond (Nat.blt pc 26) (cond (Nat.blt pc 22) (cond (Nat.beq pc 21) (some (.aload_n 0, 1, 0, 0, 0)) none) (cond (Nat.blt pc 25) (cond (Nat.beq pc 22) (some (.getfield 47, 3, 9, 15, 0)) none) (cond (Nat.beq pc 25) (some (.iload_n 1, 1, 1, 0, 0)) none))) (cond (Nat.blt pc 27) (cond (Nat.beq pc 26) (some (.iaload, 1, 0, 0, 0)) none) (cond (Nat.blt pc 28) (cond (Nat.beq pc 27) (some (.iconst (-1), 1, 0, 0, (-1))) none) (cond (Nat.beq pc 28) (some (.if_icmp .ne 13, 3, 41, 0, 0)) none)))) (cond (Nat.blt pc 36) (cond (Nat.blt pc 32) (cond (Nat.beq pc 31) (some (.aload_n 0, 1, 0, 0, 0)) none) (cond (Nat.blt pc 35) (cond (Nat.beq pc 32) (some (.getfield 50, 3, 9, 16, 0)) none) (cond (Nat.beq pc 35) (some (.iload_n 2, 1, 2, 0, 0)) none))) (cond (Nat.blt pc 38) (cond (Nat.blt pc 37) (cond (Nat.beq pc 36) (some (.iaload, 1, 0, 0, 0)) none) (cond (Nat.beq pc 37) (some (.iconst (-1), 1, 0, 0, (-1))) none)) (cond (Nat.blt pc 41) (cond (Nat.beq pc 38) (some (.if_icmp .eq 29, 3, 67, 0, 0)) none) (cond (Nat.beq pc 41) (some (.aload_n 0, 1, 0, 0, 0)) none)))))) (cond (Nat.blt pc 65) (cond (Nat.blt pc 52) (cond (Nat.blt pc 47) (cond (Nat.blt pc 45) (cond (Nat.beq pc 42) (some (.getfield 47, 3, 9, 15, 0)) none) (cond (Nat.blt pc 46) (cond (Nat.beq pc 45) (some (.iload_n 1, 1, 1, 0, 0)) none) (cond (Nat.beq pc 46) (some (.iaload, 1, 0, 0, 0)) none))) (cond (Nat.blt pc 48) (cond (Nat.beq pc 47) (some (.iload_n 2, 1, 2, 0, 0)) none) (cond (Nat.blt pc 51) (cond (Nat.beq pc 48) (some (.if_icmp .ne 17, 3, 65, 0, 0)) none) (cond (Nat.beq pc 51) (some (.aload_n 0, 1, 0, 0, 0)) none)))) (cond (Nat.blt pc 57) (cond (Nat.blt pc 55) (cond (Nat.beq pc 52) (some (.getfield 50, 3, 9, 16, 0)) none) (cond (Nat.blt pc 56) (cond (Nat.beq pc 55) (some (.iload_n 2, 1, 2, 0, 0)) none) (cond (Nat.beq pc 56) (some (.iaload, 1, 0, 0, 0)) none))) (cond (Nat.blt pc 61) (cond (Nat.blt pc 58) (cond (Nat.beq pc 57) (some (.iload_n 1, 1, 1, 0, 0)) none) (cond (Nat.beq pc 58) (some (.if_icmp .ne 7, 3, 65, 0, 0)) none)) (cond (Nat.blt pc 62) (cond (Nat.beq pc 61) (some (.iconst 1, 1, 0, 0, 1)) none) (cond (Nat.beq pc 62) (some (.goto 4, 3, 66, 0, 0)) none))))) (cond (Nat.blt pc 74) (cond (Nat.blt pc 68) (cond (Nat.blt pc 66) (cond (Nat.beq pc 65) (some (.iconst 0, 1, 0, 0, 0)) none) (cond (Nat.blt pc 67) (cond (Nat.beq pc 66) (some (.ireturn, 1, 0, 0, 0)) none) (cond (Nat.beq pc 67) (some (.aload_n 0, 1, 0, 0, 0)) none))) (cond (Nat.blt pc 72) (cond (Nat.blt pc 71) (cond (Nat.beq pc 68) (some (.getfield 47, 3, 9, 15, 0)) none) (cond (Nat.beq pc 71) (some (.iload_n 1, 1, 1, 0, 0)) none)) (cond (Nat.blt pc 73) (cond (Nat.beq pc 72) (some (.iload_n 2, 1, 2, 0, 0)) none) (cond (Nat.beq pc 73) (some (.iastore, 1, 0, 0, 0)) none)))) (cond (Nat.blt pc 79) (cond (Nat.blt pc 75) (cond (Nat.beq pc 74) (some (.aload_n 0, 1, 0, 0, 0)) none) (cond (Nat.blt pc 78) (cond (Nat.beq pc 75) (some (.getfield 50, 3, 9, 16, 0)) none) (cond (Nat.beq pc 78) (some (.iload_n 2, 1, 2, 0, 0)) none))) (cond (Nat.blt pc 81) (cond (Nat.blt pc 80) (cond (Nat.beq pc 79) (some (.iload_n 1, 1, 1, 0, 0)) none) (cond (Nat.beq pc 80) (some (.iastore, 1, 0, 0, 0)) none)) (cond (Nat.blt pc 82) (cond (Nat.beq pc 81) (some (.iconst 1, 1, 0, 0, 1)) none) (cond (Nat.beq pc 82) (some (.ireturn, 1, 0, 0, 0)) none))))))
def tb_102 (pc : Nat) : Option mm_E := cond (Nat.blt pc 83) (tt_102 pc) none
def tt_103 (pc : Nat) : Option mm_E := cond (Nat.blt pc 30) (cond (Nat.blt pc 15) (cond (Nat.blt pc 6) (cond (Nat.blt pc 4) (cond (Nat.blt pc 1) (cond (Nat.beq pc 0) (some (.aload_n 0, 1, 0, 0, 0)) none) (cond (Nat.beq pc 1) (some (.getfield 29, 3, 9, 7, 0)) none)) (cond (Nat.blt pc 5) (cond (Nat.beq pc 4) (some (.iload_n 1, 1, 1, 0, 0)) none) (cond (Nat.beq pc 5) (some (.iaload, 1, 0, 0, 0)) none))) (cond (Nat.blt pc 10) (cond (Nat.blt pc 7) (cond (Nat.beq pc 6) (some (.aload_n 0, 1, 0, 0, 0)) none) (cond (Nat.beq pc 7) (some (.getfield 29, 3, 9, 7, 0)) none)) (cond (Nat.blt pc 11) (cond (Nat.beq pc 10) (some (.iload_n 2, 1, 2, 0, 0)) none) (cond (Nat.blt pc 12) (cond (Nat.beq pc 11) (some (.iaload, 1, 0, 0, 0)) none) (cond (Nat.beq pc 12) (some (.if_icmp .ne 7, 3, 19, 0, 0)) none))))) (cond (Nat.blt pc 21) (cond (Nat.blt pc 19) (cond (Nat.blt pc 16) (cond (Nat.beq pc 15) (some (.iconst 1, 1, 0, 0, 1)) none) (cond (Nat.beq pc 16) (some (.goto 4, 3, 20, 0, 0)) none)) (cond (Nat.blt pc 20) (cond (Nat.beq pc 19) (some (.iconst 0, 1, 0, 0, 0)) none) (cond (Nat.beq pc 20) (some (.istore_n 3, 1, 3, 0, 0)) none))) (cond (Nat.blt pc 24) (cond (Nat.blt pc 22) (cond (Nat.beq pc 21) (some (.iconst 0, 1, 0, 0, 0)) none) (cond (Nat.beq pc 22) (some (.istore 4, 2, 4, 0, 0)) none)) (cond (Nat.blt pc 26) (cond (Nat.beq pc 24) (some (.iload 4, 2, 4, 0, 0)) none) (cond (Nat.blt pc 27) (cond (Nat.beq pc 26) (some (.iconst 3, 1, 0, 0, 3)) none) (cond (Nat.beq pc 27) (some (.if_icmp .ge 36, 3, 63, 0, 0)) none)))))) (cond (Nat.blt pc 45) (cond (Nat.blt pc 36) (cond (Nat.blt pc 34) (cond (Nat.blt pc 31) (cond (Nat.beq pc 30) (some (.iload_n 3, 1, 3, 0, 0)) none) (cond (Nat.beq pc 31) (some (.ifCond .eq 24, 3, 55, 0, 0)) none)) (cond (Nat.blt pc 35) (cond (Nat.beq pc 34) (some (.aload_n 0, 1, 0, 0, 0)) none) (cond (Nat.beq pc 35) (some (.iload_n 1, 1, 1, 0, 0)) none))) (cond (Nat.blt pc 41) (cond (Nat.blt pc 38) (cond (Nat.beq pc 36) (some (.iload 4, 2, 4, 0, 0)) none) (cond (Nat.beq pc 38) (some (.invokevirtual 106, 3, 98, 1, 0)) none)) (cond (Nat.blt pc 42) (cond (Nat.beq pc 41) (some (.aload_n 0, 1, 0, 0, 0)) none) (cond (Nat.blt pc 43) (cond (Nat.beq pc 42) (some (.iload_n 2, 1, 2, 0, 0)) none) (cond (Nat.beq pc 43) (some (.iload 4, 2, 4, 0, 0)) none))))) (cond (Nat.blt pc 56) (cond (Nat.blt pc 51) (cond (Nat.blt pc 48) (cond (Nat.beq pc 45) (some (.invokevirtual 106, 3, 98, 1, 0)) none) (cond (Nat.beq pc 48) (some (.if_icmp .ne 7, 3, 55, 0, 0)) none)) (cond (Nat.blt pc 52) (cond (Nat.beq pc 51) (some (.iconst 1, 1, 0, 0, 1)) none) (cond (Nat.blt pc 55) (cond (Nat.beq pc 52) (some (.goto 4, 3, 56, 0, 0)) none) (cond (Nat.beq pc 55) (some (.iconst 0, 1, 0, 0, 0)) none)))) (cond (Nat.blt pc 60) (cond (Nat.blt pc 57) (cond (Nat.beq pc 56) (some (.istore_n 3, 1, 3, 0, 0)) none) (cond (Nat.beq pc 57) (some (.iinc 4 1, 3, 4, 0, 1)) none)) (cond (Nat.blt pc 63) (cond (Nat.beq pc 60) (some (.goto (-36), 3, 24, 0, 0)) none) (cond (Nat.blt pc 64) (cond (Nat.beq pc 63) (some (.iload_n 3, 1, 3, 0, 0)) none) (cond (Nat.beq pc 64) (some (.ireturn, 1, 0, 0, 0)) none))))))
def tb_103 (pc : Nat) : Option mm_E := cond (Nat.blt pc 65) (tt_103 pc) none
def tt_104 (pc : Nat) : Option mm_E := cond (Nat.blt pc 79) (cond (Nat.blt pc 37) (cond (Nat.blt pc 19) (cond (Nat.blt pc 9) (cond (Nat.blt pc 2) (cond (Nat.blt pc 1) (cond (Nat.beq pc 0) (some (.aload_n 0, 1, 0, 0, 0)) none) (cond (Nat.beq pc 1) (some (.iload_n 1, 1, 1, 0, 0)) none)) (cond (Nat.blt pc 5) (cond (Nat.beq pc 2) (some (.invokevirtual 84, 3, 88, 1, 0)) none) (cond (Nat.blt pc 8) (cond (Nat.beq pc 5) (some (.ifCond .eq 11, 3, 16, 0, 0)) none) (cond (Nat.beq pc 8) (some (.aload_n 0, 1, 0, 0, 0)) none)))) (cond (Nat.blt pc 16) (cond (Nat.blt pc 10) (cond (Nat.beq pc 9) (some (.iload_n 2, 1, 2, 0, 0)) none) (cond (Nat.blt pc 13) (cond (Nat.beq pc 10) (some (.invokevirtual 84, 3, 88, 1, 0)) none) (cond (Nat.beq pc 13) (some (.ifCond .ne 5, 3, 18, 0, 0)) none))) (cond (Nat.blt pc 17) (cond (Nat.beq pc 16) (some (.iconst 0, 1, 0, 0, 0)) none) (cond (Nat.blt pc 18) (cond (Nat.beq pc 17) (some (.ireturn, 1, 0, 0, 0)) none) (cond (Nat.beq pc 18) (some (.iconst 0, 1, 0, 0, 0)) none))))) (cond (Nat.blt pc 27) (cond (Nat.blt pc 21) (cond (Nat.blt pc 20) (cond (Nat.beq pc 19) (some (.istore_n 3, 1, 3, 0, 0)) none) (cond (Nat.beq pc 20) (some (.iload_n 3, 1, 3, 0, 0)) none)) (cond (Nat.blt pc 23) (cond (Nat.beq pc 21) (some (.bipush 24, 2, 0, 0, 24)) none) (cond (Nat.blt pc 26) (cond (Nat.beq pc 23) (some (.if_icmp .ge 23, 3, 46, 0, 0)) none) (cond (Nat.beq pc 26) (some (.aload_n 0, 1, 0, 0, 0)) none)))) (cond (Nat.blt pc 32) (cond (Nat.blt pc 30) (cond (Nat.beq pc 27) (some (.getfield 47, 3, 9, 15, 0)) none) (cond (Nat.blt pc 31) (cond (Nat.beq pc 30) (some (.iload_n 3, 1, 3, 0, 0)) none) (cond (Nat.beq pc 31) (some (.iconst (-1), 1, 0, 0, (-1))) none))) (cond (Nat.blt pc 33) (cond (Nat.beq pc 32) (some (.iastore, 1, 0, 0, 0)) none) (cond (Nat.blt pc 34) (cond (Nat.beq pc 33) (some (.aload_n 0, 1, 0, 0, 0)) none) (cond (Nat.beq pc 34) (some (.getfield 50, 3, 9, 16, 0)) none)))))) (cond (Nat.blt pc 54) (cond (Nat.blt pc 46) (cond (Nat.blt pc 39) (cond (Nat.blt pc 38) (cond (Nat.beq pc 37) (some (.iload_n 3, 1, 3, 0, 0)) none) (cond (Nat.beq pc 38) (some (.iconst (-1), 1, 0, 0, (-1))) none)) (cond (Nat.blt pc 40) (cond (Nat.beq pc 39) (some (.iastore, 1, 0, 0, 0)) none) (cond (Nat.blt pc 43) (cond (Nat.beq pc 40) (some (.iinc 3 1, 3, 3, 0, 1)) none) (cond (Nat.beq pc 43) (some (.goto (-23), 3, 20, 0, 0)) none)))) (cond (Nat.blt pc 49) (cond (Nat.blt pc 47) (cond (Nat.beq pc 46) (some (.aload_n 0, 1, 0, 0, 0)) none) (cond (Nat.blt pc 48) (cond (Nat.beq pc 47) (some (.iload_n 1, 1, 1, 0, 0)) none) (cond (Nat.beq pc 48) (some (.iload_n 2, 1, 2, 0, 0)) none))) (cond (Nat.blt pc 52) (cond (Nat.beq pc 49) (some (.invokevirtual 109, 3, 102, 1, 0)) none) (cond (Nat.blt pc 53) (cond (Nat.beq pc 52) (some (.istore_n 3, 1, 3, 0, 0)) none) (cond (Nat.beq pc 53) (some (.iconst 0, 1, 0, 0, 0)) none))))) (cond (Nat.blt pc 67) (cond (Nat.blt pc 60) (cond (Nat.blt pc 56) (cond (Nat.beq pc 54) (some (.istore 4, 2, 4, 0, 0)) none) (cond (Nat.blt pc 58) (cond (Nat.beq pc 56) (some (.iload 4, 2, 4, 0, 0)) none) (cond (Nat.beq pc 58) (some (.bipush 24, 2, 0, 0, 24)) none))) (cond (Nat.blt pc 63) (cond (Nat.beq pc 60) (some (.if_icmp .ge 108, 3, 168, 0, 0)) none) (cond (Nat.blt pc 64) (cond (Nat.beq pc 63) (some (.iload_n 3, 1, 3, 0, 0)) none) (cond (Nat.beq pc 64) (some (.ifCond .eq 104, 3, 168, 0, 0)) none)))) (cond (Nat.blt pc 72) (cond (Nat.blt pc 68) (cond (Nat.beq pc 67) (some (.iconst 0, 1, 0, 0, 0)) none) (cond (Nat.blt pc 70) (cond (Nat.beq pc 68) (some (.istore 5, 2, 5, 0, 0)) none) (cond (Nat.beq pc 70) (some (.iload 5, 2, 5, 0, 0)) none))) (cond (Nat.blt pc 73) (cond (Nat.beq pc 72) (some (.aload_n 0, 1, 0, 0, 0)) none) (cond (Nat.blt pc 76) (cond (Nat.beq pc 73) (some (.getfield 80, 3, 9, 6, 0)) none) (cond (Nat.beq pc 76) (some (.if_icmp .ge 86, 3, 162, 0, 0)) none))))))) (cond (Nat.blt pc 121) (cond (Nat.blt pc 100) (cond (Nat.blt pc 87) (cond (Nat.blt pc 83) (cond (Nat.blt pc 80) (cond (Nat.beq pc 79) (some (.aload_n 0, 1, 0, 0, 0)) none) (cond (Nat.beq pc 80) (some (.getfield 47, 3, 9, 15, 0)) none)) (cond (Nat.blt pc 85) (cond (Nat.beq pc 83) (some (.iload 5, 2, 5, 0, 0)) none) (cond (Nat.blt pc 86) (cond (Nat.beq pc 85) (some (.iaload, 1, 0, 0, 0)) none) (cond (Nat.beq pc 86) (some (.iconst (-1), 1, 0, 0, (-1))) none)))) (cond (Nat.blt pc 94) (cond (Nat.blt pc 90) (cond (Nat.beq pc 87) (some (.if_icmp .eq 69, 3, 156, 0, 0)) none) (cond (Nat.blt pc 91) (cond (Nat.beq pc 90) (some (.iload_n 3, 1, 3, 0, 0)) none) (cond (Nat.beq pc 91) (some (.ifCond .ne 6, 3, 97, 0, 0)) none))) (cond (Nat.blt pc 97) (cond (Nat.beq pc 94) (some (.goto 62, 3, 156, 0, 0)) none) (cond (Nat.blt pc 98) (cond (Nat.beq pc 97) (some (.aload_n 0, 1, 0, 0, 0)) none) (cond (Nat.beq pc 98) (some (.iload 5, 2, 5, 0, 0)) none))))) (cond (Nat.blt pc 111) (cond (Nat.blt pc 106) (cond (Nat.blt pc 101) (cond (Nat.beq pc 100) (some (.aload_n 0, 1, 0, 0, 0)) none) (cond (Nat.blt pc 104) (cond (Nat.beq pc 101) (some (.getfield 47, 3, 9, 15, 0)) none) (cond (Nat.beq pc 104) (some (.iload 5, 2, 5, 0, 0)) none))) (cond (Nat.blt pc 107) (cond (Nat.beq pc 106) (some (.iaload, 1, 0, 0, 0)) none) (cond (Nat.blt pc 110) (cond (Nat.beq pc 107) (some (.invokevirtual 112, 3, 103, 1, 0)) none) (cond (Nat.beq pc 110) (some (.istore_n 3, 1, 3, 0, 0)) none)))) (cond (Nat.blt pc 116) (cond (Nat.blt pc 112) (cond (Nat.beq pc 111) (some (.iconst 0, 1, 0, 0, 0)) none) (cond (Nat.blt pc 114) (cond (Nat.beq pc 112) (some (.istore 6, 2, 6, 0, 0)) none) (cond (Nat.beq pc 114) (some (.iload 6, 2, 6, 0, 0)) none))) (cond (Nat.blt pc 117) (cond (Nat.beq pc 116) (some (.iconst 2, 1, 0, 0, 2)) none) (cond (Nat.blt pc 120) (cond (Nat.beq pc 117) (some (.if_icmp .ge 39, 3, 156, 0, 0)) none) (cond (Nat.beq pc 120) (some (.iload_n 3, 1, 3, 0, 0)) none)))))) (cond (Nat.blt pc 141) (cond (Nat.blt pc 130) (cond (Nat.blt pc 125) (cond (Nat.blt pc 124) (cond (Nat.beq pc 121) (some (.ifCond .eq 35, 3, 156, 0, 0)) none) (cond (Nat.beq pc 124) (some (.aload_n 0, 1, 0, 0, 0)) none)) (cond (Nat.blt pc 126) (cond (Nat.beq pc 125) (some (.aload_n 0, 1, 0, 0, 0)) none) (cond (Nat.blt pc 128) (cond (Nat.beq pc 126) (some (.iload 5, 2, 5, 0, 0)) none) (cond (Nat.beq pc 128) (some (.iload 6, 2, 6, 0, 0)) none)))) (cond (Nat.blt pc 135) (cond (Nat.blt pc 133) (cond (Nat.beq pc 130) (some (.invokevirtual 98, 3, 99, 1, 0)) none) (cond (Nat.blt pc 134) (cond (Nat.beq pc 133) (some (.aload_n 0, 1, 0, 0, 0)) none) (cond (Nat.beq pc 134) (some (.aload_n 0, 1, 0, 0, 0)) none))) (cond (Nat.blt pc 138) (cond (Nat.beq pc 135) (some (.getfield 47, 3, 9, 15, 0)) none) (cond (Nat.blt pc 140) (cond (Nat.beq pc 138) (some (.iload 5, 2, 5, 0, 0)) none) (cond (Nat.beq pc 140) (some (.iaload, 1, 0, 0, 0)) none))))) (cond (Nat.blt pc 156) (cond (Nat.blt pc 149) (cond (Nat.blt pc 143) (cond (Nat.beq pc 141) (some (.iload 6, 2, 6, 0, 0)) none) (cond (Nat.blt pc 146) (cond (Nat.beq pc 143) (some (.invokevirtual 98, 3, 99, 1, 0)) none) (cond (Nat.beq pc 146) (some (.invokevirtual 109, 3, 102, 1, 0)) none))) (cond (Nat.blt pc 150) (cond (Nat.beq pc 149) (some (.istore_n 3, 1, 3, 0, 0)) none) (cond (Nat.blt pc 153) (cond (Nat.beq pc 150) (some (.iinc 6 1, 3, 6, 0, 1)) none) (cond (Nat.beq pc 153) (some (.goto (-39), 3, 114, 0, 0)) none)))) (cond (Nat.blt pc 165) (cond (Nat.blt pc 159) (cond (Nat.beq pc 156) (some (.iinc 5 1, 3, 5, 0, 1)) none) (cond (Nat.blt pc 162) (cond (Nat.beq pc 159) (some (.goto (-89), 3, 70, 0, 0)) none) (cond (Nat.beq pc 162) (some (.iinc 4 1, 3, 4, 0, 1)) none))) (cond (Nat.blt pc 168) (cond (Nat.beq pc 165) (some (.goto (-109), 3, 56, 0, 0)) none) (cond (Nat.blt pc 169) (cond (Nat.beq pc 168) (some (.iload_n 3, 1, 3, 0, 0)) none) (cond (Nat.beq pc 169) (some (.ireturn, 1, 0, 0, 0)) none)))))))
def tb_104 (pc : Nat) : Option mm_E := cond (Nat.blt pc 170) (tt_104 pc) none
def tt_105 (pc : Nat) : Option mm_E := cond (Nat.blt pc 18) (cond (Nat.blt pc 10) (cond (Nat.blt pc 4) (cond (Nat.blt pc 1) (cond (Nat.beq pc 0) (some (.aload_n 0, 1, 0, 0, 0)) none) (cond (Nat.beq pc 1) (some (.getfield 115, 3, 9, 13, 0)) none)) (cond (Nat.blt pc 7) (cond (Nat.beq pc 4) (some (.sipush 300, 3, 0, 0, 300)) none) (cond (Nat.beq pc 7) (some (.if_icmp .ge 13, 3, 20, 0, 0)) none))) (cond (Nat.blt pc 14) (cond (Nat.blt pc 11) (cond (Nat.beq pc 10) (some (.aload_n 0, 1, 0, 0, 0)) none) (cond (Nat.beq pc 11) (some (.getfield 41, 3, 9, 12, 0)) none)) (cond (Nat.blt pc 15) (cond (Nat.beq pc 14) (some (.aload_n 0, 1, 0, 0, 0)) none) (cond (Nat.beq pc 15) (some (.getfield 115, 3, 9, 13, 0)) none)))) (cond (Nat.blt pc 22) (cond (Nat.blt pc 20) (cond (Nat.blt pc 19) (cond (Nat.beq pc 18) (some (.iload_n 1, 1, 1, 0, 0)) none) (cond (Nat.beq pc 19) (some (.iastore, 1, 0, 0, 0)) none)) (cond (Nat.blt pc 21) (cond (Nat.beq pc 20) (some (.aload_n 0, 1, 0, 0, 0)) none) (cond (Nat.beq pc 21) (some (.dup, 1, 0, 0, 0)) none))) (cond (Nat.blt pc 26) (cond (Nat.blt pc 25) (cond (Nat.beq pc 22) (some (.getfield 115, 3, 9, 13, 0)) none) (cond (Nat.beq pc 25) (some (.iconst 1, 1, 0, 0, 1)) none)) (cond (Nat.blt pc 27) (cond (Nat.beq pc 26) (some (.iadd, 1, 0, 0, 0)) none) (cond (Nat.blt pc 30) (cond (Nat.beq pc 27) (some (.putfield 115, 3, 9, 13, 0)) none) (cond (Nat.beq pc 30) (some (.return_, 1, 0, 0, 0)) none)))))
def tb_105 (pc : Nat) : Option mm_E := cond (Nat.blt pc 31) (tt_105 pc) none
def tt_106 (pc : Nat) : Option mm_E := cond (Nat.blt pc 53) (cond (Nat.blt pc 21) (cond (Nat.blt pc 10) (cond (Nat.blt pc 5) (cond (Nat.blt pc 1) (cond (Nat.beq pc 0) (some (.iload_n 1, 1, 1, 0, 0)) none) (cond (Nat.blt pc 4) (cond (Nat.beq pc 1) (some (.ifCond .ge 8, 3, 9, 0, 0)) none) (cond (Nat.beq pc 4) (some (.iload_n 1, 1, 1, 0, 0)) none))) (cond (Nat.blt pc 6) (cond (Nat.beq pc 5) (some (.ineg, 1, 0, 0, 0)) none) (cond (Nat.blt pc 9) (cond (Nat.beq pc 6) (some (.goto 4, 3, 10, 0, 0)) none) (cond (Nat.beq pc 9) (some (.iload_n 1, 1, 1, 0, 0)) none)))) (cond (Nat.blt pc 15) (cond (Nat.blt pc 11) (cond (Nat.beq pc 10) (some (.istore_n 2, 1, 2, 0, 0)) none) (cond (Nat.blt pc 12) (cond (Nat.beq pc 11) (some (.iload_n 1, 1, 1, 0, 0)) none) (cond (Nat.beq pc 12) (some (.ifCond .ge 9, 3, 21, 0, 0)) none))) (cond (Nat.blt pc 16) (cond (Nat.beq pc 15) (some (.aload_n 0, 1, 0, 0, 0)) none) (cond (Nat.blt pc 18) (cond (Nat.beq pc 16) (some (.bipush 45, 2, 0, 0, 45)) none) (cond (Nat.beq pc 18) (some (.invokevirtual 118, 3, 105, 1, 0)) none))))) (cond (Nat.blt pc 35) (cond (Nat.blt pc 28) (cond (Nat.blt pc 22) (cond (Nat.beq pc 21) (some (.iload_n 2, 1, 2, 0, 0)) none) (cond (Nat.blt pc 25) (cond (Nat.beq pc 22) (some (.sipush 9999, 3, 0, 0, 9999)) none) (cond (Nat.beq pc 25) (some (.if_icmp .le 9, 3, 34, 0, 0)) none))) (cond (Nat.blt pc 31) (cond (Nat.beq pc 28) (some (.sipush 10000, 3, 0, 0, 10000)) none) (cond (Nat.blt pc 34) (cond (Nat.beq pc 31) (some (.goto 39, 3, 70, 0, 0)) none) (cond (Nat.beq pc 34) (some (.iload_n 2, 1, 2, 0, 0)) none)))) (cond (Nat.blt pc 44) (cond (Nat.blt pc 38) (cond (Nat.beq pc 35) (some (.sipush 999, 3, 0, 0, 999)) none) (cond (Nat.blt pc 41) (cond (Nat.beq pc 38) (some (.if_icmp .le 9, 3, 47, 0, 0)) none) (cond (Nat.beq pc 41) (some (.sipush 1000, 3, 0, 0, 1000)) none))) (cond (Nat.blt pc 48) (cond (Nat.blt pc 47) (cond (Nat.beq pc 44) (some (.goto 26, 3, 70, 0, 0)) none) (cond (Nat.beq pc 47) (some (.iload_n 2, 1, 2, 0, 0)) none)) (cond (Nat.blt pc 50) (cond (Nat.beq pc 48) (some (.bipush 99, 2, 0, 0, 99)) none) (cond (Nat.beq pc 50) (some (.if_icmp .le 8, 3, 58, 0, 0)) none)))))) (cond (Nat.blt pc 78) (cond (Nat.blt pc 66) (cond (Nat.blt pc 59) (cond (Nat.blt pc 55) (cond (Nat.beq pc 53) (some (.bipush 100, 2, 0, 0, 100)) none) (cond (Nat.blt pc 58) (cond (Nat.beq pc 55) (some (.goto 15, 3, 70, 0, 0)) none) (cond (Nat.beq pc 58) (some (.iload_n 2, 1, 2, 0, 0)) none))) (cond (Nat.blt pc 61) (cond (Nat.beq pc 59) (some (.bipush 9, 2, 0, 0, 9)) none) (cond (Nat.blt pc 64) (cond (Nat.beq pc 61) (some (.if_icmp .le 8, 3, 69, 0, 0)) none) (cond (Nat.beq pc 64) (some (.bipush 10, 2, 0, 0, 10)) none)))) (cond (Nat.blt pc 71) (cond (Nat.blt pc 69) (cond (Nat.beq pc 66) (some (.goto 4, 3, 70, 0, 0)) none) (cond (Nat.blt pc 70) (cond (Nat.beq pc 69) (some (.iconst 1, 1, 0, 0, 1)) none) (cond (Nat.beq pc 70) (some (.istore_n 3, 1, 3, 0, 0)) none))) (cond (Nat.blt pc 75) (cond (Nat.blt pc 72) (cond (Nat.beq pc 71) (some (.iload_n 3, 1, 3, 0, 0)) none) (cond (Nat.beq pc 72) (some (.ifCond .le 24, 3, 96, 0, 0)) none)) (cond (Nat.blt pc 76) (cond (Nat.beq pc 75) (some (.aload_n 0, 1, 0, 0, 0)) none) (cond (Nat.beq pc 76) (some (.bipush 48, 2, 0, 0, 48)) none))))) (cond (Nat.blt pc 85) (cond (Nat.blt pc 81) (cond (Nat.blt pc 79) (cond (Nat.beq pc 78) (some (.iload_n 2, 1, 2, 0, 0)) none) (cond (Nat.blt pc 80) (cond (Nat.beq pc 79) (some (.iload_n 3, 1, 3, 0, 0)) none) (cond (Nat.beq pc 80) (some (.idiv, 1, 0, 0, 0)) none))) (cond (Nat.blt pc 83) (cond (Nat.beq pc 81) (some (.bipush 10, 2, 0, 0, 10)) none) (cond (Nat.blt pc 84) (cond (Nat.beq pc 83) (some (.irem, 1, 0, 0, 0)) none) (cond (Nat.beq pc 84) (some (.iadd, 1, 0, 0, 0)) none)))) (cond (Nat.blt pc 91) (cond (Nat.blt pc 88) (cond (Nat.beq pc 85) (some (.invokevirtual 118, 3, 105, 1, 0)) none) (cond (Nat.blt pc 89) (cond (Nat.beq pc 88) (some (.iload_n 3, 1, 3, 0, 0)) none) (cond (Nat.beq pc 89) (some (.bipush 10, 2, 0, 0, 10)) none))) (cond (Nat.blt pc 93) (cond (Nat.blt pc 92) (cond (Nat.beq pc 91) (some (.idiv, 1, 0, 0, 0)) none) (cond (Nat.beq pc 92) (some (.istore_n 3, 1, 3, 0, 0)) none)) (cond (Nat.blt pc 96) (cond (Nat.beq pc 93) (some (.goto (-22), 3, 71, 0, 0)) none) (cond (Nat.beq pc 96) (some (.return_, 1, 0, 0, 0)) none))))))
def tb_106 (pc : Nat) : Option mm_E := cond (Nat.blt pc 97) (tt_106 pc) none
def tt_107 (pc : Nat) : Option mm_E := cond (Nat.blt pc 28) (cond (Nat.blt pc 13) (cond (Nat.blt pc 4) (cond (Nat.blt pc 2) (cond (Nat.blt pc 1) (cond (Nat.beq pc 0) (some (.iconst 0, 1, 0, 0, 0)) none) (cond (Nat.beq pc 1) (some (.istore_n 2, 1, 2, 0, 0)) none)) (cond (Nat.blt pc 3) (cond (Nat.beq pc 2) (some (.iconst 0, 1, 0, 0, 0)) none) (cond (Nat.beq pc 3) (some (.istore_n 3, 1, 3, 0, 0)) none))) (cond (Nat.blt pc 6) (cond (Nat.blt pc 5) (cond (Nat.beq pc 4) (some (.iload_n 3, 1, 3, 0, 0)) none) (cond (Nat.beq pc 5) (some (.aload_n 0, 1, 0, 0, 0)) none)) (cond (Nat.blt pc 9) (cond (Nat.beq pc 6) (some (.getfield 80, 3, 9, 6, 0)) none) (cond (Nat.blt pc 12) (cond (Nat.beq pc 9) (some (.if_icmp .ge 52, 3, 61, 0, 0)) none) (cond (Nat.beq pc 12) (some (.iconst 0, 1, 0, 0, 0)) none))))) (cond (Nat.blt pc 21) (cond (Nat.blt pc 17) (cond (Nat.blt pc 15) (cond (Nat.beq pc 13) (some (.istore 4, 2, 4, 0, 0)) none) (cond (Nat.beq pc 15) (some (.iload 4, 2, 4, 0, 0)) none)) (cond (Nat.blt pc 18) (cond (Nat.beq pc 17) (some (.iconst 2, 1, 0, 0, 2)) none) (cond (Nat.beq pc 18) (some (.if_icmp .ge 37, 3, 55, 0, 0)) none))) (cond (Nat.blt pc 23) (cond (Nat.blt pc 22) (cond (Nat.beq pc 21) (some (.iload_n 2, 1, 2, 0, 0)) none) (cond (Nat.beq pc 22) (some (.aload_n 0, 1, 0, 0, 0)) none)) (cond (Nat.blt pc 26) (cond (Nat.beq pc 23) (some (.getfield 44, 3, 9, 14, 0)) none) (cond (Nat.blt pc 27) (cond (Nat.beq pc 26) (some (.iload_n 3, 1, 3, 0, 0)) none) (cond (Nat.beq pc 27) (some (.baload, 1, 0, 0, 0)) none)))))) (cond (Nat.blt pc 46) (cond (Nat.blt pc 35) (cond (Nat.blt pc 32) (cond (Nat.blt pc 31) (cond (Nat.beq pc 28) (some (.ifCond .eq 18, 3, 46, 0, 0)) none) (cond (Nat.beq pc 31) (some (.aload_n 0, 1, 0, 0, 0)) none)) (cond (Nat.blt pc 33) (cond (Nat.beq pc 32) (some (.iload_n 3, 1, 3, 0, 0)) none) (cond (Nat.beq pc 33) (some (.iload 4, 2, 4, 0, 0)) none))) (cond (Nat.blt pc 39) (cond (Nat.blt pc 38) (cond (Nat.beq pc 35) (some (.invokevirtual 98, 3, 99, 1, 0)) none) (cond (Nat.beq pc 38) (some (.iload_n 1, 1, 1, 0, 0)) none)) (cond (Nat.blt pc 42) (cond (Nat.beq pc 39) (some (.if_icmp .ne 7, 3, 46, 0, 0)) none) (cond (Nat.blt pc 43) (cond (Nat.beq pc 42) (some (.iconst 1, 1, 0, 0, 1)) none) (cond (Nat.beq pc 43) (some (.goto 4, 3, 47, 0, 0)) none))))) (cond (Nat.blt pc 52) (cond (Nat.blt pc 48) (cond (Nat.blt pc 47) (cond (Nat.beq pc 46) (some (.iconst 0, 1, 0, 0, 0)) none) (cond (Nat.beq pc 47) (some (.iadd, 1, 0, 0, 0)) none)) (cond (Nat.blt pc 49) (cond (Nat.beq pc 48) (some (.istore_n 2, 1, 2, 0, 0)) none) (cond (Nat.beq pc 49) (some (.iinc 4 1, 3, 4, 0, 1)) none))) (cond (Nat.blt pc 58) (cond (Nat.blt pc 55) (cond (Nat.beq pc 52) (some (.goto (-37), 3, 15, 0, 0)) none) (cond (Nat.beq pc 55) (some (.iinc 3 1, 3, 3, 0, 1)) none)) (cond (Nat.blt pc 61) (cond (Nat.beq pc 58) (some (.goto (-54), 3, 4, 0, 0)) none) (cond (Nat.blt pc 62) (cond (Nat.beq pc 61) (some (.iload_n 2, 1, 2, 0, 0)) none) (cond (Nat.beq pc 62) (some (.ireturn, 1, 0, 0, 0)) none))))))
def tb_107 (pc : Nat) : Option mm_E := cond (Nat.blt pc 63) (tt_107 pc) none
def tt_108 (pc : Nat) : Option mm_E := cond (Nat.blt pc 97) (cond (Nat.blt pc 47) (cond (Nat.blt pc 22) (cond (Nat.blt pc 11) (cond (Nat.blt pc 5) (cond (Nat.blt pc 1) (cond (Nat.beq pc 0) (some (.aload_n 0, 1, 0, 0, 0)) none) (cond (Nat.blt pc 4) (cond (Nat.beq pc 1) (some (.getfield 59, 3, 9, 21, 0)) none) (cond (Nat.beq pc 4) (some (.aload_n 0, 1, 0, 0, 0)) none))) (cond (Nat.blt pc 9) (cond (Nat.blt pc 8) (cond (Nat.beq pc 5) (some (.getfield 122, 3, 9, 20, 0)) none) (cond (Nat.beq pc 8) (some (.iload_n 1, 1, 1, 0, 0)) none)) (cond (Nat.blt pc 10) (cond (Nat.beq pc 9) (some (.iastore, 1, 0, 0, 0)) none) (cond (Nat.beq pc 10) (some (.aload_n 0, 1, 0, 0, 0)) none)))) (cond (Nat.blt pc 18) (cond (Nat.blt pc 14) (cond (Nat.beq pc 11) (some (.getfield 62, 3, 9, 22, 0)) none) (cond (Nat.blt pc 15) (cond (Nat.beq pc 14) (some (.aload_n 0, 1, 0, 0, 0)) none) (cond (Nat.beq pc 15) (some (.getfield 122, 3, 9, 20, 0)) none))) (cond (Nat.blt pc 20) (cond (Nat.blt pc 19) (cond (Nat.beq pc 18) (some (.iconst 0, 1, 0, 0, 0)) none) (cond (Nat.beq pc 19) (some (.iastore, 1, 0, 0, 0)) none)) (cond (Nat.blt pc 21) (cond (Nat.beq pc 20) (some (.aload_n 0, 1, 0, 0, 0)) none) (cond (Nat.beq pc 21) (some (.dup, 1, 0, 0, 0)) none))))) (cond (Nat.blt pc 35) (cond (Nat.blt pc 27) (cond (Nat.blt pc 25) (cond (Nat.beq pc 22) (some (.getfield 122, 3, 9, 20, 0)) none) (cond (Nat.blt pc 26) (cond (Nat.beq pc 25) (some (.iconst 1, 1, 0, 0, 1)) none) (cond (Nat.beq pc 26) (some (.iadd, 1, 0, 0, 0)) none))) (cond (Nat.blt pc 31) (cond (Nat.blt pc 30) (cond (Nat.beq pc 27) (some (.putfield 122, 3, 9, 20, 0)) none) (cond (Nat.beq pc 30) (some (.aload_n 0, 1, 0, 0, 0)) none)) (cond (Nat.blt pc 34) (cond (Nat.beq pc 31) (some (.getfield 56, 3, 9, 18, 0)) none) (cond (Nat.beq pc 34) (some (.iload_n 1, 1, 1, 0, 0)) none)))) (cond (Nat.blt pc 40) (cond (Nat.blt pc 37) (cond (Nat.blt pc 36) (cond (Nat.beq pc 35) (some (.iconst 1, 1, 0, 0, 1)) none) (cond (Nat.beq pc 36) (some (.bastore, 1, 0, 0, 0)) none)) (cond (Nat.blt pc 38) (cond (Nat.beq pc 37) (some (.aload_n 0, 1, 0, 0, 0)) none) (cond (Nat.beq pc 38) (some (.bipush 40, 2, 0, 0, 40)) none))) (cond (Nat.blt pc 44) (cond (Nat.blt pc 43) (cond (Nat.beq pc 40) (some (.invokevirtual 118, 3, 105, 1, 0)) none) (cond (Nat.beq pc 43) (some (.aload_n 0, 1, 0, 0, 0)) none)) (cond (Nat.blt pc 46) (cond (Nat.beq pc 44) (some (.bipush 97, 2, 0, 0, 97)) none) (cond (Nat.beq pc 46) (some (.aload_n 0, 1, 0, 0, 0)) none)))))) (cond (Nat.blt pc 71) (cond (Nat.blt pc 58) (cond (Nat.blt pc 52) (cond (Nat.blt pc 50) (cond (Nat.beq pc 47) (some (.getfield 29, 3, 9, 7, 0)) none) (cond (Nat.blt pc 51) (cond (Nat.beq pc 50) (some (.iload_n 1, 1, 1, 0, 0)) none) (cond (Nat.beq pc 51) (some (.iaload, 1, 0, 0, 0)) none))) (cond (Nat.blt pc 56) (cond (Nat.blt pc 53) (cond (Nat.beq pc 52) (some (.iadd, 1, 0, 0, 0)) none) (cond (Nat.beq pc 53) (some (.invokevirtual 118, 3, 105, 1, 0)) none)) (cond (Nat.blt pc 57) (cond (Nat.beq pc 56) (some (.aload_n 0, 1, 0, 0, 0)) none) (cond (Nat.beq pc 57) (some (.iload_n 1, 1, 1, 0, 0)) none)))) (cond (Nat.blt pc 63) (cond (Nat.blt pc 61) (cond (Nat.beq pc 58) (some (.invokevirtual 125, 3, 107, 1, 0)) none) (cond (Nat.blt pc 62) (cond (Nat.beq pc 61) (some (.iload_n 1, 1, 1, 0, 0)) none) (cond (Nat.beq pc 62) (some (.iload_n 2, 1, 2, 0, 0)) none))) (cond (Nat.blt pc 67) (cond (Nat.blt pc 66) (cond (Nat.beq pc 63) (some (.if_icmp .ne 7, 3, 70, 0, 0)) none) (cond (Nat.beq pc 66) (some (.iconst 1, 1, 0, 0, 1)) none)) (cond (Nat.blt pc 70) (cond (Nat.beq pc 67) (some (.goto 4, 3, 71, 0, 0)) none) (cond (Nat.beq pc 70) (some (.iconst 2, 1, 0, 0, 2)) none))))) (cond (Nat.blt pc 84) (cond (Nat.blt pc 76) (cond (Nat.blt pc 74) (cond (Nat.beq pc 71) (some (.if_icmp .lt 39, 3, 110, 0, 0)) none) (cond (Nat.blt pc 75) (cond (Nat.beq pc 74) (some (.aload_n 0, 1, 0, 0, 0)) none) (cond (Nat.beq pc 75) (some (.dup, 1, 0, 0, 0)) none))) (cond (Nat.blt pc 80) (cond (Nat.blt pc 79) (cond (Nat.beq pc 76) (some (.getfield 128, 3, 9, 19, 0)) none) (cond (Nat.beq pc 79) (some (.iconst 1, 1, 0, 0, 1)) none)) (cond (Nat.blt pc 81) (cond (Nat.beq pc 80) (some (.iadd, 1, 0, 0, 0)) none) (cond (Nat.beq pc 81) (some (.putfield 128, 3, 9, 19, 0)) none)))) (cond (Nat.blt pc 90) (cond (Nat.blt pc 88) (cond (Nat.blt pc 85) (cond (Nat.beq pc 84) (some (.aload_n 0, 1, 0, 0, 0)) none) (cond (Nat.beq pc 85) (some (.getfield 53, 3, 9, 17, 0)) none)) (cond (Nat.blt pc 89) (cond (Nat.beq pc 88) (some (.iload_n 1, 1, 1, 0, 0)) none) (cond (Nat.beq pc 89) (some (.aload_n 0, 1, 0, 0, 0)) none))) (cond (Nat.blt pc 94) (cond (Nat.blt pc 93) (cond (Nat.beq pc 90) (some (.getfield 128, 3, 9, 19, 0)) none) (cond (Nat.beq pc 93) (some (.iastore, 1, 0, 0, 0)) none)) (cond (Nat.blt pc 95) (cond (Nat.beq pc 94) (some (.aload_n 0, 1, 0, 0, 0)) none) (cond (Nat.beq pc 95) (some (.bipush 35, 2, 0, 0, 35)) none))))))) (cond (Nat.blt pc 142) (cond (Nat.blt pc 121) (cond (Nat.blt pc 110) (cond (Nat.blt pc 102) (cond (Nat.blt pc 100) (cond (Nat.beq pc 97) (some (.invokevirtual 118, 3, 105, 1, 0)) none) (cond (Nat.blt pc 101) (cond (Nat.beq pc 100) (some (.aload_n 0, 1, 0, 0, 0)) none) (cond (Nat.beq pc 101) (some (.aload_n 0, 1, 0, 0, 0)) none))) (cond (Nat.blt pc 106) (cond (Nat.blt pc 105) (cond (Nat.beq pc 102) (some (.getfield 128, 3, 9, 19, 0)) none) (cond (Nat.beq pc 105) (some (.iconst 1, 1, 0, 0, 1)) none)) (cond (Nat.blt pc 107) (cond (Nat.beq pc 106) (some (.isub, 1, 0, 0, 0)) none) (cond (Nat.beq pc 107) (some (.invokevirtual 131, 3, 106, 1, 0)) none)))) (cond (Nat.blt pc 113) (cond (Nat.blt pc 111) (cond (Nat.beq pc 110) (some (.iconst 0, 1, 0, 0, 0)) none) (cond (Nat.blt pc 112) (cond (Nat.beq pc 111) (some (.istore_n 3, 1, 3, 0, 0)) none) (cond (Nat.beq pc 112) (some (.iload_n 3, 1, 3, 0, 0)) none))) (cond (Nat.blt pc 117) (cond (Nat.blt pc 114) (cond (Nat.beq pc 113) (some (.aload_n 0, 1, 0, 0, 0)) none) (cond (Nat.beq pc 114) (some (.getfield 13, 3, 9, 1, 0)) none)) (cond (Nat.blt pc 118) (cond (Nat.beq pc 117) (some (.aload_n 0, 1, 0, 0, 0)) none) (cond (Nat.beq pc 118) (some (.getfield 29, 3, 9, 7, 0)) none))))) (cond (Nat.blt pc 132) (cond (Nat.blt pc 124) (cond (Nat.blt pc 122) (cond (Nat.beq pc 121) (some (.iload_n 1, 1, 1, 0, 0)) none) (cond (Nat.blt pc 123) (cond (Nat.beq pc 122) (some (.iaload, 1, 0, 0, 0)) none) (cond (Nat.beq pc 123) (some (.iaload, 1, 0, 0, 0)) none))) (cond (Nat.blt pc 128) (cond (Nat.blt pc 127) (cond (Nat.beq pc 124) (some (.if_icmp .ge 65, 3, 189, 0, 0)) none) (cond (Nat.beq pc 127) (some (.aload_n 0, 1, 0, 0, 0)) none)) (cond (Nat.blt pc 131) (cond (Nat.beq pc 128) (some (.getfield 32, 3, 9, 8, 0)) none) (cond (Nat.beq pc 131) (some (.iconst 3, 1, 0, 0, 3)) none)))) (cond (Nat.blt pc 136) (cond (Nat.blt pc 134) (cond (Nat.blt pc 133) (cond (Nat.beq pc 132) (some (.iload_n 1, 1, 1, 0, 0)) none) (cond (Nat.beq pc 133) (some (.imul, 1, 0, 0, 0)) none)) (cond (Nat.blt pc 135) (cond (Nat.beq pc 134) (some (.iload_n 3, 1, 3, 0, 0)) none) (cond (Nat.beq pc 135) (some (.iadd, 1, 0, 0, 0)) none))) (cond (Nat.blt pc 138) (cond (Nat.blt pc 137) (cond (Nat.beq pc 136) (some (.iaload, 1, 0, 0, 0)) none) (cond (Nat.beq pc 137) (some (.aload_n 0, 1, 0, 0, 0)) none)) (cond (Nat.blt pc 141) (cond (Nat.beq pc 138) (some (.getfield 20, 3, 9, 3, 0)) none) (cond (Nat.beq pc 141) (some (.iconst 3, 1, 0, 0, 3)) none)))))) (cond (Nat.blt pc 164) (cond (Nat.blt pc 151) (cond (Nat.blt pc 147) (cond (Nat.blt pc 143) (cond (Nat.beq pc 142) (some (.aload_n 0, 1, 0, 0, 0)) none) (cond (Nat.blt pc 146) (cond (Nat.beq pc 143) (some (.getfield 29, 3, 9, 7, 0)) none) (cond (Nat.beq pc 146) (some (.iload_n 1, 1, 1, 0, 0)) none))) (cond (Nat.blt pc 149) (cond (Nat.blt pc 148) (cond (Nat.beq pc 147) (some (.iaload, 1, 0, 0, 0)) none) (cond (Nat.beq pc 148) (some (.imul, 1, 0, 0, 0)) none)) (cond (Nat.blt pc 150) (cond (Nat.beq pc 149) (some (.iload_n 3, 1, 3, 0, 0)) none) (cond (Nat.beq pc 150) (some (.iadd, 1, 0, 0, 0)) none)))) (cond (Nat.blt pc 158) (cond (Nat.blt pc 155) (cond (Nat.blt pc 152) (cond (Nat.beq pc 151) (some (.iaload, 1, 0, 0, 0)) none) (cond (Nat.beq pc 152) (some (.if_icmp .eq 31, 3, 183, 0, 0)) none)) (cond (Nat.blt pc 156) (cond (Nat.beq pc 155) (some (.aload_n 0, 1, 0, 0, 0)) none) (cond (Nat.beq pc 156) (some (.bipush 120, 2, 0, 0, 120)) none))) (cond (Nat.blt pc 160) (cond (Nat.blt pc 159) (cond (Nat.beq pc 158) (some (.iload_n 3, 1, 3, 0, 0)) none) (cond (Nat.beq pc 159) (some (.iadd, 1, 0, 0, 0)) none)) (cond (Nat.blt pc 163) (cond (Nat.beq pc 160) (some (.invokevirtual 118, 3, 105, 1, 0)) none) (cond (Nat.beq pc 163) (some (.aload_n 0, 1, 0, 0, 0)) none))))) (cond (Nat.blt pc 176) (cond (Nat.blt pc 170) (cond (Nat.blt pc 166) (cond (Nat.beq pc 164) (some (.bipush 61, 2, 0, 0, 61)) none) (cond (Nat.blt pc 169) (cond (Nat.beq pc 166) (some (.invokevirtual 118, 3, 105, 1, 0)) none) (cond (Nat.beq pc 169) (some (.aload_n 0, 1, 0, 0, 0)) none))) (cond (Nat.blt pc 174) (cond (Nat.blt pc 171) (cond (Nat.beq pc 170) (some (.aload_n 0, 1, 0, 0, 0)) none) (cond (Nat.beq pc 171) (some (.getfield 32, 3, 9, 8, 0)) none)) (cond (Nat.blt pc 175) (cond (Nat.beq pc 174) (some (.iconst 3, 1, 0, 0, 3)) none) (cond (Nat.beq pc 175) (some (.iload_n 1, 1, 1, 0, 0)) none)))) (cond (Nat.blt pc 180) (cond (Nat.blt pc 178) (cond (Nat.blt pc 177) (cond (Nat.beq pc 176) (some (.imul, 1, 0, 0, 0)) none) (cond (Nat.beq pc 177) (some (.iload_n 3, 1, 3, 0, 0)) none)) (cond (Nat.blt pc 179) (cond (Nat.beq pc 178) (some (.iadd, 1, 0, 0, 0)) none) (cond (Nat.beq pc 179) (some (.iaload, 1, 0, 0, 0)) none))) (cond (Nat.blt pc 186) (cond (Nat.blt pc 183) (cond (Nat.beq pc 180) (some (.invokevirtual 131, 3, 106, 1, 0)) none) (cond (Nat.beq pc 183) (some (.iinc 3 1, 3, 3, 0, 1)) none)) (cond (Nat.blt pc 189) (cond (Nat.beq pc 186) (some (.goto (-74), 3, 112, 0, 0)) none) (cond (Nat.beq pc 189) (some (.return_, 1, 0, 0, 0)) none)))))))
def tb_108 (pc : Nat) : Option mm_E := cond (Nat.blt pc 190) (tt_108 pc) none
def tt_109 (pc : Nat) : Option mm_E := cond (Nat.blt pc 139) (cond (Nat.blt pc 67) (cond (Nat.blt pc 32) (cond (Nat.blt pc 16) (cond (Nat.blt pc 9) (cond (Nat.blt pc 2) (cond (Nat.blt pc 1) (cond (Nat.beq pc 0) (some (.aload_n 0, 1, 0, 0, 0)) none) (cond (Nat.beq pc 1) (some (.iload_n 1, 1, 1, 0, 0)) none)) (cond (Nat.blt pc 5) (cond (Nat.beq pc 2) (some (.invokevirtual 84, 3, 88, 1, 0)) none) (cond (Nat.blt pc 8) (cond (Nat.beq pc 5) (some (.ifCond .ne 5, 3, 10, 0, 0)) none) (cond (Nat.beq pc 8) (some (.iconst (-1), 1, 0, 0, (-1))) none)))) (cond (Nat.blt pc 11) (cond (Nat.blt pc 10) (cond (Nat.beq pc 9) (some (.ireturn, 1, 0, 0, 0)) none) (cond (Nat.beq pc 10) (some (.aload_n 0, 1, 0, 0, 0)) none)) (cond (Nat.blt pc 12) (cond (Nat.beq pc 11) (some (.iload_n 1, 1, 1, 0, 0)) none) (cond (Nat.blt pc 15) (cond (Nat.beq pc 12) (some (.invokevirtual 102, 3, 100, 1, 0)) none) (cond (Nat.beq pc 15) (some (.pop, 1, 0, 0, 0)) none))))) (cond (Nat.blt pc 24) (cond (Nat.blt pc 18) (cond (Nat.blt pc 17) (cond (Nat.beq pc 16) (some (.iconst 0, 1, 0, 0, 0)) none) (cond (Nat.beq pc 17) (some (.istore_n 2, 1, 2, 0, 0)) none)) (cond (Nat.blt pc 19) (cond (Nat.beq pc 18) (some (.iload_n 2, 1, 2, 0, 0)) none) (cond (Nat.blt pc 21) (cond (Nat.beq pc 19) (some (.bipush 24, 2, 0, 0, 24)) none) (cond (Nat.beq pc 21) (some (.if_icmp .ge 23, 3, 44, 0, 0)) none)))) (cond (Nat.blt pc 29) (cond (Nat.blt pc 25) (cond (Nat.beq pc 24) (some (.aload_n 0, 1, 0, 0, 0)) none) (cond (Nat.blt pc 28) (cond (Nat.beq pc 25) (some (.getfield 53, 3, 9, 17, 0)) none) (cond (Nat.beq pc 28) (some (.iload_n 2, 1, 2, 0, 0)) none))) (cond (Nat.blt pc 30) (cond (Nat.beq pc 29) (some (.iconst 0, 1, 0, 0, 0)) none) (cond (Nat.blt pc 31) (cond (Nat.beq pc 30) (some (.iastore, 1, 0, 0, 0)) none) (cond (Nat.beq pc 31) (some (.aload_n 0, 1, 0, 0, 0)) none)))))) (cond (Nat.blt pc 50) (cond (Nat.blt pc 41) (cond (Nat.blt pc 36) (cond (Nat.blt pc 35) (cond (Nat.beq pc 32) (some (.getfield 56, 3, 9, 18, 0)) none) (cond (Nat.beq pc 35) (some (.iload_n 2, 1, 2, 0, 0)) none)) (cond (Nat.blt pc 37) (cond (Nat.beq pc 36) (some (.iconst 0, 1, 0, 0, 0)) none) (cond (Nat.blt pc 38) (cond (Nat.beq pc 37) (some (.bastore, 1, 0, 0, 0)) none) (cond (Nat.beq pc 38) (some (.iinc 2 1, 3, 2, 0, 1)) none)))) (cond (Nat.blt pc 45) (cond (Nat.blt pc 44) (cond (Nat.beq pc 41) (some (.goto (-23), 3, 18, 0, 0)) none) (cond (Nat.beq pc 44) (some (.aload_n 0, 1, 0, 0, 0)) none)) (cond (Nat.blt pc 46) (cond (Nat.beq pc 45) (some (.iconst 0, 1, 0, 0, 0)) none) (cond (Nat.blt pc 49) (cond (Nat.beq pc 46) (some (.putfield 128, 3, 9, 19, 0)) none) (cond (Nat.beq pc 49) (some (.aload_n 0, 1, 0, 0, 0)) none))))) (cond (Nat.blt pc 59) (cond (Nat.blt pc 54) (cond (Nat.blt pc 51) (cond (Nat.beq pc 50) (some (.iconst 0, 1, 0, 0, 0)) none) (cond (Nat.beq pc 51) (some (.putfield 115, 3, 9, 13, 0)) none)) (cond (Nat.blt pc 55) (cond (Nat.beq pc 54) (some (.aload_n 0, 1, 0, 0, 0)) none) (cond (Nat.blt pc 56) (cond (Nat.beq pc 55) (some (.iconst 0, 1, 0, 0, 0)) none) (cond (Nat.beq pc 56) (some (.putfield 122, 3, 9, 20, 0)) none)))) (cond (Nat.blt pc 62) (cond (Nat.blt pc 60) (cond (Nat.beq pc 59) (some (.iconst 0, 1, 0, 0, 0)) none) (cond (Nat.blt pc 61) (cond (Nat.beq pc 60) (some (.istore_n 2, 1, 2, 0, 0)) none) (cond (Nat.beq pc 61) (some (.aload_n 0, 1, 0, 0, 0)) none))) (cond (Nat.blt pc 63) (cond (Nat.beq pc 62) (some (.iload_n 1, 1, 1, 0, 0)) none) (cond (Nat.blt pc 64) (cond (Nat.beq pc 63) (some (.iload_n 1, 1, 1, 0, 0)) none) (cond (Nat.beq pc 64) (some (.invokevirtual 134, 3, 108, 1, 0)) none))))))) (cond (Nat.blt pc 103) (cond (Nat.blt pc 85) (cond (Nat.blt pc 78) (cond (Nat.blt pc 71) (cond (Nat.blt pc 68) (cond (Nat.beq pc 67) (some (.aload_n 0, 1, 0, 0, 0)) none) (cond (Nat.beq pc 68) (some (.getfield 122, 3, 9, 20, 0)) none)) (cond (Nat.blt pc 74) (cond (Nat.beq pc 71) (some (.ifCond .le 169, 3, 240, 0, 0)) none) (cond (Nat.blt pc 75) (cond (Nat.beq pc 74) (some (.aload_n 0, 1, 0, 0, 0)) none) (cond (Nat.beq pc 75) (some (.getfield 59, 3, 9, 21, 0)) none)))) (cond (Nat.blt pc 82) (cond (Nat.blt pc 79) (cond (Nat.beq pc 78) (some (.aload_n 0, 1, 0, 0, 0)) none) (cond (Nat.beq pc 79) (some (.getfield 122, 3, 9, 20, 0)) none)) (cond (Nat.blt pc 83) (cond (Nat.beq pc 82) (some (.iconst 1, 1, 0, 0, 1)) none) (cond (Nat.blt pc 84) (cond (Nat.beq pc 83) (some (.isub, 1, 0, 0, 0)) none) (cond (Nat.beq pc 84) (some (.iaload, 1, 0, 0, 0)) none))))) (cond (Nat.blt pc 94) (cond (Nat.blt pc 87) (cond (Nat.blt pc 86) (cond (Nat.beq pc 85) (some (.istore_n 3, 1, 3, 0, 0)) none) (cond (Nat.beq pc 86) (some (.aload_n 0, 1, 0, 0, 0)) none)) (cond (Nat.blt pc 90) (cond (Nat.beq pc 87) (some (.getfield 62, 3, 9, 22, 0)) none) (cond (Nat.blt pc 91) (cond (Nat.beq pc 90) (some (.aload_n 0, 1, 0, 0, 0)) none) (cond (Nat.beq pc 91) (some (.getfield 122, 3, 9, 20, 0)) none)))) (cond (Nat.blt pc 97) (cond (Nat.blt pc 95) (cond (Nat.beq pc 94) (some (.iconst 1, 1, 0, 0, 1)) none) (cond (Nat.blt pc 96) (cond (Nat.beq pc 95) (some (.isub, 1, 0, 0, 0)) none) (cond (Nat.beq pc 96) (some (.iaload, 1, 0, 0, 0)) none))) (cond (Nat.blt pc 99) (cond (Nat.beq pc 97) (some (.istore 4, 2, 4, 0, 0)) none) (cond (Nat.blt pc 100) (cond (Nat.beq pc 99) (some (.aload_n 0, 1, 0, 0, 0)) none) (cond (Nat.beq pc 100) (some (.getfield 62, 3, 9, 22, 0)) none)))))) (cond (Nat.blt pc 117) (cond (Nat.blt pc 110) (cond (Nat.blt pc 107) (cond (Nat.blt pc 104) (cond (Nat.beq pc 103) (some (.aload_n 0, 1, 0, 0, 0)) none) (cond (Nat.beq pc 104) (some (.getfield 122, 3, 9, 20, 0)) none)) (cond (Nat.blt pc 108) (cond (Nat.beq pc 107) (some (.iconst 1, 1, 0, 0, 1)) none) (cond (Nat.blt pc 109) (cond (Nat.beq pc 108) (some (.isub, 1, 0, 0, 0)) none) (cond (Nat.beq pc 109) (some (.dup2, 1, 0, 0, 0)) none)))) (cond (Nat.blt pc 113) (cond (Nat.blt pc 111) (cond (Nat.beq pc 110) (some (.iaload, 1, 0, 0, 0)) none) (cond (Nat.blt pc 112) (cond (Nat.beq pc 111) (some (.iconst 1, 1, 0, 0, 1)) none) (cond (Nat.beq pc 112) (some (.iadd, 1, 0, 0, 0)) none))) (cond (Nat.blt pc 114) (cond (Nat.beq pc 113) (some (.iastore, 1, 0, 0, 0)) none) (cond (Nat.blt pc 116) (cond (Nat.beq pc 114) (some (.iload 4, 2, 4, 0, 0)) none) (cond (Nat.beq pc 116) (some (.iconst 2, 1, 0, 0, 2)) none))))) (cond (Nat.blt pc 127) (cond (Nat.blt pc 121) (cond (Nat.blt pc 120) (cond (Nat.beq pc 117) (some (.if_icmp .ge 13, 3, 130, 0, 0)) none) (cond (Nat.beq pc 120) (some (.aload_n 0, 1, 0, 0, 0)) none)) (cond (Nat.blt pc 122) (cond (Nat.beq pc 121) (some (.iload_n 3, 1, 3, 0, 0)) none) (cond (Nat.blt pc 124) (cond (Nat.beq pc 122) (some (.iload 4, 2, 4, 0, 0)) none) (cond (Nat.beq pc 124) (some (.invokevirtual 98, 3, 99, 1, 0)) none)))) (cond (Nat.blt pc 133) (cond (Nat.blt pc 130) (cond (Nat.beq pc 127) (some (.goto 4, 3, 131, 0, 0)) none) (cond (Nat.blt pc 131) (cond (Nat.beq pc 130) (some (.iconst (-1), 1, 0, 0, (-1))) none) (cond (Nat.beq pc 131) (some (.istore 5, 2, 5, 0, 0)) none))) (cond (Nat.blt pc 135) (cond (Nat.beq pc 133) (some (.iload 4, 2, 4, 0, 0)) none) (cond (Nat.blt pc 136) (cond (Nat.beq pc 135) (some (.iconst 2, 1, 0, 0, 2)) none) (cond (Nat.beq pc 136) (some (.if_icmp .lt 22, 3, 158, 0, 0)) none)))))))) (cond (Nat.blt pc 219) (cond (Nat.blt pc 179) (cond (Nat.blt pc 158) (cond (Nat.blt pc 147) (cond (Nat.blt pc 142) (cond (Nat.blt pc 140) (cond (Nat.beq pc 139) (some (.aload_n 0, 1, 0, 0, 0)) none) (cond (Nat.beq pc 140) (some (.bipush 41, 2, 0, 0, 41)) none)) (cond (Nat.blt pc 145) (cond (Nat.beq pc 142) (some (.invokevirtual 118, 3, 105, 1, 0)) none) (cond (Nat.blt pc 146) (cond (Nat.beq pc 145) (some (.aload_n 0, 1, 0, 0, 0)) none) (cond (Nat.beq pc 146) (some (.dup, 1, 0, 0, 0)) none)))) (cond (Nat.blt pc 151) (cond (Nat.blt pc 150) (cond (Nat.beq pc 147) (some (.getfield 122, 3, 9, 20, 0)) none) (cond (Nat.beq pc 150) (some (.iconst 1, 1, 0, 0, 1)) none)) (cond (Nat.blt pc 152) (cond (Nat.beq pc 151) (some (.isub, 1, 0, 0, 0)) none) (cond (Nat.blt pc 155) (cond (Nat.beq pc 152) (some (.putfield 122, 3, 9, 20, 0)) none) (cond (Nat.beq pc 155) (some (.goto 82, 3, 237, 0, 0)) none))))) (cond (Nat.blt pc 167) (cond (Nat.blt pc 161) (cond (Nat.blt pc 160) (cond (Nat.beq pc 158) (some (.iload 5, 2, 5, 0, 0)) none) (cond (Nat.beq pc 160) (some (.iconst (-1), 1, 0, 0, (-1))) none)) (cond (Nat.blt pc 164) (cond (Nat.beq pc 161) (some (.if_icmp .eq 76, 3, 237, 0, 0)) none) (cond (Nat.blt pc 165) (cond (Nat.beq pc 164) (some (.aload_n 0, 1, 0, 0, 0)) none) (cond (Nat.beq pc 165) (some (.bipush 112, 2, 0, 0, 112)) none)))) (cond (Nat.blt pc 173) (cond (Nat.blt pc 169) (cond (Nat.beq pc 167) (some (.iload 4, 2, 4, 0, 0)) none) (cond (Nat.blt pc 170) (cond (Nat.beq pc 169) (some (.iadd, 1, 0, 0, 0)) none) (cond (Nat.beq pc 170) (some (.invokevirtual 118, 3, 105, 1, 0)) none))) (cond (Nat.blt pc 174) (cond (Nat.beq pc 173) (some (.aload_n 0, 1, 0, 0, 0)) none) (cond (Nat.blt pc 176) (cond (Nat.beq pc 174) (some (.bipush 61, 2, 0, 0, 61)) none) (cond (Nat.beq pc 176) (some (.invokevirtual 118, 3, 105, 1, 0)) none)))))) (cond (Nat.blt pc 200) (cond (Nat.blt pc 189) (cond (Nat.blt pc 183) (cond (Nat.blt pc 180) (cond (Nat.beq pc 179) (some (.aload_n 0, 1, 0, 0, 0)) none) (cond (Nat.beq pc 180) (some (.getfield 56, 3, 9, 18, 0)) none)) (cond (Nat.blt pc 185) (cond (Nat.beq pc 183) (some (.iload 5, 2, 5, 0, 0)) none) (cond (Nat.blt pc 186) (cond (Nat.beq pc 185) (some (.baload, 1, 0, 0, 0)) none) (cond (Nat.beq pc 186) (some (.ifCond .eq 25, 3, 211, 0, 0)) none)))) (cond (Nat.blt pc 195) (cond (Nat.blt pc 190) (cond (Nat.beq pc 189) (some (.aload_n 0, 1, 0, 0, 0)) none) (cond (Nat.blt pc 192) (cond (Nat.beq pc 190) (some (.bipush 64, 2, 0, 0, 64)) none) (cond (Nat.beq pc 192) (some (.invokevirtual 118, 3, 105, 1, 0)) none))) (cond (Nat.blt pc 196) (cond (Nat.beq pc 195) (some (.aload_n 0, 1, 0, 0, 0)) none) (cond (Nat.blt pc 197) (cond (Nat.beq pc 196) (some (.aload_n 0, 1, 0, 0, 0)) none) (cond (Nat.beq pc 197) (some (.getfield 53, 3, 9, 17, 0)) none))))) (cond (Nat.blt pc 208) (cond (Nat.blt pc 203) (cond (Nat.blt pc 202) (cond (Nat.beq pc 200) (some (.iload 5, 2, 5, 0, 0)) none) (cond (Nat.beq pc 202) (some (.iaload, 1, 0, 0, 0)) none)) (cond (Nat.blt pc 204) (cond (Nat.beq pc 203) (some (.iconst 1, 1, 0, 0, 1)) none) (cond (Nat.blt pc 205) (cond (Nat.beq pc 204) (some (.isub, 1, 0, 0, 0)) none) (cond (Nat.beq pc 205) (some (.invokevirtual 131, 3, 106, 1, 0)) none)))) (cond (Nat.blt pc 214) (cond (Nat.blt pc 211) (cond (Nat.beq pc 208) (some (.goto 29, 3, 237, 0, 0)) none) (cond (Nat.blt pc 212) (cond (Nat.beq pc 211) (some (.aload_n 0, 1, 0, 0, 0)) none) (cond (Nat.beq pc 212) (some (.iload 5, 2, 5, 0, 0)) none))) (cond (Nat.blt pc 215) (cond (Nat.beq pc 214) (some (.iload_n 1, 1, 1, 0, 0)) none) (cond (Nat.blt pc 218) (cond (Nat.beq pc 215) (some (.invokevirtual 134, 3, 108, 1, 0)) none) (cond (Nat.beq pc 218) (some (.iload_n 2, 1, 2, 0, 0)) none))))))) (cond (Nat.blt pc 261) (cond (Nat.blt pc 240) (cond (Nat.blt pc 231) (cond (Nat.blt pc 223) (cond (Nat.blt pc 222) (cond (Nat.beq pc 219) (some (.ifCond .ne 12, 3, 231, 0, 0)) none) (cond (Nat.beq pc 222) (some (.aload_n 0, 1, 0, 0, 0)) none)) (cond (Nat.blt pc 226) (cond (Nat.beq pc 223) (some (.getfield 122, 3, 9, 20, 0)) none) (cond (Nat.blt pc 228) (cond (Nat.beq pc 226) (some (.bipush 10, 2, 0, 0, 10)) none) (cond (Nat.beq pc 228) (some (.if_icmp .le 7, 3, 235, 0, 0)) none)))) (cond (Nat.blt pc 235) (cond (Nat.blt pc 232) (cond (Nat.beq pc 231) (some (.iconst 1, 1, 0, 0, 1)) none) (cond (Nat.beq pc 232) (some (.goto 4, 3, 236, 0, 0)) none)) (cond (Nat.blt pc 236) (cond (Nat.beq pc 235) (some (.iconst 0, 1, 0, 0, 0)) none) (cond (Nat.blt pc 237) (cond (Nat.beq pc 236) (some (.istore_n 2, 1, 2, 0, 0)) none) (cond (Nat.beq pc 237) (some (.goto (-170), 3, 67, 0, 0)) none))))) (cond (Nat.blt pc 248) (cond (Nat.blt pc 244) (cond (Nat.blt pc 241) (cond (Nat.beq pc 240) (some (.iload_n 2, 1, 2, 0, 0)) none) (cond (Nat.beq pc 241) (some (.ifCond .eq 6, 3, 247, 0, 0)) none)) (cond (Nat.blt pc 246) (cond (Nat.beq pc 244) (some (.bipush (-2), 2, 0, 0, (-2))) none) (cond (Nat.blt pc 247) (cond (Nat.beq pc 246) (some (.ireturn, 1, 0, 0, 0)) none) (cond (Nat.beq pc 247) (some (.aload_n 0, 1, 0, 0, 0)) none)))) (cond (Nat.blt pc 257) (cond (Nat.blt pc 251) (cond (Nat.beq pc 248) (some (.getfield 115, 3, 9, 13, 0)) none) (cond (Nat.blt pc 254) (cond (Nat.beq pc 251) (some (.sipush 300, 3, 0, 0, 300)) none) (cond (Nat.beq pc 254) (some (.if_icmp .le 6, 3, 260, 0, 0)) none))) (cond (Nat.blt pc 259) (cond (Nat.beq pc 257) (some (.bipush (-3), 2, 0, 0, (-3))) none) (cond (Nat.blt pc 260) (cond (Nat.beq pc 259) (some (.ireturn, 1, 0, 0, 0)) none) (cond (Nat.beq pc 260) (some (.iconst 0, 1, 0, 0, 0)) none)))))) (cond (Nat.blt pc 280) (cond (Nat.blt pc 270) (cond (Nat.blt pc 263) (cond (Nat.blt pc 262) (cond (Nat.beq pc 261) (some (.istore_n 3, 1, 3, 0, 0)) none) (cond (Nat.beq pc 262) (some (.iload_n 3, 1, 3, 0, 0)) none)) (cond (Nat.blt pc 264) (cond (Nat.beq pc 263) (some (.aload_n 0, 1, 0, 0, 0)) none) (cond (Nat.blt pc 267) (cond (Nat.beq pc 264) (some (.getfield 115, 3, 9, 13, 0)) none) (cond (Nat.beq pc 267) (some (.if_icmp .ge 21, 3, 288, 0, 0)) none)))) (cond (Nat.blt pc 275) (cond (Nat.blt pc 271) (cond (Nat.beq pc 270) (some (.aload_n 0, 1, 0, 0, 0)) none) (cond (Nat.blt pc 274) (cond (Nat.beq pc 271) (some (.getfield 38, 3, 9, 10, 0)) none) (cond (Nat.beq pc 274) (some (.iload_n 3, 1, 3, 0, 0)) none))) (cond (Nat.blt pc 276) (cond (Nat.beq pc 275) (some (.aload_n 0, 1, 0, 0, 0)) none) (cond (Nat.blt pc 279) (cond (Nat.beq pc 276) (some (.getfield 41, 3, 9, 12, 0)) none) (cond (Nat.beq pc 279) (some (.iload_n 3, 1, 3, 0, 0)) none))))) (cond (Nat.blt pc 289) (cond (Nat.blt pc 282) (cond (Nat.blt pc 281) (cond (Nat.beq pc 280) (some (.iaload, 1, 0, 0, 0)) none) (cond (Nat.beq pc 281) (some (.iastore, 1, 0, 0, 0)) none)) (cond (Nat.blt pc 285) (cond (Nat.beq pc 282) (some (.iinc 3 1, 3, 3, 0, 1)) none) (cond (Nat.blt pc 288) (cond (Nat.beq pc 285) (some (.goto (-23), 3, 262, 0, 0)) none) (cond (Nat.beq pc 288) (some (.aload_n 0, 1, 0, 0, 0)) none)))) (cond (Nat.blt pc 296) (cond (Nat.blt pc 290) (cond (Nat.beq pc 289) (some (.aload_n 0, 1, 0, 0, 0)) none) (cond (Nat.blt pc 293) (cond (Nat.beq pc 290) (some (.getfield 115, 3, 9, 13, 0)) none) (cond (Nat.beq pc 293) (some (.putfield 138, 3, 9, 11, 0)) none))) (cond (Nat.blt pc 297) (cond (Nat.beq pc 296) (some (.aload_n 0, 1, 0, 0, 0)) none) (cond (Nat.blt pc 300) (cond (Nat.beq pc 297) (some (.getfield 138, 3, 9, 11, 0)) none) (cond (Nat.beq pc 300) (some (.ireturn, 1, 0, 0, 0)) none))))))))
def tb_109 (pc : Nat) : Option mm_E := cond (Nat.blt pc 301) (tt_109 pc) none
def tt_110 (pc : Nat) : Option mm_E := cond (Nat.blt pc 25) (cond (Nat.blt pc 12) (cond (Nat.blt pc 6) (cond (Nat.blt pc 1) (cond (Nat.beq pc 0) (some (.iload_n 1, 1, 1, 0, 0)) none) (cond (Nat.blt pc 3) (cond (Nat.beq pc 1) (some (.bipush 32, 2, 0, 0, 32)) none) (cond (Nat.beq pc 3) (some (.if_icmp .lt 19, 3, 22, 0, 0)) none))) (cond (Nat.blt pc 7) (cond (Nat.beq pc 6) (some (.iload_n 1, 1, 1, 0, 0)) none) (cond (Nat.blt pc 9) (cond (Nat.beq pc 7) (some (.bipush 126, 2, 0, 0, 126)) none) (cond (Nat.beq pc 9) (some (.if_icmp .gt 13, 3, 22, 0, 0)) none)))) (cond (Nat.blt pc 19) (cond (Nat.blt pc 13) (cond (Nat.beq pc 12) (some (.aload_n 0, 1, 0, 0, 0)) none) (cond (Nat.blt pc 16) (cond (Nat.beq pc 13) (some (.getfield 138, 3, 9, 11, 0)) none) (cond (Nat.beq pc 16) (some (.sipush 300, 3, 0, 0, 300)) none))) (cond (Nat.blt pc 23) (cond (Nat.blt pc 22) (cond (Nat.beq pc 19) (some (.if_icmp .ne 5, 3, 24, 0, 0)) none) (cond (Nat.beq pc 22) (some (.iconst 0, 1, 0, 0, 0)) none)) (cond (Nat.blt pc 24) (cond (Nat.beq pc 23) (some (.ireturn, 1, 0, 0, 0)) none) (cond (Nat.beq pc 24) (some (.aload_n 0, 1, 0, 0, 0)) none))))) (cond (Nat.blt pc 35) (cond (Nat.blt pc 32) (cond (Nat.blt pc 28) (cond (Nat.beq pc 25) (some (.getfield 38, 3, 9, 10, 0)) none) (cond (Nat.blt pc 29) (cond (Nat.beq pc 28) (some (.aload_n 0, 1, 0, 0, 0)) none) (cond (Nat.beq pc 29) (some (.getfield 138, 3, 9, 11, 0)) none))) (cond (Nat.blt pc 33) (cond (Nat.beq pc 32) (some (.iload_n 1, 1, 1, 0, 0)) none) (cond (Nat.blt pc 34) (cond (Nat.beq pc 33) (some (.iastore, 1, 0, 0, 0)) none) (cond (Nat.beq pc 34) (some (.aload_n 0, 1, 0, 0, 0)) none)))) (cond (Nat.blt pc 40) (cond (Nat.blt pc 36) (cond (Nat.beq pc 35) (some (.dup, 1, 0, 0, 0)) none) (cond (Nat.blt pc 39) (cond (Nat.beq pc 36) (some (.getfield 138, 3, 9, 11, 0)) none) (cond (Nat.beq pc 39) (some (.iconst 1, 1, 0, 0, 1)) none))) (cond (Nat.blt pc 44) (cond (Nat.blt pc 41) (cond (Nat.beq pc 40) (some (.iadd, 1, 0, 0, 0)) none) (cond (Nat.beq pc 41) (some (.putfield 138, 3, 9, 11, 0)) none)) (cond (Nat.blt pc 45) (cond (Nat.beq pc 44) (some (.iconst 1, 1, 0, 0, 1)) none) (cond (Nat.beq pc 45) (some (.ireturn, 1, 0, 0, 0)) none)))))
def tb_110 (pc : Nat) : Option mm_E := cond (Nat.blt pc 46) (tt_110 pc) none
def tt_111 (pc : Nat) : Option mm_E := cond (Nat.blt pc 2) (cond (Nat.blt pc 1) (cond (Nat.beq pc 0) (some (.aload_n 0, 1, 0, 0, 0)) none) (cond (Nat.beq pc 1) (some (.iconst 0, 1, 0, 0, 0)) none)) (cond (Nat.blt pc 5) (cond (Nat.beq pc 2) (some (.putfield 138, 3, 9, 11, 0)) none) (cond (Nat.beq pc 5) (some (.return_, 1, 0, 0, 0)) none))
def tb_111 (pc : Nat) : Option mm_E := cond (Nat.blt pc 6) (tt_111 pc) none
def tt_112 (pc : Nat) : Option mm_E := cond (Nat.blt pc 1) (cond (Nat.beq pc 0) (some (.aload_n 0, 1, 0, 0, 0)) none) (cond (Nat.blt pc 4) (cond (Nat.beq pc 1) (some (.getfield 138, 3, 9, 11, 0)) none) (cond (Nat.beq pc 4) (some (.ireturn, 1, 0, 0, 0)) none))
def tb_112 (pc : Nat) : Option mm_E := cond (Nat.blt pc 5) (tt_112 pc) none
def tt_113 (pc : Nat) : Option mm_E := cond (Nat.blt pc 14) (cond (Nat.blt pc 6) (cond (Nat.blt pc 2) (cond (Nat.blt pc 1) (cond (Nat.beq pc 0) (some (.iload_n 1, 1, 1, 0, 0)) none) (cond (Nat.beq pc 1) (some (.iconst 1, 1, 0, 0, 1)) none)) (cond (Nat.blt pc 5) (cond (Nat.beq pc 2) (some (.if_icmp .lt 11, 3, 13, 0, 0)) none) (cond (Nat.beq pc 5) (some (.iload_n 1, 1, 1, 0, 0)) none))) (cond (Nat.blt pc 10) (cond (Nat.blt pc 7) (cond (Nat.beq pc 6) (some (.aload_n 0, 1, 0, 0, 0)) none) (cond (Nat.beq pc 7) (some (.getfield 138, 3, 9, 11, 0)) none)) (cond (Nat.blt pc 13) (cond (Nat.beq pc 10) (some (.if_icmp .le 7, 3, 17, 0, 0)) none) (cond (Nat.beq pc 13) (some (.iconst (-1), 1, 0, 0, (-1))) none)))) (cond (Nat.blt pc 22) (cond (Nat.blt pc 18) (cond (Nat.blt pc 17) (cond (Nat.beq pc 14) (some (.goto 11, 3, 25, 0, 0)) none) (cond (Nat.beq pc 17) (some (.aload_n 0, 1, 0, 0, 0)) none)) (cond (Nat.blt pc 21) (cond (Nat.beq pc 18) (some (.getfield 38, 3, 9, 10, 0)) none) (cond (Nat.beq pc 21) (some (.iload_n 1, 1, 1, 0, 0)) none))) (cond (Nat.blt pc 24) (cond (Nat.blt pc 23) (cond (Nat.beq pc 22) (some (.iconst 1, 1, 0, 0, 1)) none) (cond (Nat.beq pc 23) (some (.isub, 1, 0, 0, 0)) none)) (cond (Nat.blt pc 25) (cond (Nat.beq pc 24) (some (.iaload, 1, 0, 0, 0)) none) (cond (Nat.beq pc 25) (some (.ireturn, 1, 0, 0, 0)) none))))
def tb_113 (pc : Nat) : Option mm_E := cond (Nat.blt pc 26) (tt_113 pc) none
def tt_114 (pc : Nat) : Option mm_E := cond (Nat.blt pc 9) (cond (Nat.blt pc 3) (cond (Nat.blt pc 1) (cond (Nat.beq pc 0) (some (.iload_n 0, 1, 0, 0, 0)) none) (cond (Nat.beq pc 1) (some (.bipush 48, 2, 0, 0, 48)) none)) (cond (Nat.blt pc 6) (cond (Nat.beq pc 3) (some (.if_icmp .lt 13, 3, 16, 0, 0)) none) (cond (Nat.blt pc 7) (cond (Nat.beq pc 6) (some (.iload_n 0, 1, 0, 0, 0)) none) (cond (Nat.beq pc 7) (some (.bipush 57, 2, 0, 0, 57)) none)))) (cond (Nat.blt pc 13) (cond (Nat.blt pc 12) (cond (Nat.beq pc 9) (some (.if_icmp .gt 7, 3, 16, 0, 0)) none) (cond (Nat.beq pc 12) (some (.iconst 1, 1, 0, 0, 1)) none)) (cond (Nat.blt pc 16) (cond (Nat.beq pc 13) (some (.goto 4, 3, 17, 0, 0)) none) (cond (Nat.blt pc 17) (cond (Nat.beq pc 16) (some (.iconst 0, 1, 0, 0, 0)) none) (cond (Nat.beq pc 17) (some (.ireturn, 1, 0, 0, 0)) none))))
def tb_114 (pc : Nat) : Option mm_E := cond (Nat.blt pc 18) (tt_114 pc) none
def tt_115 (pc : Nat) : Option mm_E := cond (Nat.blt pc 206) (cond (Nat.blt pc 135) (cond (Nat.blt pc 104) (cond (Nat.blt pc 87) (cond (Nat.blt pc 77) (cond (Nat.blt pc 4) (cond (Nat.blt pc 1) (cond (Nat.beq pc 0) (some (.aload_n 0, 1, 0, 0, 0)) none) (cond (Nat.beq pc 1) (some (.getfield 141, 3, 9, 24, 0)) none)) (cond (Nat.blt pc 76) (cond (Nat.beq pc 4) (some (.tableswitch 341 0 13 #[72, 84, 102, 119, 132, 158, 171, 184, 209, 223, 250, 293, 307, 334], 72, 0, 0, 0)) none) (cond (Nat.beq pc 76) (some (.iload_n 1, 1, 1, 0, 0)) none))) (cond (Nat.blt pc 82) (cond (Nat.blt pc 79) (cond (Nat.beq pc 77) (some (.bipush 40, 2, 0, 0, 40)) none) (cond (Nat.beq pc 79) (some (.if_icmp .ne 7, 3, 86, 0, 0)) none)) (cond (Nat.blt pc 83) (cond (Nat.beq pc 82) (some (.iconst 1, 1, 0, 0, 1)) none) (cond (Nat.blt pc 86) (cond (Nat.beq pc 83) (some (.goto 4, 3, 87, 0, 0)) none) (cond (Nat.beq pc 86) (some (.iconst (-1), 1, 0, 0, (-1))) none))))) (cond (Nat.blt pc 94) (cond (Nat.blt pc 89) (cond (Nat.blt pc 88) (cond (Nat.beq pc 87) (some (.ireturn, 1, 0, 0, 0)) none) (cond (Nat.beq pc 88) (some (.iload_n 1, 1, 1, 0, 0)) none)) (cond (Nat.blt pc 91) (cond (Nat.beq pc 89) (some (.bipush 97, 2, 0, 0, 97)) none) (cond (Nat.beq pc 91) (some (.if_icmp .lt 13, 3, 104, 0, 0)) none))) (cond (Nat.blt pc 97) (cond (Nat.blt pc 95) (cond (Nat.beq pc 94) (some (.iload_n 1, 1, 1, 0, 0)) none) (cond (Nat.beq pc 95) (some (.bipush 100, 2, 0, 0, 100)) none)) (cond (Nat.blt pc 100) (cond (Nat.beq pc 97) (some (.if_icmp .gt 7, 3, 104, 0, 0)) none) (cond (Nat.blt pc 101) (cond (Nat.beq pc 100) (some (.iconst 2, 1, 0, 0, 2)) none) (cond (Nat.beq pc 101) (some (.goto 4, 3, 105, 0, 0)) none)))))) (cond (Nat.blt pc 118) (cond (Nat.blt pc 109) (cond (Nat.blt pc 106) (cond (Nat.blt pc 105) (cond (Nat.beq pc 104) (some (.iconst (-1), 1, 0, 0, (-1))) none) (cond (Nat.beq pc 105) (some (.ireturn, 1, 0, 0, 0)) none)) (cond (Nat.blt pc 107) (cond (Nat.beq pc 106) (some (.iload_n 1, 1, 1, 0, 0)) none) (cond (Nat.beq pc 107) (some (.bipush 35, 2, 0, 0, 35)) none))) (cond (Nat.blt pc 113) (cond (Nat.blt pc 112) (cond (Nat.beq pc 109) (some (.if_icmp .ne 7, 3, 116, 0, 0)) none) (cond (Nat.beq pc 112) (some (.iconst 3, 1, 0, 0, 3)) none)) (cond (Nat.blt pc 116) (cond (Nat.beq pc 113) (some (.goto 9, 3, 122, 0, 0)) none) (cond (Nat.blt pc 117) (cond (Nat.beq pc 116) (some (.aload_n 0, 1, 0, 0, 0)) none) (cond (Nat.beq pc 117) (some (.iload_n 1, 1, 1, 0, 0)) none))))) (cond (Nat.blt pc 124) (cond (Nat.blt pc 122) (cond (Nat.blt pc 119) (cond (Nat.beq pc 118) (some (.iload_n 2, 1, 2, 0, 0)) none) (cond (Nat.beq pc 119) (some (.invokevirtual 144, 3, 116, 1, 0)) none)) (cond (Nat.blt pc 123) (cond (Nat.beq pc 122) (some (.ireturn, 1, 0, 0, 0)) none) (cond (Nat.beq pc 123) (some (.iload_n 1, 1, 1, 0, 0)) none))) (cond (Nat.blt pc 130) (cond (Nat.blt pc 127) (cond (Nat.beq pc 124) (some (.invokestatic 148, 3, 114, 1, 0)) none) (cond (Nat.beq pc 127) (some (.ifCond .eq 7, 3, 134, 0, 0)) none)) (cond (Nat.blt pc 131) (cond (Nat.beq pc 130) (some (.iconst 4, 1, 0, 0, 4)) none) (cond (Nat.blt pc 134) (cond (Nat.beq pc 131) (some (.goto 4, 3, 135, 0, 0)) none) (cond (Nat.beq pc 134) (some (.iconst (-1), 1, 0, 0, (-1))) none))))))) (cond (Nat.blt pc 168) (cond (Nat.blt pc 152) (cond (Nat.blt pc 143) (cond (Nat.blt pc 137) (cond (Nat.blt pc 136) (cond (Nat.beq pc 135) (some (.ireturn, 1, 0, 0, 0)) none) (cond (Nat.beq pc 136) (some (.iload_n 1, 1, 1, 0, 0)) none)) (cond (Nat.blt pc 140) (cond (Nat.beq pc 137) (some (.invokestatic 148, 3, 114, 1, 0)) none) (cond (Nat.beq pc 140) (some (.ifCond .eq 15, 3, 155, 0, 0)) none))) (cond (Nat.blt pc 147) (cond (Nat.blt pc 144) (cond (Nat.beq pc 143) (some (.aload_n 0, 1, 0, 0, 0)) none) (cond (Nat.beq pc 144) (some (.getfield 151, 3, 9, 25, 0)) none)) (cond (Nat.blt pc 148) (cond (Nat.beq pc 147) (some (.iconst 2, 1, 0, 0, 2)) none) (cond (Nat.blt pc 151) (cond (Nat.beq pc 148) (some (.if_icmp .ge 7, 3, 155, 0, 0)) none) (cond (Nat.beq pc 151) (some (.iconst 4, 1, 0, 0, 4)) none))))) (cond (Nat.blt pc 158) (cond (Nat.blt pc 156) (cond (Nat.blt pc 155) (cond (Nat.beq pc 152) (some (.goto 9, 3, 161, 0, 0)) none) (cond (Nat.beq pc 155) (some (.aload_n 0, 1, 0, 0, 0)) none)) (cond (Nat.blt pc 157) (cond (Nat.beq pc 156) (some (.iload_n 1, 1, 1, 0, 0)) none) (cond (Nat.beq pc 157) (some (.iload_n 2, 1, 2, 0, 0)) none))) (cond (Nat.blt pc 162) (cond (Nat.blt pc 161) (cond (Nat.beq pc 158) (some (.invokevirtual 144, 3, 116, 1, 0)) none) (cond (Nat.beq pc 161) (some (.ireturn, 1, 0, 0, 0)) none)) (cond (Nat.blt pc 163) (cond (Nat.beq pc 162) (some (.iload_n 1, 1, 1, 0, 0)) none) (cond (Nat.blt pc 165) (cond (Nat.beq pc 163) (some (.bipush 61, 2, 0, 0, 61)) none) (cond (Nat.beq pc 165) (some (.if_icmp .ne 8, 3, 173, 0, 0)) none)))))) (cond (Nat.blt pc 186) (cond (Nat.blt pc 175) (cond (Nat.blt pc 173) (cond (Nat.blt pc 170) (cond (Nat.beq pc 168) (some (.bipush 7, 2, 0, 0, 7)) none) (cond (Nat.beq pc 170) (some (.goto 4, 3, 174, 0, 0)) none)) (cond (Nat.blt pc 174) (cond (Nat.beq pc 173) (some (.iconst (-1), 1, 0, 0, (-1))) none) (cond (Nat.beq pc 174) (some (.ireturn, 1, 0, 0, 0)) none))) (cond (Nat.blt pc 178) (cond (Nat.blt pc 176) (cond (Nat.beq pc 175) (some (.iload_n 1, 1, 1, 0, 0)) none) (cond (Nat.beq pc 176) (some (.bipush 61, 2, 0, 0, 61)) none)) (cond (Nat.blt pc 181) (cond (Nat.beq pc 178) (some (.if_icmp .ne 8, 3, 186, 0, 0)) none) (cond (Nat.blt pc 183) (cond (Nat.beq pc 181) (some (.bipush 10, 2, 0, 0, 10)) none) (cond (Nat.beq pc 183) (some (.goto 4, 3, 187, 0, 0)) none))))) (cond (Nat.blt pc 194) (cond (Nat.blt pc 188) (cond (Nat.blt pc 187) (cond (Nat.beq pc 186) (some (.iconst (-1), 1, 0, 0, (-1))) none) (cond (Nat.beq pc 187) (some (.ireturn, 1, 0, 0, 0)) none)) (cond (Nat.blt pc 189) (cond (Nat.beq pc 188) (some (.iload_n 1, 1, 1, 0, 0)) none) (cond (Nat.blt pc 191) (cond (Nat.beq pc 189) (some (.bipush 45, 2, 0, 0, 45)) none) (cond (Nat.beq pc 191) (some (.if_icmp .ne 8, 3, 199, 0, 0)) none)))) (cond (Nat.blt pc 199) (cond (Nat.blt pc 196) (cond (Nat.beq pc 194) (some (.bipush 8, 2, 0, 0, 8)) none) (cond (Nat.beq pc 196) (some (.goto 16, 3, 212, 0, 0)) none)) (cond (Nat.blt pc 200) (cond (Nat.beq pc 199) (some (.iload_n 1, 1, 1, 0, 0)) none) (cond (Nat.blt pc 203) (cond (Nat.beq pc 200) (some (.invokestatic 148, 3, 114, 1, 0)) none) (cond (Nat.beq pc 203) (some (.ifCond .eq 8, 3, 211, 0, 0)) none)))))))) (cond (Nat.blt pc 279) (cond (Nat.blt pc 242) (cond (Nat.blt pc 225) (cond (Nat.blt pc 213) (cond (Nat.blt pc 211) (cond (Nat.blt pc 208) (cond (Nat.beq pc 206) (some (.bipush 9, 2, 0, 0, 9)) none) (cond (Nat.beq pc 208) (some (.goto 4, 3, 212, 0, 0)) none)) (cond (Nat.blt pc 212) (cond (Nat.beq pc 211) (some (.iconst (-1), 1, 0, 0, (-1))) none) (cond (Nat.beq pc 212) (some (.ireturn, 1, 0, 0, 0)) none))) (cond (Nat.blt pc 217) (cond (Nat.blt pc 214) (cond (Nat.beq pc 213) (some (.iload_n 1, 1, 1, 0, 0)) none) (cond (Nat.beq pc 214) (some (.invokestatic 148, 3, 114, 1, 0)) none)) (cond (Nat.blt pc 220) (cond (Nat.beq pc 217) (some (.ifCond .eq 8, 3, 225, 0, 0)) none) (cond (Nat.blt pc 222) (cond (Nat.beq pc 220) (some (.bipush 9, 2, 0, 0, 9)) none) (cond (Nat.beq pc 222) (some (.goto 4, 3, 226, 0, 0)) none))))) (cond (Nat.blt pc 231) (cond (Nat.blt pc 227) (cond (Nat.blt pc 226) (cond (Nat.beq pc 225) (some (.iconst (-1), 1, 0, 0, (-1))) none) (cond (Nat.beq pc 226) (some (.ireturn, 1, 0, 0, 0)) none)) (cond (Nat.blt pc 228) (cond (Nat.beq pc 227) (some (.iload_n 1, 1, 1, 0, 0)) none) (cond (Nat.beq pc 228) (some (.invokestatic 148, 3, 114, 1, 0)) none))) (cond (Nat.blt pc 235) (cond (Nat.blt pc 234) (cond (Nat.beq pc 231) (some (.ifCond .eq 16, 3, 247, 0, 0)) none) (cond (Nat.beq pc 234) (some (.aload_n 0, 1, 0, 0, 0)) none)) (cond (Nat.blt pc 238) (cond (Nat.beq pc 235) (some (.getfield 151, 3, 9, 25, 0)) none) (cond (Nat.blt pc 239) (cond (Nat.beq pc 238) (some (.iconst 5, 1, 0, 0, 5)) none) (cond (Nat.beq pc 239) (some (.if_icmp .ge 8, 3, 247, 0, 0)) none)))))) (cond (Nat.blt pc 257) (cond (Nat.blt pc 249) (cond (Nat.blt pc 247) (cond (Nat.blt pc 244) (cond (Nat.beq pc 242) (some (.bipush 9, 2, 0, 0, 9)) none) (cond (Nat.beq pc 244) (some (.goto 9, 3, 253, 0, 0)) none)) (cond (Nat.blt pc 248) (cond (Nat.beq pc 247) (some (.aload_n 0, 1, 0, 0, 0)) none) (cond (Nat.beq pc 248) (some (.iload_n 1, 1, 1, 0, 0)) none))) (cond (Nat.blt pc 253) (cond (Nat.blt pc 250) (cond (Nat.beq pc 249) (some (.iload_n 2, 1, 2, 0, 0)) none) (cond (Nat.beq pc 250) (some (.invokevirtual 144, 3, 116, 1, 0)) none)) (cond (Nat.blt pc 254) (cond (Nat.beq pc 253) (some (.ireturn, 1, 0, 0, 0)) none) (cond (Nat.blt pc 255) (cond (Nat.beq pc 254) (some (.iload_n 1, 1, 1, 0, 0)) none) (cond (Nat.beq pc 255) (some (.bipush 40, 2, 0, 0, 40)) none))))) (cond (Nat.blt pc 269) (cond (Nat.blt pc 261) (cond (Nat.blt pc 260) (cond (Nat.beq pc 257) (some (.if_icmp .ne 16, 3, 273, 0, 0)) none) (cond (Nat.beq pc 260) (some (.aload_n 0, 1, 0, 0, 0)) none)) (cond (Nat.blt pc 264) (cond (Nat.beq pc 261) (some (.getfield 122, 3, 9, 20, 0)) none) (cond (Nat.blt pc 266) (cond (Nat.beq pc 264) (some (.bipush 10, 2, 0, 0, 10)) none) (cond (Nat.beq pc 266) (some (.if_icmp .ge 7, 3, 273, 0, 0)) none)))) (cond (Nat.blt pc 273) (cond (Nat.blt pc 270) (cond (Nat.beq pc 269) (some (.iconst 1, 1, 0, 0, 1)) none) (cond (Nat.beq pc 270) (some (.goto 26, 3, 296, 0, 0)) none)) (cond (Nat.blt pc 274) (cond (Nat.beq pc 273) (some (.iload_n 1, 1, 1, 0, 0)) none) (cond (Nat.blt pc 276) (cond (Nat.beq pc 274) (some (.bipush 64, 2, 0, 0, 64)) none) (cond (Nat.beq pc 276) (some (.if_icmp .ne 8, 3, 284, 0, 0)) none))))))) (cond (Nat.blt pc 315) (cond (Nat.blt pc 297) (cond (Nat.blt pc 287) (cond (Nat.blt pc 284) (cond (Nat.blt pc 281) (cond (Nat.beq pc 279) (some (.bipush 11, 2, 0, 0, 11)) none) (cond (Nat.beq pc 281) (some (.goto 15, 3, 296, 0, 0)) none)) (cond (Nat.blt pc 285) (cond (Nat.beq pc 284) (some (.iload_n 1, 1, 1, 0, 0)) none) (cond (Nat.beq pc 285) (some (.bipush 126, 2, 0, 0, 126)) none))) (cond (Nat.blt pc 292) (cond (Nat.blt pc 290) (cond (Nat.beq pc 287) (some (.if_icmp .ne 8, 3, 295, 0, 0)) none) (cond (Nat.beq pc 290) (some (.bipush 13, 2, 0, 0, 13)) none)) (cond (Nat.blt pc 295) (cond (Nat.beq pc 292) (some (.goto 4, 3, 296, 0, 0)) none) (cond (Nat.blt pc 296) (cond (Nat.beq pc 295) (some (.iconst (-1), 1, 0, 0, (-1))) none) (cond (Nat.beq pc 296) (some (.ireturn, 1, 0, 0, 0)) none))))) (cond (Nat.blt pc 306) (cond (Nat.blt pc 301) (cond (Nat.blt pc 298) (cond (Nat.beq pc 297) (some (.iload_n 1, 1, 1, 0, 0)) none) (cond (Nat.beq pc 298) (some (.invokestatic 148, 3, 114, 1, 0)) none)) (cond (Nat.blt pc 304) (cond (Nat.beq pc 301) (some (.ifCond .eq 8, 3, 309, 0, 0)) none) (cond (Nat.beq pc 304) (some (.bipush 12, 2, 0, 0, 12)) none))) (cond (Nat.blt pc 310) (cond (Nat.blt pc 309) (cond (Nat.beq pc 306) (some (.goto 4, 3, 310, 0, 0)) none) (cond (Nat.beq pc 309) (some (.iconst (-1), 1, 0, 0, (-1))) none)) (cond (Nat.blt pc 311) (cond (Nat.beq pc 310) (some (.ireturn, 1, 0, 0, 0)) none) (cond (Nat.blt pc 312) (cond (Nat.beq pc 311) (some (.iload_n 1, 1, 1, 0, 0)) none) (cond (Nat.beq pc 312) (some (.invokestatic 148, 3, 114, 1, 0)) none)))))) (cond (Nat.blt pc 333) (cond (Nat.blt pc 323) (cond (Nat.blt pc 319) (cond (Nat.blt pc 318) (cond (Nat.beq pc 315) (some (.ifCond .eq 16, 3, 331, 0, 0)) none) (cond (Nat.beq pc 318) (some (.aload_n 0, 1, 0, 0, 0)) none)) (cond (Nat.blt pc 322) (cond (Nat.beq pc 319) (some (.getfield 151, 3, 9, 25, 0)) none) (cond (Nat.beq pc 322) (some (.iconst 2, 1, 0, 0, 2)) none))) (cond (Nat.blt pc 328) (cond (Nat.blt pc 326) (cond (Nat.beq pc 323) (some (.if_icmp .ge 8, 3, 331, 0, 0)) none) (cond (Nat.beq pc 326) (some (.bipush 12, 2, 0, 0, 12)) none)) (cond (Nat.blt pc 331) (cond (Nat.beq pc 328) (some (.goto 9, 3, 337, 0, 0)) none) (cond (Nat.blt pc 332) (cond (Nat.beq pc 331) (some (.aload_n 0, 1, 0, 0, 0)) none) (cond (Nat.beq pc 332) (some (.iload_n 1, 1, 1, 0, 0)) none))))) (cond (Nat.blt pc 340) (cond (Nat.blt pc 337) (cond (Nat.blt pc 334) (cond (Nat.beq pc 333) (some (.iload_n 2, 1, 2, 0, 0)) none) (cond (Nat.beq pc 334) (some (.invokevirtual 144, 3, 116, 1, 0)) none)) (cond (Nat.blt pc 338) (cond (Nat.beq pc 337) (some (.ireturn, 1, 0, 0, 0)) none) (cond (Nat.blt pc 339) (cond (Nat.beq pc 338) (some (.aload_n 0, 1, 0, 0, 0)) none) (cond (Nat.beq pc 339) (some (.iload_n 1, 1, 1, 0, 0)) none)))) (cond (Nat.blt pc 344) (cond (Nat.blt pc 341) (cond (Nat.beq pc 340) (some (.iload_n 2, 1, 2, 0, 0)) none) (cond (Nat.beq pc 341) (some (.invokevirtual 144, 3, 116, 1, 0)) none)) (cond (Nat.blt pc 345) (cond (Nat.beq pc 344) (some (.ireturn, 1, 0, 0, 0)) none) (cond (Nat.blt pc 346) (cond (Nat.beq pc 345) (some (.iconst (-1), 1, 0, 0, (-1))) none) (cond (Nat.beq pc 346) (some (.ireturn, 1, 0, 0, 0)) none))))))))
def tb_115 (pc : Nat) : Option mm_E := cond (Nat.blt pc 347) (tt_115 pc) none
def tt_116 (pc : Nat) : Option mm_E := cond (Nat.blt pc 50) (cond (Nat.blt pc 24) (cond (Nat.blt pc 12) (cond (Nat.blt pc 6) (cond (Nat.blt pc 1) (cond (Nat.beq pc 0) (some (.iload_n 1, 1, 1, 0, 0)) none) (cond (Nat.blt pc 3) (cond (Nat.beq pc 1) (some (.bipush 120, 2, 0, 0, 120)) none) (cond (Nat.beq pc 3) (some (.if_icmp .lt 13, 3, 16, 0, 0)) none))) (cond (Nat.blt pc 7) (cond (Nat.beq pc 6) (some (.iload_n 1, 1, 1, 0, 0)) none) (cond (Nat.blt pc 9) (cond (Nat.beq pc 7) (some (.bipush 122, 2, 0, 0, 122)) none) (cond (Nat.beq pc 9) (some (.if_icmp .gt 7, 3, 16, 0, 0)) none)))) (cond (Nat.blt pc 17) (cond (Nat.blt pc 13) (cond (Nat.beq pc 12) (some (.iconst 1, 1, 0, 0, 1)) none) (cond (Nat.blt pc 16) (cond (Nat.beq pc 13) (some (.goto 4, 3, 17, 0, 0)) none) (cond (Nat.beq pc 16) (some (.iconst 0, 1, 0, 0, 0)) none))) (cond (Nat.blt pc 19) (cond (Nat.blt pc 18) (cond (Nat.beq pc 17) (some (.istore_n 3, 1, 3, 0, 0)) none) (cond (Nat.beq pc 18) (some (.iload_n 1, 1, 1, 0, 0)) none)) (cond (Nat.blt pc 21) (cond (Nat.beq pc 19) (some (.bipush 112, 2, 0, 0, 112)) none) (cond (Nat.beq pc 21) (some (.if_icmp .eq 9, 3, 30, 0, 0)) none))))) (cond (Nat.blt pc 35) (cond (Nat.blt pc 30) (cond (Nat.blt pc 25) (cond (Nat.beq pc 24) (some (.iload_n 1, 1, 1, 0, 0)) none) (cond (Nat.blt pc 27) (cond (Nat.beq pc 25) (some (.bipush 113, 2, 0, 0, 113)) none) (cond (Nat.beq pc 27) (some (.if_icmp .ne 7, 3, 34, 0, 0)) none))) (cond (Nat.blt pc 31) (cond (Nat.beq pc 30) (some (.iconst 1, 1, 0, 0, 1)) none) (cond (Nat.blt pc 34) (cond (Nat.beq pc 31) (some (.goto 4, 3, 35, 0, 0)) none) (cond (Nat.beq pc 34) (some (.iconst 0, 1, 0, 0, 0)) none)))) (cond (Nat.blt pc 41) (cond (Nat.blt pc 37) (cond (Nat.beq pc 35) (some (.istore 4, 2, 4, 0, 0)) none) (cond (Nat.blt pc 38) (cond (Nat.beq pc 37) (some (.iload_n 2, 1, 2, 0, 0)) none) (cond (Nat.beq pc 38) (some (.ifCond .eq 22, 3, 60, 0, 0)) none))) (cond (Nat.blt pc 45) (cond (Nat.blt pc 42) (cond (Nat.beq pc 41) (some (.iload_n 3, 1, 3, 0, 0)) none) (cond (Nat.beq pc 42) (some (.ifCond .ne 14, 3, 56, 0, 0)) none)) (cond (Nat.blt pc 47) (cond (Nat.beq pc 45) (some (.iload 4, 2, 4, 0, 0)) none) (cond (Nat.beq pc 47) (some (.ifCond .ne 9, 3, 56, 0, 0)) none)))))) (cond (Nat.blt pc 78) (cond (Nat.blt pc 61) (cond (Nat.blt pc 56) (cond (Nat.blt pc 51) (cond (Nat.beq pc 50) (some (.iload_n 1, 1, 1, 0, 0)) none) (cond (Nat.blt pc 53) (cond (Nat.beq pc 51) (some (.bipush 41, 2, 0, 0, 41)) none) (cond (Nat.beq pc 53) (some (.if_icmp .ne 7, 3, 60, 0, 0)) none))) (cond (Nat.blt pc 57) (cond (Nat.beq pc 56) (some (.aload_n 0, 1, 0, 0, 0)) none) (cond (Nat.blt pc 60) (cond (Nat.beq pc 57) (some (.invokevirtual 154, 3, 117, 1, 0)) none) (cond (Nat.beq pc 60) (some (.iload_n 3, 1, 3, 0, 0)) none)))) (cond (Nat.blt pc 68) (cond (Nat.blt pc 64) (cond (Nat.beq pc 61) (some (.ifCond .eq 7, 3, 68, 0, 0)) none) (cond (Nat.blt pc 65) (cond (Nat.beq pc 64) (some (.iconst 5, 1, 0, 0, 5)) none) (cond (Nat.beq pc 65) (some (.goto 38, 3, 103, 0, 0)) none))) (cond (Nat.blt pc 73) (cond (Nat.blt pc 70) (cond (Nat.beq pc 68) (some (.iload 4, 2, 4, 0, 0)) none) (cond (Nat.beq pc 70) (some (.ifCond .eq 8, 3, 78, 0, 0)) none)) (cond (Nat.blt pc 75) (cond (Nat.beq pc 73) (some (.bipush 6, 2, 0, 0, 6)) none) (cond (Nat.beq pc 75) (some (.goto 28, 3, 103, 0, 0)) none))))) (cond (Nat.blt pc 89) (cond (Nat.blt pc 84) (cond (Nat.blt pc 79) (cond (Nat.beq pc 78) (some (.iload_n 1, 1, 1, 0, 0)) none) (cond (Nat.blt pc 81) (cond (Nat.beq pc 79) (some (.bipush 41, 2, 0, 0, 41)) none) (cond (Nat.beq pc 81) (some (.if_icmp .ne 21, 3, 102, 0, 0)) none))) (cond (Nat.blt pc 85) (cond (Nat.beq pc 84) (some (.aload_n 0, 1, 0, 0, 0)) none) (cond (Nat.blt pc 88) (cond (Nat.beq pc 85) (some (.getfield 122, 3, 9, 20, 0)) none) (cond (Nat.beq pc 88) (some (.iconst 1, 1, 0, 0, 1)) none)))) (cond (Nat.blt pc 97) (cond (Nat.blt pc 92) (cond (Nat.beq pc 89) (some (.if_icmp .ne 8, 3, 97, 0, 0)) none) (cond (Nat.blt pc 94) (cond (Nat.beq pc 92) (some (.bipush 14, 2, 0, 0, 14)) none) (cond (Nat.beq pc 94) (some (.goto 9, 3, 103, 0, 0)) none))) (cond (Nat.blt pc 102) (cond (Nat.blt pc 99) (cond (Nat.beq pc 97) (some (.bipush 13, 2, 0, 0, 13)) none) (cond (Nat.beq pc 99) (some (.goto 4, 3, 103, 0, 0)) none)) (cond (Nat.blt pc 103) (cond (Nat.beq pc 102) (some (.iconst (-1), 1, 0, 0, (-1))) none) (cond (Nat.beq pc 103) (some (.ireturn, 1, 0, 0, 0)) none))))))
def tb_116 (pc : Nat) : Option mm_E := cond (Nat.blt pc 104) (tt_116 pc) none
def tt_117 (pc : Nat) : Option mm_E := cond (Nat.blt pc 35) (cond (Nat.blt pc 16) (cond (Nat.blt pc 8) (cond (Nat.blt pc 4) (cond (Nat.blt pc 1) (cond (Nat.beq pc 0) (some (.aload_n 0, 1, 0, 0, 0)) none) (cond (Nat.beq pc 1) (some (.getfield 141, 3, 9, 24, 0)) none)) (cond (Nat.blt pc 5) (cond (Nat.beq pc 4) (some (.iconst 4, 1, 0, 0, 4)) none) (cond (Nat.beq pc 5) (some (.if_icmp .ne 7, 3, 12, 0, 0)) none))) (cond (Nat.blt pc 12) (cond (Nat.blt pc 9) (cond (Nat.beq pc 8) (some (.aload_n 0, 1, 0, 0, 0)) none) (cond (Nat.beq pc 9) (some (.invokevirtual 157, 3, 119, 1, 0)) none)) (cond (Nat.blt pc 13) (cond (Nat.beq pc 12) (some (.aload_n 0, 1, 0, 0, 0)) none) (cond (Nat.beq pc 13) (some (.getfield 141, 3, 9, 24, 0)) none)))) (cond (Nat.blt pc 25) (cond (Nat.blt pc 21) (cond (Nat.blt pc 18) (cond (Nat.beq pc 16) (some (.bipush 9, 2, 0, 0, 9)) none) (cond (Nat.beq pc 18) (some (.if_icmp .ne 7, 3, 25, 0, 0)) none)) (cond (Nat.blt pc 22) (cond (Nat.beq pc 21) (some (.aload_n 0, 1, 0, 0, 0)) none) (cond (Nat.beq pc 22) (some (.invokevirtual 160, 3, 120, 1, 0)) none))) (cond (Nat.blt pc 29) (cond (Nat.blt pc 26) (cond (Nat.beq pc 25) (some (.aload_n 0, 1, 0, 0, 0)) none) (cond (Nat.beq pc 26) (some (.getfield 141, 3, 9, 24, 0)) none)) (cond (Nat.blt pc 31) (cond (Nat.beq pc 29) (some (.bipush 12, 2, 0, 0, 12)) none) (cond (Nat.blt pc 34) (cond (Nat.beq pc 31) (some (.if_icmp .ne 34, 3, 65, 0, 0)) none) (cond (Nat.beq pc 34) (some (.aload_n 0, 1, 0, 0, 0)) none)))))) (cond (Nat.blt pc 49) (cond (Nat.blt pc 43) (cond (Nat.blt pc 39) (cond (Nat.blt pc 36) (cond (Nat.beq pc 35) (some (.aload_n 0, 1, 0, 0, 0)) none) (cond (Nat.beq pc 36) (some (.getfield 68, 3, 9, 33, 0)) none)) (cond (Nat.blt pc 40) (cond (Nat.beq pc 39) (some (.aload_n 0, 1, 0, 0, 0)) none) (cond (Nat.beq pc 40) (some (.getfield 163, 3, 9, 26, 0)) none))) (cond (Nat.blt pc 45) (cond (Nat.blt pc 44) (cond (Nat.beq pc 43) (some (.iaload, 1, 0, 0, 0)) none) (cond (Nat.beq pc 44) (some (.aload_n 0, 1, 0, 0, 0)) none)) (cond (Nat.blt pc 48) (cond (Nat.beq pc 45) (some (.getfield 68, 3, 9, 33, 0)) none) (cond (Nat.beq pc 48) (some (.aload_n 0, 1, 0, 0, 0)) none)))) (cond (Nat.blt pc 57) (cond (Nat.blt pc 53) (cond (Nat.blt pc 52) (cond (Nat.beq pc 49) (some (.getfield 163, 3, 9, 26, 0)) none) (cond (Nat.beq pc 52) (some (.iaload, 1, 0, 0, 0)) none)) (cond (Nat.blt pc 54) (cond (Nat.beq pc 53) (some (.iconst (-1), 1, 0, 0, (-1))) none) (cond (Nat.beq pc 54) (some (.if_icmp .eq 7, 3, 61, 0, 0)) none))) (cond (Nat.blt pc 61) (cond (Nat.blt pc 58) (cond (Nat.beq pc 57) (some (.iconst 1, 1, 0, 0, 1)) none) (cond (Nat.beq pc 58) (some (.goto 4, 3, 62, 0, 0)) none)) (cond (Nat.blt pc 62) (cond (Nat.beq pc 61) (some (.iconst 0, 1, 0, 0, 0)) none) (cond (Nat.blt pc 65) (cond (Nat.beq pc 62) (some (.invokevirtual 166, 3, 121, 1, 0)) none) (cond (Nat.beq pc 65) (some (.return_, 1, 0, 0, 0)) none))))))
def tb_117 (pc : Nat) : Option mm_E := cond (Nat.blt pc 66) (tt_117 pc) none
def tt_118 (pc : Nat) : Option mm_E := cond (Nat.blt pc 10) (cond (Nat.blt pc 5) (cond (Nat.blt pc 1) (cond (Nat.beq pc 0) (some (.aload_n 0, 1, 0, 0, 0)) none) (cond (Nat.blt pc 4) (cond (Nat.beq pc 1) (some (.getfield 71, 3, 9, 35, 0)) none) (cond (Nat.beq pc 4) (some (.aload_n 0, 1, 0, 0, 0)) none))) (cond (Nat.blt pc 8) (cond (Nat.beq pc 5) (some (.getfield 170, 3, 9, 34, 0)) none) (cond (Nat.blt pc 9) (cond (Nat.beq pc 8) (some (.iload_n 1, 1, 1, 0, 0)) none) (cond (Nat.beq pc 9) (some (.iastore, 1, 0, 0, 0)) none)))) (cond (Nat.blt pc 15) (cond (Nat.blt pc 11) (cond (Nat.beq pc 10) (some (.aload_n 0, 1, 0, 0, 0)) none) (cond (Nat.blt pc 12) (cond (Nat.beq pc 11) (some (.dup, 1, 0, 0, 0)) none) (cond (Nat.beq pc 12) (some (.getfield 170, 3, 9, 34, 0)) none))) (cond (Nat.blt pc 17) (cond (Nat.blt pc 16) (cond (Nat.beq pc 15) (some (.iconst 1, 1, 0, 0, 1)) none) (cond (Nat.beq pc 16) (some (.iadd, 1, 0, 0, 0)) none)) (cond (Nat.blt pc 20) (cond (Nat.beq pc 17) (some (.putfield 170, 3, 9, 34, 0)) none) (cond (Nat.beq pc 20) (some (.return_, 1, 0, 0, 0)) none))))
def tb_118 (pc : Nat) : Option mm_E := cond (Nat.blt pc 21) (tt_118 pc) none
def tt_119 (pc : Nat) : Option mm_E := cond (Nat.blt pc 25) (cond (Nat.blt pc 11) (cond (Nat.blt pc 5) (cond (Nat.blt pc 1) (cond (Nat.beq pc 0) (some (.aload_n 0, 1, 0, 0, 0)) none) (cond (Nat.blt pc 4) (cond (Nat.beq pc 1) (some (.getfield 59, 3, 9, 21, 0)) none) (cond (Nat.beq pc 4) (some (.aload_n 0, 1, 0, 0, 0)) none))) (cond (Nat.blt pc 9) (cond (Nat.blt pc 8) (cond (Nat.beq pc 5) (some (.getfield 122, 3, 9, 20, 0)) none) (cond (Nat.beq pc 8) (some (.iconst 1, 1, 0, 0, 1)) none)) (cond (Nat.blt pc 10) (cond (Nat.beq pc 9) (some (.isub, 1, 0, 0, 0)) none) (cond (Nat.beq pc 10) (some (.iaload, 1, 0, 0, 0)) none)))) (cond (Nat.blt pc 17) (cond (Nat.blt pc 13) (cond (Nat.blt pc 12) (cond (Nat.beq pc 11) (some (.istore_n 1, 1, 1, 0, 0)) none) (cond (Nat.beq pc 12) (some (.iload_n 1, 1, 1, 0, 0)) none)) (cond (Nat.blt pc 14) (cond (Nat.beq pc 13) (some (.iconst (-1), 1, 0, 0, (-1))) none) (cond (Nat.beq pc 14) (some (.if_icmp .eq 16, 3, 30, 0, 0)) none))) (cond (Nat.blt pc 21) (cond (Nat.blt pc 18) (cond (Nat.beq pc 17) (some (.aload_n 0, 1, 0, 0, 0)) none) (cond (Nat.beq pc 18) (some (.getfield 68, 3, 9, 33, 0)) none)) (cond (Nat.blt pc 22) (cond (Nat.beq pc 21) (some (.aload_n 0, 1, 0, 0, 0)) none) (cond (Nat.beq pc 22) (some (.getfield 163, 3, 9, 26, 0)) none))))) (cond (Nat.blt pc 38) (cond (Nat.blt pc 30) (cond (Nat.blt pc 26) (cond (Nat.beq pc 25) (some (.iaload, 1, 0, 0, 0)) none) (cond (Nat.blt pc 27) (cond (Nat.beq pc 26) (some (.iconst (-1), 1, 0, 0, (-1))) none) (cond (Nat.beq pc 27) (some (.if_icmp .eq 14, 3, 41, 0, 0)) none))) (cond (Nat.blt pc 32) (cond (Nat.blt pc 31) (cond (Nat.beq pc 30) (some (.aload_n 0, 1, 0, 0, 0)) none) (cond (Nat.beq pc 31) (some (.aload_n 0, 1, 0, 0, 0)) none)) (cond (Nat.blt pc 35) (cond (Nat.beq pc 32) (some (.getfield 173, 3, 9, 31, 0)) none) (cond (Nat.beq pc 35) (some (.invokevirtual 176, 3, 118, 1, 0)) none)))) (cond (Nat.blt pc 46) (cond (Nat.blt pc 42) (cond (Nat.blt pc 41) (cond (Nat.beq pc 38) (some (.goto 13, 3, 51, 0, 0)) none) (cond (Nat.beq pc 41) (some (.aload_n 0, 1, 0, 0, 0)) none)) (cond (Nat.blt pc 45) (cond (Nat.beq pc 42) (some (.getfield 68, 3, 9, 33, 0)) none) (cond (Nat.beq pc 45) (some (.aload_n 0, 1, 0, 0, 0)) none))) (cond (Nat.blt pc 50) (cond (Nat.blt pc 49) (cond (Nat.beq pc 46) (some (.getfield 163, 3, 9, 26, 0)) none) (cond (Nat.beq pc 49) (some (.iload_n 1, 1, 1, 0, 0)) none)) (cond (Nat.blt pc 51) (cond (Nat.beq pc 50) (some (.iastore, 1, 0, 0, 0)) none) (cond (Nat.beq pc 51) (some (.return_, 1, 0, 0, 0)) none)))))
def tb_119 (pc : Nat) : Option mm_E := cond (Nat.blt pc 52) (tt_119 pc) none
def tt_120 (pc : Nat) : Option mm_E := cond (Nat.blt pc 45) (cond (Nat.blt pc 20) (cond (Nat.blt pc 10) (cond (Nat.blt pc 5) (cond (Nat.blt pc 1) (cond (Nat.beq pc 0) (some (.aload_n 0, 1, 0, 0, 0)) none) (cond (Nat.blt pc 4) (cond (Nat.beq pc 1) (some (.getfield 59, 3, 9, 21, 0)) none) (cond (Nat.beq pc 4) (some (.aload_n 0, 1, 0, 0, 0)) none))) (cond (Nat.blt pc 8) (cond (Nat.beq pc 5) (some (.getfield 122, 3, 9, 20, 0)) none) (cond (Nat.blt pc 9) (cond (Nat.beq pc 8) (some (.iconst 1, 1, 0, 0, 1)) none) (cond (Nat.beq pc 9) (some (.isub, 1, 0, 0, 0)) none)))) (cond (Nat.blt pc 13) (cond (Nat.blt pc 11) (cond (Nat.beq pc 10) (some (.iaload, 1, 0, 0, 0)) none) (cond (Nat.blt pc 12) (cond (Nat.beq pc 11) (some (.istore_n 1, 1, 1, 0, 0)) none) (cond (Nat.beq pc 12) (some (.aload_n 0, 1, 0, 0, 0)) none))) (cond (Nat.blt pc 18) (cond (Nat.blt pc 16) (cond (Nat.beq pc 13) (some (.getfield 179, 3, 9, 28, 0)) none) (cond (Nat.beq pc 16) (some (.bipush 120, 2, 0, 0, 120)) none)) (cond (Nat.blt pc 19) (cond (Nat.beq pc 18) (some (.isub, 1, 0, 0, 0)) none) (cond (Nat.beq pc 19) (some (.istore_n 2, 1, 2, 0, 0)) none))))) (cond (Nat.blt pc 32) (cond (Nat.blt pc 27) (cond (Nat.blt pc 21) (cond (Nat.beq pc 20) (some (.aload_n 0, 1, 0, 0, 0)) none) (cond (Nat.blt pc 24) (cond (Nat.beq pc 21) (some (.getfield 182, 3, 9, 27, 0)) none) (cond (Nat.beq pc 24) (some (.ifCond .eq 11, 3, 35, 0, 0)) none))) (cond (Nat.blt pc 28) (cond (Nat.beq pc 27) (some (.aload_n 0, 1, 0, 0, 0)) none) (cond (Nat.blt pc 31) (cond (Nat.beq pc 28) (some (.getfield 163, 3, 9, 26, 0)) none) (cond (Nat.beq pc 31) (some (.ineg, 1, 0, 0, 0)) none)))) (cond (Nat.blt pc 39) (cond (Nat.blt pc 35) (cond (Nat.beq pc 32) (some (.goto 7, 3, 39, 0, 0)) none) (cond (Nat.blt pc 36) (cond (Nat.beq pc 35) (some (.aload_n 0, 1, 0, 0, 0)) none) (cond (Nat.beq pc 36) (some (.getfield 163, 3, 9, 26, 0)) none))) (cond (Nat.blt pc 41) (cond (Nat.blt pc 40) (cond (Nat.beq pc 39) (some (.istore_n 3, 1, 3, 0, 0)) none) (cond (Nat.beq pc 40) (some (.iload_n 1, 1, 1, 0, 0)) none)) (cond (Nat.blt pc 42) (cond (Nat.beq pc 41) (some (.iconst (-1), 1, 0, 0, (-1))) none) (cond (Nat.beq pc 42) (some (.if_icmp .eq 22, 3, 64, 0, 0)) none)))))) (cond (Nat.blt pc 66) (cond (Nat.blt pc 55) (cond (Nat.blt pc 48) (cond (Nat.blt pc 46) (cond (Nat.beq pc 45) (some (.aload_n 0, 1, 0, 0, 0)) none) (cond (Nat.blt pc 47) (cond (Nat.beq pc 46) (some (.iload_n 1, 1, 1, 0, 0)) none) (cond (Nat.beq pc 47) (some (.iload_n 2, 1, 2, 0, 0)) none))) (cond (Nat.blt pc 51) (cond (Nat.beq pc 48) (some (.invokevirtual 87, 3, 89, 1, 0)) none) (cond (Nat.blt pc 54) (cond (Nat.beq pc 51) (some (.ifCond .eq 13, 3, 64, 0, 0)) none) (cond (Nat.beq pc 54) (some (.aload_n 0, 1, 0, 0, 0)) none)))) (cond (Nat.blt pc 58) (cond (Nat.blt pc 56) (cond (Nat.beq pc 55) (some (.iload_n 1, 1, 1, 0, 0)) none) (cond (Nat.blt pc 57) (cond (Nat.beq pc 56) (some (.iload_n 2, 1, 2, 0, 0)) none) (cond (Nat.beq pc 57) (some (.iload_n 3, 1, 3, 0, 0)) none))) (cond (Nat.blt pc 64) (cond (Nat.blt pc 61) (cond (Nat.beq pc 58) (some (.invokevirtual 91, 3, 95, 1, 0)) none) (cond (Nat.beq pc 61) (some (.ifCond .ne 14, 3, 75, 0, 0)) none)) (cond (Nat.blt pc 65) (cond (Nat.beq pc 64) (some (.aload_n 0, 1, 0, 0, 0)) none) (cond (Nat.beq pc 65) (some (.aload_n 0, 1, 0, 0, 0)) none))))) (cond (Nat.blt pc 80) (cond (Nat.blt pc 75) (cond (Nat.blt pc 69) (cond (Nat.beq pc 66) (some (.getfield 186, 3, 9, 29, 0)) none) (cond (Nat.blt pc 72) (cond (Nat.beq pc 69) (some (.invokevirtual 176, 3, 118, 1, 0)) none) (cond (Nat.beq pc 72) (some (.goto 14, 3, 86, 0, 0)) none))) (cond (Nat.blt pc 76) (cond (Nat.beq pc 75) (some (.aload_n 0, 1, 0, 0, 0)) none) (cond (Nat.blt pc 79) (cond (Nat.beq pc 76) (some (.getfield 32, 3, 9, 8, 0)) none) (cond (Nat.beq pc 79) (some (.iconst 3, 1, 0, 0, 3)) none)))) (cond (Nat.blt pc 83) (cond (Nat.blt pc 81) (cond (Nat.beq pc 80) (some (.iload_n 1, 1, 1, 0, 0)) none) (cond (Nat.blt pc 82) (cond (Nat.beq pc 81) (some (.imul, 1, 0, 0, 0)) none) (cond (Nat.beq pc 82) (some (.iload_n 2, 1, 2, 0, 0)) none))) (cond (Nat.blt pc 85) (cond (Nat.blt pc 84) (cond (Nat.beq pc 83) (some (.iadd, 1, 0, 0, 0)) none) (cond (Nat.beq pc 84) (some (.iload_n 3, 1, 3, 0, 0)) none)) (cond (Nat.blt pc 86) (cond (Nat.beq pc 85) (some (.iastore, 1, 0, 0, 0)) none) (cond (Nat.beq pc 86) (some (.return_, 1, 0, 0, 0)) none))))))
def tb_120 (pc : Nat) : Option mm_E := cond (Nat.blt pc 87) (tt_120 pc) none
def tt_121 (pc : Nat) : Option mm_E := cond (Nat.blt pc 31) (cond (Nat.blt pc 13) (cond (Nat.blt pc 8) (cond (Nat.blt pc 4) (cond (Nat.blt pc 1) (cond (Nat.beq pc 0) (some (.aload_n 0, 1, 0, 0, 0)) none) (cond (Nat.beq pc 1) (some (.getfield 59, 3, 9, 21, 0)) none)) (cond (Nat.blt pc 5) (cond (Nat.beq pc 4) (some (.aload_n 0, 1, 0, 0, 0)) none) (cond (Nat.beq pc 5) (some (.getfield 122, 3, 9, 20, 0)) none))) (cond (Nat.blt pc 10) (cond (Nat.blt pc 9) (cond (Nat.beq pc 8) (some (.iconst 1, 1, 0, 0, 1)) none) (cond (Nat.beq pc 9) (some (.isub, 1, 0, 0, 0)) none)) (cond (Nat.blt pc 11) (cond (Nat.beq pc 10) (some (.iaload, 1, 0, 0, 0)) none) (cond (Nat.blt pc 12) (cond (Nat.beq pc 11) (some (.istore_n 3, 1, 3, 0, 0)) none) (cond (Nat.beq pc 12) (some (.aload_n 0, 1, 0, 0, 0)) none))))) (cond (Nat.blt pc 22) (cond (Nat.blt pc 18) (cond (Nat.blt pc 16) (cond (Nat.beq pc 13) (some (.getfield 179, 3, 9, 28, 0)) none) (cond (Nat.beq pc 16) (some (.bipush 112, 2, 0, 0, 112)) none)) (cond (Nat.blt pc 19) (cond (Nat.beq pc 18) (some (.isub, 1, 0, 0, 0)) none) (cond (Nat.blt pc 21) (cond (Nat.beq pc 19) (some (.istore 4, 2, 4, 0, 0)) none) (cond (Nat.beq pc 21) (some (.iload_n 3, 1, 3, 0, 0)) none)))) (cond (Nat.blt pc 26) (cond (Nat.blt pc 23) (cond (Nat.beq pc 22) (some (.iconst (-1), 1, 0, 0, (-1))) none) (cond (Nat.beq pc 23) (some (.if_icmp .eq 17, 3, 40, 0, 0)) none)) (cond (Nat.blt pc 27) (cond (Nat.beq pc 26) (some (.iload_n 2, 1, 2, 0, 0)) none) (cond (Nat.blt pc 30) (cond (Nat.beq pc 27) (some (.ifCond .eq 13, 3, 40, 0, 0)) none) (cond (Nat.beq pc 30) (some (.aload_n 0, 1, 0, 0, 0)) none)))))) (cond (Nat.blt pc 51) (cond (Nat.blt pc 40) (cond (Nat.blt pc 34) (cond (Nat.blt pc 32) (cond (Nat.beq pc 31) (some (.iload_n 3, 1, 3, 0, 0)) none) (cond (Nat.beq pc 32) (some (.iload 4, 2, 4, 0, 0)) none)) (cond (Nat.blt pc 37) (cond (Nat.beq pc 34) (some (.invokevirtual 95, 3, 90, 1, 0)) none) (cond (Nat.beq pc 37) (some (.ifCond .ne 14, 3, 51, 0, 0)) none))) (cond (Nat.blt pc 42) (cond (Nat.blt pc 41) (cond (Nat.beq pc 40) (some (.aload_n 0, 1, 0, 0, 0)) none) (cond (Nat.beq pc 41) (some (.aload_n 0, 1, 0, 0, 0)) none)) (cond (Nat.blt pc 45) (cond (Nat.beq pc 42) (some (.getfield 186, 3, 9, 29, 0)) none) (cond (Nat.blt pc 48) (cond (Nat.beq pc 45) (some (.invokevirtual 176, 3, 118, 1, 0)) none) (cond (Nat.beq pc 48) (some (.goto 15, 3, 63, 0, 0)) none))))) (cond (Nat.blt pc 58) (cond (Nat.blt pc 55) (cond (Nat.blt pc 52) (cond (Nat.beq pc 51) (some (.aload_n 0, 1, 0, 0, 0)) none) (cond (Nat.beq pc 52) (some (.getfield 35, 3, 9, 9, 0)) none)) (cond (Nat.blt pc 56) (cond (Nat.beq pc 55) (some (.iconst 2, 1, 0, 0, 2)) none) (cond (Nat.blt pc 57) (cond (Nat.beq pc 56) (some (.iload_n 3, 1, 3, 0, 0)) none) (cond (Nat.beq pc 57) (some (.imul, 1, 0, 0, 0)) none)))) (cond (Nat.blt pc 61) (cond (Nat.blt pc 60) (cond (Nat.beq pc 58) (some (.iload 4, 2, 4, 0, 0)) none) (cond (Nat.beq pc 60) (some (.iadd, 1, 0, 0, 0)) none)) (cond (Nat.blt pc 62) (cond (Nat.beq pc 61) (some (.iload_n 1, 1, 1, 0, 0)) none) (cond (Nat.blt pc 63) (cond (Nat.beq pc 62) (some (.iastore, 1, 0, 0, 0)) none) (cond (Nat.beq pc 63) (some (.return_, 1, 0, 0, 0)) none))))))
def tb_121 (pc : Nat) : Option mm_E := cond (Nat.blt pc 64) (tt_121 pc) none
def tt_122 (pc : Nat) : Option mm_E := cond (Nat.blt pc 139) (cond (Nat.blt pc 69) (cond (Nat.blt pc 32) (cond (Nat.blt pc 15) (cond (Nat.blt pc 6) (cond (Nat.blt pc 2) (cond (Nat.blt pc 1) (cond (Nat.beq pc 0) (some (.iload_n 3, 1, 3, 0, 0)) none) (cond (Nat.beq pc 1) (some (.iconst 1, 1, 0, 0, 1)) none)) (cond (Nat.blt pc 5) (cond (Nat.beq pc 2) (some (.if_icmp .ne 11, 3, 13, 0, 0)) none) (cond (Nat.beq pc 5) (some (.aload_n 0, 1, 0, 0, 0)) none))) (cond (Nat.blt pc 10) (cond (Nat.blt pc 7) (cond (Nat.beq pc 6) (some (.iload_n 2, 1, 2, 0, 0)) none) (cond (Nat.beq pc 7) (some (.putfield 189, 3, 9, 30, 0)) none)) (cond (Nat.blt pc 13) (cond (Nat.beq pc 10) (some (.goto 183, 3, 193, 0, 0)) none) (cond (Nat.blt pc 14) (cond (Nat.beq pc 13) (some (.iload_n 3, 1, 3, 0, 0)) none) (cond (Nat.beq pc 14) (some (.iconst 2, 1, 0, 0, 2)) none))))) (cond (Nat.blt pc 23) (cond (Nat.blt pc 19) (cond (Nat.blt pc 18) (cond (Nat.beq pc 15) (some (.if_icmp .ne 94, 3, 109, 0, 0)) none) (cond (Nat.beq pc 18) (some (.aload_n 0, 1, 0, 0, 0)) none)) (cond (Nat.blt pc 22) (cond (Nat.beq pc 19) (some (.getfield 62, 3, 9, 22, 0)) none) (cond (Nat.beq pc 22) (some (.aload_n 0, 1, 0, 0, 0)) none))) (cond (Nat.blt pc 27) (cond (Nat.blt pc 26) (cond (Nat.beq pc 23) (some (.getfield 122, 3, 9, 20, 0)) none) (cond (Nat.beq pc 26) (some (.aload_n 0, 1, 0, 0, 0)) none)) (cond (Nat.blt pc 30) (cond (Nat.beq pc 27) (some (.getfield 179, 3, 9, 28, 0)) none) (cond (Nat.blt pc 31) (cond (Nat.beq pc 30) (some (.iastore, 1, 0, 0, 0)) none) (cond (Nat.beq pc 31) (some (.aload_n 0, 1, 0, 0, 0)) none)))))) (cond (Nat.blt pc 49) (cond (Nat.blt pc 40) (cond (Nat.blt pc 36) (cond (Nat.blt pc 35) (cond (Nat.beq pc 32) (some (.getfield 65, 3, 9, 23, 0)) none) (cond (Nat.beq pc 35) (some (.aload_n 0, 1, 0, 0, 0)) none)) (cond (Nat.blt pc 39) (cond (Nat.beq pc 36) (some (.getfield 122, 3, 9, 20, 0)) none) (cond (Nat.beq pc 39) (some (.aload_n 0, 1, 0, 0, 0)) none))) (cond (Nat.blt pc 44) (cond (Nat.blt pc 43) (cond (Nat.beq pc 40) (some (.getfield 186, 3, 9, 29, 0)) none) (cond (Nat.beq pc 43) (some (.iastore, 1, 0, 0, 0)) none)) (cond (Nat.blt pc 45) (cond (Nat.beq pc 44) (some (.aload_n 0, 1, 0, 0, 0)) none) (cond (Nat.blt pc 48) (cond (Nat.beq pc 45) (some (.getfield 59, 3, 9, 21, 0)) none) (cond (Nat.beq pc 48) (some (.aload_n 0, 1, 0, 0, 0)) none))))) (cond (Nat.blt pc 59) (cond (Nat.blt pc 54) (cond (Nat.blt pc 52) (cond (Nat.beq pc 49) (some (.getfield 122, 3, 9, 20, 0)) none) (cond (Nat.beq pc 52) (some (.iload 4, 2, 4, 0, 0)) none)) (cond (Nat.blt pc 57) (cond (Nat.beq pc 54) (some (.ifCond .eq 14, 3, 68, 0, 0)) none) (cond (Nat.blt pc 58) (cond (Nat.beq pc 57) (some (.aload_n 0, 1, 0, 0, 0)) none) (cond (Nat.beq pc 58) (some (.iload_n 1, 1, 1, 0, 0)) none)))) (cond (Nat.blt pc 62) (cond (Nat.blt pc 61) (cond (Nat.beq pc 59) (some (.bipush 97, 2, 0, 0, 97)) none) (cond (Nat.beq pc 61) (some (.isub, 1, 0, 0, 0)) none)) (cond (Nat.blt pc 65) (cond (Nat.beq pc 62) (some (.invokevirtual 192, 3, 91, 1, 0)) none) (cond (Nat.blt pc 68) (cond (Nat.beq pc 65) (some (.goto 4, 3, 69, 0, 0)) none) (cond (Nat.beq pc 68) (some (.iconst (-1), 1, 0, 0, (-1))) none))))))) (cond (Nat.blt pc 103) (cond (Nat.blt pc 85) (cond (Nat.blt pc 76) (cond (Nat.blt pc 72) (cond (Nat.blt pc 70) (cond (Nat.beq pc 69) (some (.iastore, 1, 0, 0, 0)) none) (cond (Nat.beq pc 70) (some (.iload 4, 2, 4, 0, 0)) none)) (cond (Nat.blt pc 75) (cond (Nat.beq pc 72) (some (.ifCond .eq 24, 3, 96, 0, 0)) none) (cond (Nat.beq pc 75) (some (.aload_n 0, 1, 0, 0, 0)) none))) (cond (Nat.blt pc 80) (cond (Nat.blt pc 79) (cond (Nat.beq pc 76) (some (.getfield 59, 3, 9, 21, 0)) none) (cond (Nat.beq pc 79) (some (.aload_n 0, 1, 0, 0, 0)) none)) (cond (Nat.blt pc 83) (cond (Nat.beq pc 80) (some (.getfield 122, 3, 9, 20, 0)) none) (cond (Nat.blt pc 84) (cond (Nat.beq pc 83) (some (.iaload, 1, 0, 0, 0)) none) (cond (Nat.beq pc 84) (some (.iconst (-1), 1, 0, 0, (-1))) none))))) (cond (Nat.blt pc 96) (cond (Nat.blt pc 89) (cond (Nat.blt pc 88) (cond (Nat.beq pc 85) (some (.if_icmp .ne 11, 3, 96, 0, 0)) none) (cond (Nat.beq pc 88) (some (.aload_n 0, 1, 0, 0, 0)) none)) (cond (Nat.blt pc 90) (cond (Nat.beq pc 89) (some (.aload_n 0, 1, 0, 0, 0)) none) (cond (Nat.blt pc 93) (cond (Nat.beq pc 90) (some (.getfield 189, 3, 9, 30, 0)) none) (cond (Nat.beq pc 93) (some (.invokevirtual 176, 3, 118, 1, 0)) none)))) (cond (Nat.blt pc 98) (cond (Nat.blt pc 97) (cond (Nat.beq pc 96) (some (.aload_n 0, 1, 0, 0, 0)) none) (cond (Nat.beq pc 97) (some (.dup, 1, 0, 0, 0)) none)) (cond (Nat.blt pc 101) (cond (Nat.beq pc 98) (some (.getfield 122, 3, 9, 20, 0)) none) (cond (Nat.blt pc 102) (cond (Nat.beq pc 101) (some (.iconst 1, 1, 0, 0, 1)) none) (cond (Nat.beq pc 102) (some (.iadd, 1, 0, 0, 0)) none)))))) (cond (Nat.blt pc 122) (cond (Nat.blt pc 111) (cond (Nat.blt pc 109) (cond (Nat.blt pc 106) (cond (Nat.beq pc 103) (some (.putfield 122, 3, 9, 20, 0)) none) (cond (Nat.beq pc 106) (some (.goto 87, 3, 193, 0, 0)) none)) (cond (Nat.blt pc 110) (cond (Nat.beq pc 109) (some (.iload_n 3, 1, 3, 0, 0)) none) (cond (Nat.beq pc 110) (some (.iconst 3, 1, 0, 0, 3)) none))) (cond (Nat.blt pc 115) (cond (Nat.blt pc 114) (cond (Nat.beq pc 111) (some (.if_icmp .ne 11, 3, 122, 0, 0)) none) (cond (Nat.beq pc 114) (some (.aload_n 0, 1, 0, 0, 0)) none)) (cond (Nat.blt pc 116) (cond (Nat.beq pc 115) (some (.iload_n 2, 1, 2, 0, 0)) none) (cond (Nat.blt pc 119) (cond (Nat.beq pc 116) (some (.putfield 173, 3, 9, 31, 0)) none) (cond (Nat.beq pc 119) (some (.goto 74, 3, 193, 0, 0)) none))))) (cond (Nat.blt pc 130) (cond (Nat.blt pc 124) (cond (Nat.blt pc 123) (cond (Nat.beq pc 122) (some (.iload_n 3, 1, 3, 0, 0)) none) (cond (Nat.beq pc 123) (some (.iconst 5, 1, 0, 0, 5)) none)) (cond (Nat.blt pc 127) (cond (Nat.beq pc 124) (some (.if_icmp .eq 9, 3, 133, 0, 0)) none) (cond (Nat.blt pc 128) (cond (Nat.beq pc 127) (some (.iload_n 3, 1, 3, 0, 0)) none) (cond (Nat.beq pc 128) (some (.bipush 6, 2, 0, 0, 6)) none)))) (cond (Nat.blt pc 134) (cond (Nat.blt pc 133) (cond (Nat.beq pc 130) (some (.if_icmp .ne 16, 3, 146, 0, 0)) none) (cond (Nat.beq pc 133) (some (.aload_n 0, 1, 0, 0, 0)) none)) (cond (Nat.blt pc 135) (cond (Nat.beq pc 134) (some (.iload_n 1, 1, 1, 0, 0)) none) (cond (Nat.blt pc 138) (cond (Nat.beq pc 135) (some (.putfield 179, 3, 9, 28, 0)) none) (cond (Nat.beq pc 138) (some (.aload_n 0, 1, 0, 0, 0)) none)))))))) (cond (Nat.blt pc 215) (cond (Nat.blt pc 178) (cond (Nat.blt pc 158) (cond (Nat.blt pc 147) (cond (Nat.blt pc 143) (cond (Nat.blt pc 140) (cond (Nat.beq pc 139) (some (.iload_n 2, 1, 2, 0, 0)) none) (cond (Nat.beq pc 140) (some (.putfield 186, 3, 9, 29, 0)) none)) (cond (Nat.blt pc 146) (cond (Nat.beq pc 143) (some (.goto 50, 3, 193, 0, 0)) none) (cond (Nat.beq pc 146) (some (.aload_n 0, 1, 0, 0, 0)) none))) (cond (Nat.blt pc 152) (cond (Nat.blt pc 150) (cond (Nat.beq pc 147) (some (.getfield 141, 3, 9, 24, 0)) none) (cond (Nat.beq pc 150) (some (.bipush 10, 2, 0, 0, 10)) none)) (cond (Nat.blt pc 155) (cond (Nat.beq pc 152) (some (.if_icmp .ne 23, 3, 175, 0, 0)) none) (cond (Nat.blt pc 156) (cond (Nat.beq pc 155) (some (.iload_n 1, 1, 1, 0, 0)) none) (cond (Nat.beq pc 156) (some (.bipush 126, 2, 0, 0, 126)) none))))) (cond (Nat.blt pc 168) (cond (Nat.blt pc 163) (cond (Nat.blt pc 161) (cond (Nat.beq pc 158) (some (.if_icmp .ne 17, 3, 175, 0, 0)) none) (cond (Nat.beq pc 161) (some (.iload 4, 2, 4, 0, 0)) none)) (cond (Nat.blt pc 166) (cond (Nat.beq pc 163) (some (.ifCond .eq 12, 3, 175, 0, 0)) none) (cond (Nat.blt pc 167) (cond (Nat.beq pc 166) (some (.aload_n 0, 1, 0, 0, 0)) none) (cond (Nat.beq pc 167) (some (.iconst (-1), 1, 0, 0, (-1))) none)))) (cond (Nat.blt pc 172) (cond (Nat.blt pc 169) (cond (Nat.beq pc 168) (some (.iconst 1, 1, 0, 0, 1)) none) (cond (Nat.beq pc 169) (some (.invokevirtual 166, 3, 121, 1, 0)) none)) (cond (Nat.blt pc 175) (cond (Nat.beq pc 172) (some (.goto 21, 3, 193, 0, 0)) none) (cond (Nat.blt pc 176) (cond (Nat.beq pc 175) (some (.iload_n 1, 1, 1, 0, 0)) none) (cond (Nat.beq pc 176) (some (.bipush 41, 2, 0, 0, 41)) none)))))) (cond (Nat.blt pc 195) (cond (Nat.blt pc 187) (cond (Nat.blt pc 182) (cond (Nat.blt pc 181) (cond (Nat.beq pc 178) (some (.if_icmp .ne 15, 3, 193, 0, 0)) none) (cond (Nat.beq pc 181) (some (.iload_n 3, 1, 3, 0, 0)) none)) (cond (Nat.blt pc 184) (cond (Nat.beq pc 182) (some (.bipush 13, 2, 0, 0, 13)) none) (cond (Nat.beq pc 184) (some (.if_icmp .lt 9, 3, 193, 0, 0)) none))) (cond (Nat.blt pc 190) (cond (Nat.blt pc 188) (cond (Nat.beq pc 187) (some (.aload_n 0, 1, 0, 0, 0)) none) (cond (Nat.beq pc 188) (some (.iload 4, 2, 4, 0, 0)) none)) (cond (Nat.blt pc 193) (cond (Nat.beq pc 190) (some (.invokevirtual 195, 3, 123, 1, 0)) none) (cond (Nat.blt pc 194) (cond (Nat.beq pc 193) (some (.iload_n 3, 1, 3, 0, 0)) none) (cond (Nat.beq pc 194) (some (.iconst 3, 1, 0, 0, 3)) none))))) (cond (Nat.blt pc 205) (cond (Nat.blt pc 199) (cond (Nat.blt pc 198) (cond (Nat.beq pc 195) (some (.if_icmp .eq 15, 3, 210, 0, 0)) none) (cond (Nat.beq pc 198) (some (.iload_n 3, 1, 3, 0, 0)) none)) (cond (Nat.blt pc 201) (cond (Nat.beq pc 199) (some (.bipush 7, 2, 0, 0, 7)) none) (cond (Nat.blt pc 204) (cond (Nat.beq pc 201) (some (.if_icmp .eq 9, 3, 210, 0, 0)) none) (cond (Nat.beq pc 204) (some (.iload_n 3, 1, 3, 0, 0)) none)))) (cond (Nat.blt pc 210) (cond (Nat.blt pc 207) (cond (Nat.beq pc 205) (some (.bipush 11, 2, 0, 0, 11)) none) (cond (Nat.beq pc 207) (some (.if_icmp .ne 18, 3, 225, 0, 0)) none)) (cond (Nat.blt pc 211) (cond (Nat.beq pc 210) (some (.aload_n 0, 1, 0, 0, 0)) none) (cond (Nat.blt pc 212) (cond (Nat.beq pc 211) (some (.iconst 0, 1, 0, 0, 0)) none) (cond (Nat.beq pc 212) (some (.putfield 151, 3, 9, 25, 0)) none))))))) (cond (Nat.blt pc 248) (cond (Nat.blt pc 231) (cond (Nat.blt pc 221) (cond (Nat.blt pc 217) (cond (Nat.blt pc 216) (cond (Nat.beq pc 215) (some (.aload_n 0, 1, 0, 0, 0)) none) (cond (Nat.beq pc 216) (some (.iconst 0, 1, 0, 0, 0)) none)) (cond (Nat.blt pc 220) (cond (Nat.beq pc 217) (some (.putfield 163, 3, 9, 26, 0)) none) (cond (Nat.beq pc 220) (some (.aload_n 0, 1, 0, 0, 0)) none))) (cond (Nat.blt pc 225) (cond (Nat.blt pc 222) (cond (Nat.beq pc 221) (some (.iconst 0, 1, 0, 0, 0)) none) (cond (Nat.beq pc 222) (some (.putfield 182, 3, 9, 27, 1)) none)) (cond (Nat.blt pc 226) (cond (Nat.beq pc 225) (some (.iload_n 3, 1, 3, 0, 0)) none) (cond (Nat.blt pc 228) (cond (Nat.beq pc 226) (some (.bipush 8, 2, 0, 0, 8)) none) (cond (Nat.beq pc 228) (some (.if_icmp .ne 8, 3, 236, 0, 0)) none))))) (cond (Nat.blt pc 238) (cond (Nat.blt pc 233) (cond (Nat.blt pc 232) (cond (Nat.beq pc 231) (some (.aload_n 0, 1, 0, 0, 0)) none) (cond (Nat.beq pc 232) (some (.iconst 1, 1, 0, 0, 1)) none)) (cond (Nat.blt pc 236) (cond (Nat.beq pc 233) (some (.putfield 182, 3, 9, 27, 1)) none) (cond (Nat.blt pc 237) (cond (Nat.beq pc 236) (some (.iload_n 3, 1, 3, 0, 0)) none) (cond (Nat.beq pc 237) (some (.iconst 4, 1, 0, 0, 4)) none)))) (cond (Nat.blt pc 242) (cond (Nat.blt pc 241) (cond (Nat.beq pc 238) (some (.if_icmp .eq 15, 3, 253, 0, 0)) none) (cond (Nat.beq pc 241) (some (.iload_n 3, 1, 3, 0, 0)) none)) (cond (Nat.blt pc 244) (cond (Nat.beq pc 242) (some (.bipush 9, 2, 0, 0, 9)) none) (cond (Nat.blt pc 247) (cond (Nat.beq pc 244) (some (.if_icmp .eq 9, 3, 253, 0, 0)) none) (cond (Nat.beq pc 247) (some (.iload_n 3, 1, 3, 0, 0)) none)))))) (cond (Nat.blt pc 264) (cond (Nat.blt pc 255) (cond (Nat.blt pc 253) (cond (Nat.blt pc 250) (cond (Nat.beq pc 248) (some (.bipush 12, 2, 0, 0, 12)) none) (cond (Nat.beq pc 250) (some (.if_icmp .ne 29, 3, 279, 0, 0)) none)) (cond (Nat.blt pc 254) (cond (Nat.beq pc 253) (some (.aload_n 0, 1, 0, 0, 0)) none) (cond (Nat.beq pc 254) (some (.dup, 1, 0, 0, 0)) none))) (cond (Nat.blt pc 259) (cond (Nat.blt pc 258) (cond (Nat.beq pc 255) (some (.getfield 151, 3, 9, 25, 0)) none) (cond (Nat.beq pc 258) (some (.iconst 1, 1, 0, 0, 1)) none)) (cond (Nat.blt pc 260) (cond (Nat.beq pc 259) (some (.iadd, 1, 0, 0, 0)) none) (cond (Nat.blt pc 263) (cond (Nat.beq pc 260) (some (.putfield 151, 3, 9, 25, 0)) none) (cond (Nat.beq pc 263) (some (.aload_n 0, 1, 0, 0, 0)) none))))) (cond (Nat.blt pc 272) (cond (Nat.blt pc 267) (cond (Nat.blt pc 266) (cond (Nat.beq pc 264) (some (.bipush 10, 2, 0, 0, 10)) none) (cond (Nat.beq pc 266) (some (.aload_n 0, 1, 0, 0, 0)) none)) (cond (Nat.blt pc 270) (cond (Nat.beq pc 267) (some (.getfield 163, 3, 9, 26, 0)) none) (cond (Nat.blt pc 271) (cond (Nat.beq pc 270) (some (.imul, 1, 0, 0, 0)) none) (cond (Nat.beq pc 271) (some (.iload_n 1, 1, 1, 0, 0)) none)))) (cond (Nat.blt pc 275) (cond (Nat.blt pc 273) (cond (Nat.beq pc 272) (some (.iadd, 1, 0, 0, 0)) none) (cond (Nat.beq pc 273) (some (.bipush 48, 2, 0, 0, 48)) none)) (cond (Nat.blt pc 276) (cond (Nat.beq pc 275) (some (.isub, 1, 0, 0, 0)) none) (cond (Nat.blt pc 279) (cond (Nat.beq pc 276) (some (.putfield 163, 3, 9, 26, 0)) none) (cond (Nat.beq pc 279) (some (.return_, 1, 0, 0, 0)) none))))))))
def tb_122 (pc : Nat) : Option mm_E := cond (Nat.blt pc 280) (tt_122 pc) none
def tt_123 (pc : Nat) : Option mm_E := cond (Nat.blt pc 38) (cond (Nat.blt pc 19) (cond (Nat.blt pc 7) (cond (Nat.blt pc 2) (cond (Nat.blt pc 1) (cond (Nat.beq pc 0) (some (.aload_n 0, 1, 0, 0, 0)) none) (cond (Nat.beq pc 1) (some (.dup, 1, 0, 0, 0)) none)) (cond (Nat.blt pc 5) (cond (Nat.beq pc 2) (some (.getfield 122, 3, 9, 20, 0)) none) (cond (Nat.blt pc 6) (cond (Nat.beq pc 5) (some (.iconst 1, 1, 0, 0, 1)) none) (cond (Nat.beq pc 6) (some (.isub, 1, 0, 0, 0)) none)))) (cond (Nat.blt pc 14) (cond (Nat.blt pc 10) (cond (Nat.beq pc 7) (some (.putfield 122, 3, 9, 20, 0)) none) (cond (Nat.blt pc 11) (cond (Nat.beq pc 10) (some (.aload_n 0, 1, 0, 0, 0)) none) (cond (Nat.beq pc 11) (some (.getfield 59, 3, 9, 21, 0)) none))) (cond (Nat.blt pc 15) (cond (Nat.beq pc 14) (some (.aload_n 0, 1, 0, 0, 0)) none) (cond (Nat.blt pc 18) (cond (Nat.beq pc 15) (some (.getfield 122, 3, 9, 20, 0)) none) (cond (Nat.beq pc 18) (some (.iaload, 1, 0, 0, 0)) none))))) (cond (Nat.blt pc 28) (cond (Nat.blt pc 21) (cond (Nat.blt pc 20) (cond (Nat.beq pc 19) (some (.istore_n 2, 1, 2, 0, 0)) none) (cond (Nat.beq pc 20) (some (.aload_n 0, 1, 0, 0, 0)) none)) (cond (Nat.blt pc 24) (cond (Nat.beq pc 21) (some (.getfield 122, 3, 9, 20, 0)) none) (cond (Nat.blt pc 27) (cond (Nat.beq pc 24) (some (.ifCond .ne 9, 3, 33, 0, 0)) none) (cond (Nat.beq pc 27) (some (.aload_n 0, 1, 0, 0, 0)) none)))) (cond (Nat.blt pc 33) (cond (Nat.blt pc 29) (cond (Nat.beq pc 28) (some (.iload_n 2, 1, 2, 0, 0)) none) (cond (Nat.blt pc 32) (cond (Nat.beq pc 29) (some (.putfield 199, 3, 9, 32, 0)) none) (cond (Nat.beq pc 32) (some (.return_, 1, 0, 0, 0)) none))) (cond (Nat.blt pc 34) (cond (Nat.beq pc 33) (some (.aload_n 0, 1, 0, 0, 0)) none) (cond (Nat.blt pc 35) (cond (Nat.beq pc 34) (some (.aload_n 0, 1, 0, 0, 0)) none) (cond (Nat.beq pc 35) (some (.getfield 62, 3, 9, 22, 0)) none)))))) (cond (Nat.blt pc 59) (cond (Nat.blt pc 47) (cond (Nat.blt pc 42) (cond (Nat.blt pc 39) (cond (Nat.beq pc 38) (some (.aload_n 0, 1, 0, 0, 0)) none) (cond (Nat.beq pc 39) (some (.getfield 122, 3, 9, 20, 0)) none)) (cond (Nat.blt pc 43) (cond (Nat.beq pc 42) (some (.iaload, 1, 0, 0, 0)) none) (cond (Nat.blt pc 46) (cond (Nat.beq pc 43) (some (.putfield 179, 3, 9, 28, 0)) none) (cond (Nat.beq pc 46) (some (.aload_n 0, 1, 0, 0, 0)) none)))) (cond (Nat.blt pc 52) (cond (Nat.blt pc 48) (cond (Nat.beq pc 47) (some (.aload_n 0, 1, 0, 0, 0)) none) (cond (Nat.blt pc 51) (cond (Nat.beq pc 48) (some (.getfield 65, 3, 9, 23, 0)) none) (cond (Nat.beq pc 51) (some (.aload_n 0, 1, 0, 0, 0)) none))) (cond (Nat.blt pc 55) (cond (Nat.beq pc 52) (some (.getfield 122, 3, 9, 20, 0)) none) (cond (Nat.blt pc 56) (cond (Nat.beq pc 55) (some (.iaload, 1, 0, 0, 0)) none) (cond (Nat.beq pc 56) (some (.putfield 186, 3, 9, 29, 0)) none))))) (cond (Nat.blt pc 67) (cond (Nat.blt pc 64) (cond (Nat.blt pc 60) (cond (Nat.beq pc 59) (some (.iload_n 1, 1, 1, 0, 0)) none) (cond (Nat.blt pc 63) (cond (Nat.beq pc 60) (some (.ifCond .eq 18, 3, 78, 0, 0)) none) (cond (Nat.beq pc 63) (some (.aload_n 0, 1, 0, 0, 0)) none))) (cond (Nat.blt pc 65) (cond (Nat.beq pc 64) (some (.iload_n 2, 1, 2, 0, 0)) none) (cond (Nat.blt pc 66) (cond (Nat.beq pc 65) (some (.iload_n 2, 1, 2, 0, 0)) none) (cond (Nat.beq pc 66) (some (.iconst (-1), 1, 0, 0, (-1))) none)))) (cond (Nat.blt pc 74) (cond (Nat.blt pc 70) (cond (Nat.beq pc 67) (some (.if_icmp .eq 7, 3, 74, 0, 0)) none) (cond (Nat.blt pc 71) (cond (Nat.beq pc 70) (some (.iconst 1, 1, 0, 0, 1)) none) (cond (Nat.beq pc 71) (some (.goto 4, 3, 75, 0, 0)) none))) (cond (Nat.blt pc 75) (cond (Nat.beq pc 74) (some (.iconst 0, 1, 0, 0, 0)) none) (cond (Nat.blt pc 78) (cond (Nat.beq pc 75) (some (.invokevirtual 166, 3, 121, 1, 0)) none) (cond (Nat.beq pc 78) (some (.return_, 1, 0, 0, 0)) none))))))
def tb_123 (pc : Nat) : Option mm_E := cond (Nat.blt pc 79) (tt_123 pc) none
def tt_124 (pc : Nat) : Option mm_E := cond (Nat.blt pc 40) (cond (Nat.blt pc 21) (cond (Nat.blt pc 10) (cond (Nat.blt pc 5) (cond (Nat.blt pc 1) (cond (Nat.beq pc 0) (some (.aload_n 0, 1, 0, 0, 0)) none) (cond (Nat.blt pc 2) (cond (Nat.beq pc 1) (some (.iconst 0, 1, 0, 0, 0)) none) (cond (Nat.beq pc 2) (some (.putfield 141, 3, 9, 24, 0)) none))) (cond (Nat.blt pc 6) (cond (Nat.beq pc 5) (some (.aload_n 0, 1, 0, 0, 0)) none) (cond (Nat.blt pc 7) (cond (Nat.beq pc 6) (some (.iconst 0, 1, 0, 0, 0)) none) (cond (Nat.beq pc 7) (some (.putfield 122, 3, 9, 20, 0)) none)))) (cond (Nat.blt pc 13) (cond (Nat.blt pc 11) (cond (Nat.beq pc 10) (some (.iconst 1, 1, 0, 0, 1)) none) (cond (Nat.blt pc 12) (cond (Nat.beq pc 11) (some (.istore_n 2, 1, 2, 0, 0)) none) (cond (Nat.beq pc 12) (some (.iload_n 2, 1, 2, 0, 0)) none))) (cond (Nat.blt pc 17) (cond (Nat.blt pc 14) (cond (Nat.beq pc 13) (some (.aload_n 0, 1, 0, 0, 0)) none) (cond (Nat.beq pc 14) (some (.getfield 138, 3, 9, 11, 0)) none)) (cond (Nat.blt pc 20) (cond (Nat.beq pc 17) (some (.if_icmp .gt 49, 3, 66, 0, 0)) none) (cond (Nat.beq pc 20) (some (.aload_n 0, 1, 0, 0, 0)) none))))) (cond (Nat.blt pc 29) (cond (Nat.blt pc 26) (cond (Nat.blt pc 22) (cond (Nat.beq pc 21) (some (.aload_n 0, 1, 0, 0, 0)) none) (cond (Nat.blt pc 25) (cond (Nat.beq pc 22) (some (.getfield 38, 3, 9, 10, 0)) none) (cond (Nat.beq pc 25) (some (.iload_n 2, 1, 2, 0, 0)) none))) (cond (Nat.blt pc 27) (cond (Nat.beq pc 26) (some (.iconst 1, 1, 0, 0, 1)) none) (cond (Nat.blt pc 28) (cond (Nat.beq pc 27) (some (.isub, 1, 0, 0, 0)) none) (cond (Nat.beq pc 28) (some (.iaload, 1, 0, 0, 0)) none)))) (cond (Nat.blt pc 34) (cond (Nat.blt pc 30) (cond (Nat.beq pc 29) (some (.iload_n 1, 1, 1, 0, 0)) none) (cond (Nat.blt pc 33) (cond (Nat.beq pc 30) (some (.invokevirtual 202, 3, 115, 1, 0)) none) (cond (Nat.beq pc 33) (some (.istore_n 3, 1, 3, 0, 0)) none))) (cond (Nat.blt pc 38) (cond (Nat.blt pc 35) (cond (Nat.beq pc 34) (some (.iload_n 3, 1, 3, 0, 0)) none) (cond (Nat.beq pc 35) (some (.ifCond .ge 5, 3, 40, 0, 0)) none)) (cond (Nat.blt pc 39) (cond (Nat.beq pc 38) (some (.iload_n 2, 1, 2, 0, 0)) none) (cond (Nat.beq pc 39) (some (.ireturn, 1, 0, 0, 0)) none)))))) (cond (Nat.blt pc 57) (cond (Nat.blt pc 48) (cond (Nat.blt pc 45) (cond (Nat.blt pc 41) (cond (Nat.beq pc 40) (some (.aload_n 0, 1, 0, 0, 0)) none) (cond (Nat.blt pc 42) (cond (Nat.beq pc 41) (some (.aload_n 0, 1, 0, 0, 0)) none) (cond (Nat.beq pc 42) (some (.getfield 38, 3, 9, 10, 0)) none))) (cond (Nat.blt pc 46) (cond (Nat.beq pc 45) (some (.iload_n 2, 1, 2, 0, 0)) none) (cond (Nat.blt pc 47) (cond (Nat.beq pc 46) (some (.iconst 1, 1, 0, 0, 1)) none) (cond (Nat.beq pc 47) (some (.isub, 1, 0, 0, 0)) none)))) (cond (Nat.blt pc 51) (cond (Nat.blt pc 49) (cond (Nat.beq pc 48) (some (.iaload, 1, 0, 0, 0)) none) (cond (Nat.blt pc 50) (cond (Nat.beq pc 49) (some (.iload_n 2, 1, 2, 0, 0)) none) (cond (Nat.beq pc 50) (some (.iload_n 3, 1, 3, 0, 0)) none))) (cond (Nat.blt pc 55) (cond (Nat.blt pc 52) (cond (Nat.beq pc 51) (some (.iload_n 1, 1, 1, 0, 0)) none) (cond (Nat.beq pc 52) (some (.invokevirtual 205, 3, 122, 1, 0)) none)) (cond (Nat.blt pc 56) (cond (Nat.beq pc 55) (some (.aload_n 0, 1, 0, 0, 0)) none) (cond (Nat.beq pc 56) (some (.iload_n 3, 1, 3, 0, 0)) none))))) (cond (Nat.blt pc 75) (cond (Nat.blt pc 66) (cond (Nat.blt pc 60) (cond (Nat.beq pc 57) (some (.putfield 141, 3, 9, 24, 0)) none) (cond (Nat.blt pc 63) (cond (Nat.beq pc 60) (some (.iinc 2 1, 3, 2, 0, 1)) none) (cond (Nat.beq pc 63) (some (.goto (-51), 3, 12, 0, 0)) none))) (cond (Nat.blt pc 70) (cond (Nat.blt pc 67) (cond (Nat.beq pc 66) (some (.aload_n 0, 1, 0, 0, 0)) none) (cond (Nat.beq pc 67) (some (.getfield 141, 3, 9, 24, 0)) none)) (cond (Nat.blt pc 72) (cond (Nat.beq pc 70) (some (.bipush 14, 2, 0, 0, 14)) none) (cond (Nat.beq pc 72) (some (.if_icmp .ne 7, 3, 79, 0, 0)) none)))) (cond (Nat.blt pc 80) (cond (Nat.blt pc 76) (cond (Nat.beq pc 75) (some (.iconst 0, 1, 0, 0, 0)) none) (cond (Nat.blt pc 79) (cond (Nat.beq pc 76) (some (.goto 9, 3, 85, 0, 0)) none) (cond (Nat.beq pc 79) (some (.aload_n 0, 1, 0, 0, 0)) none))) (cond (Nat.blt pc 84) (cond (Nat.blt pc 83) (cond (Nat.beq pc 80) (some (.getfield 138, 3, 9, 11, 0)) none) (cond (Nat.beq pc 83) (some (.iconst 1, 1, 0, 0, 1)) none)) (cond (Nat.blt pc 85) (cond (Nat.beq pc 84) (some (.iadd, 1, 0, 0, 0)) none) (cond (Nat.beq pc 85) (some (.ireturn, 1, 0, 0, 0)) none))))))
def tb_124 (pc : Nat) : Option mm_E := cond (Nat.blt pc 86) (tt_124 pc) none
def tt_125 (pc : Nat) : Option mm_E := cond (Nat.blt pc 25) (cond (Nat.blt pc 14) (cond (Nat.blt pc 6) (cond (Nat.blt pc 2) (cond (Nat.blt pc 1) (cond (Nat.beq pc 0) (some (.aload_n 0, 1, 0, 0, 0)) none) (cond (Nat.beq pc 1) (some (.iconst 0, 1, 0, 0, 0)) none)) (cond (Nat.blt pc 5) (cond (Nat.beq pc 2) (some (.invokevirtual 209, 3, 124, 1, 0)) none) (cond (Nat.beq pc 5) (some (.istore_n 1, 1, 1, 0, 0)) none))) (cond (Nat.blt pc 10) (cond (Nat.blt pc 7) (cond (Nat.beq pc 6) (some (.iload_n 1, 1, 1, 0, 0)) none) (cond (Nat.beq pc 7) (some (.ifCond .le 9, 3, 16, 0, 0)) none)) (cond (Nat.blt pc 13) (cond (Nat.beq pc 10) (some (.sipush (-1000), 3, 0, 0, (-1000))) none) (cond (Nat.beq pc 13) (some (.iload_n 1, 1, 1, 0, 0)) none)))) (cond (Nat.blt pc 18) (cond (Nat.blt pc 16) (cond (Nat.blt pc 15) (cond (Nat.beq pc 14) (some (.isub, 1, 0, 0, 0)) none) (cond (Nat.beq pc 15) (some (.ireturn, 1, 0, 0, 0)) none)) (cond (Nat.blt pc 17) (cond (Nat.beq pc 16) (some (.iconst 0, 1, 0, 0, 0)) none) (cond (Nat.beq pc 17) (some (.istore_n 2, 1, 2, 0, 0)) none))) (cond (Nat.blt pc 21) (cond (Nat.blt pc 19) (cond (Nat.beq pc 18) (some (.iload_n 2, 1, 2, 0, 0)) none) (cond (Nat.beq pc 19) (some (.bipush 100, 2, 0, 0, 100)) none)) (cond (Nat.blt pc 24) (cond (Nat.beq pc 21) (some (.if_icmp .ge 16, 3, 37, 0, 0)) none) (cond (Nat.beq pc 24) (some (.aload_n 0, 1, 0, 0, 0)) none))))) (cond (Nat.blt pc 39) (cond (Nat.blt pc 31) (cond (Nat.blt pc 29) (cond (Nat.blt pc 28) (cond (Nat.beq pc 25) (some (.getfield 68, 3, 9, 33, 0)) none) (cond (Nat.beq pc 28) (some (.iload_n 2, 1, 2, 0, 0)) none)) (cond (Nat.blt pc 30) (cond (Nat.beq pc 29) (some (.iconst (-1), 1, 0, 0, (-1))) none) (cond (Nat.beq pc 30) (some (.iastore, 1, 0, 0, 0)) none))) (cond (Nat.blt pc 37) (cond (Nat.blt pc 34) (cond (Nat.beq pc 31) (some (.iinc 2 1, 3, 2, 0, 1)) none) (cond (Nat.beq pc 34) (some (.goto (-16), 3, 18, 0, 0)) none)) (cond (Nat.blt pc 38) (cond (Nat.beq pc 37) (some (.aload_n 0, 1, 0, 0, 0)) none) (cond (Nat.beq pc 38) (some (.iconst 0, 1, 0, 0, 0)) none)))) (cond (Nat.blt pc 47) (cond (Nat.blt pc 43) (cond (Nat.blt pc 42) (cond (Nat.beq pc 39) (some (.putfield 170, 3, 9, 34, 0)) none) (cond (Nat.beq pc 42) (some (.aload_n 0, 1, 0, 0, 0)) none)) (cond (Nat.blt pc 44) (cond (Nat.beq pc 43) (some (.iconst 1, 1, 0, 0, 1)) none) (cond (Nat.beq pc 44) (some (.invokevirtual 209, 3, 124, 1, 0)) none))) (cond (Nat.blt pc 49) (cond (Nat.blt pc 48) (cond (Nat.beq pc 47) (some (.pop, 1, 0, 0, 0)) none) (cond (Nat.beq pc 48) (some (.aload_n 0, 1, 0, 0, 0)) none)) (cond (Nat.blt pc 52) (cond (Nat.beq pc 49) (some (.getfield 199, 3, 9, 32, 0)) none) (cond (Nat.beq pc 52) (some (.ireturn, 1, 0, 0, 0)) none)))))
def tb_125 (pc : Nat) : Option mm_E := cond (Nat.blt pc 53) (tt_125 pc) none
def tt_126 (pc : Nat) : Option mm_E := cond (Nat.blt pc 1) (cond (Nat.beq pc 0) (some (.aload_n 0, 1, 0, 0, 0)) none) (cond (Nat.blt pc 4) (cond (Nat.beq pc 1) (some (.getfield 170, 3, 9, 34, 0)) none) (cond (Nat.beq pc 4) (some (.ireturn, 1, 0, 0, 0)) none))
def tb_126 (pc : Nat) : Option mm_E := cond (Nat.blt pc 5) (tt_126 pc) none
def tt_127 (pc : Nat) : Option mm_E := cond (Nat.blt pc 12) (cond (Nat.blt pc 5) (cond (Nat.blt pc 1) (cond (Nat.beq pc 0) (some (.iload_n 1, 1, 1, 0, 0)) none) (cond (Nat.blt pc 4) (cond (Nat.beq pc 1) (some (.ifCond .lt 11, 3, 12, 0, 0)) none) (cond (Nat.beq pc 4) (some (.iload_n 1, 1, 1, 0, 0)) none))) (cond (Nat.blt pc 6) (cond (Nat.beq pc 5) (some (.aload_n 0, 1, 0, 0, 0)) none) (cond (Nat.blt pc 9) (cond (Nat.beq pc 6) (some (.getfield 170, 3, 9, 34, 0)) none) (cond (Nat.beq pc 9) (some (.if_icmp .lt 7, 3, 16, 0, 0)) none)))) (cond (Nat.blt pc 17) (cond (Nat.blt pc 13) (cond (Nat.beq pc 12) (some (.iconst 0, 1, 0, 0, 0)) none) (cond (Nat.blt pc 16) (cond (Nat.beq pc 13) (some (.goto 9, 3, 22, 0, 0)) none) (cond (Nat.beq pc 16) (some (.aload_n 0, 1, 0, 0, 0)) none))) (cond (Nat.blt pc 21) (cond (Nat.blt pc 20) (cond (Nat.beq pc 17) (some (.getfield 71, 3, 9, 35, 0)) none) (cond (Nat.beq pc 20) (some (.iload_n 1, 1, 1, 0, 0)) none)) (cond (Nat.blt pc 22) (cond (Nat.beq pc 21) (some (.iaload, 1, 0, 0, 0)) none) (cond (Nat.beq pc 22) (some (.ireturn, 1, 0, 0, 0)) none))))
def tb_127 (pc : Nat) : Option mm_E := cond (Nat.blt pc 23) (tt_127 pc) none
def tt_128 (pc : Nat) : Option mm_E := cond (Nat.blt pc 367) (cond (Nat.blt pc 222) (cond (Nat.blt pc 162) (cond (Nat.blt pc 133) (cond (Nat.blt pc 21) (cond (Nat.blt pc 12) (cond (Nat.blt pc 7) (cond (Nat.blt pc 3) (cond (Nat.beq pc 0) (some (.new 7, 3, 0, 8, 0)) none) (cond (Nat.blt pc 4) (cond (Nat.beq pc 3) (some (.dup, 1, 0, 0, 0)) none) (cond (Nat.beq pc 4) (some (.invokespecial 9, 3, 1, 1, 0)) none))) (cond (Nat.blt pc 8) (cond (Nat.beq pc 7) (some (.astore_n 1, 1, 1, 0, 0)) none) (cond (Nat.blt pc 11) (cond (Nat.beq pc 8) (some (.new 10, 3, 9, 36, 0)) none) (cond (Nat.beq pc 11) (some (.dup, 1, 0, 0, 0)) none)))) (cond (Nat.blt pc 17) (cond (Nat.blt pc 15) (cond (Nat.beq pc 12) (some (.invokespecial 12, 3, 84, 1, 0)) none) (cond (Nat.blt pc 16) (cond (Nat.beq pc 15) (some (.astore_n 2, 1, 2, 0, 0)) none) (cond (Nat.beq pc 16) (some (.iconst 0, 1, 0, 0, 0)) none))) (cond (Nat.blt pc 19) (cond (Nat.blt pc 18) (cond (Nat.beq pc 17) (some (.istore_n 3, 1, 3, 0, 0)) none) (cond (Nat.beq pc 18) (some (.iload_n 3, 1, 3, 0, 0)) none)) (cond (Nat.blt pc 20) (cond (Nat.beq pc 19) (some (.aload_n 0, 1, 0, 0, 0)) none) (cond (Nat.beq pc 20) (some (.arraylength, 1, 0, 0, 0)) none))))) (cond (Nat.blt pc 32) (cond (Nat.blt pc 27) (cond (Nat.blt pc 23) (cond (Nat.beq pc 21) (some (.bipush 6, 2, 0, 0, 6)) none) (cond (Nat.blt pc 24) (cond (Nat.beq pc 23) (some (.isub, 1, 0, 0, 0)) none) (cond (Nat.beq pc 24) (some (.if_icmp .gt 638, 3, 662, 0, 0)) none))) (cond (Nat.blt pc 29) (cond (Nat.blt pc 28) (cond (Nat.beq pc 27) (some (.aload_n 0, 1, 0, 0, 0)) none) (cond (Nat.beq pc 28) (some (.iload_n 3, 1, 3, 0, 0)) none)) (cond (Nat.blt pc 30) (cond (Nat.beq pc 29) (some (.iaload, 1, 0, 0, 0)) none) (cond (Nat.beq pc 30) (some (.bipush 31, 2, 0, 0, 31)) none)))) (cond (Nat.blt pc 129) (cond (Nat.blt pc 33) (cond (Nat.beq pc 32) (some (.iand, 1, 0, 0, 0)) none) (cond (Nat.blt pc 128) (cond (Nat.beq pc 33) (some (.tableswitch 623 0 19 #[95, 138, 201, 224, 235, 248, 271, 314, 357, 390, 423, 446, 479, 502, 527, 538, 551, 574, 587, 600], 95, 0, 0, 0)) none) (cond (Nat.beq pc 128) (some (.aload_n 1, 1, 1, 0, 0)) none))) (cond (Nat.blt pc 131) (cond (Nat.blt pc 130) (cond (Nat.beq pc 129) (some (.aload_n 0, 1, 0, 0, 0)) none) (cond (Nat.beq pc 130) (some (.iload_n 3, 1, 3, 0, 0)) none)) (cond (Nat.blt pc 132) (cond (Nat.beq pc 131) (some (.iconst 1, 1, 0, 0, 1)) none) (cond (Nat.beq pc 132) (some (.iadd, 1, 0, 0, 0)) none)))))) (cond (Nat.blt pc 148) (cond (Nat.blt pc 139) (cond (Nat.blt pc 136) (cond (Nat.blt pc 134) (cond (Nat.beq pc 133) (some (.iaload, 1, 0, 0, 0)) none) (cond (Nat.blt pc 135) (cond (Nat.beq pc 134) (some (.aload_n 0, 1, 0, 0, 0)) none) (cond (Nat.beq pc 135) (some (.iload_n 3, 1, 3, 0, 0)) none))) (cond (Nat.blt pc 137) (cond (Nat.beq pc 136) (some (.iconst 2, 1, 0, 0, 2)) none) (cond (Nat.blt pc 138) (cond (Nat.beq pc 137) (some (.iadd, 1, 0, 0, 0)) none) (cond (Nat.beq pc 138) (some (.iaload, 1, 0, 0, 0)) none)))) (cond (Nat.blt pc 142) (cond (Nat.blt pc 140) (cond (Nat.beq pc 139) (some (.aload_n 0, 1, 0, 0, 0)) none) (cond (Nat.blt pc 141) (cond (Nat.beq pc 140) (some (.iload_n 3, 1, 3, 0, 0)) none) (cond (Nat.beq pc 141) (some (.iconst 3, 1, 0, 0, 3)) none))) (cond (Nat.blt pc 144) (cond (Nat.blt pc 143) (cond (Nat.beq pc 142) (some (.iadd, 1, 0, 0, 0)) none) (cond (Nat.beq pc 143) (some (.iaload, 1, 0, 0, 0)) none)) (cond (Nat.blt pc 147) (cond (Nat.beq pc 144) (some (.invokevirtual 13, 3, 2, 1, 0)) none) (cond (Nat.beq pc 147) (some (.aload_n 2, 1, 2, 0, 0)) none))))) (cond (Nat.blt pc 155) (cond (Nat.blt pc 151) (cond (Nat.blt pc 149) (cond (Nat.beq pc 148) (some (.aload_n 0, 1, 0, 0, 0)) none) (cond (Nat.blt pc 150) (cond (Nat.beq pc 149) (some (.iload_n 3, 1, 3, 0, 0)) none) (cond (Nat.beq pc 150) (some (.iconst 1, 1, 0, 0, 1)) none))) (cond (Nat.blt pc 153) (cond (Nat.blt pc 152) (cond (Nat.beq pc 151) (some (.iadd, 1, 0, 0, 0)) none) (cond (Nat.beq pc 152) (some (.iaload, 1, 0, 0, 0)) none)) (cond (Nat.blt pc 154) (cond (Nat.beq pc 153) (some (.aload_n 0, 1, 0, 0, 0)) none) (cond (Nat.beq pc 154) (some (.iload_n 3, 1, 3, 0, 0)) none)))) (cond (Nat.blt pc 158) (cond (Nat.blt pc 156) (cond (Nat.beq pc 155) (some (.iconst 2, 1, 0, 0, 2)) none) (cond (Nat.blt pc 157) (cond (Nat.beq pc 156) (some (.iadd, 1, 0, 0, 0)) none) (cond (Nat.beq pc 157) (some (.iaload, 1, 0, 0, 0)) none))) (cond (Nat.blt pc 160) (cond (Nat.blt pc 159) (cond (Nat.beq pc 158) (some (.aload_n 0, 1, 0, 0, 0)) none) (cond (Nat.beq pc 159) (some (.iload_n 3, 1, 3, 0, 0)) none)) (cond (Nat.blt pc 161) (cond (Nat.beq pc 160) (some (.iconst 3, 1, 0, 0, 3)) none) (cond (Nat.beq pc 161) (some (.iadd, 1, 0, 0, 0)) none))))))) (cond (Nat.blt pc 193) (cond (Nat.blt pc 179) (cond (Nat.blt pc 172) (cond (Nat.blt pc 169) (cond (Nat.blt pc 163) (cond (Nat.beq pc 162) (some (.iaload, 1, 0, 0, 0)) none) (cond (Nat.blt pc 166) (cond (Nat.beq pc 163) (some (.invokevirtual 17, 3, 86, 1, 0)) none) (cond (Nat.beq pc 166) (some (.if_icmp .eq 490, 3, 656, 0, 0)) none))) (cond (Nat.blt pc 170) (cond (Nat.beq pc 169) (some (.iconst 0, 1, 0, 0, 0)) none) (cond (Nat.blt pc 171) (cond (Nat.beq pc 170) (some (.ireturn, 1, 0, 0, 0)) none) (cond (Nat.beq pc 171) (some (.aload_n 1, 1, 1, 0, 0)) none)))) (cond (Nat.blt pc 175) (cond (Nat.blt pc 173) (cond (Nat.beq pc 172) (some (.aload_n 0, 1, 0, 0, 0)) none) (cond (Nat.blt pc 174) (cond (Nat.beq pc 173) (some (.iload_n 3, 1, 3, 0, 0)) none) (cond (Nat.beq pc 174) (some (.iconst 1, 1, 0, 0, 1)) none))) (cond (Nat.blt pc 177) (cond (Nat.blt pc 176) (cond (Nat.beq pc 175) (some (.iadd, 1, 0, 0, 0)) none) (cond (Nat.beq pc 176) (some (.iaload, 1, 0, 0, 0)) none)) (cond (Nat.blt pc 178) (cond (Nat.beq pc 177) (some (.aload_n 0, 1, 0, 0, 0)) none) (cond (Nat.beq pc 178) (some (.iload_n 3, 1, 3, 0, 0)) none))))) (cond (Nat.blt pc 186) (cond (Nat.blt pc 182) (cond (Nat.blt pc 180) (cond (Nat.beq pc 179) (some (.iconst 2, 1, 0, 0, 2)) none) (cond (Nat.blt pc 181) (cond (Nat.beq pc 180) (some (.iadd, 1, 0, 0, 0)) none) (cond (Nat.beq pc 181) (some (.iaload, 1, 0, 0, 0)) none))) (cond (Nat.blt pc 184) (cond (Nat.blt pc 183) (cond (Nat.beq pc 182) (some (.aload_n 0, 1, 0, 0, 0)) none) (cond (Nat.beq pc 183) (some (.iload_n 3, 1, 3, 0, 0)) none)) (cond (Nat.blt pc 185) (cond (Nat.beq pc 184) (some (.iconst 3, 1, 0, 0, 3)) none) (cond (Nat.beq pc 185) (some (.iadd, 1, 0, 0, 0)) none)))) (cond (Nat.blt pc 189) (cond (Nat.blt pc 187) (cond (Nat.beq pc 186) (some (.iaload, 1, 0, 0, 0)) none) (cond (Nat.blt pc 188) (cond (Nat.beq pc 187) (some (.aload_n 0, 1, 0, 0, 0)) none) (cond (Nat.beq pc 188) (some (.iload_n 3, 1, 3, 0, 0)) none))) (cond (Nat.blt pc 191) (cond (Nat.blt pc 190) (cond (Nat.beq pc 189) (some (.iconst 4, 1, 0, 0, 4)) none) (cond (Nat.beq pc 190) (some (.iadd, 1, 0, 0, 0)) none)) (cond (Nat.blt pc 192) (cond (Nat.beq pc 191) (some (.iaload, 1, 0, 0, 0)) none) (cond (Nat.beq pc 192) (some (.aload_n 0, 1, 0, 0, 0)) none)))))) (cond (Nat.blt pc 208) (cond (Nat.blt pc 201) (cond (Nat.blt pc 196) (cond (Nat.blt pc 194) (cond (Nat.beq pc 193) (some (.iload_n 3, 1, 3, 0, 0)) none) (cond (Nat.blt pc 195) (cond (Nat.beq pc 194) (some (.iconst 5, 1, 0, 0, 5)) none) (cond (Nat.beq pc 195) (some (.iadd, 1, 0, 0, 0)) none))) (cond (Nat.blt pc 197) (cond (Nat.beq pc 196) (some (.iaload, 1, 0, 0, 0)) none) (cond (Nat.blt pc 200) (cond (Nat.beq pc 197) (some (.invokevirtual 18, 3, 3, 1, 0)) none) (cond (Nat.beq pc 200) (some (.aload_n 2, 1, 2, 0, 0)) none)))) (cond (Nat.blt pc 204) (cond (Nat.blt pc 202) (cond (Nat.beq pc 201) (some (.aload_n 0, 1, 0, 0, 0)) none) (cond (Nat.blt pc 203) (cond (Nat.beq pc 202) (some (.iload_n 3, 1, 3, 0, 0)) none) (cond (Nat.beq pc 203) (some (.iconst 1, 1, 0, 0, 1)) none))) (cond (Nat.blt pc 206) (cond (Nat.blt pc 205) (cond (Nat.beq pc 204) (some (.iadd, 1, 0, 0, 0)) none) (cond (Nat.beq pc 205) (some (.iaload, 1, 0, 0, 0)) none)) (cond (Nat.blt pc 207) (cond (Nat.beq pc 206) (some (.aload_n 0, 1, 0, 0, 0)) none) (cond (Nat.beq pc 207) (some (.iload_n 3, 1, 3, 0, 0)) none))))) (cond (Nat.blt pc 215) (cond (Nat.blt pc 211) (cond (Nat.blt pc 209) (cond (Nat.beq pc 208) (some (.iconst 2, 1, 0, 0, 2)) none) (cond (Nat.blt pc 210) (cond (Nat.beq pc 209) (some (.iadd, 1, 0, 0, 0)) none) (cond (Nat.beq pc 210) (some (.iaload, 1, 0, 0, 0)) none))) (cond (Nat.blt pc 213) (cond (Nat.blt pc 212) (cond (Nat.beq pc 211) (some (.aload_n 0, 1, 0, 0, 0)) none) (cond (Nat.beq pc 212) (some (.iload_n 3, 1, 3, 0, 0)) none)) (cond (Nat.blt pc 214) (cond (Nat.beq pc 213) (some (.iconst 3, 1, 0, 0, 3)) none) (cond (Nat.beq pc 214) (some (.iadd, 1, 0, 0, 0)) none)))) (cond (Nat.blt pc 218) (cond (Nat.blt pc 216) (cond (Nat.beq pc 215) (some (.iaload, 1, 0, 0, 0)) none) (cond (Nat.blt pc 217) (cond (Nat.beq pc 216) (some (.aload_n 0, 1, 0, 0, 0)) none) (cond (Nat.beq pc 217) (some (.iload_n 3, 1, 3, 0, 0)) none))) (cond (Nat.blt pc 220) (cond (Nat.blt pc 219) (cond (Nat.beq pc 218) (some (.iconst 4, 1, 0, 0, 4)) none) (cond (Nat.beq pc 219) (some (.iadd, 1, 0, 0, 0)) none)) (cond (Nat.blt pc 221) (cond (Nat.beq pc 220) (some (.iaload, 1, 0, 0, 0)) none) (cond (Nat.beq pc 221) (some (.aload_n 0, 1, 0, 0, 0)) none)))))))) (cond (Nat.blt pc 304) (cond (Nat.blt pc 261) (cond (Nat.blt pc 239) (cond (Nat.blt pc 232) (cond (Nat.blt pc 225) (cond (Nat.blt pc 223) (cond (Nat.beq pc 222) (some (.iload_n 3, 1, 3, 0, 0)) none) (cond (Nat.blt pc 224) (cond (Nat.beq pc 223) (some (.iconst 5, 1, 0, 0, 5)) none) (cond (Nat.beq pc 224) (some (.iadd, 1, 0, 0, 0)) none))) (cond (Nat.blt pc 226) (cond (Nat.beq pc 225) (some (.iaload, 1, 0, 0, 0)) none) (cond (Nat.blt pc 229) (cond (Nat.beq pc 226) (some (.invokevirtual 22, 3, 87, 1, 0)) none) (cond (Nat.beq pc 229) (some (.if_icmp .eq 427, 3, 656, 0, 0)) none)))) (cond (Nat.blt pc 235) (cond (Nat.blt pc 233) (cond (Nat.beq pc 232) (some (.iconst 0, 1, 0, 0, 0)) none) (cond (Nat.blt pc 234) (cond (Nat.beq pc 233) (some (.ireturn, 1, 0, 0, 0)) none) (cond (Nat.beq pc 234) (some (.aload_n 1, 1, 1, 0, 0)) none))) (cond (Nat.blt pc 237) (cond (Nat.blt pc 236) (cond (Nat.beq pc 235) (some (.aload_n 0, 1, 0, 0, 0)) none) (cond (Nat.beq pc 236) (some (.iload_n 3, 1, 3, 0, 0)) none)) (cond (Nat.blt pc 238) (cond (Nat.beq pc 237) (some (.iconst 1, 1, 0, 0, 1)) none) (cond (Nat.beq pc 238) (some (.iadd, 1, 0, 0, 0)) none))))) (cond (Nat.blt pc 248) (cond (Nat.blt pc 244) (cond (Nat.blt pc 240) (cond (Nat.beq pc 239) (some (.iaload, 1, 0, 0, 0)) none) (cond (Nat.blt pc 243) (cond (Nat.beq pc 240) (some (.invokevirtual 23, 3, 4, 1, 0)) none) (cond (Nat.beq pc 243) (some (.aload_n 2, 1, 2, 0, 0)) none))) (cond (Nat.blt pc 246) (cond (Nat.blt pc 245) (cond (Nat.beq pc 244) (some (.aload_n 0, 1, 0, 0, 0)) none) (cond (Nat.beq pc 245) (some (.iload_n 3, 1, 3, 0, 0)) none)) (cond (Nat.blt pc 247) (cond (Nat.beq pc 246) (some (.iconst 1, 1, 0, 0, 1)) none) (cond (Nat.beq pc 247) (some (.iadd, 1, 0, 0, 0)) none)))) (cond (Nat.blt pc 255) (cond (Nat.blt pc 249) (cond (Nat.beq pc 248) (some (.iaload, 1, 0, 0, 0)) none) (cond (Nat.blt pc 252) (cond (Nat.beq pc 249) (some (.invokevirtual 27, 3, 91, 1, 0)) none) (cond (Nat.beq pc 252) (some (.if_icmp .eq 404, 3, 656, 0, 0)) none))) (cond (Nat.blt pc 257) (cond (Nat.blt pc 256) (cond (Nat.beq pc 255) (some (.iconst 0, 1, 0, 0, 0)) none) (cond (Nat.beq pc 256) (some (.ireturn, 1, 0, 0, 0)) none)) (cond (Nat.blt pc 258) (cond (Nat.beq pc 257) (some (.aload_n 1, 1, 1, 0, 0)) none) (cond (Nat.beq pc 258) (some (.invokevirtual 28, 3, 5, 1, 0)) none)))))) (cond (Nat.blt pc 284) (cond (Nat.blt pc 273) (cond (Nat.blt pc 268) (cond (Nat.blt pc 262) (cond (Nat.beq pc 261) (some (.aload_n 2, 1, 2, 0, 0)) none) (cond (Nat.blt pc 265) (cond (Nat.beq pc 262) (some (.invokevirtual 31, 3, 92, 1, 0)) none) (cond (Nat.beq pc 265) (some (.goto 391, 3, 656, 0, 0)) none))) (cond (Nat.blt pc 269) (cond (Nat.beq pc 268) (some (.aload_n 1, 1, 1, 0, 0)) none) (cond (Nat.blt pc 272) (cond (Nat.beq pc 269) (some (.invokevirtual 32, 3, 6, 1, 0)) none) (cond (Nat.beq pc 272) (some (.aload_n 2, 1, 2, 0, 0)) none)))) (cond (Nat.blt pc 280) (cond (Nat.blt pc 276) (cond (Nat.beq pc 273) (some (.invokevirtual 36, 3, 93, 1, 0)) none) (cond (Nat.blt pc 279) (cond (Nat.beq pc 276) (some (.if_icmp .eq 380, 3, 656, 0, 0)) none) (cond (Nat.beq pc 279) (some (.iconst 0, 1, 0, 0, 0)) none))) (cond (Nat.blt pc 282) (cond (Nat.blt pc 281) (cond (Nat.beq pc 280) (some (.ireturn, 1, 0, 0, 0)) none) (cond (Nat.beq pc 281) (some (.aload_n 1, 1, 1, 0, 0)) none)) (cond (Nat.blt pc 283) (cond (Nat.beq pc 282) (some (.aload_n 0, 1, 0, 0, 0)) none) (cond (Nat.beq pc 283) (some (.iload_n 3, 1, 3, 0, 0)) none))))) (cond (Nat.blt pc 293) (cond (Nat.blt pc 287) (cond (Nat.blt pc 285) (cond (Nat.beq pc 284) (some (.iconst 1, 1, 0, 0, 1)) none) (cond (Nat.blt pc 286) (cond (Nat.beq pc 285) (some (.iadd, 1, 0, 0, 0)) none) (cond (Nat.beq pc 286) (some (.iaload, 1, 0, 0, 0)) none))) (cond (Nat.blt pc 291) (cond (Nat.blt pc 290) (cond (Nat.beq pc 287) (some (.invokevirtual 37, 3, 7, 1, 0)) none) (cond (Nat.beq pc 290) (some (.aload_n 2, 1, 2, 0, 0)) none)) (cond (Nat.blt pc 292) (cond (Nat.beq pc 291) (some (.aload_n 0, 1, 0, 0, 0)) none) (cond (Nat.beq pc 292) (some (.iload_n 3, 1, 3, 0, 0)) none)))) (cond (Nat.blt pc 296) (cond (Nat.blt pc 294) (cond (Nat.beq pc 293) (some (.iconst 1, 1, 0, 0, 1)) none) (cond (Nat.blt pc 295) (cond (Nat.beq pc 294) (some (.iadd, 1, 0, 0, 0)) none) (cond (Nat.beq pc 295) (some (.iaload, 1, 0, 0, 0)) none))) (cond (Nat.blt pc 302) (cond (Nat.blt pc 299) (cond (Nat.beq pc 296) (some (.invokevirtual 40, 3, 94, 1, 0)) none) (cond (Nat.beq pc 299) (some (.if_icmp .eq 357, 3, 656, 0, 0)) none)) (cond (Nat.blt pc 303) (cond (Nat.beq pc 302) (some (.iconst 0, 1, 0, 0, 0)) none) (cond (Nat.beq pc 303) (some (.ireturn, 1, 0, 0, 0)) none))))))) (cond (Nat.blt pc 333) (cond (Nat.blt pc 317) (cond (Nat.blt pc 310) (cond (Nat.blt pc 307) (cond (Nat.blt pc 305) (cond (Nat.beq pc 304) (some (.aload_n 1, 1, 1, 0, 0)) none) (cond (Nat.blt pc 306) (cond (Nat.beq pc 305) (some (.aload_n 0, 1, 0, 0, 0)) none) (cond (Nat.beq pc 306) (some (.iload_n 3, 1, 3, 0, 0)) none))) (cond (Nat.blt pc 308) (cond (Nat.beq pc 307) (some (.iconst 1, 1, 0, 0, 1)) none) (cond (Nat.blt pc 309) (cond (Nat.beq pc 308) (some (.iadd, 1, 0, 0, 0)) none) (cond (Nat.beq pc 309) (some (.iaload, 1, 0, 0, 0)) none)))) (cond (Nat.blt pc 313) (cond (Nat.blt pc 311) (cond (Nat.beq pc 310) (some (.aload_n 0, 1, 0, 0, 0)) none) (cond (Nat.blt pc 312) (cond (Nat.beq pc 311) (some (.iload_n 3, 1, 3, 0, 0)) none) (cond (Nat.beq pc 312) (some (.iconst 2, 1, 0, 0, 2)) none))) (cond (Nat.blt pc 315) (cond (Nat.blt pc 314) (cond (Nat.beq pc 313) (some (.iadd, 1, 0, 0, 0)) none) (cond (Nat.beq pc 314) (some (.iaload, 1, 0, 0, 0)) none)) (cond (Nat.blt pc 316) (cond (Nat.beq pc 315) (some (.aload_n 0, 1, 0, 0, 0)) none) (cond (Nat.beq pc 316) (some (.iload_n 3, 1, 3, 0, 0)) none))))) (cond (Nat.blt pc 326) (cond (Nat.blt pc 320) (cond (Nat.blt pc 318) (cond (Nat.beq pc 317) (some (.iconst 3, 1, 0, 0, 3)) none) (cond (Nat.blt pc 319) (cond (Nat.beq pc 318) (some (.iadd, 1, 0, 0, 0)) none) (cond (Nat.beq pc 319) (some (.iaload, 1, 0, 0, 0)) none))) (cond (Nat.blt pc 324) (cond (Nat.blt pc 323) (cond (Nat.beq pc 320) (some (.invokevirtual 41, 3, 8, 1, 0)) none) (cond (Nat.beq pc 323) (some (.aload_n 2, 1, 2, 0, 0)) none)) (cond (Nat.blt pc 325) (cond (Nat.beq pc 324) (some (.aload_n 0, 1, 0, 0, 0)) none) (cond (Nat.beq pc 325) (some (.iload_n 3, 1, 3, 0, 0)) none)))) (cond (Nat.blt pc 329) (cond (Nat.blt pc 327) (cond (Nat.beq pc 326) (some (.iconst 1, 1, 0, 0, 1)) none) (cond (Nat.blt pc 328) (cond (Nat.beq pc 327) (some (.iadd, 1, 0, 0, 0)) none) (cond (Nat.beq pc 328) (some (.iaload, 1, 0, 0, 0)) none))) (cond (Nat.blt pc 331) (cond (Nat.blt pc 330) (cond (Nat.beq pc 329) (some (.aload_n 0, 1, 0, 0, 0)) none) (cond (Nat.beq pc 330) (some (.iload_n 3, 1, 3, 0, 0)) none)) (cond (Nat.blt pc 332) (cond (Nat.beq pc 331) (some (.iconst 2, 1, 0, 0, 2)) none) (cond (Nat.beq pc 332) (some (.iadd, 1, 0, 0, 0)) none)))))) (cond (Nat.blt pc 351) (cond (Nat.blt pc 342) (cond (Nat.blt pc 336) (cond (Nat.blt pc 334) (cond (Nat.beq pc 333) (some (.iaload, 1, 0, 0, 0)) none) (cond (Nat.blt pc 335) (cond (Nat.beq pc 334) (some (.aload_n 0, 1, 0, 0, 0)) none) (cond (Nat.beq pc 335) (some (.iload_n 3, 1, 3, 0, 0)) none))) (cond (Nat.blt pc 338) (cond (Nat.blt pc 337) (cond (Nat.beq pc 336) (some (.iconst 3, 1, 0, 0, 3)) none) (cond (Nat.beq pc 337) (some (.iadd, 1, 0, 0, 0)) none)) (cond (Nat.blt pc 339) (cond (Nat.beq pc 338) (some (.iaload, 1, 0, 0, 0)) none) (cond (Nat.beq pc 339) (some (.invokevirtual 44, 3, 96, 1, 0)) none)))) (cond (Nat.blt pc 347) (cond (Nat.blt pc 345) (cond (Nat.beq pc 342) (some (.if_icmp .eq 314, 3, 656, 0, 0)) none) (cond (Nat.blt pc 346) (cond (Nat.beq pc 345) (some (.iconst 0, 1, 0, 0, 0)) none) (cond (Nat.beq pc 346) (some (.ireturn, 1, 0, 0, 0)) none))) (cond (Nat.blt pc 349) (cond (Nat.blt pc 348) (cond (Nat.beq pc 347) (some (.aload_n 1, 1, 1, 0, 0)) none) (cond (Nat.beq pc 348) (some (.aload_n 0, 1, 0, 0, 0)) none)) (cond (Nat.blt pc 350) (cond (Nat.beq pc 349) (some (.iload_n 3, 1, 3, 0, 0)) none) (cond (Nat.beq pc 350) (some (.iconst 1, 1, 0, 0, 1)) none))))) (cond (Nat.blt pc 358) (cond (Nat.blt pc 354) (cond (Nat.blt pc 352) (cond (Nat.beq pc 351) (some (.iadd, 1, 0, 0, 0)) none) (cond (Nat.blt pc 353) (cond (Nat.beq pc 352) (some (.iaload, 1, 0, 0, 0)) none) (cond (Nat.beq pc 353) (some (.aload_n 0, 1, 0, 0, 0)) none))) (cond (Nat.blt pc 356) (cond (Nat.blt pc 355) (cond (Nat.beq pc 354) (some (.iload_n 3, 1, 3, 0, 0)) none) (cond (Nat.beq pc 355) (some (.iconst 2, 1, 0, 0, 2)) none)) (cond (Nat.blt pc 357) (cond (Nat.beq pc 356) (some (.iadd, 1, 0, 0, 0)) none) (cond (Nat.beq pc 357) (some (.iaload, 1, 0, 0, 0)) none)))) (cond (Nat.blt pc 361) (cond (Nat.blt pc 359) (cond (Nat.beq pc 358) (some (.aload_n 0, 1, 0, 0, 0)) none) (cond (Nat.blt pc 360) (cond (Nat.beq pc 359) (some (.iload_n 3, 1, 3, 0, 0)) none) (cond (Nat.beq pc 360) (some (.iconst 3, 1, 0, 0, 3)) none))) (cond (Nat.blt pc 363) (cond (Nat.blt pc 362) (cond (Nat.beq pc 361) (some (.iadd, 1, 0, 0, 0)) none) (cond (Nat.beq pc 362) (some (.iaload, 1, 0, 0, 0)) none)) (cond (Nat.blt pc 366) (cond (Nat.beq pc 363) (some (.invokevirtual 45, 3, 9, 1, 0)) none) (cond (Nat.beq pc 366) (some (.aload_n 2, 1, 2, 0, 0)) none))))))))) (cond (Nat.blt pc 499) (cond (Nat.blt pc 431) (cond (Nat.blt pc 398) (cond (Nat.blt pc 380) (cond (Nat.blt pc 373) (cond (Nat.blt pc 370) (cond (Nat.blt pc 368) (cond (Nat.beq pc 367) (some (.aload_n 0, 1, 0, 0, 0)) none) (cond (Nat.blt pc 369) (cond (Nat.beq pc 368) (some (.iload_n 3, 1, 3, 0, 0)) none) (cond (Nat.beq pc 369) (some (.iconst 1, 1, 0, 0, 1)) none))) (cond (Nat.blt pc 371) (cond (Nat.beq pc 370) (some (.iadd, 1, 0, 0, 0)) none) (cond (Nat.blt pc 372) (cond (Nat.beq pc 371) (some (.iaload, 1, 0, 0, 0)) none) (cond (Nat.beq pc 372) (some (.aload_n 0, 1, 0, 0, 0)) none)))) (cond (Nat.blt pc 376) (cond (Nat.blt pc 374) (cond (Nat.beq pc 373) (some (.iload_n 3, 1, 3, 0, 0)) none) (cond (Nat.blt pc 375) (cond (Nat.beq pc 374) (some (.iconst 2, 1, 0, 0, 2)) none) (cond (Nat.beq pc 375) (some (.iadd, 1, 0, 0, 0)) none))) (cond (Nat.blt pc 378) (cond (Nat.blt pc 377) (cond (Nat.beq pc 376) (some (.iaload, 1, 0, 0, 0)) none) (cond (Nat.beq pc 377) (some (.aload_n 0, 1, 0, 0, 0)) none)) (cond (Nat.blt pc 379) (cond (Nat.beq pc 378) (some (.iload_n 3, 1, 3, 0, 0)) none) (cond (Nat.beq pc 379) (some (.iconst 3, 1, 0, 0, 3)) none))))) (cond (Nat.blt pc 391) (cond (Nat.blt pc 385) (cond (Nat.blt pc 381) (cond (Nat.beq pc 380) (some (.iadd, 1, 0, 0, 0)) none) (cond (Nat.blt pc 382) (cond (Nat.beq pc 381) (some (.iaload, 1, 0, 0, 0)) none) (cond (Nat.beq pc 382) (some (.invokevirtual 48, 3, 97, 1, 0)) none))) (cond (Nat.blt pc 389) (cond (Nat.blt pc 388) (cond (Nat.beq pc 385) (some (.if_icmp .eq 271, 3, 656, 0, 0)) none) (cond (Nat.beq pc 388) (some (.iconst 0, 1, 0, 0, 0)) none)) (cond (Nat.blt pc 390) (cond (Nat.beq pc 389) (some (.ireturn, 1, 0, 0, 0)) none) (cond (Nat.beq pc 390) (some (.aload_n 1, 1, 1, 0, 0)) none)))) (cond (Nat.blt pc 394) (cond (Nat.blt pc 392) (cond (Nat.beq pc 391) (some (.aload_n 0, 1, 0, 0, 0)) none) (cond (Nat.blt pc 393) (cond (Nat.beq pc 392) (some (.iload_n 3, 1, 3, 0, 0)) none) (cond (Nat.beq pc 393) (some (.iconst 1, 1, 0, 0, 1)) none))) (cond (Nat.blt pc 396) (cond (Nat.blt pc 395) (cond (Nat.beq pc 394) (some (.iadd, 1, 0, 0, 0)) none) (cond (Nat.beq pc 395) (some (.iaload, 1, 0, 0, 0)) none)) (cond (Nat.blt pc 397) (cond (Nat.beq pc 396) (some (.aload_n 0, 1, 0, 0, 0)) none) (cond (Nat.beq pc 397) (some (.iload_n 3, 1, 3, 0, 0)) none)))))) (cond (Nat.blt pc 413) (cond (Nat.blt pc 406) (cond (Nat.blt pc 401) (cond (Nat.blt pc 399) (cond (Nat.beq pc 398) (some (.iconst 2, 1, 0, 0, 2)) none) (cond (Nat.blt pc 400) (cond (Nat.beq pc 399) (some (.iadd, 1, 0, 0, 0)) none) (cond (Nat.beq pc 400) (some (.iaload, 1, 0, 0, 0)) none))) (cond (Nat.blt pc 404) (cond (Nat.beq pc 401) (some (.invokevirtual 49, 3, 10, 1, 0)) none) (cond (Nat.blt pc 405) (cond (Nat.beq pc 404) (some (.aload_n 2, 1, 2, 0, 0)) none) (cond (Nat.beq pc 405) (some (.aload_n 0, 1, 0, 0, 0)) none)))) (cond (Nat.blt pc 409) (cond (Nat.blt pc 407) (cond (Nat.beq pc 406) (some (.iload_n 3, 1, 3, 0, 0)) none) (cond (Nat.blt pc 408) (cond (Nat.beq pc 407) (some (.iconst 1, 1, 0, 0, 1)) none) (cond (Nat.beq pc 408) (some (.iadd, 1, 0, 0, 0)) none))) (cond (Nat.blt pc 411) (cond (Nat.blt pc 410) (cond (Nat.beq pc 409) (some (.iaload, 1, 0, 0, 0)) none) (cond (Nat.beq pc 410) (some (.aload_n 0, 1, 0, 0, 0)) none)) (cond (Nat.blt pc 412) (cond (Nat.beq pc 411) (some (.iload_n 3, 1, 3, 0, 0)) none) (cond (Nat.beq pc 412) (some (.iconst 2, 1, 0, 0, 2)) none))))) (cond (Nat.blt pc 424) (cond (Nat.blt pc 418) (cond (Nat.blt pc 414) (cond (Nat.beq pc 413) (some (.iadd, 1, 0, 0, 0)) none) (cond (Nat.blt pc 415) (cond (Nat.beq pc 414) (some (.iaload, 1, 0, 0, 0)) none) (cond (Nat.beq pc 415) (some (.invokevirtual 53, 3, 98, 1, 0)) none))) (cond (Nat.blt pc 422) (cond (Nat.blt pc 421) (cond (Nat.beq pc 418) (some (.if_icmp .eq 238, 3, 656, 0, 0)) none) (cond (Nat.beq pc 421) (some (.iconst 0, 1, 0, 0, 0)) none)) (cond (Nat.blt pc 423) (cond (Nat.beq pc 422) (some (.ireturn, 1, 0, 0, 0)) none) (cond (Nat.beq pc 423) (some (.aload_n 1, 1, 1, 0, 0)) none)))) (cond (Nat.blt pc 427) (cond (Nat.blt pc 425) (cond (Nat.beq pc 424) (some (.aload_n 0, 1, 0, 0, 0)) none) (cond (Nat.blt pc 426) (cond (Nat.beq pc 425) (some (.iload_n 3, 1, 3, 0, 0)) none) (cond (Nat.beq pc 426) (some (.iconst 1, 1, 0, 0, 1)) none))) (cond (Nat.blt pc 429) (cond (Nat.blt pc 428) (cond (Nat.beq pc 427) (some (.iadd, 1, 0, 0, 0)) none) (cond (Nat.beq pc 428) (some (.iaload, 1, 0, 0, 0)) none)) (cond (Nat.blt pc 430) (cond (Nat.beq pc 429) (some (.aload_n 0, 1, 0, 0, 0)) none) (cond (Nat.beq pc 430) (some (.iload_n 3, 1, 3, 0, 0)) none))))))) (cond (Nat.blt pc 466) (cond (Nat.blt pc 446) (cond (Nat.blt pc 439) (cond (Nat.blt pc 434) (cond (Nat.blt pc 432) (cond (Nat.beq pc 431) (some (.iconst 2, 1, 0, 0, 2)) none) (cond (Nat.blt pc 433) (cond (Nat.beq pc 432) (some (.iadd, 1, 0, 0, 0)) none) (cond (Nat.beq pc 433) (some (.iaload, 1, 0, 0, 0)) none))) (cond (Nat.blt pc 437) (cond (Nat.beq pc 434) (some (.invokevirtual 54, 3, 11, 1, 0)) none) (cond (Nat.blt pc 438) (cond (Nat.beq pc 437) (some (.aload_n 2, 1, 2, 0, 0)) none) (cond (Nat.beq pc 438) (some (.aload_n 0, 1, 0, 0, 0)) none)))) (cond (Nat.blt pc 442) (cond (Nat.blt pc 440) (cond (Nat.beq pc 439) (some (.iload_n 3, 1, 3, 0, 0)) none) (cond (Nat.blt pc 441) (cond (Nat.beq pc 440) (some (.iconst 1, 1, 0, 0, 1)) none) (cond (Nat.beq pc 441) (some (.iadd, 1, 0, 0, 0)) none))) (cond (Nat.blt pc 444) (cond (Nat.blt pc 443) (cond (Nat.beq pc 442) (some (.iaload, 1, 0, 0, 0)) none) (cond (Nat.beq pc 443) (some (.aload_n 0, 1, 0, 0, 0)) none)) (cond (Nat.blt pc 445) (cond (Nat.beq pc 444) (some (.iload_n 3, 1, 3, 0, 0)) none) (cond (Nat.beq pc 445) (some (.iconst 2, 1, 0, 0, 2)) none))))) (cond (Nat.blt pc 457) (cond (Nat.blt pc 451) (cond (Nat.blt pc 447) (cond (Nat.beq pc 446) (some (.iadd, 1, 0, 0, 0)) none) (cond (Nat.blt pc 448) (cond (Nat.beq pc 447) (some (.iaload, 1, 0, 0, 0)) none) (cond (Nat.beq pc 448) (some (.invokevirtual 57, 3, 99, 1, 0)) none))) (cond (Nat.blt pc 455) (cond (Nat.blt pc 454) (cond (Nat.beq pc 451) (some (.if_icmp .eq 205, 3, 656, 0, 0)) none) (cond (Nat.beq pc 454) (some (.iconst 0, 1, 0, 0, 0)) none)) (cond (Nat.blt pc 456) (cond (Nat.beq pc 455) (some (.ireturn, 1, 0, 0, 0)) none) (cond (Nat.beq pc 456) (some (.aload_n 1, 1, 1, 0, 0)) none)))) (cond (Nat.blt pc 460) (cond (Nat.blt pc 458) (cond (Nat.beq pc 457) (some (.aload_n 0, 1, 0, 0, 0)) none) (cond (Nat.blt pc 459) (cond (Nat.beq pc 458) (some (.iload_n 3, 1, 3, 0, 0)) none) (cond (Nat.beq pc 459) (some (.iconst 1, 1, 0, 0, 1)) none))) (cond (Nat.blt pc 462) (cond (Nat.blt pc 461) (cond (Nat.beq pc 460) (some (.iadd, 1, 0, 0, 0)) none) (cond (Nat.beq pc 461) (some (.iaload, 1, 0, 0, 0)) none)) (cond (Nat.blt pc 465) (cond (Nat.beq pc 462) (some (.invokevirtual 58, 3, 12, 1, 0)) none) (cond (Nat.beq pc 465) (some (.aload_n 2, 1, 2, 0, 0)) none)))))) (cond (Nat.blt pc 483) (cond (Nat.blt pc 474) (cond (Nat.blt pc 469) (cond (Nat.blt pc 467) (cond (Nat.beq pc 466) (some (.aload_n 0, 1, 0, 0, 0)) none) (cond (Nat.blt pc 468) (cond (Nat.beq pc 467) (some (.iload_n 3, 1, 3, 0, 0)) none) (cond (Nat.beq pc 468) (some (.iconst 1, 1, 0, 0, 1)) none))) (cond (Nat.blt pc 470) (cond (Nat.beq pc 469) (some (.iadd, 1, 0, 0, 0)) none) (cond (Nat.blt pc 471) (cond (Nat.beq pc 470) (some (.iaload, 1, 0, 0, 0)) none) (cond (Nat.beq pc 471) (some (.invokevirtual 61, 3, 101, 1, 0)) none)))) (cond (Nat.blt pc 479) (cond (Nat.blt pc 477) (cond (Nat.beq pc 474) (some (.if_icmp .eq 182, 3, 656, 0, 0)) none) (cond (Nat.blt pc 478) (cond (Nat.beq pc 477) (some (.iconst 0, 1, 0, 0, 0)) none) (cond (Nat.beq pc 478) (some (.ireturn, 1, 0, 0, 0)) none))) (cond (Nat.blt pc 481) (cond (Nat.blt pc 480) (cond (Nat.beq pc 479) (some (.aload_n 1, 1, 1, 0, 0)) none) (cond (Nat.beq pc 480) (some (.aload_n 0, 1, 0, 0, 0)) none)) (cond (Nat.blt pc 482) (cond (Nat.beq pc 481) (some (.iload_n 3, 1, 3, 0, 0)) none) (cond (Nat.beq pc 482) (some (.iconst 1, 1, 0, 0, 1)) none))))) (cond (Nat.blt pc 490) (cond (Nat.blt pc 486) (cond (Nat.blt pc 484) (cond (Nat.beq pc 483) (some (.iadd, 1, 0, 0, 0)) none) (cond (Nat.blt pc 485) (cond (Nat.beq pc 484) (some (.iaload, 1, 0, 0, 0)) none) (cond (Nat.beq pc 485) (some (.aload_n 0, 1, 0, 0, 0)) none))) (cond (Nat.blt pc 488) (cond (Nat.blt pc 487) (cond (Nat.beq pc 486) (some (.iload_n 3, 1, 3, 0, 0)) none) (cond (Nat.beq pc 487) (some (.iconst 2, 1, 0, 0, 2)) none)) (cond (Nat.blt pc 489) (cond (Nat.beq pc 488) (some (.iadd, 1, 0, 0, 0)) none) (cond (Nat.beq pc 489) (some (.iaload, 1, 0, 0, 0)) none)))) (cond (Nat.blt pc 495) (cond (Nat.blt pc 493) (cond (Nat.beq pc 490) (some (.invokevirtual 62, 3, 13, 1, 0)) none) (cond (Nat.blt pc 494) (cond (Nat.beq pc 493) (some (.aload_n 2, 1, 2, 0, 0)) none) (cond (Nat.beq pc 494) (some (.aload_n 0, 1, 0, 0, 0)) none))) (cond (Nat.blt pc 497) (cond (Nat.blt pc 496) (cond (Nat.beq pc 495) (some (.iload_n 3, 1, 3, 0, 0)) none) (cond (Nat.beq pc 496) (some (.iconst 1, 1, 0, 0, 1)) none)) (cond (Nat.blt pc 498) (cond (Nat.beq pc 497) (some (.iadd, 1, 0, 0, 0)) none) (cond (Nat.beq pc 498) (some (.iaload, 1, 0, 0, 0)) none)))))))) (cond (Nat.blt pc 579) (cond (Nat.blt pc 536) (cond (Nat.blt pc 516) (cond (Nat.blt pc 507) (cond (Nat.blt pc 502) (cond (Nat.blt pc 500) (cond (Nat.beq pc 499) (some (.aload_n 0, 1, 0, 0, 0)) none) (cond (Nat.blt pc 501) (cond (Nat.beq pc 500) (some (.iload_n 3, 1, 3, 0, 0)) none) (cond (Nat.beq pc 501) (some (.iconst 2, 1, 0, 0, 2)) none))) (cond (Nat.blt pc 503) (cond (Nat.beq pc 502) (some (.iadd, 1, 0, 0, 0)) none) (cond (Nat.blt pc 504) (cond (Nat.beq pc 503) (some (.iaload, 1, 0, 0, 0)) none) (cond (Nat.beq pc 504) (some (.invokevirtual 66, 3, 104, 1, 0)) none)))) (cond (Nat.blt pc 512) (cond (Nat.blt pc 510) (cond (Nat.beq pc 507) (some (.if_icmp .eq 149, 3, 656, 0, 0)) none) (cond (Nat.blt pc 511) (cond (Nat.beq pc 510) (some (.iconst 0, 1, 0, 0, 0)) none) (cond (Nat.beq pc 511) (some (.ireturn, 1, 0, 0, 0)) none))) (cond (Nat.blt pc 514) (cond (Nat.blt pc 513) (cond (Nat.beq pc 512) (some (.aload_n 1, 1, 1, 0, 0)) none) (cond (Nat.beq pc 513) (some (.aload_n 0, 1, 0, 0, 0)) none)) (cond (Nat.blt pc 515) (cond (Nat.beq pc 514) (some (.iload_n 3, 1, 3, 0, 0)) none) (cond (Nat.beq pc 515) (some (.iconst 1, 1, 0, 0, 1)) none))))) (cond (Nat.blt pc 525) (cond (Nat.blt pc 521) (cond (Nat.blt pc 517) (cond (Nat.beq pc 516) (some (.iadd, 1, 0, 0, 0)) none) (cond (Nat.blt pc 518) (cond (Nat.beq pc 517) (some (.iaload, 1, 0, 0, 0)) none) (cond (Nat.beq pc 518) (some (.invokevirtual 67, 3, 14, 1, 0)) none))) (cond (Nat.blt pc 523) (cond (Nat.blt pc 522) (cond (Nat.beq pc 521) (some (.aload_n 2, 1, 2, 0, 0)) none) (cond (Nat.beq pc 522) (some (.aload_n 0, 1, 0, 0, 0)) none)) (cond (Nat.blt pc 524) (cond (Nat.beq pc 523) (some (.iload_n 3, 1, 3, 0, 0)) none) (cond (Nat.beq pc 524) (some (.iconst 1, 1, 0, 0, 1)) none)))) (cond (Nat.blt pc 530) (cond (Nat.blt pc 526) (cond (Nat.beq pc 525) (some (.iadd, 1, 0, 0, 0)) none) (cond (Nat.blt pc 527) (cond (Nat.beq pc 526) (some (.iaload, 1, 0, 0, 0)) none) (cond (Nat.beq pc 527) (some (.invokevirtual 70, 3, 109, 1, 0)) none))) (cond (Nat.blt pc 534) (cond (Nat.blt pc 533) (cond (Nat.beq pc 530) (some (.if_icmp .eq 126, 3, 656, 0, 0)) none) (cond (Nat.beq pc 533) (some (.iconst 0, 1, 0, 0, 0)) none)) (cond (Nat.blt pc 535) (cond (Nat.beq pc 534) (some (.ireturn, 1, 0, 0, 0)) none) (cond (Nat.beq pc 535) (some (.aload_n 1, 1, 1, 0, 0)) none)))))) (cond (Nat.blt pc 551) (cond (Nat.blt pc 542) (cond (Nat.blt pc 539) (cond (Nat.blt pc 537) (cond (Nat.beq pc 536) (some (.aload_n 0, 1, 0, 0, 0)) none) (cond (Nat.blt pc 538) (cond (Nat.beq pc 537) (some (.iload_n 3, 1, 3, 0, 0)) none) (cond (Nat.beq pc 538) (some (.iconst 1, 1, 0, 0, 1)) none))) (cond (Nat.blt pc 540) (cond (Nat.beq pc 539) (some (.iadd, 1, 0, 0, 0)) none) (cond (Nat.blt pc 541) (cond (Nat.beq pc 540) (some (.iaload, 1, 0, 0, 0)) none) (cond (Nat.beq pc 541) (some (.i2c, 1, 0, 0, 0)) none)))) (cond (Nat.blt pc 547) (cond (Nat.blt pc 545) (cond (Nat.beq pc 542) (some (.invokevirtual 71, 3, 15, 1, 0)) none) (cond (Nat.blt pc 546) (cond (Nat.beq pc 545) (some (.aload_n 2, 1, 2, 0, 0)) none) (cond (Nat.beq pc 546) (some (.aload_n 0, 1, 0, 0, 0)) none))) (cond (Nat.blt pc 549) (cond (Nat.blt pc 548) (cond (Nat.beq pc 547) (some (.iload_n 3, 1, 3, 0, 0)) none) (cond (Nat.beq pc 548) (some (.iconst 1, 1, 0, 0, 1)) none)) (cond (Nat.blt pc 550) (cond (Nat.beq pc 549) (some (.iadd, 1, 0, 0, 0)) none) (cond (Nat.beq pc 550) (some (.iaload, 1, 0, 0, 0)) none))))) (cond (Nat.blt pc 564) (cond (Nat.blt pc 558) (cond (Nat.blt pc 552) (cond (Nat.beq pc 551) (some (.i2c, 1, 0, 0, 0)) none) (cond (Nat.blt pc 555) (cond (Nat.beq pc 552) (some (.invokevirtual 75, 3, 110, 1, 0)) none) (cond (Nat.beq pc 555) (some (.if_icmp .eq 101, 3, 656, 0, 0)) none))) (cond (Nat.blt pc 560) (cond (Nat.blt pc 559) (cond (Nat.beq pc 558) (some (.iconst 0, 1, 0, 0, 0)) none) (cond (Nat.beq pc 559) (some (.ireturn, 1, 0, 0, 0)) none)) (cond (Nat.blt pc 561) (cond (Nat.beq pc 560) (some (.aload_n 1, 1, 1, 0, 0)) none) (cond (Nat.beq pc 561) (some (.invokevirtual 76, 3, 16, 1, 0)) none)))) (cond (Nat.blt pc 571) (cond (Nat.blt pc 565) (cond (Nat.beq pc 564) (some (.aload_n 2, 1, 2, 0, 0)) none) (cond (Nat.blt pc 568) (cond (Nat.beq pc 565) (some (.invokevirtual 79, 3, 111, 1, 0)) none) (cond (Nat.beq pc 568) (some (.goto 88, 3, 656, 0, 0)) none))) (cond (Nat.blt pc 575) (cond (Nat.blt pc 572) (cond (Nat.beq pc 571) (some (.aload_n 1, 1, 1, 0, 0)) none) (cond (Nat.beq pc 572) (some (.invokevirtual 80, 3, 17, 1, 0)) none)) (cond (Nat.blt pc 576) (cond (Nat.beq pc 575) (some (.aload_n 2, 1, 2, 0, 0)) none) (cond (Nat.beq pc 576) (some (.invokevirtual 83, 3, 112, 1, 0)) none))))))) (cond (Nat.blt pc 620) (cond (Nat.blt pc 596) (cond (Nat.blt pc 587) (cond (Nat.blt pc 584) (cond (Nat.blt pc 582) (cond (Nat.beq pc 579) (some (.if_icmp .eq 77, 3, 656, 0, 0)) none) (cond (Nat.blt pc 583) (cond (Nat.beq pc 582) (some (.iconst 0, 1, 0, 0, 0)) none) (cond (Nat.beq pc 583) (some (.ireturn, 1, 0, 0, 0)) none))) (cond (Nat.blt pc 585) (cond (Nat.beq pc 584) (some (.aload_n 1, 1, 1, 0, 0)) none) (cond (Nat.blt pc 586) (cond (Nat.beq pc 585) (some (.aload_n 0, 1, 0, 0, 0)) none) (cond (Nat.beq pc 586) (some (.iload_n 3, 1, 3, 0, 0)) none)))) (cond (Nat.blt pc 590) (cond (Nat.blt pc 588) (cond (Nat.beq pc 587) (some (.iconst 1, 1, 0, 0, 1)) none) (cond (Nat.blt pc 589) (cond (Nat.beq pc 588) (some (.iadd, 1, 0, 0, 0)) none) (cond (Nat.beq pc 589) (some (.iaload, 1, 0, 0, 0)) none))) (cond (Nat.blt pc 594) (cond (Nat.blt pc 593) (cond (Nat.beq pc 590) (some (.invokevirtual 84, 3, 18, 1, 0)) none) (cond (Nat.beq pc 593) (some (.aload_n 2, 1, 2, 0, 0)) none)) (cond (Nat.blt pc 595) (cond (Nat.beq pc 594) (some (.aload_n 0, 1, 0, 0, 0)) none) (cond (Nat.beq pc 595) (some (.iload_n 3, 1, 3, 0, 0)) none))))) (cond (Nat.blt pc 607) (cond (Nat.blt pc 599) (cond (Nat.blt pc 597) (cond (Nat.beq pc 596) (some (.iconst 1, 1, 0, 0, 1)) none) (cond (Nat.blt pc 598) (cond (Nat.beq pc 597) (some (.iadd, 1, 0, 0, 0)) none) (cond (Nat.beq pc 598) (some (.iaload, 1, 0, 0, 0)) none))) (cond (Nat.blt pc 605) (cond (Nat.blt pc 602) (cond (Nat.beq pc 599) (some (.invokevirtual 87, 3, 113, 1, 0)) none) (cond (Nat.beq pc 602) (some (.if_icmp .eq 54, 3, 656, 0, 0)) none)) (cond (Nat.blt pc 606) (cond (Nat.beq pc 605) (some (.iconst 0, 1, 0, 0, 0)) none) (cond (Nat.beq pc 606) (some (.ireturn, 1, 0, 0, 0)) none)))) (cond (Nat.blt pc 612) (cond (Nat.blt pc 608) (cond (Nat.beq pc 607) (some (.aload_n 1, 1, 1, 0, 0)) none) (cond (Nat.blt pc 611) (cond (Nat.beq pc 608) (some (.invokevirtual 88, 3, 19, 1, 0)) none) (cond (Nat.beq pc 611) (some (.aload_n 2, 1, 2, 0, 0)) none))) (cond (Nat.blt pc 618) (cond (Nat.blt pc 615) (cond (Nat.beq pc 612) (some (.invokevirtual 91, 3, 125, 1, 0)) none) (cond (Nat.beq pc 615) (some (.if_icmp .eq 41, 3, 656, 0, 0)) none)) (cond (Nat.blt pc 619) (cond (Nat.beq pc 618) (some (.iconst 0, 1, 0, 0, 0)) none) (cond (Nat.beq pc 619) (some (.ireturn, 1, 0, 0, 0)) none)))))) (cond (Nat.blt pc 642) (cond (Nat.blt pc 633) (cond (Nat.blt pc 625) (cond (Nat.blt pc 621) (cond (Nat.beq pc 620) (some (.aload_n 1, 1, 1, 0, 0)) none) (cond (Nat.blt pc 624) (cond (Nat.beq pc 621) (some (.invokevirtual 92, 3, 20, 1, 0)) none) (cond (Nat.beq pc 624) (some (.aload_n 2, 1, 2, 0, 0)) none))) (cond (Nat.blt pc 631) (cond (Nat.blt pc 628) (cond (Nat.beq pc 625) (some (.invokevirtual 95, 3, 126, 1, 0)) none) (cond (Nat.beq pc 628) (some (.if_icmp .eq 28, 3, 656, 0, 0)) none)) (cond (Nat.blt pc 632) (cond (Nat.beq pc 631) (some (.iconst 0, 1, 0, 0, 0)) none) (cond (Nat.beq pc 632) (some (.ireturn, 1, 0, 0, 0)) none)))) (cond (Nat.blt pc 636) (cond (Nat.blt pc 634) (cond (Nat.beq pc 633) (some (.aload_n 1, 1, 1, 0, 0)) none) (cond (Nat.blt pc 635) (cond (Nat.beq pc 634) (some (.aload_n 0, 1, 0, 0, 0)) none) (cond (Nat.beq pc 635) (some (.iload_n 3, 1, 3, 0, 0)) none))) (cond (Nat.blt pc 638) (cond (Nat.blt pc 637) (cond (Nat.beq pc 636) (some (.iconst 1, 1, 0, 0, 1)) none) (cond (Nat.beq pc 637) (some (.iadd, 1, 0, 0, 0)) none)) (cond (Nat.blt pc 639) (cond (Nat.beq pc 638) (some (.iaload, 1, 0, 0, 0)) none) (cond (Nat.beq pc 639) (some (.invokevirtual 96, 3, 21, 1, 0)) none))))) (cond (Nat.blt pc 651) (cond (Nat.blt pc 645) (cond (Nat.blt pc 643) (cond (Nat.beq pc 642) (some (.aload_n 2, 1, 2, 0, 0)) none) (cond (Nat.blt pc 644) (cond (Nat.beq pc 643) (some (.aload_n 0, 1, 0, 0, 0)) none) (cond (Nat.beq pc 644) (some (.iload_n 3, 1, 3, 0, 0)) none))) (cond (Nat.blt pc 647) (cond (Nat.blt pc 646) (cond (Nat.beq pc 645) (some (.iconst 1, 1, 0, 0, 1)) none) (cond (Nat.beq pc 646) (some (.iadd, 1, 0, 0, 0)) none)) (cond (Nat.blt pc 648) (cond (Nat.beq pc 647) (some (.iaload, 1, 0, 0, 0)) none) (cond (Nat.beq pc 648) (some (.invokevirtual 99, 3, 127, 1, 0)) none)))) (cond (Nat.blt pc 656) (cond (Nat.blt pc 654) (cond (Nat.beq pc 651) (some (.if_icmp .eq 5, 3, 656, 0, 0)) none) (cond (Nat.blt pc 655) (cond (Nat.beq pc 654) (some (.iconst 0, 1, 0, 0, 0)) none) (cond (Nat.beq pc 655) (some (.ireturn, 1, 0, 0, 0)) none))) (cond (Nat.blt pc 662) (cond (Nat.blt pc 659) (cond (Nat.beq pc 656) (some (.iinc 3 6, 3, 3, 0, 6)) none) (cond (Nat.beq pc 659) (some (.goto (-641), 3, 18, 0, 0)) none)) (cond (Nat.blt pc 663) (cond (Nat.beq pc 662) (some (.iconst 1, 1, 0, 0, 1)) none) (cond (Nat.beq pc 663) (some (.ireturn, 1, 0, 0, 0)) none)))))))))
def tb_128 (pc : Nat) : Option mm_E := cond (Nat.blt pc 664) (tt_128 pc) none
def ttb (m : Nat) : Nat → Option mm_E := cond (Nat.blt m 64) (cond (Nat.blt m 32) (cond (Nat.blt m 16) (cond (Nat.blt m 8) (cond (Nat.blt m 4) (cond (Nat.blt m 2) (cond (Nat.blt m 1) (tb_0) (tb_1)) (cond (Nat.blt m 3) (tb_2) (tb_3))) (cond (Nat.blt m 6) (cond (Nat.blt m 5) (tb_4) (tb_5)) (cond (Nat.blt m 7) (tb_6) (tb_7)))) (cond (Nat.blt m 12) (cond (Nat.blt m 10) (cond (Nat.blt m 9) (tb_8) (tb_9)) (cond (Nat.blt m 11) (tb_10) (tb_11))) (cond (Nat.blt m 14) (cond (Nat.blt m 13) (tb_12) (tb_13)) (cond (Nat.blt m 15) (tb_14) (tb_15))))) (cond (Nat.blt m 24) (cond (Nat.blt m 20) (cond (Nat.blt m 18) (cond (Nat.blt m 17) (tb_16) (tb_17)) (cond (Nat.blt m 19) (tb_18) (tb_19))) (cond (Nat.blt m 22) (cond (Nat.blt m 21) (tb_20) (tb_21)) (cond (Nat.blt m 23) (tb_22) (tb_23)))) (cond (Nat.blt m 28) (cond (Nat.blt m 26) (cond (Nat.blt m 25) (tb_24) (tb_25)) (cond (Nat.blt m 27) (tb_26) (tb_27))) (cond (Nat.blt m 30) (cond (Nat.blt m 29) (tb_28) (tb_29)) (cond (Nat.blt m 31) (tb_30) (tb_31)))))) (cond (Nat.blt m 48) (cond (Nat.blt m 40) (cond (Nat.blt m 36) (cond (Nat.blt m 34) (cond (Nat.blt m 33) (tb_32) (tb_33)) (cond (Nat.blt m 35) (tb_34) (tb_35))) (cond (Nat.blt m 38) (cond (Nat.blt m 37) (tb_36) (tb_37)) (cond (Nat.blt m 39) (tb_38) (tb_39)))) (cond (Nat.blt m 44) (cond (Nat.blt m 42) (cond (Nat.blt m 41) (tb_40) (tb_41)) (cond (Nat.blt m 43) (tb_42) (tb_43))) (cond (Nat.blt m 46) (cond (Nat.blt m 45) (tb_44) (tb_45)) (cond (Nat.blt m 47) (tb_46) (tb_47))))) (cond (Nat.blt m 56) (cond (Nat.blt m 52) (cond (Nat.blt m 50) (cond (Nat.blt m 49) (tb_48) (tb_49)) (cond (Nat.blt m 51) (tb_50) (tb_51))) (cond (Nat.blt m 54) (cond (Nat.blt m 53) (tb_52) (tb_53)) (cond (Nat.blt m 55) (tb_54) (tb_55)))) (cond (Nat.blt m 60) (cond (Nat.blt m 58) (cond (Nat.blt m 57) (tb_56) (tb_57)) (cond (Nat.blt m 59) (tb_58) (tb_59))) (cond (Nat.blt m 62) (cond (Nat.blt m 61) (tb_60) (tb_61)) (cond (Nat.blt m 63) (tb_62) (tb_63))))))) (cond (Nat.blt m 96) (cond (Nat.blt m 80) (cond (Nat.blt m 72) (cond (Nat.blt m 68) (cond (Nat.blt m 66) (cond (Nat.blt m 65) (tb_64) (tb_65)) (cond (Nat.blt m 67) (tb_66) (tb_67))) (cond (Nat.blt m 70) (cond (Nat.blt m 69) (tb_68) (tb_69)) (cond (Nat.blt m 71) (tb_70) (tb_71)))) (cond (Nat.blt m 76) (cond (Nat.blt m 74) (cond (Nat.blt m 73) (tb_72) (tb_73)) (cond (Nat.blt m 75) (tb_74) (tb_75))) (cond (Nat.blt m 78) (cond (Nat.blt m 77) (tb_76) (tb_77)) (cond (Nat.blt m 79) (tb_78) (tb_79))))) (cond (Nat.blt m 88) (cond (Nat.blt m 84) (cond (Nat.blt m 82) (cond (Nat.blt m 81) (tb_80) (tb_81)) (cond (Nat.blt m 83) (tb_82) (tb_83))) (cond (Nat.blt m 86) (cond (Nat.blt m 85) (tb_84) (tb_85)) (cond (Nat.blt m 87) (tb_86) (tb_87)))) (cond (Nat.blt m 92) (cond (Nat.blt m 90) (cond (Nat.blt m 89) (tb_88) (tb_89)) (cond (Nat.blt m 91) (tb_90) (tb_91))) (cond (Nat.blt m 94) (cond (Nat.blt m 93) (tb_92) (tb_93)) (cond (Nat.blt m 95) (tb_94) (tb_95)))))) (cond (Nat.blt m 112) (cond (Nat.blt m 104) (cond (Nat.blt m 100) (cond (Nat.blt m 98) (cond (Nat.blt m 97) (tb_96) (tb_97)) (cond (Nat.blt m 99) (tb_98) (tb_99))) (cond (Nat.blt m 102) (cond (Nat.blt m 101) (tb_100) (tb_101)) (cond (Nat.blt m 103) (tb_102) (tb_103)))) (cond (Nat.blt m 108) (cond (Nat.blt m 106) (cond (Nat.blt m 105) (tb_104) (tb_105)) (cond (Nat.blt m 107) (tb_106) (tb_107))) (cond (Nat.blt m 110) (cond (Nat.blt m 109) (tb_108) (tb_109)) (cond (Nat.blt m 111) (tb_110) (tb_111))))) (cond (Nat.blt m 120) (cond (Nat.blt m 116) (cond (Nat.blt m 114) (cond (Nat.blt m 113) (tb_112) (tb_113)) (cond (Nat.blt m 115) (tb_114) (tb_115))) (cond (Nat.blt m 118) (cond (Nat.blt m 117) (tb_116) (tb_117)) (cond (Nat.blt m 119) (tb_118) (tb_119)))) (cond (Nat.blt m 124) (cond (Nat.blt m 122) (cond (Nat.blt m 121) (tb_120) (tb_121)) (cond (Nat.blt m 123) (tb_122) (tb_123))) (cond (Nat.blt m 126) (cond (Nat.blt m 125) (tb_124) (tb_125)) (cond (Nat.blt m 127) (tb_126) (cond (Nat.blt m 128) (tb_127) (tb_128))))))))
end
section
theorem tq_in {t : Nat → Option mm_E} {g : Nat → mm_E → Bool} {n : Nat} (h : (List.range n).all (fun pc => match t pc with | none => true | some E => g pc E) = true) : ∀ pc E, cond (Nat.blt pc n) (t pc) none = some E → g pc E = true := by
  intro pc E hE
  cases hb : Nat.blt pc n with
  | false => rw [hb] at hE; cases hE
  | true =>
    rw [hb] at hE
    have hl : pc < n := Nat.le_of_ble_eq_true hb
    have h1 := List.all_eq_true.mp h pc (List.mem_range.mpr hl)
    have h2 : t pc = some E := hE
    rw [h2] at h1
    exact h1
set_option maxRecDepth 100000 in
theorem tk_0 : (List.range 21).all (fun pc => match tt_0 pc with | none => true | some E => mm_ok tmi tcl tws tnF tnM 128 0 pc E) = true := by decide +kernel
theorem tp_0 : ∀ pc E, ttb 0 pc = some E → mm_ok tmi tcl tws tnF tnM 128 0 pc E = true := tq_in tk_0
set_option maxRecDepth 100000 in
theorem tk_1 : (List.range 129).all (fun pc => match tt_1 pc with | none => true | some E => mm_ok tmi tcl tws tnF tnM 128 1 pc E) = true := by decide +kernel
theorem tp_1 : ∀ pc E, ttb 1 pc = some E → mm_ok tmi tcl tws tnF tnM 128 1 pc E = true := tq_in tk_1
set_option maxRecDepth 100000 in
theorem tk_2 : (List.range 11).all (fun pc => match tt_2 pc with | none => true | some E => mm_ok tmi tcl tws tnF tnM 128 2 pc E) = true := by decide +kernel
theorem tp_2 : ∀ pc E, ttb 2 pc = some E → mm_ok tmi tcl tws tnF tnM 128 2 pc E = true := tq_in tk_2
set_option maxRecDepth 100000 in
theorem tk_3 : (List.range 15).all (fun pc => match tt_3 pc with | none => true | some E => mm_ok tmi tcl tws tnF tnM 128 3 pc E) = true := by decide +kernel
theorem tp_3 : ∀ pc E, ttb 3 pc = some E → mm_ok tmi tcl tws tnF tnM 128 3 pc E = true := tq_in tk_3
set_option maxRecDepth 100000 in
theorem tk_4 : (List.range 9).all (fun pc => match tt_4 pc with | none => true | some E => mm_ok tmi tcl tws tnF tnM 128 4 pc E) = true := by decide +kernel
theorem tp_4 : ∀ pc E, ttb 4 pc = some E → mm_ok tmi tcl tws tnF tnM 128 4 pc E = true := tq_in tk_4
set_option maxRecDepth 100000 in
theorem tk_5 : (List.range 8).all (fun pc => match tt_5 pc with | none => true | some E => mm_ok tmi tcl tws tnF tnM 128 5 pc E) = true := by decide +kernel
theorem tp_5 : ∀ pc E, ttb 5 pc = some E → mm_ok tmi tcl tws tnF tnM 128 5 pc E = true := tq_in tk_5
set_option maxRecDepth 100000 in
theorem tk_6 : (List.range 8).all (fun pc => match tt_6 pc with | none => true | some E => mm_ok tmi tcl tws tnF tnM 128 6 pc E) = true := by decide +kernel
theorem tp_6 : ∀ pc E, ttb 6 pc = some E → mm_ok tmi tcl tws tnF tnM 128 6 pc E = true := tq_in tk_6
set_option maxRecDepth 100000 in
theorem tk_7 : (List.range 9).all (fun pc => match tt_7 pc with | none => true | some E => mm_ok tmi tcl tws tnF tnM 128 7 pc E) = true := by decide +kernel
theorem tp_7 : ∀ pc E, ttb 7 pc = some E → mm_ok tmi tcl tws tnF tnM 128 7 pc E = true := tq_in tk_7
set_option maxRecDepth 100000 in
theorem tk_8 : (List.range 11).all (fun pc => match tt_8 pc with | none => true | some E => mm_ok tmi tcl tws tnF tnM 128 8 pc E) = true := by decide +kernel
theorem tp_8 : ∀ pc E, ttb 8 pc = some E → mm_ok tmi tcl tws tnF tnM 128 8 pc E = true := tq_in tk_8
set_option maxRecDepth 100000 in
theorem tk_9 : (List.range 11).all (fun pc => match tt_9 pc with | none => true | some E => mm_ok tmi tcl tws tnF tnM 128 9 pc E) = true := by decide +kernel
theorem tp_9 : ∀ pc E, ttb 9 pc = some E → mm_ok tmi tcl tws tnF tnM 128 9 pc E = true := tq_in tk_9
set_option maxRecDepth 100000 in
theorem tk_10 : (List.range 10).all (fun pc => match tt_10 pc with | none => true | some E => mm_ok tmi tcl tws tnF tnM 128 10 pc E) = true := by decide +kernel
theorem tp_10 : ∀ pc E, ttb 10 pc = some E → mm_ok tmi tcl tws tnF tnM 128 10 pc E = true := tq_in tk_10
set_option maxRecDepth 100000 in
theorem tk_11 : (List.range 10).all (fun pc => match tt_11 pc with | none => true | some E => mm_ok tmi tcl tws tnF tnM 128 11 pc E) = true := by decide +kernel
theorem tp_11 : ∀ pc E, ttb 11 pc = some E → mm_ok tmi tcl tws tnF tnM 128 11 pc E = true := tq_in tk_11
set_option maxRecDepth 100000 in
theorem tk_12 : (List.range 16).all (fun pc => match tt_12 pc with | none => true | some E => mm_ok tmi tcl tws tnF tnM 128 12 pc E) = true := by decide +kernel
theorem tp_12 : ∀ pc E, ttb 12 pc = some E → mm_ok tmi tcl tws tnF tnM 128 12 pc E = true := tq_in tk_12
set_option maxRecDepth 100000 in
theorem tk_13 : (List.range 10).all (fun pc => match tt_13 pc with | none => true | some E => mm_ok tmi tcl tws tnF tnM 128 13 pc E) = true := by decide +kernel
theorem tp_13 : ∀ pc E, ttb 13 pc = some E → mm_ok tmi tcl tws tnF tnM 128 13 pc E = true := tq_in tk_13
set_option maxRecDepth 100000 in
theorem tk_14 : (List.range 69).all (fun pc => match tt_14 pc with | none => true | some E => mm_ok tmi tcl tws tnF tnM 128 14 pc E) = true := by decide +kernel
theorem tp_14 : ∀ pc E, ttb 14 pc = some E → mm_ok tmi tcl tws tnF tnM 128 14 pc E = true := tq_in tk_14
set_option maxRecDepth 100000 in
theorem tk_15 : (List.range 9).all (fun pc => match tt_15 pc with | none => true | some E => mm_ok tmi tcl tws tnF tnM 128 15 pc E) = true := by decide +kernel
theorem tp_15 : ∀ pc E, ttb 15 pc = some E → mm_ok tmi tcl tws tnF tnM 128 15 pc E = true := tq_in tk_15
set_option maxRecDepth 100000 in
theorem tk_16 : (List.range 9).all (fun pc => match tt_16 pc with | none => true | some E => mm_ok tmi tcl tws tnF tnM 128 16 pc E) = true := by decide +kernel
theorem tp_16 : ∀ pc E, ttb 16 pc = some E → mm_ok tmi tcl tws tnF tnM 128 16 pc E = true := tq_in tk_16
set_option maxRecDepth 100000 in
theorem tk_17 : (List.range 8).all (fun pc => match tt_17 pc with | none => true | some E => mm_ok tmi tcl tws tnF tnM 128 17 pc E) = true := by decide +kernel
theorem tp_17 : ∀ pc E, ttb 17 pc = some E → mm_ok tmi tcl tws tnF tnM 128 17 pc E = true := tq_in tk_17
set_option maxRecDepth 100000 in
theorem tk_18 : (List.range 9).all (fun pc => match tt_18 pc with | none => true | some E => mm_ok tmi tcl tws tnF tnM 128 18 pc E) = true := by decide +kernel
theorem tp_18 : ∀ pc E, ttb 18 pc = some E → mm_ok tmi tcl tws tnF tnM 128 18 pc E = true := tq_in tk_18
set_option maxRecDepth 100000 in
theorem tk_19 : (List.range 26).all (fun pc => match tt_19 pc with | none => true | some E => mm_ok tmi tcl tws tnF tnM 128 19 pc E) = true := by decide +kernel
theorem tp_19 : ∀ pc E, ttb 19 pc = some E → mm_ok tmi tcl tws tnF tnM 128 19 pc E = true := tq_in tk_19
set_option maxRecDepth 100000 in
theorem tk_20 : (List.range 8).all (fun pc => match tt_20 pc with | none => true | some E => mm_ok tmi tcl tws tnF tnM 128 20 pc E) = true := by decide +kernel
theorem tp_20 : ∀ pc E, ttb 20 pc = some E → mm_ok tmi tcl tws tnF tnM 128 20 pc E = true := tq_in tk_20
set_option maxRecDepth 100000 in
theorem tk_21 : (List.range 9).all (fun pc => match tt_21 pc with | none => true | some E => mm_ok tmi tcl tws tnF tnM 128 21 pc E) = true := by decide +kernel
theorem tp_21 : ∀ pc E, ttb 21 pc = some E → mm_ok tmi tcl tws tnF tnM 128 21 pc E = true := tq_in tk_21
set_option maxRecDepth 100000 in
theorem tk_22 : (List.range 70).all (fun pc => match tt_22 pc with | none => true | some E => mm_ok tmi tcl tws tnF tnM 128 22 pc E) = true := by decide +kernel
theorem tp_22 : ∀ pc E, ttb 22 pc = some E → mm_ok tmi tcl tws tnF tnM 128 22 pc E = true := tq_in tk_22
set_option maxRecDepth 100000 in
theorem tk_23 : (List.range 24).all (fun pc => match tt_23 pc with | none => true | some E => mm_ok tmi tcl tws tnF tnM 128 23 pc E) = true := by decide +kernel
theorem tp_23 : ∀ pc E, ttb 23 pc = some E → mm_ok tmi tcl tws tnF tnM 128 23 pc E = true := tq_in tk_23
set_option maxRecDepth 100000 in
theorem tk_24 : (List.range 29).all (fun pc => match tt_24 pc with | none => true | some E => mm_ok tmi tcl tws tnF tnM 128 24 pc E) = true := by decide +kernel
theorem tp_24 : ∀ pc E, ttb 24 pc = some E → mm_ok tmi tcl tws tnF tnM 128 24 pc E = true := tq_in tk_24
set_option maxRecDepth 100000 in
theorem tk_25 : (List.range 29).all (fun pc => match tt_25 pc with | none => true | some E => mm_ok tmi tcl tws tnF tnM 128 25 pc E) = true := by decide +kernel
theorem tp_25 : ∀ pc E, ttb 25 pc = some E → mm_ok tmi tcl tws tnF tnM 128 25 pc E = true := tq_in tk_25
set_option maxRecDepth 100000 in
theorem tk_26 : (List.range 65).all (fun pc => match tt_26 pc with | none => true | some E => mm_ok tmi tcl tws tnF tnM 128 26 pc E) = true := by decide +kernel
theorem tp_26 : ∀ pc E, ttb 26 pc = some E → mm_ok tmi tcl tws tnF tnM 128 26 pc E = true := tq_in tk_26
set_option maxRecDepth 100000 in
theorem tk_27 : (List.range 76).all (fun pc => match tt_27 pc with | none => true | some E => mm_ok tmi tcl tws tnF tnM 128 27 pc E) = true := by decide +kernel
theorem tp_27 : ∀ pc E, ttb 27 pc = some E → mm_ok tmi tcl tws tnF tnM 128 27 pc E = true := tq_in tk_27
set_option maxRecDepth 100000 in
theorem tk_28 : (List.range 24).all (fun pc => match tt_28 pc with | none => true | some E => mm_ok tmi tcl tws tnF tnM 128 28 pc E) = true := by decide +kernel
theorem tp_28 : ∀ pc E, ttb 28 pc = some E → mm_ok tmi tcl tws tnF tnM 128 28 pc E = true := tq_in tk_28
set_option maxRecDepth 100000 in
theorem tk_29 : (List.range 46).all (fun pc => match tt_29 pc with | none => true | some E => mm_ok tmi tcl tws tnF tnM 128 29 pc E) = true := by decide +kernel
theorem tp_29 : ∀ pc E, ttb 29 pc = some E → mm_ok tmi tcl tws tnF tnM 128 29 pc E = true := tq_in tk_29
set_option maxRecDepth 100000 in
theorem tk_30 : (List.range 34).all (fun pc => match tt_30 pc with | none => true | some E => mm_ok tmi tcl tws tnF tnM 128 30 pc E) = true := by decide +kernel
theorem tp_30 : ∀ pc E, ttb 30 pc = some E → mm_ok tmi tcl tws tnF tnM 128 30 pc E = true := tq_in tk_30
set_option maxRecDepth 100000 in
theorem tk_31 : (List.range 18).all (fun pc => match tt_31 pc with | none => true | some E => mm_ok tmi tcl tws tnF tnM 128 31 pc E) = true := by decide +kernel
theorem tp_31 : ∀ pc E, ttb 31 pc = some E → mm_ok tmi tcl tws tnF tnM 128 31 pc E = true := tq_in tk_31
set_option maxRecDepth 100000 in
theorem tk_32 : (List.range 102).all (fun pc => match tt_32 pc with | none => true | some E => mm_ok tmi tcl tws tnF tnM 128 32 pc E) = true := by decide +kernel
theorem tp_32 : ∀ pc E, ttb 32 pc = some E → mm_ok tmi tcl tws tnF tnM 128 32 pc E = true := tq_in tk_32
set_option maxRecDepth 100000 in
theorem tk_33 : (List.range 6).all (fun pc => match tt_33 pc with | none => true | some E => mm_ok tmi tcl tws tnF tnM 128 33 pc E) = true := by decide +kernel
theorem tp_33 : ∀ pc E, ttb 33 pc = some E → mm_ok tmi tcl tws tnF tnM 128 33 pc E = true := tq_in tk_33
set_option maxRecDepth 100000 in
theorem tk_34 : (List.range 19).all (fun pc => match tt_34 pc with | none => true | some E => mm_ok tmi tcl tws tnF tnM 128 34 pc E) = true := by decide +kernel
theorem tp_34 : ∀ pc E, ttb 34 pc = some E → mm_ok tmi tcl tws tnF tnM 128 34 pc E = true := tq_in tk_34
set_option maxRecDepth 100000 in
theorem tk_35 : (List.range 32).all (fun pc => match tt_35 pc with | none => true | some E => mm_ok tmi tcl tws tnF tnM 128 35 pc E) = true := by decide +kernel
theorem tp_35 : ∀ pc E, ttb 35 pc = some E → mm_ok tmi tcl tws tnF tnM 128 35 pc E = true := tq_in tk_35
set_option maxRecDepth 100000 in
theorem tk_36 : (List.range 46).all (fun pc => match tt_36 pc with | none => true | some E => mm_ok tmi tcl tws tnF tnM 128 36 pc E) = true := by decide +kernel
theorem tp_36 : ∀ pc E, ttb 36 pc = some E → mm_ok tmi tcl tws tnF tnM 128 36 pc E = true := tq_in tk_36
set_option maxRecDepth 100000 in
theorem tk_37 : (List.range 31).all (fun pc => match tt_37 pc with | none => true | some E => mm_ok tmi tcl tws tnF tnM 128 37 pc E) = true := by decide +kernel
theorem tp_37 : ∀ pc E, ttb 37 pc = some E → mm_ok tmi tcl tws tnF tnM 128 37 pc E = true := tq_in tk_37
set_option maxRecDepth 100000 in
theorem tk_38 : (List.range 31).all (fun pc => match tt_38 pc with | none => true | some E => mm_ok tmi tcl tws tnF tnM 128 38 pc E) = true := by decide +kernel
theorem tp_38 : ∀ pc E, ttb 38 pc = some E → mm_ok tmi tcl tws tnF tnM 128 38 pc E = true := tq_in tk_38
set_option maxRecDepth 100000 in
theorem tk_39 : (List.range 47).all (fun pc => match tt_39 pc with | none => true | some E => mm_ok tmi tcl tws tnF tnM 128 39 pc E) = true := by decide +kernel
theorem tp_39 : ∀ pc E, ttb 39 pc = some E → mm_ok tmi tcl tws tnF tnM 128 39 pc E = true := tq_in tk_39
set_option maxRecDepth 100000 in
theorem tk_40 : (List.range 26).all (fun pc => match tt_40 pc with | none => true | some E => mm_ok tmi tcl tws tnF tnM 128 40 pc E) = true := by decide +kernel
theorem tp_40 : ∀ pc E, ttb 40 pc = some E → mm_ok tmi tcl tws tnF tnM 128 40 pc E = true := tq_in tk_40
set_option maxRecDepth 100000 in
theorem tk_41 : (List.range 85).all (fun pc => match tt_41 pc with | none => true | some E => mm_ok tmi tcl tws tnF tnM 128 41 pc E) = true := by decide +kernel
theorem tp_41 : ∀ pc E, ttb 41 pc = some E → mm_ok tmi tcl tws tnF tnM 128 41 pc E = true := tq_in tk_41
end
section
set_option maxRecDepth 100000 in
theorem tk_42 : (List.range 48).all (fun pc => match tt_42 pc with | none => true | some E => mm_ok tmi tcl tws tnF tnM 128 42 pc E) = true := by decide +kernel
theorem tp_42 : ∀ pc E, ttb 42 pc = some E → mm_ok tmi tcl tws tnF tnM 128 42 pc E = true := tq_in tk_42
set_option maxRecDepth 100000 in
theorem tk_43 : (List.range 34).all (fun pc => match tt_43 pc with | none => true | some E => mm_ok tmi tcl tws tnF tnM 128 43 pc E) = true := by decide +kernel
theorem tp_43 : ∀ pc E, ttb 43 pc = some E → mm_ok tmi tcl tws tnF tnM 128 43 pc E = true := tq_in tk_43
set_option maxRecDepth 100000 in
theorem tk_44 : (List.range 106).all (fun pc => match tt_44 pc with | none => true | some E => mm_ok tmi tcl tws tnF tnM 128 44 pc E) = true := by decide +kernel
theorem tp_44 : ∀ pc E, ttb 44 pc = some E → mm_ok tmi tcl tws tnF tnM 128 44 pc E = true := tq_in tk_44
set_option maxRecDepth 100000 in
theorem tk_45 : (List.range 42).all (fun pc => match tt_45 pc with | none => true | some E => mm_ok tmi tcl tws tnF tnM 128 45 pc E) = true := by decide +kernel
theorem tp_45 : ∀ pc E, ttb 45 pc = some E → mm_ok tmi tcl tws tnF tnM 128 45 pc E = true := tq_in tk_45
set_option maxRecDepth 100000 in
theorem tk_46 : (List.range 40).all (fun pc => match tt_46 pc with | none => true | some E => mm_ok tmi tcl tws tnF tnM 128 46 pc E) = true := by decide +kernel
theorem tp_46 : ∀ pc E, ttb 46 pc = some E → mm_ok tmi tcl tws tnF tnM 128 46 pc E = true := tq_in tk_46
set_option maxRecDepth 100000 in
theorem tk_47 : (List.range 86).all (fun pc => match tt_47 pc with | none => true | some E => mm_ok tmi tcl tws tnF tnM 128 47 pc E) = true := by decide +kernel
theorem tp_47 : ∀ pc E, ttb 47 pc = some E → mm_ok tmi tcl tws tnF tnM 128 47 pc E = true := tq_in tk_47
set_option maxRecDepth 100000 in
theorem tk_48 : (List.range 14).all (fun pc => match tt_48 pc with | none => true | some E => mm_ok tmi tcl tws tnF tnM 128 48 pc E) = true := by decide +kernel
theorem tp_48 : ∀ pc E, ttb 48 pc = some E → mm_ok tmi tcl tws tnF tnM 128 48 pc E = true := tq_in tk_48
set_option maxRecDepth 100000 in
theorem tk_49 : (List.range 46).all (fun pc => match tt_49 pc with | none => true | some E => mm_ok tmi tcl tws tnF tnM 128 49 pc E) = true := by decide +kernel
theorem tp_49 : ∀ pc E, ttb 49 pc = some E → mm_ok tmi tcl tws tnF tnM 128 49 pc E = true := tq_in tk_49
set_option maxRecDepth 100000 in
theorem tk_50 : (List.range 26).all (fun pc => match tt_50 pc with | none => true | some E => mm_ok tmi tcl tws tnF tnM 128 50 pc E) = true := by decide +kernel
theorem tp_50 : ∀ pc E, ttb 50 pc = some E → mm_ok tmi tcl tws tnF tnM 128 50 pc E = true := tq_in tk_50
set_option maxRecDepth 100000 in
theorem tk_51 : (List.range 26).all (fun pc => match tt_51 pc with | none => true | some E => mm_ok tmi tcl tws tnF tnM 128 51 pc E) = true := by decide +kernel
theorem tp_51 : ∀ pc E, ttb 51 pc = some E → mm_ok tmi tcl tws tnF tnM 128 51 pc E = true := tq_in tk_51
set_option maxRecDepth 100000 in
theorem tk_52 : (List.range 55).all (fun pc => match tt_52 pc with | none => true | some E => mm_ok tmi tcl tws tnF tnM 128 52 pc E) = true := by decide +kernel
theorem tp_52 : ∀ pc E, ttb 52 pc = some E → mm_ok tmi tcl tws tnF tnM 128 52 pc E = true := tq_in tk_52
set_option maxRecDepth 100000 in
theorem tk_53 : (List.range 60).all (fun pc => match tt_53 pc with | none => true | some E => mm_ok tmi tcl tws tnF tnM 128 53 pc E) = true := by decide +kernel
theorem tp_53 : ∀ pc E, ttb 53 pc = some E → mm_ok tmi tcl tws tnF tnM 128 53 pc E = true := tq_in tk_53
set_option maxRecDepth 100000 in
theorem tk_54 : (List.range 91).all (fun pc => match tt_54 pc with | none => true | some E => mm_ok tmi tcl tws tnF tnM 128 54 pc E) = true := by decide +kernel
theorem tp_54 : ∀ pc E, ttb 54 pc = some E → mm_ok tmi tcl tws tnF tnM 128 54 pc E = true := tq_in tk_54
set_option maxRecDepth 100000 in
theorem tk_55 : (List.range 28).all (fun pc => match tt_55 pc with | none => true | some E => mm_ok tmi tcl tws tnF tnM 128 55 pc E) = true := by decide +kernel
theorem tp_55 : ∀ pc E, ttb 55 pc = some E → mm_ok tmi tcl tws tnF tnM 128 55 pc E = true := tq_in tk_55
set_option maxRecDepth 100000 in
theorem tk_56 : (List.range 141).all (fun pc => match tt_56 pc with | none => true | some E => mm_ok tmi tcl tws tnF tnM 128 56 pc E) = true := by decide +kernel
theorem tp_56 : ∀ pc E, ttb 56 pc = some E → mm_ok tmi tcl tws tnF tnM 128 56 pc E = true := tq_in tk_56
set_option maxRecDepth 100000 in
theorem tk_57 : (List.range 69).all (fun pc => match tt_57 pc with | none => true | some E => mm_ok tmi tcl tws tnF tnM 128 57 pc E) = true := by decide +kernel
theorem tp_57 : ∀ pc E, ttb 57 pc = some E → mm_ok tmi tcl tws tnF tnM 128 57 pc E = true := tq_in tk_57
set_option maxRecDepth 100000 in
theorem tk_58 : (List.range 52).all (fun pc => match tt_58 pc with | none => true | some E => mm_ok tmi tcl tws tnF tnM 128 58 pc E) = true := by decide +kernel
theorem tp_58 : ∀ pc E, ttb 58 pc = some E → mm_ok tmi tcl tws tnF tnM 128 58 pc E = true := tq_in tk_58
set_option maxRecDepth 100000 in
theorem tk_59 : (List.range 78).all (fun pc => match tt_59 pc with | none => true | some E => mm_ok tmi tcl tws tnF tnM 128 59 pc E) = true := by decide +kernel
theorem tp_59 : ∀ pc E, ttb 59 pc = some E → mm_ok tmi tcl tws tnF tnM 128 59 pc E = true := tq_in tk_59
set_option maxRecDepth 100000 in
theorem tk_60 : (List.range 17).all (fun pc => match tt_60 pc with | none => true | some E => mm_ok tmi tcl tws tnF tnM 128 60 pc E) = true := by decide +kernel
theorem tp_60 : ∀ pc E, ttb 60 pc = some E → mm_ok tmi tcl tws tnF tnM 128 60 pc E = true := tq_in tk_60
set_option maxRecDepth 100000 in
theorem tk_61 : (List.range 10).all (fun pc => match tt_61 pc with | none => true | some E => mm_ok tmi tcl tws tnF tnM 128 61 pc E) = true := by decide +kernel
theorem tp_61 : ∀ pc E, ttb 61 pc = some E → mm_ok tmi tcl tws tnF tnM 128 61 pc E = true := tq_in tk_61
set_option maxRecDepth 100000 in
theorem tk_62 : (List.range 84).all (fun pc => match tt_62 pc with | none => true | some E => mm_ok tmi tcl tws tnF tnM 128 62 pc E) = true := by decide +kernel
theorem tp_62 : ∀ pc E, ttb 62 pc = some E → mm_ok tmi tcl tws tnF tnM 128 62 pc E = true := tq_in tk_62
set_option maxRecDepth 100000 in
theorem tk_63 : (List.range 206).all (fun pc => match tt_63 pc with | none => true | some E => mm_ok tmi tcl tws tnF tnM 128 63 pc E) = true := by decide +kernel
theorem tp_63 : ∀ pc E, ttb 63 pc = some E → mm_ok tmi tcl tws tnF tnM 128 63 pc E = true := tq_in tk_63
end
section
set_option maxRecDepth 100000 in
theorem tk_64 : (List.range 24).all (fun pc => match tt_64 pc with | none => true | some E => mm_ok tmi tcl tws tnF tnM 128 64 pc E) = true := by decide +kernel
theorem tp_64 : ∀ pc E, ttb 64 pc = some E → mm_ok tmi tcl tws tnF tnM 128 64 pc E = true := tq_in tk_64
set_option maxRecDepth 100000 in
theorem tk_65 : (List.range 24).all (fun pc => match tt_65 pc with | none => true | some E => mm_ok tmi tcl tws tnF tnM 128 65 pc E) = true := by decide +kernel
theorem tp_65 : ∀ pc E, ttb 65 pc = some E → mm_ok tmi tcl tws tnF tnM 128 65 pc E = true := tq_in tk_65
set_option maxRecDepth 100000 in
theorem tk_66 : (List.range 8).all (fun pc => match tt_66 pc with | none => true | some E => mm_ok tmi tcl tws tnF tnM 128 66 pc E) = true := by decide +kernel
theorem tp_66 : ∀ pc E, ttb 66 pc = some E → mm_ok tmi tcl tws tnF tnM 128 66 pc E = true := tq_in tk_66
set_option maxRecDepth 100000 in
theorem tk_67 : (List.range 30).all (fun pc => match tt_67 pc with | none => true | some E => mm_ok tmi tcl tws tnF tnM 128 67 pc E) = true := by decide +kernel
theorem tp_67 : ∀ pc E, ttb 67 pc = some E → mm_ok tmi tcl tws tnF tnM 128 67 pc E = true := tq_in tk_67
set_option maxRecDepth 100000 in
theorem tk_68 : (List.range 36).all (fun pc => match tt_68 pc with | none => true | some E => mm_ok tmi tcl tws tnF tnM 128 68 pc E) = true := by decide +kernel
theorem tp_68 : ∀ pc E, ttb 68 pc = some E → mm_ok tmi tcl tws tnF tnM 128 68 pc E = true := tq_in tk_68
set_option maxRecDepth 100000 in
theorem tk_69 : (List.range 51).all (fun pc => match tt_69 pc with | none => true | some E => mm_ok tmi tcl tws tnF tnM 128 69 pc E) = true := by decide +kernel
theorem tp_69 : ∀ pc E, ttb 69 pc = some E → mm_ok tmi tcl tws tnF tnM 128 69 pc E = true := tq_in tk_69
set_option maxRecDepth 100000 in
theorem tk_70 : (List.range 18).all (fun pc => match tt_70 pc with | none => true | some E => mm_ok tmi tcl tws tnF tnM 128 70 pc E) = true := by decide +kernel
theorem tp_70 : ∀ pc E, ttb 70 pc = some E → mm_ok tmi tcl tws tnF tnM 128 70 pc E = true := tq_in tk_70
set_option maxRecDepth 100000 in
theorem tk_71 : (List.range 18).all (fun pc => match tt_71 pc with | none => true | some E => mm_ok tmi tcl tws tnF tnM 128 71 pc E) = true := by decide +kernel
theorem tp_71 : ∀ pc E, ttb 71 pc = some E → mm_ok tmi tcl tws tnF tnM 128 71 pc E = true := tq_in tk_71
set_option maxRecDepth 100000 in
theorem tk_72 : (List.range 25).all (fun pc => match tt_72 pc with | none => true | some E => mm_ok tmi tcl tws tnF tnM 128 72 pc E) = true := by decide +kernel
theorem tp_72 : ∀ pc E, ttb 72 pc = some E → mm_ok tmi tcl tws tnF tnM 128 72 pc E = true := tq_in tk_72
set_option maxRecDepth 100000 in
theorem tk_73 : (List.range 32).all (fun pc => match tt_73 pc with | none => true | some E => mm_ok tmi tcl tws tnF tnM 128 73 pc E) = true := by decide +kernel
theorem tp_73 : ∀ pc E, ttb 73 pc = some E → mm_ok tmi tcl tws tnF tnM 128 73 pc E = true := tq_in tk_73
set_option maxRecDepth 100000 in
theorem tk_74 : (List.range 24).all (fun pc => match tt_74 pc with | none => true | some E => mm_ok tmi tcl tws tnF tnM 128 74 pc E) = true := by decide +kernel
theorem tp_74 : ∀ pc E, ttb 74 pc = some E → mm_ok tmi tcl tws tnF tnM 128 74 pc E = true := tq_in tk_74
set_option maxRecDepth 100000 in
theorem tk_75 : (List.range 23).all (fun pc => match tt_75 pc with | none => true | some E => mm_ok tmi tcl tws tnF tnM 128 75 pc E) = true := by decide +kernel
theorem tp_75 : ∀ pc E, ttb 75 pc = some E → mm_ok tmi tcl tws tnF tnM 128 75 pc E = true := tq_in tk_75
set_option maxRecDepth 100000 in
theorem tk_76 : (List.range 31).all (fun pc => match tt_76 pc with | none => true | some E => mm_ok tmi tcl tws tnF tnM 128 76 pc E) = true := by decide +kernel
theorem tp_76 : ∀ pc E, ttb 76 pc = some E → mm_ok tmi tcl tws tnF tnM 128 76 pc E = true := tq_in tk_76
set_option maxRecDepth 100000 in
theorem tk_77 : (List.range 126).all (fun pc => match tt_77 pc with | none => true | some E => mm_ok tmi tcl tws tnF tnM 128 77 pc E) = true := by decide +kernel
theorem tp_77 : ∀ pc E, ttb 77 pc = some E → mm_ok tmi tcl tws tnF tnM 128 77 pc E = true := tq_in tk_77
set_option maxRecDepth 100000 in
theorem tk_78 : (List.range 52).all (fun pc => match tt_78 pc with | none => true | some E => mm_ok tmi tcl tws tnF tnM 128 78 pc E) = true := by decide +kernel
theorem tp_78 : ∀ pc E, ttb 78 pc = some E → mm_ok tmi tcl tws tnF tnM 128 78 pc E = true := tq_in tk_78
set_option maxRecDepth 100000 in
theorem tk_79 : (List.range 89).all (fun pc => match tt_79 pc with | none => true | some E => mm_ok tmi tcl tws tnF tnM 128 79 pc E) = true := by decide +kernel
theorem tp_79 : ∀ pc E, ttb 79 pc = some E → mm_ok tmi tcl tws tnF tnM 128 79 pc E = true := tq_in tk_79
set_option maxRecDepth 100000 in
theorem tk_80 : (List.range 53).all (fun pc => match tt_80 pc with | none => true | some E => mm_ok tmi tcl tws tnF tnM 128 80 pc E) = true := by decide +kernel
theorem tp_80 : ∀ pc E, ttb 80 pc = some E → mm_ok tmi tcl tws tnF tnM 128 80 pc E = true := tq_in tk_80
set_option maxRecDepth 100000 in
theorem tk_81 : (List.range 63).all (fun pc => match tt_81 pc with | none => true | some E => mm_ok tmi tcl tws tnF tnM 128 81 pc E) = true := by decide +kernel
theorem tp_81 : ∀ pc E, ttb 81 pc = some E → mm_ok tmi tcl tws tnF tnM 128 81 pc E = true := tq_in tk_81
set_option maxRecDepth 100000 in
theorem tk_82 : (List.range 12).all (fun pc => match tt_82 pc with | none => true | some E => mm_ok tmi tcl tws tnF tnM 128 82 pc E) = true := by decide +kernel
theorem tp_82 : ∀ pc E, ttb 82 pc = some E → mm_ok tmi tcl tws tnF tnM 128 82 pc E = true := tq_in tk_82
set_option maxRecDepth 100000 in
theorem tk_83 : (List.range 64).all (fun pc => match tt_83 pc with | none => true | some E => mm_ok tmi tcl tws tnF tnM 128 83 pc E) = true := by decide +kernel
theorem tp_83 : ∀ pc E, ttb 83 pc = some E → mm_ok tmi tcl tws tnF tnM 128 83 pc E = true := tq_in tk_83
set_option maxRecDepth 100000 in
theorem tk_84 : (List.range 173).all (fun pc => match tt_84 pc with | none => true | some E => mm_ok tmi tcl tws tnF tnM 128 84 pc E) = true := by decide +kernel
theorem tp_84 : ∀ pc E, ttb 84 pc = some E → mm_ok tmi tcl tws tnF tnM 128 84 pc E = true := tq_in tk_84
set_option maxRecDepth 100000 in
theorem tk_85 : (List.range 24).all (fun pc => match tt_85 pc with | none => true | some E => mm_ok tmi tcl tws tnF tnM 128 85 pc E) = true := by decide +kernel
theorem tp_85 : ∀ pc E, ttb 85 pc = some E → mm_ok tmi tcl tws tnF tnM 128 85 pc E = true := tq_in tk_85
set_option maxRecDepth 100000 in
theorem tk_86 : (List.range 110).all (fun pc => match tt_86 pc with | none => true | some E => mm_ok tmi tcl tws tnF tnM 128 86 pc E) = true := by decide +kernel
theorem tp_86 : ∀ pc E, ttb 86 pc = some E → mm_ok tmi tcl tws tnF tnM 128 86 pc E = true := tq_in tk_86
set_option maxRecDepth 100000 in
theorem tk_87 : (List.range 87).all (fun pc => match tt_87 pc with | none => true | some E => mm_ok tmi tcl tws tnF tnM 128 87 pc E) = true := by decide +kernel
theorem tp_87 : ∀ pc E, ttb 87 pc = some E → mm_ok tmi tcl tws tnF tnM 128 87 pc E = true := tq_in tk_87
set_option maxRecDepth 100000 in
theorem tk_88 : (List.range 18).all (fun pc => match tt_88 pc with | none => true | some E => mm_ok tmi tcl tws tnF tnM 128 88 pc E) = true := by decide +kernel
theorem tp_88 : ∀ pc E, ttb 88 pc = some E → mm_ok tmi tcl tws tnF tnM 128 88 pc E = true := tq_in tk_88
set_option maxRecDepth 100000 in
theorem tk_89 : (List.range 33).all (fun pc => match tt_89 pc with | none => true | some E => mm_ok tmi tcl tws tnF tnM 128 89 pc E) = true := by decide +kernel
theorem tp_89 : ∀ pc E, ttb 89 pc = some E → mm_ok tmi tcl tws tnF tnM 128 89 pc E = true := tq_in tk_89
set_option maxRecDepth 100000 in
theorem tk_90 : (List.range 33).all (fun pc => match tt_90 pc with | none => true | some E => mm_ok tmi tcl tws tnF tnM 128 90 pc E) = true := by decide +kernel
theorem tp_90 : ∀ pc E, ttb 90 pc = some E → mm_ok tmi tcl tws tnF tnM 128 90 pc E = true := tq_in tk_90
set_option maxRecDepth 100000 in
theorem tk_91 : (List.range 108).all (fun pc => match tt_91 pc with | none => true | some E => mm_ok tmi tcl tws tnF tnM 128 91 pc E) = true := by decide +kernel
theorem tp_91 : ∀ pc E, ttb 91 pc = some E → mm_ok tmi tcl tws tnF tnM 128 91 pc E = true := tq_in tk_91
end
section
set_option maxRecDepth 100000 in
theorem tk_92 : (List.range 6).all (fun pc => match tt_92 pc with | none => true | some E => mm_ok tmi tcl tws tnF tnM 128 92 pc E) = true := by decide +kernel
theorem tp_92 : ∀ pc E, ttb 92 pc = some E → mm_ok tmi tcl tws tnF tnM 128 92 pc E = true := tq_in tk_92
set_option maxRecDepth 100000 in
theorem tk_93 : (List.range 5).all (fun pc => match tt_93 pc with | none => true | some E => mm_ok tmi tcl tws tnF tnM 128 93 pc E) = true := by decide +kernel
theorem tp_93 : ∀ pc E, ttb 93 pc = some E → mm_ok tmi tcl tws tnF tnM 128 93 pc E = true := tq_in tk_93
set_option maxRecDepth 100000 in
theorem tk_94 : (List.range 19).all (fun pc => match tt_94 pc with | none => true | some E => mm_ok tmi tcl tws tnF tnM 128 94 pc E) = true := by decide +kernel
theorem tp_94 : ∀ pc E, ttb 94 pc = some E → mm_ok tmi tcl tws tnF tnM 128 94 pc E = true := tq_in tk_94
set_option maxRecDepth 100000 in
theorem tk_95 : (List.range 40).all (fun pc => match tt_95 pc with | none => true | some E => mm_ok tmi tcl tws tnF tnM 128 95 pc E) = true := by decide +kernel
theorem tp_95 : ∀ pc E, ttb 95 pc = some E → mm_ok tmi tcl tws tnF tnM 128 95 pc E = true := tq_in tk_95
set_option maxRecDepth 100000 in
theorem tk_96 : (List.range 34).all (fun pc => match tt_96 pc with | none => true | some E => mm_ok tmi tcl tws tnF tnM 128 96 pc E) = true := by decide +kernel
theorem tp_96 : ∀ pc E, ttb 96 pc = some E → mm_ok tmi tcl tws tnF tnM 128 96 pc E = true := tq_in tk_96
set_option maxRecDepth 100000 in
theorem tk_97 : (List.range 37).all (fun pc => match tt_97 pc with | none => true | some E => mm_ok tmi tcl tws tnF tnM 128 97 pc E) = true := by decide +kernel
theorem tp_97 : ∀ pc E, ttb 97 pc = some E → mm_ok tmi tcl tws tnF tnM 128 97 pc E = true := tq_in tk_97
set_option maxRecDepth 100000 in
theorem tk_98 : (List.range 24).all (fun pc => match tt_98 pc with | none => true | some E => mm_ok tmi tcl tws tnF tnM 128 98 pc E) = true := by decide +kernel
theorem tp_98 : ∀ pc E, ttb 98 pc = some E → mm_ok tmi tcl tws tnF tnM 128 98 pc E = true := tq_in tk_98
set_option maxRecDepth 100000 in
theorem tk_99 : (List.range 24).all (fun pc => match tt_99 pc with | none => true | some E => mm_ok tmi tcl tws tnF tnM 128 99 pc E) = true := by decide +kernel
theorem tp_99 : ∀ pc E, ttb 99 pc = some E → mm_ok tmi tcl tws tnF tnM 128 99 pc E = true := tq_in tk_99
set_option maxRecDepth 100000 in
theorem tk_100 : (List.range 132).all (fun pc => match tt_100 pc with | none => true | some E => mm_ok tmi tcl tws tnF tnM 128 100 pc E) = true := by decide +kernel
theorem tp_100 : ∀ pc E, ttb 100 pc = some E → mm_ok tmi tcl tws tnF tnM 128 100 pc E = true := tq_in tk_100
set_option maxRecDepth 100000 in
theorem tk_101 : (List.range 18).all (fun pc => match tt_101 pc with | none => true | some E => mm_ok tmi tcl tws tnF tnM 128 101 pc E) = true := by decide +kernel
theorem tp_101 : ∀ pc E, ttb 101 pc = some E → mm_ok tmi tcl tws tnF tnM 128 101 pc E = true := tq_in tk_101
set_option maxRecDepth 100000 in
theorem tk_102 : (List.range 83).all (fun pc => match tt_102 pc with | none => true | some E => mm_ok tmi tcl tws tnF tnM 128 102 pc E) = true := by decide +kernel
theorem tp_102 : ∀ pc E, ttb 102 pc = some E → mm_ok tmi tcl tws tnF tnM 128 102 pc E = true := tq_in tk_102
set_option maxRecDepth 100000 in
theorem tk_103 : (List.range 65).all (fun pc => match tt_103 pc with | none => true | some E => mm_ok tmi tcl tws tnF tnM 128 103 pc E) = true := by decide +kernel
theorem tp_103 : ∀ pc E, ttb 103 pc = some E → mm_ok tmi tcl tws tnF tnM 128 103 pc E = true := tq_in tk_103
set_option maxRecDepth 100000 in
theorem tk_104 : (List.range 170).all (fun pc => match tt_104 pc with | none => true | some E => mm_ok tmi tcl tws tnF tnM 128 104 pc E) = true := by decide +kernel
theorem tp_104 : ∀ pc E, ttb 104 pc = some E → mm_ok tmi tcl tws tnF tnM 128 104 pc E = true := tq_in tk_104
set_option maxRecDepth 100000 in
theorem tk_105 : (List.range 31).all (fun pc => match tt_105 pc with | none => true | some E => mm_ok tmi tcl tws tnF tnM 128 105 pc E) = true := by decide +kernel
theorem tp_105 : ∀ pc E, ttb 105 pc = some E → mm_ok tmi tcl tws tnF tnM 128 105 pc E = true := tq_in tk_105
set_option maxRecDepth 100000 in
theorem tk_106 : (List.range 97).all (fun pc => match tt_106 pc with | none => true | some E => mm_ok tmi tcl tws tnF tnM 128 106 pc E) = true := by decide +kernel
theorem tp_106 : ∀ pc E, ttb 106 pc = some E → mm_ok tmi tcl tws tnF tnM 128 106 pc E = true := tq_in tk_106
set_option maxRecDepth 100000 in
theorem tk_107 : (List.range 63).all (fun pc => match tt_107 pc with | none => true | some E => mm_ok tmi tcl tws tnF tnM 128 107 pc E) = true := by decide +kernel
theorem tp_107 : ∀ pc E, ttb 107 pc = some E → mm_ok tmi tcl tws tnF tnM 128 107 pc E = true := tq_in tk_107
set_option maxRecDepth 100000 in
theorem tk_108 : (List.range 190).all (fun pc => match tt_108 pc with | none => true | some E => mm_ok tmi tcl tws tnF tnM 128 108 pc E) = true := by decide +kernel
theorem tp_108 : ∀ pc E, ttb 108 pc = some E → mm_ok tmi tcl tws tnF tnM 128 108 pc E = true := tq_in tk_108
set_option maxRecDepth 100000 in
theorem tk_109 : (List.range 301).all (fun pc => match tt_109 pc with | none => true | some E => mm_ok tmi tcl tws tnF tnM 128 109 pc E) = true := by decide +kernel
theorem tp_109 : ∀ pc E, ttb 109 pc = some E → mm_ok tmi tcl tws tnF tnM 128 109 pc E = true := tq_in tk_109
end
section
set_option maxRecDepth 100000 in
theorem tk_110 : (List.range 46).all (fun pc => match tt_110 pc with | none => true | some E => mm_ok tmi tcl tws tnF tnM 128 110 pc E) = true := by decide +kernel
theorem tp_110 : ∀ pc E, ttb 110 pc = some E → mm_ok tmi tcl tws tnF tnM 128 110 pc E = true := tq_in tk_110
set_option maxRecDepth 100000 in
theorem tk_111 : (List.range 6).all (fun pc => match tt_111 pc with | none => true | some E => mm_ok tmi tcl tws tnF tnM 128 111 pc E) = true := by decide +kernel
theorem tp_111 : ∀ pc E, ttb 111 pc = some E → mm_ok tmi tcl tws tnF tnM 128 111 pc E = true := tq_in tk_111
set_option maxRecDepth 100000 in
theorem tk_112 : (List.range 5).all (fun pc => match tt_112 pc with | none => true | some E => mm_ok tmi tcl tws tnF tnM 128 112 pc E) = true := by decide +kernel
theorem tp_112 : ∀ pc E, ttb 112 pc = some E → mm_ok tmi tcl tws tnF tnM 128 112 pc E = true := tq_in tk_112
set_option maxRecDepth 100000 in
theorem tk_113 : (List.range 26).all (fun pc => match tt_113 pc with | none => true | some E => mm_ok tmi tcl tws tnF tnM 128 113 pc E) = true := by decide +kernel
theorem tp_113 : ∀ pc E, ttb 113 pc = some E → mm_ok tmi tcl tws tnF tnM 128 113 pc E = true := tq_in tk_113
set_option maxRecDepth 100000 in
theorem tk_114 : (List.range 18).all (fun pc => match tt_114 pc with | none => true | some E => mm_ok tmi tcl tws tnF tnM 128 114 pc E) = true := by decide +kernel
theorem tp_114 : ∀ pc E, ttb 114 pc = some E → mm_ok tmi tcl tws tnF tnM 128 114 pc E = true := tq_in tk_114
set_option maxRecDepth 100000 in
theorem tk_115 : (List.range 347).all (fun pc => match tt_115 pc with | none => true | some E => mm_ok tmi tcl tws tnF tnM 128 115 pc E) = true := by decide +kernel
theorem tp_115 : ∀ pc E, ttb 115 pc = some E → mm_ok tmi tcl tws tnF tnM 128 115 pc E = true := tq_in tk_115
set_option maxRecDepth 100000 in
theorem tk_116 : (List.range 104).all (fun pc => match tt_116 pc with | none => true | some E => mm_ok tmi tcl tws tnF tnM 128 116 pc E) = true := by decide +kernel
theorem tp_116 : ∀ pc E, ttb 116 pc = some E → mm_ok tmi tcl tws tnF tnM 128 116 pc E = true := tq_in tk_116
set_option maxRecDepth 100000 in
theorem tk_117 : (List.range 66).all (fun pc => match tt_117 pc with | none => true | some E => mm_ok tmi tcl tws tnF tnM 128 117 pc E) = true := by decide +kernel
theorem tp_117 : ∀ pc E, ttb 117 pc = some E → mm_ok tmi tcl tws tnF tnM 128 117 pc E = true := tq_in tk_117
set_option maxRecDepth 100000 in
theorem tk_118 : (List.range 21).all (fun pc => match tt_118 pc with | none => true | some E => mm_ok tmi tcl tws tnF tnM 128 118 pc E) = true := by decide +kernel
theorem tp_118 : ∀ pc E, ttb 118 pc = some E → mm_ok tmi tcl tws tnF tnM 128 118 pc E = true := tq_in tk_118
set_option maxRecDepth 100000 in
theorem tk_119 : (List.range 52).all (fun pc => match tt_119 pc with | none => true | some E => mm_ok tmi tcl tws tnF tnM 128 119 pc E) = true := by decide +kernel
theorem tp_119 : ∀ pc E, ttb 119 pc = some E → mm_ok tmi tcl tws tnF tnM 128 119 pc E = true := tq_in tk_119
set_option maxRecDepth 100000 in
theorem tk_120 : (List.range 87).all (fun pc => match tt_120 pc with | none => true | some E => mm_ok tmi tcl tws tnF tnM 128 120 pc E) = true := by decide +kernel
theorem tp_120 : ∀ pc E, ttb 120 pc = some E → mm_ok tmi tcl tws tnF tnM 128 120 pc E = true := tq_in tk_120
set_option maxRecDepth 100000 in
theorem tk_121 : (List.range 64).all (fun pc => match tt_121 pc with | none => true | some E => mm_ok tmi tcl tws tnF tnM 128 121 pc E) = true := by decide +kernel
theorem tp_121 : ∀ pc E, ttb 121 pc = some E → mm_ok tmi tcl tws tnF tnM 128 121 pc E = true := tq_in tk_121
set_option maxRecDepth 100000 in
theorem tk_122 : (List.range 280).all (fun pc => match tt_122 pc with | none => true | some E => mm_ok tmi tcl tws tnF tnM 128 122 pc E) = true := by decide +kernel
theorem tp_122 : ∀ pc E, ttb 122 pc = some E → mm_ok tmi tcl tws tnF tnM 128 122 pc E = true := tq_in tk_122
set_option maxRecDepth 100000 in
theorem tk_123 : (List.range 79).all (fun pc => match tt_123 pc with | none => true | some E => mm_ok tmi tcl tws tnF tnM 128 123 pc E) = true := by decide +kernel
theorem tp_123 : ∀ pc E, ttb 123 pc = some E → mm_ok tmi tcl tws tnF tnM 128 123 pc E = true := tq_in tk_123
set_option maxRecDepth 100000 in
theorem tk_124 : (List.range 86).all (fun pc => match tt_124 pc with | none => true | some E => mm_ok tmi tcl tws tnF tnM 128 124 pc E) = true := by decide +kernel
theorem tp_124 : ∀ pc E, ttb 124 pc = some E → mm_ok tmi tcl tws tnF tnM 128 124 pc E = true := tq_in tk_124
set_option maxRecDepth 100000 in
theorem tk_125 : (List.range 53).all (fun pc => match tt_125 pc with | none => true | some E => mm_ok tmi tcl tws tnF tnM 128 125 pc E) = true := by decide +kernel
theorem tp_125 : ∀ pc E, ttb 125 pc = some E → mm_ok tmi tcl tws tnF tnM 128 125 pc E = true := tq_in tk_125
end
section
set_option maxRecDepth 100000 in
theorem tk_126 : (List.range 5).all (fun pc => match tt_126 pc with | none => true | some E => mm_ok tmi tcl tws tnF tnM 128 126 pc E) = true := by decide +kernel
theorem tp_126 : ∀ pc E, ttb 126 pc = some E → mm_ok tmi tcl tws tnF tnM 128 126 pc E = true := tq_in tk_126
set_option maxRecDepth 100000 in
theorem tk_127 : (List.range 23).all (fun pc => match tt_127 pc with | none => true | some E => mm_ok tmi tcl tws tnF tnM 128 127 pc E) = true := by decide +kernel
theorem tp_127 : ∀ pc E, ttb 127 pc = some E → mm_ok tmi tcl tws tnF tnM 128 127 pc E = true := tq_in tk_127
end
section
set_option maxRecDepth 100000 in
theorem tk_128_0 : (List.range' 0 112).all (fun pc => match tt_128 pc with | none => true | some E => mm_ok tmi tcl tws tnF tnM 128 128 pc E) = true := by decide +kernel
end
section
set_option maxRecDepth 100000 in
theorem tk_128_1 : (List.range' 112 112).all (fun pc => match tt_128 pc with | none => true | some E => mm_ok tmi tcl tws tnF tnM 128 128 pc E) = true := by decide +kernel
end
section
set_option maxRecDepth 100000 in
theorem tk_128_2 : (List.range' 224 112).all (fun pc => match tt_128 pc with | none => true | some E => mm_ok tmi tcl tws tnF tnM 128 128 pc E) = true := by decide +kernel
end
section
set_option maxRecDepth 100000 in
theorem tk_128_3 : (List.range' 336 112).all (fun pc => match tt_128 pc with | none => true | some E => mm_ok tmi tcl tws tnF tnM 128 128 pc E) = true := by decide +kernel
end
section
set_option maxRecDepth 100000 in
theorem tk_128_4 : (List.range' 448 112).all (fun pc => match tt_128 pc with | none => true | some E => mm_ok tmi tcl tws tnF tnM 128 128 pc E) = true := by decide +kernel
end
section
set_option maxRecDepth 100000 in
theorem tk_128_5 : (List.range' 560 104).all (fun pc => match tt_128 pc with | none => true | some E => mm_ok tmi tcl tws tnF tnM 128 128 pc E) = true := by decide +kernel
end
section
theorem tk_128 : (List.range 664).all (fun pc => match tt_128 pc with | none => true | some E => mm_ok tmi tcl tws tnF tnM 128 128 pc E) = true := by
  refine List.all_eq_true.mpr fun pc hpc => ?_
  have hl := List.mem_range.mp hpc
  by_cases h0 : pc < 112
  · exact List.all_eq_true.mp tk_128_0 pc (List.mem_range'_1.mpr ⟨by omega, by omega⟩)
  by_cases h1 : pc < 224
  · exact List.all_eq_true.mp tk_128_1 pc (List.mem_range'_1.mpr ⟨by omega, by omega⟩)
  by_cases h2 : pc < 336
  · exact List.all_eq_true.mp tk_128_2 pc (List.mem_range'_1.mpr ⟨by omega, by omega⟩)
  by_cases h3 : pc < 448
  · exact List.all_eq_true.mp tk_128_3 pc (List.mem_range'_1.mpr ⟨by omega, by omega⟩)
  by_cases h4 : pc < 560
  · exact List.all_eq_true.mp tk_128_4 pc (List.mem_range'_1.mpr ⟨by omega, by omega⟩)
  by_cases h5 : pc < 664
  · exact List.all_eq_true.mp tk_128_5 pc (List.mem_range'_1.mpr ⟨by omega, by omega⟩)
  omega
theorem tp_128 : ∀ pc E, ttb 128 pc = some E → mm_ok tmi tcl tws tnF tnM 128 128 pc E = true := tq_in tk_128
end
section
theorem tk_all : ∀ w ∈ ([0, 1, 2, 3, 4, 5, 6, 7, 8, 9, 10, 11, 12, 13, 14, 15, 16, 17, 18, 19, 20, 21, 22, 23, 24, 25, 26, 27, 28, 29, 30, 31, 32, 33, 34, 35, 36, 37, 38, 39, 40, 41, 42, 43, 44, 45, 46, 47, 48, 49, 50, 51, 52, 53, 54, 55, 56, 57, 58, 59, 60, 61, 62, 63, 64, 65, 66, 67, 68, 69, 70, 71, 72, 73, 74, 75, 76, 77, 78, 79, 80, 81, 82, 83, 84, 85, 86, 87, 88, 89, 90, 91, 92, 93, 94, 95, 96, 97, 98, 99, 100, 101, 102, 103, 104, 105, 106, 107, 108, 109, 110, 111, 112, 113, 114, 115, 116, 117, 118, 119, 120, 121, 122, 123, 124, 125, 126, 127, 128] : List Nat), ∀ pc E, ttb w pc = some E → mm_ok tmi tcl tws tnF tnM 128 w pc E = true := List.forall_mem_cons.mpr ⟨tp_0, List.forall_mem_cons.mpr ⟨tp_1, List.forall_mem_cons.mpr ⟨tp_2, List.forall_mem_cons.mpr ⟨tp_3, List.forall_mem_cons.mpr ⟨tp_4, List.forall_mem_cons.mpr ⟨tp_5, List.forall_mem_cons.mpr ⟨tp_6, List.forall_mem_cons.mpr ⟨tp_7, List.forall_mem_cons.mpr ⟨tp_8, List.forall_mem_cons.mpr ⟨tp_9, List.forall_mem_cons.mpr ⟨tp_10, List.forall_mem_cons.mpr ⟨tp_11, List.forall_mem_cons.mpr ⟨tp_12, List.forall_mem_cons.mpr ⟨tp_13, List.forall_mem_cons.mpr ⟨tp_14, List.forall_mem_cons.mpr ⟨tp_15, List.forall_mem_cons.mpr ⟨tp_16, List.forall_mem_cons.mpr ⟨tp_17, List.forall_mem_cons.mpr ⟨tp_18, List.forall_mem_cons.mpr ⟨tp_19, List.forall_mem_cons.mpr ⟨tp_20, List.forall_mem_cons.mpr ⟨tp_21, List.forall_mem_cons.mpr ⟨tp_22, List.forall_mem_cons.mpr ⟨tp_23, List.forall_mem_cons.mpr ⟨tp_24, List.forall_mem_cons.mpr ⟨tp_25, List.forall_mem_cons.mpr ⟨tp_26, List.forall_mem_cons.mpr ⟨tp_27, List.forall_mem_cons.mpr ⟨tp_28, List.forall_mem_cons.mpr ⟨tp_29, List.forall_mem_cons.mpr ⟨tp_30, List.forall_mem_cons.mpr ⟨tp_31, List.forall_mem_cons.mpr ⟨tp_32, List.forall_mem_cons.mpr ⟨tp_33, List.forall_mem_cons.mpr ⟨tp_34, List.forall_mem_cons.mpr ⟨tp_35, List.forall_mem_cons.mpr ⟨tp_36, List.forall_mem_cons.mpr ⟨tp_37, List.forall_mem_cons.mpr ⟨tp_38, List.forall_mem_cons.mpr ⟨tp_39, List.forall_mem_cons.mpr ⟨tp_40, List.forall_mem_cons.mpr ⟨tp_41, List.forall_mem_cons.mpr ⟨tp_42, List.forall_mem_cons.mpr ⟨tp_43, List.forall_mem_cons.mpr ⟨tp_44, List.forall_mem_cons.mpr ⟨tp_45, List.forall_mem_cons.mpr ⟨tp_46, List.forall_mem_cons.mpr ⟨tp_47, List.forall_mem_cons.mpr ⟨tp_48, List.forall_mem_cons.mpr ⟨tp_49, List.forall_mem_cons.mpr ⟨tp_50, List.forall_mem_cons.mpr ⟨tp_51, List.forall_mem_cons.mpr ⟨tp_52, List.forall_mem_cons.mpr ⟨tp_53, List.forall_mem_cons.mpr ⟨tp_54, List.forall_mem_cons.mpr ⟨tp_55, List.forall_mem_cons.mpr ⟨tp_56, List.forall_mem_cons.mpr ⟨tp_57, List.forall_mem_cons.mpr ⟨tp_58, List.forall_mem_cons.mpr ⟨tp_59, List.forall_mem_cons.mpr ⟨tp_60, List.forall_mem_cons.mpr ⟨tp_61, List.forall_mem_cons.mpr ⟨tp_62, List.forall_mem_cons.mpr ⟨tp_63, List.forall_mem_cons.mpr ⟨tp_64, List.forall_mem_cons.mpr ⟨tp_65, List.forall_mem_cons.mpr ⟨tp_66, List.forall_mem_cons.mpr ⟨tp_67, List.forall_mem_cons.mpr ⟨tp_68, List.forall_mem_cons.mpr ⟨tp_69, List.forall_mem_cons.mpr ⟨tp_70, List.forall_mem_cons.mpr ⟨tp_71, List.forall_mem_cons.mpr ⟨tp_72, List.forall_mem_cons.mpr ⟨tp_73, List.forall_mem_cons.mpr ⟨tp_74, List.forall_mem_cons.mpr ⟨tp_75, List.forall_mem_cons.mpr ⟨tp_76, List.forall_mem_cons.mpr ⟨tp_77, List.forall_mem_cons.mpr ⟨tp_78, List.forall_mem_cons.mpr ⟨tp_79, List.forall_mem_cons.mpr ⟨tp_80, List.forall_mem_cons.mpr ⟨tp_81, List.forall_mem_cons.mpr ⟨tp_82, List.forall_mem_cons.mpr ⟨tp_83, List.forall_mem_cons.mpr ⟨tp_84, List.forall_mem_cons.mpr ⟨tp_85, List.forall_mem_cons.mpr ⟨tp_86, List.forall_mem_cons.mpr ⟨tp_87, List.forall_mem_cons.mpr ⟨tp_88, List.forall_mem_cons.mpr ⟨tp_89, List.forall_mem_cons.mpr ⟨tp_90, List.forall_mem_cons.mpr ⟨tp_91, List.forall_mem_cons.mpr ⟨tp_92, List.forall_mem_cons.mpr ⟨tp_93, List.forall_mem_cons.mpr ⟨tp_94, List.forall_mem_cons.mpr ⟨tp_95, List.forall_mem_cons.mpr ⟨tp_96, List.forall_mem_cons.mpr ⟨tp_97, List.forall_mem_cons.mpr ⟨tp_98, List.forall_mem_cons.mpr ⟨tp_99, List.forall_mem_cons.mpr ⟨tp_100, List.forall_mem_cons.mpr ⟨tp_101, List.forall_mem_cons.mpr ⟨tp_102, List.forall_mem_cons.mpr ⟨tp_103, List.forall_mem_cons.mpr ⟨tp_104, List.forall_mem_cons.mpr ⟨tp_105, List.forall_mem_cons.mpr ⟨tp_106, List.forall_mem_cons.mpr ⟨tp_107, List.forall_mem_cons.mpr ⟨tp_108, List.forall_mem_cons.mpr ⟨tp_109, List.forall_mem_cons.mpr ⟨tp_110, List.forall_mem_cons.mpr ⟨tp_111, List.forall_mem_cons.mpr ⟨tp_112, List.forall_mem_cons.mpr ⟨tp_113, List.forall_mem_cons.mpr ⟨tp_114, List.forall_mem_cons.mpr ⟨tp_115, List.forall_mem_cons.mpr ⟨tp_116, List.forall_mem_cons.mpr ⟨tp_117, List.forall_mem_cons.mpr ⟨tp_118, List.forall_mem_cons.mpr ⟨tp_119, List.forall_mem_cons.mpr ⟨tp_120, List.forall_mem_cons.mpr ⟨tp_121, List.forall_mem_cons.mpr ⟨tp_122, List.forall_mem_cons.mpr ⟨tp_123, List.forall_mem_cons.mpr ⟨tp_124, List.forall_mem_cons.mpr ⟨tp_125, List.forall_mem_cons.mpr ⟨tp_126, List.forall_mem_cons.mpr ⟨tp_127, List.forall_mem_cons.mpr ⟨tp_128,  fun _ h => absurd h List.not_mem_nil⟩⟩⟩⟩⟩⟩⟩⟩⟩⟩⟩⟩⟩⟩⟩⟩⟩⟩⟩⟩⟩⟩⟩⟩⟩⟩⟩⟩⟩⟩⟩⟩⟩⟩⟩⟩⟩⟩⟩⟩⟩⟩⟩⟩⟩⟩⟩⟩⟩⟩⟩⟩⟩⟩⟩⟩⟩⟩⟩⟩⟩⟩⟩⟩⟩⟩⟩⟩⟩⟩⟩⟩⟩⟩⟩⟩⟩⟩⟩⟩⟩⟩⟩⟩⟩⟩⟩⟩⟩⟩⟩⟩⟩⟩⟩⟩⟩⟩⟩⟩⟩⟩⟩⟩⟩⟩⟩⟩⟩⟩⟩⟩⟩⟩⟩⟩⟩⟩⟩⟩⟩⟩⟩⟩⟩⟩⟩⟩⟩
theorem tk_ok : ∀ w, w < 129 → ∀ pc E, ttb w pc = some E → mm_ok tmi tcl tws tnF tnM 128 w pc E = true := fun w hw => tk_all w (by have h := List.mem_range.mpr hw; exact h)
theorem tk_mi : ∀ y, y < 129 → mm_okm (tmi y) = true := fun y hy => List.all_eq_true.mp (show (List.range 129).all (fun y => mm_okm (tmi y)) = true by decide +kernel) y (List.mem_range.mpr hy)
theorem tk_ws : ∀ x ∈ tws, goodWord x = true := List.all_eq_true.mp (by decide +kernel)
theorem tk_cl : ∀ ci q, tcl[ci]? = some q → mm_okc tws (tdf ci) q = true := by
  intro ci q hq
  have hl : ci < 10 := (List.getElem?_eq_some_iff.mp hq).1
  have h1 : (List.range 10).all (fun ci => match tcl[ci]? with | none => true | some q => mm_okc tws (tdf ci) q) = true := by decide +kernel
  have h2 := List.all_eq_true.mp h1 ci (List.mem_range.mpr hl)
  rw [hq] at h2
  exact h2
end
section
-- ===== PART A: goes FIRST, ahead of the names: the tables' words, and 'selects' of the private methods out of them =====
/-- a private method of a class that the tables say can be made, by its rows of tables_1 -/
def lw_okq (q : MethodName × Nat) : Prop := (q.1.cls ≠ "java/lang/invoke/MethodHandle" ∧ q.1.cls ≠ "java/lang/invoke/VarHandle") ∧ Cond.instantiable q.1.cls q.2 ∈ tables_1 ∧ Cond.privateMethod q.1 ∈ tables_1 ∧ Cond.instanceMethod q.1 ∈ tables_1
theorem lw_p0 : lw_okq (⟨"ReplayedBeans$Reach", "visit", "(I)V"⟩, 4) := ⟨⟨by decide +kernel, by decide +kernel⟩, List.mem_of_getElem? (i := 75) (by decide +kernel), List.mem_of_getElem? (i := 363) (by decide +kernel), List.mem_of_getElem? (i := 364) (by decide +kernel)⟩
theorem lw_p1 : lw_okq (⟨"ReplayedBeans$Pairing", "join", "(II)Z"⟩, 5) := ⟨⟨by decide +kernel, by decide +kernel⟩, List.mem_of_getElem? (i := 97) (by decide +kernel), List.mem_of_getElem? (i := 379) (by decide +kernel), List.mem_of_getElem? (i := 380) (by decide +kernel)⟩
theorem lw_p2 : lw_okq (⟨"ReplayedBeans$Pairing", "linksPairUp", "(II)Z"⟩, 5) := ⟨⟨by decide +kernel, by decide +kernel⟩, List.mem_of_getElem? (i := 97) (by decide +kernel), List.mem_of_getElem? (i := 388) (by decide +kernel), List.mem_of_getElem? (i := 389) (by decide +kernel)⟩
theorem lw_p3 : lw_okq (⟨"ReplayedBeans$Pairing", "joinOrBothNone", "(II)Z"⟩, 5) := ⟨⟨by decide +kernel, by decide +kernel⟩, List.mem_of_getElem? (i := 97) (by decide +kernel), List.mem_of_getElem? (i := 393) (by decide +kernel), List.mem_of_getElem? (i := 394) (by decide +kernel)⟩
theorem lw_p4 : lw_okq (⟨"ReplayedBeans$Writer", "countLinks", "()V"⟩, 11) := ⟨⟨by decide +kernel, by decide +kernel⟩, List.mem_of_getElem? (i := 136) (by decide +kernel), List.mem_of_getElem? (i := 406) (by decide +kernel), List.mem_of_getElem? (i := 407) (by decide +kernel)⟩
theorem lw_p5 : lw_okq (⟨"ReplayedBeans$Writer", "putObject", "(II)V"⟩, 11) := ⟨⟨by decide +kernel, by decide +kernel⟩, List.mem_of_getElem? (i := 136) (by decide +kernel), List.mem_of_getElem? (i := 414) (by decide +kernel), List.mem_of_getElem? (i := 415) (by decide +kernel)⟩
theorem lw_p6 : lw_okq (⟨"ReplayedBeans$Writer", "put", "(C)V"⟩, 11) := ⟨⟨by decide +kernel, by decide +kernel⟩, List.mem_of_getElem? (i := 136) (by decide +kernel), List.mem_of_getElem? (i := 418) (by decide +kernel), List.mem_of_getElem? (i := 419) (by decide +kernel)⟩
theorem lw_p7 : lw_okq (⟨"ReplayedBeans$Writer", "isShared", "(I)Z"⟩, 11) := ⟨⟨by decide +kernel, by decide +kernel⟩, List.mem_of_getElem? (i := 136) (by decide +kernel), List.mem_of_getElem? (i := 427) (by decide +kernel), List.mem_of_getElem? (i := 428) (by decide +kernel)⟩
theorem lw_p8 : lw_okq (⟨"ReplayedBeans$Writer", "putWhole", "(I)V"⟩, 11) := ⟨⟨by decide +kernel, by decide +kernel⟩, List.mem_of_getElem? (i := 136) (by decide +kernel), List.mem_of_getElem? (i := 431) (by decide +kernel), List.mem_of_getElem? (i := 432) (by decide +kernel)⟩
theorem lw_p9 : lw_okq (⟨"ReplayedBeans$Writer", "putNumbers", "(I)V"⟩, 11) := ⟨⟨by decide +kernel, by decide +kernel⟩, List.mem_of_getElem? (i := 136) (by decide +kernel), List.mem_of_getElem? (i := 435) (by decide +kernel), List.mem_of_getElem? (i := 436) (by decide +kernel)⟩
theorem lw_p10 : lw_okq (⟨"ReplayedBeans$Writer", "putLinkStatement", "(III)V"⟩, 11) := ⟨⟨by decide +kernel, by decide +kernel⟩, List.mem_of_getElem? (i := 136) (by decide +kernel), List.mem_of_getElem? (i := 441) (by decide +kernel), List.mem_of_getElem? (i := 442) (by decide +kernel)⟩
theorem lw_p11 : lw_okq (⟨"ReplayedBeans$Grammar", "dueAfter", "(I)I"⟩, 4) := ⟨⟨by decide +kernel, by decide +kernel⟩, List.mem_of_getElem? (i := 181) (by decide +kernel), List.mem_of_getElem? (i := 482) (by decide +kernel), List.mem_of_getElem? (i := 483) (by decide +kernel)⟩
theorem lw_p12 : lw_okq (⟨"ReplayedBeans$Grammar", "opened", "()I"⟩, 4) := ⟨⟨by decide +kernel, by decide +kernel⟩, List.mem_of_getElem? (i := 181) (by decide +kernel), List.mem_of_getElem? (i := 486) (by decide +kernel), List.mem_of_getElem? (i := 487) (by decide +kernel)⟩
theorem lw_p13 : lw_okq (⟨"ReplayedBeans$Grammar", "idDigits", "()I"⟩, 4) := ⟨⟨by decide +kernel, by decide +kernel⟩, List.mem_of_getElem? (i := 181) (by decide +kernel), List.mem_of_getElem? (i := 490) (by decide +kernel), List.mem_of_getElem? (i := 491) (by decide +kernel)⟩
theorem lw_p14 : lw_okq (⟨"ReplayedBeans$Grammar", "afterBody", "(I)I"⟩, 4) := ⟨⟨by decide +kernel, by decide +kernel⟩, List.mem_of_getElem? (i := 181) (by decide +kernel), List.mem_of_getElem? (i := 494) (by decide +kernel), List.mem_of_getElem? (i := 495) (by decide +kernel)⟩
theorem lw_p15 : lw_okq (⟨"ReplayedBeans$Grammar", "closed", "()I"⟩, 4) := ⟨⟨by decide +kernel, by decide +kernel⟩, List.mem_of_getElem? (i := 181) (by decide +kernel), List.mem_of_getElem? (i := 504) (by decide +kernel), List.mem_of_getElem? (i := 505) (by decide +kernel)⟩
def lw_privs_1 : List (MethodName × Nat) := [(⟨"ReplayedBeans$Reach", "visit", "(I)V"⟩, 4), (⟨"ReplayedBeans$Pairing", "join", "(II)Z"⟩, 5), (⟨"ReplayedBeans$Pairing", "linksPairUp", "(II)Z"⟩, 5), (⟨"ReplayedBeans$Pairing", "joinOrBothNone", "(II)Z"⟩, 5), (⟨"ReplayedBeans$Writer", "countLinks", "()V"⟩, 11), (⟨"ReplayedBeans$Writer", "putObject", "(II)V"⟩, 11), (⟨"ReplayedBeans$Writer", "put", "(C)V"⟩, 11), (⟨"ReplayedBeans$Writer", "isShared", "(I)Z"⟩, 11), (⟨"ReplayedBeans$Writer", "putWhole", "(I)V"⟩, 11), (⟨"ReplayedBeans$Writer", "putNumbers", "(I)V"⟩, 11), (⟨"ReplayedBeans$Writer", "putLinkStatement", "(III)V"⟩, 11), (⟨"ReplayedBeans$Grammar", "dueAfter", "(I)I"⟩, 4), (⟨"ReplayedBeans$Grammar", "opened", "()I"⟩, 4), (⟨"ReplayedBeans$Grammar", "idDigits", "()I"⟩, 4), (⟨"ReplayedBeans$Grammar", "afterBody", "(I)I"⟩, 4), (⟨"ReplayedBeans$Grammar", "closed", "()I"⟩, 4)]
theorem lw_r1 : ∀ q ∈ lw_privs_1, lw_okq q := List.forall_mem_cons.mpr ⟨lw_p0, List.forall_mem_cons.mpr ⟨lw_p1, List.forall_mem_cons.mpr ⟨lw_p2, List.forall_mem_cons.mpr ⟨lw_p3, List.forall_mem_cons.mpr ⟨lw_p4, List.forall_mem_cons.mpr ⟨lw_p5, List.forall_mem_cons.mpr ⟨lw_p6, List.forall_mem_cons.mpr ⟨lw_p7, List.forall_mem_cons.mpr ⟨lw_p8, List.forall_mem_cons.mpr ⟨lw_p9, List.forall_mem_cons.mpr ⟨lw_p10, List.forall_mem_cons.mpr ⟨lw_p11, List.forall_mem_cons.mpr ⟨lw_p12, List.forall_mem_cons.mpr ⟨lw_p13, List.forall_mem_cons.mpr ⟨lw_p14, List.forall_mem_cons.mpr ⟨lw_p15, fun _ h => absurd h List.not_mem_nil⟩⟩⟩⟩⟩⟩⟩⟩⟩⟩⟩⟩⟩⟩⟩⟩
theorem lw_p16 : lw_okq (⟨"ReplayedBeans$Grammar", "afterDigit", "(I)I"⟩, 4) := ⟨⟨by decide +kernel, by decide +kernel⟩, List.mem_of_getElem? (i := 181) (by decide +kernel), List.mem_of_getElem? (i := 508) (by decide +kernel), List.mem_of_getElem? (i := 509) (by decide +kernel)⟩
theorem lw_p17 : lw_okq (⟨"ReplayedBeans$Grammar", "afterLinkValue", "(I)I"⟩, 4) := ⟨⟨by decide +kernel, by decide +kernel⟩, List.mem_of_getElem? (i := 181) (by decide +kernel), List.mem_of_getElem? (i := 515) (by decide +kernel), List.mem_of_getElem? (i := 516) (by decide +kernel)⟩
theorem lw_p18 : lw_okq (⟨"ReplayedBeans$Replay", "replayObject", "(I)I"⟩, 6) := ⟨⟨by decide +kernel, by decide +kernel⟩, List.mem_of_getElem? (i := 200) (by decide +kernel), List.mem_of_getElem? (i := 524) (by decide +kernel), List.mem_of_getElem? (i := 525) (by decide +kernel)⟩
theorem lw_p19 : lw_okq (⟨"ReplayedBeans$Replay", "fail", "(I)V"⟩, 6) := ⟨⟨by decide +kernel, by decide +kernel⟩, List.mem_of_getElem? (i := 200) (by decide +kernel), List.mem_of_getElem? (i := 530) (by decide +kernel), List.mem_of_getElem? (i := 531) (by decide +kernel)⟩
theorem lw_p20 : lw_okq (⟨"ReplayedBeans$Replay", "replayNaming", "(I)V"⟩, 6) := ⟨⟨by decide +kernel, by decide +kernel⟩, List.mem_of_getElem? (i := 200) (by decide +kernel), List.mem_of_getElem? (i := 534) (by decide +kernel), List.mem_of_getElem? (i := 535) (by decide +kernel)⟩
theorem lw_p21 : lw_okq (⟨"ReplayedBeans$Replay", "replayDigits", "(I)I"⟩, 6) := ⟨⟨by decide +kernel, by decide +kernel⟩, List.mem_of_getElem? (i := 200) (by decide +kernel), List.mem_of_getElem? (i := 538) (by decide +kernel), List.mem_of_getElem? (i := 539) (by decide +kernel)⟩
theorem lw_p22 : lw_okq (⟨"ReplayedBeans$Replay", "replayStatement", "(II)V"⟩, 6) := ⟨⟨by decide +kernel, by decide +kernel⟩, List.mem_of_getElem? (i := 200) (by decide +kernel), List.mem_of_getElem? (i := 544) (by decide +kernel), List.mem_of_getElem? (i := 545) (by decide +kernel)⟩
theorem lw_p23 : lw_okq (⟨"ReplayedBeans$Replay", "replayNumber", "()I"⟩, 6) := ⟨⟨by decide +kernel, by decide +kernel⟩, List.mem_of_getElem? (i := 200) (by decide +kernel), List.mem_of_getElem? (i := 549) (by decide +kernel), List.mem_of_getElem? (i := 550) (by decide +kernel)⟩
theorem lw_p24 : lw_okq (⟨"ReplayedBeans$Replay", "replayLinkValue", "(I)I"⟩, 6) := ⟨⟨by decide +kernel, by decide +kernel⟩, List.mem_of_getElem? (i := 200) (by decide +kernel), List.mem_of_getElem? (i := 554) (by decide +kernel), List.mem_of_getElem? (i := 555) (by decide +kernel)⟩
theorem lw_p25 : lw_okq (⟨"ReplayedBeans$Replay", "orFailed", "(I)I"⟩, 6) := ⟨⟨by decide +kernel, by decide +kernel⟩, List.mem_of_getElem? (i := 200) (by decide +kernel), List.mem_of_getElem? (i := 558) (by decide +kernel), List.mem_of_getElem? (i := 559) (by decide +kernel)⟩
theorem lw_p26 : lw_okq (⟨"ReplayedBeansModel", "isKind", "(I)Z"⟩, 36) := ⟨⟨by decide +kernel, by decide +kernel⟩, List.mem_of_getElem? (i := 575) (by decide +kernel), List.mem_of_getElem? (i := 698) (by decide +kernel), List.mem_of_getElem? (i := 699) (by decide +kernel)⟩
theorem lw_p27 : lw_okq (⟨"ReplayedBeansModel", "isObject", "(I)Z"⟩, 36) := ⟨⟨by decide +kernel, by decide +kernel⟩, List.mem_of_getElem? (i := 575) (by decide +kernel), List.mem_of_getElem? (i := 720) (by decide +kernel), List.mem_of_getElem? (i := 721) (by decide +kernel)⟩
theorem lw_p28 : lw_okq (⟨"ReplayedBeansModel", "hasNumber", "(II)Z"⟩, 36) := ⟨⟨by decide +kernel, by decide +kernel⟩, List.mem_of_getElem? (i := 575) (by decide +kernel), List.mem_of_getElem? (i := 728) (by decide +kernel), List.mem_of_getElem? (i := 729) (by decide +kernel)⟩
theorem lw_p29 : lw_okq (⟨"ReplayedBeansModel", "inRange", "(III)Z"⟩, 36) := ⟨⟨by decide +kernel, by decide +kernel⟩, List.mem_of_getElem? (i := 575) (by decide +kernel), List.mem_of_getElem? (i := 732) (by decide +kernel), List.mem_of_getElem? (i := 733) (by decide +kernel)⟩
theorem lw_p30 : lw_okq (⟨"ReplayedBeansModel", "hasLink", "(II)Z"⟩, 36) := ⟨⟨by decide +kernel, by decide +kernel⟩, List.mem_of_getElem? (i := 575) (by decide +kernel), List.mem_of_getElem? (i := 740) (by decide +kernel), List.mem_of_getElem? (i := 741) (by decide +kernel)⟩
theorem lw_p31 : lw_okq (⟨"ReplayedBeansModel", "spread", "(I)I"⟩, 36) := ⟨⟨by decide +kernel, by decide +kernel⟩, List.mem_of_getElem? (i := 575) (by decide +kernel), List.mem_of_getElem? (i := 756) (by decide +kernel), List.mem_of_getElem? (i := 757) (by decide +kernel)⟩
def lw_privs_2 : List (MethodName × Nat) := [(⟨"ReplayedBeans$Grammar", "afterDigit", "(I)I"⟩, 4), (⟨"ReplayedBeans$Grammar", "afterLinkValue", "(I)I"⟩, 4), (⟨"ReplayedBeans$Replay", "replayObject", "(I)I"⟩, 6), (⟨"ReplayedBeans$Replay", "fail", "(I)V"⟩, 6), (⟨"ReplayedBeans$Replay", "replayNaming", "(I)V"⟩, 6), (⟨"ReplayedBeans$Replay", "replayDigits", "(I)I"⟩, 6), (⟨"ReplayedBeans$Replay", "replayStatement", "(II)V"⟩, 6), (⟨"ReplayedBeans$Replay", "replayNumber", "()I"⟩, 6), (⟨"ReplayedBeans$Replay", "replayLinkValue", "(I)I"⟩, 6), (⟨"ReplayedBeans$Replay", "orFailed", "(I)I"⟩, 6), (⟨"ReplayedBeansModel", "isKind", "(I)Z"⟩, 36), (⟨"ReplayedBeansModel", "isObject", "(I)Z"⟩, 36), (⟨"ReplayedBeansModel", "hasNumber", "(II)Z"⟩, 36), (⟨"ReplayedBeansModel", "inRange", "(III)Z"⟩, 36), (⟨"ReplayedBeansModel", "hasLink", "(II)Z"⟩, 36), (⟨"ReplayedBeansModel", "spread", "(I)I"⟩, 36)]
theorem lw_r2 : ∀ q ∈ lw_privs_2, lw_okq q := List.forall_mem_cons.mpr ⟨lw_p16, List.forall_mem_cons.mpr ⟨lw_p17, List.forall_mem_cons.mpr ⟨lw_p18, List.forall_mem_cons.mpr ⟨lw_p19, List.forall_mem_cons.mpr ⟨lw_p20, List.forall_mem_cons.mpr ⟨lw_p21, List.forall_mem_cons.mpr ⟨lw_p22, List.forall_mem_cons.mpr ⟨lw_p23, List.forall_mem_cons.mpr ⟨lw_p24, List.forall_mem_cons.mpr ⟨lw_p25, List.forall_mem_cons.mpr ⟨lw_p26, List.forall_mem_cons.mpr ⟨lw_p27, List.forall_mem_cons.mpr ⟨lw_p28, List.forall_mem_cons.mpr ⟨lw_p29, List.forall_mem_cons.mpr ⟨lw_p30, List.forall_mem_cons.mpr ⟨lw_p31, fun _ h => absurd h List.not_mem_nil⟩⟩⟩⟩⟩⟩⟩⟩⟩⟩⟩⟩⟩⟩⟩⟩
theorem lw_p32 : lw_okq (⟨"ReplayedBeansModel", "join", "(II)Z"⟩, 36) := ⟨⟨by decide +kernel, by decide +kernel⟩, List.mem_of_getElem? (i := 575) (by decide +kernel), List.mem_of_getElem? (i := 765) (by decide +kernel), List.mem_of_getElem? (i := 766) (by decide +kernel)⟩
theorem lw_p33 : lw_okq (⟨"ReplayedBeansModel", "sameNumbers", "(II)Z"⟩, 36) := ⟨⟨by decide +kernel, by decide +kernel⟩, List.mem_of_getElem? (i := 575) (by decide +kernel), List.mem_of_getElem? (i := 769) (by decide +kernel), List.mem_of_getElem? (i := 770) (by decide +kernel)⟩
theorem lw_p34 : lw_okq (⟨"ReplayedBeansModel", "beginObject", "(II)V"⟩, 36) := ⟨⟨by decide +kernel, by decide +kernel⟩, List.mem_of_getElem? (i := 575) (by decide +kernel), List.mem_of_getElem? (i := 778) (by decide +kernel), List.mem_of_getElem? (i := 779) (by decide +kernel)⟩
theorem lw_p35 : lw_okq (⟨"ReplayedBeansModel", "put", "(I)V"⟩, 36) := ⟨⟨by decide +kernel, by decide +kernel⟩, List.mem_of_getElem? (i := 575) (by decide +kernel), List.mem_of_getElem? (i := 782) (by decide +kernel), List.mem_of_getElem? (i := 783) (by decide +kernel)⟩
theorem lw_p36 : lw_okq (⟨"ReplayedBeansModel", "leading", "(I)I"⟩, 36) := ⟨⟨by decide +kernel, by decide +kernel⟩, List.mem_of_getElem? (i := 575) (by decide +kernel), List.mem_of_getElem? (i := 786) (by decide +kernel), List.mem_of_getElem? (i := 787) (by decide +kernel)⟩
theorem lw_p37 : lw_okq (⟨"ReplayedBeansModel", "putNumber", "(I)V"⟩, 36) := ⟨⟨by decide +kernel, by decide +kernel⟩, List.mem_of_getElem? (i := 575) (by decide +kernel), List.mem_of_getElem? (i := 790) (by decide +kernel), List.mem_of_getElem? (i := 791) (by decide +kernel)⟩
theorem lw_p38 : lw_okq (⟨"ReplayedBeansModel", "go", "(Z)I"⟩, 36) := ⟨⟨by decide +kernel, by decide +kernel⟩, List.mem_of_getElem? (i := 575) (by decide +kernel), List.mem_of_getElem? (i := 814) (by decide +kernel), List.mem_of_getElem? (i := 815) (by decide +kernel)⟩
theorem lw_p39 : lw_okq (⟨"ReplayedBeansModel", "after", "(IZ)I"⟩, 36) := ⟨⟨by decide +kernel, by decide +kernel⟩, List.mem_of_getElem? (i := 575) (by decide +kernel), List.mem_of_getElem? (i := 818) (by decide +kernel), List.mem_of_getElem? (i := 819) (by decide +kernel)⟩
theorem lw_p40 : lw_okq (⟨"ReplayedBeansModel", "inside", "(IZ)I"⟩, 36) := ⟨⟨by decide +kernel, by decide +kernel⟩, List.mem_of_getElem? (i := 575) (by decide +kernel), List.mem_of_getElem? (i := 822) (by decide +kernel), List.mem_of_getElem? (i := 823) (by decide +kernel)⟩
theorem lw_p41 : lw_okq (⟨"ReplayedBeansModel", "settle", "()V"⟩, 36) := ⟨⟨by decide +kernel, by decide +kernel⟩, List.mem_of_getElem? (i := 575) (by decide +kernel), List.mem_of_getElem? (i := 826) (by decide +kernel), List.mem_of_getElem? (i := 827) (by decide +kernel)⟩
theorem lw_p42 : lw_okq (⟨"ReplayedBeansModel", "name", "()V"⟩, 36) := ⟨⟨by decide +kernel, by decide +kernel⟩, List.mem_of_getElem? (i := 575) (by decide +kernel), List.mem_of_getElem? (i := 830) (by decide +kernel), List.mem_of_getElem? (i := 831) (by decide +kernel)⟩
theorem lw_p43 : lw_okq (⟨"ReplayedBeansModel", "fail", "(I)V"⟩, 36) := ⟨⟨by decide +kernel, by decide +kernel⟩, List.mem_of_getElem? (i := 575) (by decide +kernel), List.mem_of_getElem? (i := 834) (by decide +kernel), List.mem_of_getElem? (i := 835) (by decide +kernel)⟩
theorem lw_p44 : lw_okq (⟨"ReplayedBeansModel", "assignNumber", "()V"⟩, 36) := ⟨⟨by decide +kernel, by decide +kernel⟩, List.mem_of_getElem? (i := 575) (by decide +kernel), List.mem_of_getElem? (i := 838) (by decide +kernel), List.mem_of_getElem? (i := 839) (by decide +kernel)⟩
theorem lw_p45 : lw_okq (⟨"ReplayedBeansModel", "assignLink", "(IZ)V"⟩, 36) := ⟨⟨by decide +kernel, by decide +kernel⟩, List.mem_of_getElem? (i := 575) (by decide +kernel), List.mem_of_getElem? (i := 842) (by decide +kernel), List.mem_of_getElem? (i := 843) (by decide +kernel)⟩
theorem lw_p46 : lw_okq (⟨"ReplayedBeansModel", "note", "(IIIZ)V"⟩, 36) := ⟨⟨by decide +kernel, by decide +kernel⟩, List.mem_of_getElem? (i := 575) (by decide +kernel), List.mem_of_getElem? (i := 849) (by decide +kernel), List.mem_of_getElem? (i := 850) (by decide +kernel)⟩
theorem lw_p47 : lw_okq (⟨"ReplayedBeansModel", "close", "(Z)V"⟩, 36) := ⟨⟨by decide +kernel, by decide +kernel⟩, List.mem_of_getElem? (i := 575) (by decide +kernel), List.mem_of_getElem? (i := 854) (by decide +kernel), List.mem_of_getElem? (i := 855) (by decide +kernel)⟩
def lw_privs_3 : List (MethodName × Nat) := [(⟨"ReplayedBeansModel", "join", "(II)Z"⟩, 36), (⟨"ReplayedBeansModel", "sameNumbers", "(II)Z"⟩, 36), (⟨"ReplayedBeansModel", "beginObject", "(II)V"⟩, 36), (⟨"ReplayedBeansModel", "put", "(I)V"⟩, 36), (⟨"ReplayedBeansModel", "leading", "(I)I"⟩, 36), (⟨"ReplayedBeansModel", "putNumber", "(I)V"⟩, 36), (⟨"ReplayedBeansModel", "go", "(Z)I"⟩, 36), (⟨"ReplayedBeansModel", "after", "(IZ)I"⟩, 36), (⟨"ReplayedBeansModel", "inside", "(IZ)I"⟩, 36), (⟨"ReplayedBeansModel", "settle", "()V"⟩, 36), (⟨"ReplayedBeansModel", "name", "()V"⟩, 36), (⟨"ReplayedBeansModel", "fail", "(I)V"⟩, 36), (⟨"ReplayedBeansModel", "assignNumber", "()V"⟩, 36), (⟨"ReplayedBeansModel", "assignLink", "(IZ)V"⟩, 36), (⟨"ReplayedBeansModel", "note", "(IIIZ)V"⟩, 36), (⟨"ReplayedBeansModel", "close", "(Z)V"⟩, 36)]
theorem lw_r3 : ∀ q ∈ lw_privs_3, lw_okq q := List.forall_mem_cons.mpr ⟨lw_p32, List.forall_mem_cons.mpr ⟨lw_p33, List.forall_mem_cons.mpr ⟨lw_p34, List.forall_mem_cons.mpr ⟨lw_p35, List.forall_mem_cons.mpr ⟨lw_p36, List.forall_mem_cons.mpr ⟨lw_p37, List.forall_mem_cons.mpr ⟨lw_p38, List.forall_mem_cons.mpr ⟨lw_p39, List.forall_mem_cons.mpr ⟨lw_p40, List.forall_mem_cons.mpr ⟨lw_p41, List.forall_mem_cons.mpr ⟨lw_p42, List.forall_mem_cons.mpr ⟨lw_p43, List.forall_mem_cons.mpr ⟨lw_p44, List.forall_mem_cons.mpr ⟨lw_p45, List.forall_mem_cons.mpr ⟨lw_p46, List.forall_mem_cons.mpr ⟨lw_p47, fun _ h => absurd h List.not_mem_nil⟩⟩⟩⟩⟩⟩⟩⟩⟩⟩⟩⟩⟩⟩⟩⟩
def lw_privs : List (MethodName × Nat) := lw_privs_1 ++ (lw_privs_2 ++ (lw_privs_3))
def lw_tbl : List Cond := k2_sels lw_privs ++ tables_1
theorem lw_privs_ok : ∀ q ∈ lw_privs, lw_okq q := by
  show ∀ q ∈ lw_privs_1 ++ (lw_privs_2 ++ (lw_privs_3)), lw_okq q
  exact List.forall_mem_append.mpr ⟨lw_r1, List.forall_mem_append.mpr ⟨lw_r2, lw_r3⟩⟩
end
section
set_option maxRecDepth 100000 in
theorem tk_wsp : tws = ([48, 49, 50, 51, 52, 53, 54, 55, 56, 57, 58, 59, 60, 61, 62, 63, 64, 66, 67, 69, 70, 71, 72, 74, 75, 76, 78, 79, 80, 81, 82, 83, 84, 86, 88, 90, 92, 94, 97, 98, 99, 100, 101, 102, 104, 105, 106, 107, 108, 109, 111, 113, 115, 117, 119, 122, 123, 124, 125, 127, 128, 129, 131, 132, 135, 137, 139, 141, 144, 145, 146, 147, 149, 150, 151, 152, 153, 154, 155, 157, 159, 161, 163, 166, 167, 169, 171, 172, 174, 177, 179, 182, 183, 184, 185, 186, 188, 189, 191, 192, 193, 194, 196, 197, 198, 199, 200, 201, 203, 205, 207, 209, 211, 213, 215, 217, 219, 221, 223, 225, 228, 229, 230, 231, 233, 234, 235, 236, 237, 238, 240, 242, 244, 247, 248, 249, 250, 252, 253, 254, 255, 256, 257, 259, 260, 262, 264, 266, 268, 270, 273, 274, 275, 276, 277, 278, 279, 280, 281, 283, 285, 287, 289, 291, 293, 295, 298, 299, 300, 302, 303, 304, 306, 307, 308, 310, 311, 312, 314, 315, 316, 318, 319, 320, 321, 322, 324, 325, 326, 328, 329, 330, 332, 333, 334, 336, 337, 338, 340, 341, 342, 344, 345, 346, 348, 349, 350, 352, 353, 354, 356, 357, 358, 360, 361, 362, 364, 365, 366, 368, 369, 370, 371, 373, 374, 375, 377, 378, 379, 381, 382, 383, 385, 386, 387, 389, 390, 391, 393, 394, 395, 396, 398, 399, 400, 402, 403, 404, 406, 407, 408, 410, 412, 414, 415, 416, 417, 418, 420, 421, 422, 424, 425, 426, 428, 430, 431, 432, 434, 435, 437, 439, 440, 442, 444, 445, 446, 448, 449, 450, 451, 453, 455, 457, 458, 459, 460, 461, 463, 465, 467, 469, 470, 471, 473, 474, 476, 478, 480, 482, 484, 486, 487, 488, 490, 492, 493, 494, 496, 497, 498, 499, 500, 501, 503, 504, 505, 506, 508, 509, 510, 512, 513, 514, 516, 517, 518, 520, 521, 522, 524, 525, 526, 528, 529, 531, 533, 535, 537, 539, 541, 543, 545, 546, 548, 549, 551, 553, 555, 557, 559, 560, 562, 564, 566, 567, 568, 570, 571, 573, 575, 576, 577, 579, 581, 583, 585, 587, 589, 590, 591, 593, 595, 596, 598, 600, 601, 603, 605, 607, 609, 610, 611, 612, 614, 615, 616, 618, 619, 620, 622, 623, 624, 625, 627, 628, 629, 630, 631, 632, 633, 634, 635, 636, 637, 638, 639, 640, 641, 642, 643, 644, 645, 646, 647, 648, 649, 650, 651, 652, 653, 654, 655, 656, 657, 658, 659, 660, 661, 662, 663, 664, 666, 668, 670, 672, 674, 676, 678, 680, 682, 684, 686, 688, 690, 692, 694, 696, 698, 700, 702, 704, 706, 708, 710, 712, 714, 716, 718, 720, 722, 724, 726, 728, 730, 732, 734, 737, 738, 739, 741, 742, 743, 745, 747, 749, 750, 751, 752, 753, 755, 756, 757, 759, 760, 761, 763, 764, 765, 767, 769, 771, 772, 773, 775, 777, 779, 781, 783, 784, 785, 787, 789, 791, 792, 793, 795, 796, 797, 799, 800, 801, 803, 805, 807, 808, 809, 810, 812, 814, 816, 818, 820, 821, 822, 823, 825, 827, 829, 831, 833, 835, 837, 839, 841, 842, 843, 845, 846, 847, 849, 850, 851, 853, 854, 855, 857, 858, 859, 861, 863, 865, 867, 869, 871, 873, 875, 877, 879, 881, 883, 885, 887, 889, 891, 893, 894, 896, 898, 900, 901, 903, 905, 906, 907, 909, 910, 911, 0, 1, 2, 3, 4, 5, 6, 7, 8, 9, 10, 11, 12, 13, 14, 15, 16, 17, 18, 19, 20, 21, 22, 23, 24, 25, 26, 27, 28, 29, 30, 31, 32, 33, 34, 35, 36, 37, 38, 39, 40, 41, 42, 43, 44, 45, 46, 47] : List Nat).filterMap (fun i => lw_tbl[i]?) := by decide +kernel
theorem tk_in : ∀ x ∈ tws, x ∈ lw_tbl := by
  intro x hx
  rw [tk_wsp] at hx
  obtain ⟨i, -, hi⟩ := List.mem_filterMap.mp hx
  exact List.mem_of_getElem? hi
set_option maxRecDepth 100000 in
theorem tc_0 : mm_cw tm_0 ∈ lw_tbl := List.mem_of_getElem? (i := 77) rfl
set_option maxRecDepth 100000 in
theorem tc_1 : mm_cw tm_1 ∈ lw_tbl := List.mem_of_getElem? (i := 65) rfl
set_option maxRecDepth 100000 in
theorem tc_2 : mm_cw tm_2 ∈ lw_tbl := List.mem_of_getElem? (i := 301) rfl
set_option maxRecDepth 100000 in
theorem tc_3 : mm_cw tm_3 ∈ lw_tbl := List.mem_of_getElem? (i := 309) rfl
set_option maxRecDepth 100000 in
theorem tc_4 : mm_cw tm_4 ∈ lw_tbl := List.mem_of_getElem? (i := 323) rfl
set_option maxRecDepth 100000 in
theorem tc_5 : mm_cw tm_5 ∈ lw_tbl := List.mem_of_getElem? (i := 339) rfl
set_option maxRecDepth 100000 in
theorem tc_6 : mm_cw tm_6 ∈ lw_tbl := List.mem_of_getElem? (i := 347) rfl
set_option maxRecDepth 100000 in
theorem tc_7 : mm_cw tm_7 ∈ lw_tbl := List.mem_of_getElem? (i := 351) rfl
set_option maxRecDepth 100000 in
theorem tc_8 : mm_cw tm_8 ∈ lw_tbl := List.mem_of_getElem? (i := 363) rfl
set_option maxRecDepth 100000 in
theorem tc_9 : mm_cw tm_9 ∈ lw_tbl := List.mem_of_getElem? (i := 376) rfl
set_option maxRecDepth 100000 in
theorem tc_10 : mm_cw tm_10 ∈ lw_tbl := List.mem_of_getElem? (i := 388) rfl
set_option maxRecDepth 100000 in
theorem tc_11 : mm_cw tm_11 ∈ lw_tbl := List.mem_of_getElem? (i := 397) rfl
set_option maxRecDepth 100000 in
theorem tc_12 : mm_cw tm_12 ∈ lw_tbl := List.mem_of_getElem? (i := 405) rfl
set_option maxRecDepth 100000 in
theorem tc_13 : mm_cw tm_13 ∈ lw_tbl := List.mem_of_getElem? (i := 419) rfl
set_option maxRecDepth 100000 in
theorem tc_14 : mm_cw tm_14 ∈ lw_tbl := List.mem_of_getElem? (i := 447) rfl
set_option maxRecDepth 100000 in
theorem tc_15 : mm_cw tm_15 ∈ lw_tbl := List.mem_of_getElem? (i := 502) rfl
set_option maxRecDepth 100000 in
theorem tc_16 : mm_cw tm_16 ∈ lw_tbl := List.mem_of_getElem? (i := 507) rfl
set_option maxRecDepth 100000 in
theorem tc_17 : mm_cw tm_17 ∈ lw_tbl := List.mem_of_getElem? (i := 511) rfl
set_option maxRecDepth 100000 in
theorem tc_18 : mm_cw tm_18 ∈ lw_tbl := List.mem_of_getElem? (i := 515) rfl
set_option maxRecDepth 100000 in
theorem tc_19 : mm_cw tm_19 ∈ lw_tbl := List.mem_of_getElem? (i := 523) rfl
set_option maxRecDepth 100000 in
theorem tc_20 : mm_cw tm_20 ∈ lw_tbl := List.mem_of_getElem? (i := 613) rfl
set_option maxRecDepth 100000 in
theorem tc_21 : mm_cw tm_21 ∈ lw_tbl := List.mem_of_getElem? (i := 617) rfl
set_option maxRecDepth 100000 in
theorem tc_22 : mm_cw tm_22 ∈ lw_tbl := List.mem_of_getElem? (i := 73) rfl
set_option maxRecDepth 100000 in
theorem tc_23 : mm_cw tm_23 ∈ lw_tbl := List.mem_of_getElem? (i := 331) rfl
set_option maxRecDepth 100000 in
theorem tc_24 : mm_cw tm_24 ∈ lw_tbl := List.mem_of_getElem? (i := 317) rfl
set_option maxRecDepth 100000 in
theorem tc_25 : mm_cw tm_25 ∈ lw_tbl := List.mem_of_getElem? (i := 384) rfl
set_option maxRecDepth 100000 in
theorem tc_26 : mm_cw tm_26 ∈ lw_tbl := List.mem_of_getElem? (i := 305) rfl
set_option maxRecDepth 100000 in
theorem tc_27 : mm_cw tm_27 ∈ lw_tbl := List.mem_of_getElem? (i := 313) rfl
set_option maxRecDepth 100000 in
theorem tc_28 : mm_cw tm_28 ∈ lw_tbl := List.mem_of_getElem? (i := 335) rfl
set_option maxRecDepth 100000 in
theorem tc_29 : mm_cw tm_29 ∈ lw_tbl := List.mem_of_getElem? (i := 372) rfl
set_option maxRecDepth 100000 in
theorem tc_30 : mm_cw tm_30 ∈ lw_tbl := List.mem_of_getElem? (i := 103) rfl
set_option maxRecDepth 100000 in
theorem tc_31 : mm_cw tm_31 ∈ lw_tbl := List.mem_of_getElem? (i := 359) rfl
set_option maxRecDepth 100000 in
theorem tc_32 : mm_cw tm_32 ∈ lw_tbl := List.mem_of_getElem? (i := 327) rfl
set_option maxRecDepth 100000 in
theorem tc_33 : mm_cw tm_33 ∈ lw_tbl := List.mem_of_getElem? (i := 343) rfl
set_option maxRecDepth 100000 in
theorem tc_34 : mm_cw tm_34 ∈ lw_tbl := List.mem_of_getElem? (i := 355) rfl
set_option maxRecDepth 100000 in
theorem tc_35 : mm_cw tm_35 ∈ lw_tbl := List.mem_of_getElem? (i := 367) rfl
set_option maxRecDepth 100000 in
theorem tc_36 : mm_cw tm_36 ∈ lw_tbl := List.mem_of_getElem? (i := 380) rfl
set_option maxRecDepth 100000 in
theorem tc_37 : mm_cw tm_37 ∈ lw_tbl := List.mem_of_getElem? (i := 392) rfl
set_option maxRecDepth 100000 in
theorem tc_38 : mm_cw tm_38 ∈ lw_tbl := List.mem_of_getElem? (i := 401) rfl
set_option maxRecDepth 100000 in
theorem tc_39 : mm_cw tm_39 ∈ lw_tbl := List.mem_of_getElem? (i := 433) rfl
set_option maxRecDepth 100000 in
theorem tc_40 : mm_cw tm_40 ∈ lw_tbl := List.mem_of_getElem? (i := 126) rfl
set_option maxRecDepth 100000 in
theorem tc_41 : mm_cw tm_41 ∈ lw_tbl := List.mem_of_getElem? (i := 409) rfl
set_option maxRecDepth 100000 in
theorem tc_42 : mm_cw tm_42 ∈ lw_tbl := List.mem_of_getElem? (i := 413) rfl
set_option maxRecDepth 100000 in
theorem tc_43 : mm_cw tm_43 ∈ lw_tbl := List.mem_of_getElem? (i := 148) rfl
set_option maxRecDepth 100000 in
theorem tc_44 : mm_cw tm_44 ∈ lw_tbl := List.mem_of_getElem? (i := 423) rfl
set_option maxRecDepth 100000 in
theorem tc_45 : mm_cw tm_45 ∈ lw_tbl := List.mem_of_getElem? (i := 438) rfl
set_option maxRecDepth 100000 in
theorem tc_46 : mm_cw tm_46 ∈ lw_tbl := List.mem_of_getElem? (i := 443) rfl
set_option maxRecDepth 100000 in
theorem tc_47 : mm_cw tm_47 ∈ lw_tbl := List.mem_of_getElem? (i := 429) rfl
set_option maxRecDepth 100000 in
theorem tc_48 : mm_cw tm_48 ∈ lw_tbl := List.mem_of_getElem? (i := 170) rfl
set_option maxRecDepth 100000 in
theorem tc_49 : mm_cw tm_49 ∈ lw_tbl := List.mem_of_getElem? (i := 472) rfl
set_option maxRecDepth 100000 in
theorem tc_50 : mm_cw tm_50 ∈ lw_tbl := List.mem_of_getElem? (i := 519) rfl
set_option maxRecDepth 100000 in
theorem tc_51 : mm_cw tm_51 ∈ lw_tbl := List.mem_of_getElem? (i := 495) rfl
set_option maxRecDepth 100000 in
theorem tc_52 : mm_cw tm_52 ∈ lw_tbl := List.mem_of_getElem? (i := 187) rfl
set_option maxRecDepth 100000 in
theorem tc_53 : mm_cw tm_53 ∈ lw_tbl := List.mem_of_getElem? (i := 452) rfl
set_option maxRecDepth 100000 in
theorem tc_54 : mm_cw tm_54 ∈ lw_tbl := List.mem_of_getElem? (i := 456) rfl
set_option maxRecDepth 100000 in
theorem tc_55 : mm_cw tm_55 ∈ lw_tbl := List.mem_of_getElem? (i := 477) rfl
set_option maxRecDepth 100000 in
theorem tc_56 : mm_cw tm_56 ∈ lw_tbl := List.mem_of_getElem? (i := 464) rfl
set_option maxRecDepth 100000 in
theorem tc_57 : mm_cw tm_57 ∈ lw_tbl := List.mem_of_getElem? (i := 485) rfl
set_option maxRecDepth 100000 in
theorem tc_58 : mm_cw tm_58 ∈ lw_tbl := List.mem_of_getElem? (i := 491) rfl
set_option maxRecDepth 100000 in
theorem tc_59 : mm_cw tm_59 ∈ lw_tbl := List.mem_of_getElem? (i := 481) rfl
set_option maxRecDepth 100000 in
theorem tc_60 : mm_cw tm_60 ∈ lw_tbl := List.mem_of_getElem? (i := 468) rfl
set_option maxRecDepth 100000 in
theorem tc_61 : mm_cw tm_61 ∈ lw_tbl := List.mem_of_getElem? (i := 232) rfl
set_option maxRecDepth 100000 in
theorem tc_62 : mm_cw tm_62 ∈ lw_tbl := List.mem_of_getElem? (i := 527) rfl
set_option maxRecDepth 100000 in
theorem tc_63 : mm_cw tm_63 ∈ lw_tbl := List.mem_of_getElem? (i := 532) rfl
set_option maxRecDepth 100000 in
theorem tc_64 : mm_cw tm_64 ∈ lw_tbl := List.mem_of_getElem? (i := 536) rfl
set_option maxRecDepth 100000 in
theorem tc_65 : mm_cw tm_65 ∈ lw_tbl := List.mem_of_getElem? (i := 554) rfl
set_option maxRecDepth 100000 in
theorem tc_66 : mm_cw tm_66 ∈ lw_tbl := List.mem_of_getElem? (i := 540) rfl
set_option maxRecDepth 100000 in
theorem tc_67 : mm_cw tm_67 ∈ lw_tbl := List.mem_of_getElem? (i := 558) rfl
set_option maxRecDepth 100000 in
theorem tc_68 : mm_cw tm_68 ∈ lw_tbl := List.mem_of_getElem? (i := 544) rfl
set_option maxRecDepth 100000 in
theorem tc_69 : mm_cw tm_69 ∈ lw_tbl := List.mem_of_getElem? (i := 565) rfl
set_option maxRecDepth 100000 in
theorem tc_70 : mm_cw tm_70 ∈ lw_tbl := List.mem_of_getElem? (i := 561) rfl
set_option maxRecDepth 100000 in
theorem tc_71 : mm_cw tm_71 ∈ lw_tbl := List.mem_of_getElem? (i := 550) rfl
set_option maxRecDepth 100000 in
theorem tc_72 : mm_cw tm_72 ∈ lw_tbl := List.mem_of_getElem? (i := 547) rfl
set_option maxRecDepth 100000 in
theorem tc_73 : mm_cw tm_73 ∈ lw_tbl := List.mem_of_getElem? (i := 251) rfl
set_option maxRecDepth 100000 in
theorem tc_74 : mm_cw tm_74 ∈ lw_tbl := List.mem_of_getElem? (i := 569) rfl
set_option maxRecDepth 100000 in
theorem tc_75 : mm_cw tm_75 ∈ lw_tbl := List.mem_of_getElem? (i := 621) rfl
set_option maxRecDepth 100000 in
theorem tc_76 : mm_cw tm_76 ∈ lw_tbl := List.mem_of_getElem? (i := 580) rfl
set_option maxRecDepth 100000 in
theorem tc_77 : mm_cw tm_77 ∈ lw_tbl := List.mem_of_getElem? (i := 574) rfl
set_option maxRecDepth 100000 in
theorem tc_78 : mm_cw tm_78 ∈ lw_tbl := List.mem_of_getElem? (i := 584) rfl
set_option maxRecDepth 100000 in
theorem tc_79 : mm_cw tm_79 ∈ lw_tbl := List.mem_of_getElem? (i := 594) rfl
set_option maxRecDepth 100000 in
theorem tc_80 : mm_cw tm_80 ∈ lw_tbl := List.mem_of_getElem? (i := 599) rfl
set_option maxRecDepth 100000 in
theorem tc_81 : mm_cw tm_81 ∈ lw_tbl := List.mem_of_getElem? (i := 604) rfl
set_option maxRecDepth 100000 in
theorem tc_82 : mm_cw tm_82 ∈ lw_tbl := List.mem_of_getElem? (i := 608) rfl
set_option maxRecDepth 100000 in
theorem tc_83 : mm_cw tm_83 ∈ lw_tbl := List.mem_of_getElem? (i := 588) rfl
set_option maxRecDepth 100000 in
theorem tc_84 : mm_cw tm_84 ∈ lw_tbl := List.mem_of_getElem? (i := 626) rfl
set_option maxRecDepth 100000 in
theorem tc_85 : mm_cw tm_85 ∈ lw_tbl := List.mem_of_getElem? (i := 748) rfl
set_option maxRecDepth 100000 in
theorem tc_86 : mm_cw tm_86 ∈ lw_tbl := List.mem_of_getElem? (i := 740) rfl
set_option maxRecDepth 100000 in
theorem tc_87 : mm_cw tm_87 ∈ lw_tbl := List.mem_of_getElem? (i := 744) rfl
set_option maxRecDepth 100000 in
theorem tc_88 : mm_cw tm_88 ∈ lw_tbl := List.mem_of_getElem? (i := 770) rfl
set_option maxRecDepth 100000 in
theorem tc_89 : mm_cw tm_89 ∈ lw_tbl := List.mem_of_getElem? (i := 778) rfl
set_option maxRecDepth 100000 in
theorem tc_90 : mm_cw tm_90 ∈ lw_tbl := List.mem_of_getElem? (i := 790) rfl
set_option maxRecDepth 100000 in
theorem tc_91 : mm_cw tm_91 ∈ lw_tbl := List.mem_of_getElem? (i := 754) rfl
set_option maxRecDepth 100000 in
theorem tc_92 : mm_cw tm_92 ∈ lw_tbl := List.mem_of_getElem? (i := 758) rfl
set_option maxRecDepth 100000 in
theorem tc_93 : mm_cw tm_93 ∈ lw_tbl := List.mem_of_getElem? (i := 762) rfl
set_option maxRecDepth 100000 in
theorem tc_94 : mm_cw tm_94 ∈ lw_tbl := List.mem_of_getElem? (i := 766) rfl
set_option maxRecDepth 100000 in
theorem tc_95 : mm_cw tm_95 ∈ lw_tbl := List.mem_of_getElem? (i := 782) rfl
set_option maxRecDepth 100000 in
theorem tc_96 : mm_cw tm_96 ∈ lw_tbl := List.mem_of_getElem? (i := 774) rfl
set_option maxRecDepth 100000 in
theorem tc_97 : mm_cw tm_97 ∈ lw_tbl := List.mem_of_getElem? (i := 786) rfl
set_option maxRecDepth 100000 in
theorem tc_98 : mm_cw tm_98 ∈ lw_tbl := List.mem_of_getElem? (i := 794) rfl
set_option maxRecDepth 100000 in
theorem tc_99 : mm_cw tm_99 ∈ lw_tbl := List.mem_of_getElem? (i := 798) rfl
set_option maxRecDepth 100000 in
theorem tc_100 : mm_cw tm_100 ∈ lw_tbl := List.mem_of_getElem? (i := 806) rfl
set_option maxRecDepth 100000 in
theorem tc_101 : mm_cw tm_101 ∈ lw_tbl := List.mem_of_getElem? (i := 802) rfl
set_option maxRecDepth 100000 in
theorem tc_102 : mm_cw tm_102 ∈ lw_tbl := List.mem_of_getElem? (i := 815) rfl
set_option maxRecDepth 100000 in
theorem tc_103 : mm_cw tm_103 ∈ lw_tbl := List.mem_of_getElem? (i := 819) rfl
set_option maxRecDepth 100000 in
theorem tc_104 : mm_cw tm_104 ∈ lw_tbl := List.mem_of_getElem? (i := 811) rfl
set_option maxRecDepth 100000 in
theorem tc_105 : mm_cw tm_105 ∈ lw_tbl := List.mem_of_getElem? (i := 832) rfl
set_option maxRecDepth 100000 in
theorem tc_106 : mm_cw tm_106 ∈ lw_tbl := List.mem_of_getElem? (i := 840) rfl
set_option maxRecDepth 100000 in
theorem tc_107 : mm_cw tm_107 ∈ lw_tbl := List.mem_of_getElem? (i := 836) rfl
set_option maxRecDepth 100000 in
theorem tc_108 : mm_cw tm_108 ∈ lw_tbl := List.mem_of_getElem? (i := 828) rfl
set_option maxRecDepth 100000 in
theorem tc_109 : mm_cw tm_109 ∈ lw_tbl := List.mem_of_getElem? (i := 824) rfl
set_option maxRecDepth 100000 in
theorem tc_110 : mm_cw tm_110 ∈ lw_tbl := List.mem_of_getElem? (i := 844) rfl
set_option maxRecDepth 100000 in
theorem tc_111 : mm_cw tm_111 ∈ lw_tbl := List.mem_of_getElem? (i := 848) rfl
set_option maxRecDepth 100000 in
theorem tc_112 : mm_cw tm_112 ∈ lw_tbl := List.mem_of_getElem? (i := 852) rfl
set_option maxRecDepth 100000 in
theorem tc_113 : mm_cw tm_113 ∈ lw_tbl := List.mem_of_getElem? (i := 856) rfl
set_option maxRecDepth 100000 in
theorem tc_114 : mm_cw tm_114 ∈ lw_tbl := List.mem_of_getElem? (i := 895) rfl
set_option maxRecDepth 100000 in
theorem tc_115 : mm_cw tm_115 ∈ lw_tbl := List.mem_of_getElem? (i := 868) rfl
set_option maxRecDepth 100000 in
theorem tc_116 : mm_cw tm_116 ∈ lw_tbl := List.mem_of_getElem? (i := 872) rfl
set_option maxRecDepth 100000 in
theorem tc_117 : mm_cw tm_117 ∈ lw_tbl := List.mem_of_getElem? (i := 876) rfl
set_option maxRecDepth 100000 in
theorem tc_118 : mm_cw tm_118 ∈ lw_tbl := List.mem_of_getElem? (i := 884) rfl
set_option maxRecDepth 100000 in
theorem tc_119 : mm_cw tm_119 ∈ lw_tbl := List.mem_of_getElem? (i := 880) rfl
set_option maxRecDepth 100000 in
theorem tc_120 : mm_cw tm_120 ∈ lw_tbl := List.mem_of_getElem? (i := 888) rfl
set_option maxRecDepth 100000 in
theorem tc_121 : mm_cw tm_121 ∈ lw_tbl := List.mem_of_getElem? (i := 892) rfl
set_option maxRecDepth 100000 in
theorem tc_122 : mm_cw tm_122 ∈ lw_tbl := List.mem_of_getElem? (i := 899) rfl
set_option maxRecDepth 100000 in
theorem tc_123 : mm_cw tm_123 ∈ lw_tbl := List.mem_of_getElem? (i := 904) rfl
set_option maxRecDepth 100000 in
theorem tc_124 : mm_cw tm_124 ∈ lw_tbl := List.mem_of_getElem? (i := 864) rfl
set_option maxRecDepth 100000 in
theorem tc_125 : mm_cw tm_125 ∈ lw_tbl := List.mem_of_getElem? (i := 860) rfl
set_option maxRecDepth 100000 in
theorem tc_126 : mm_cw tm_126 ∈ lw_tbl := List.mem_of_getElem? (i := 908) rfl
set_option maxRecDepth 100000 in
theorem tc_127 : mm_cw tm_127 ∈ lw_tbl := List.mem_of_getElem? (i := 912) rfl
set_option maxRecDepth 100000 in
theorem tc_all : ∀ w ∈ ([0, 1, 2, 3, 4, 5, 6, 7, 8, 9, 10, 11, 12, 13, 14, 15, 16, 17, 18, 19, 20, 21, 22, 23, 24, 25, 26, 27, 28, 29, 30, 31, 32, 33, 34, 35, 36, 37, 38, 39, 40, 41, 42, 43, 44, 45, 46, 47, 48, 49, 50, 51, 52, 53, 54, 55, 56, 57, 58, 59, 60, 61, 62, 63, 64, 65, 66, 67, 68, 69, 70, 71, 72, 73, 74, 75, 76, 77, 78, 79, 80, 81, 82, 83, 84, 85, 86, 87, 88, 89, 90, 91, 92, 93, 94, 95, 96, 97, 98, 99, 100, 101, 102, 103, 104, 105, 106, 107, 108, 109, 110, 111, 112, 113, 114, 115, 116, 117, 118, 119, 120, 121, 122, 123, 124, 125, 126, 127] : List Nat), mm_cw (tmi w) ∈ lw_tbl := List.forall_mem_cons.mpr ⟨tc_0, List.forall_mem_cons.mpr ⟨tc_1, List.forall_mem_cons.mpr ⟨tc_2, List.forall_mem_cons.mpr ⟨tc_3, List.forall_mem_cons.mpr ⟨tc_4, List.forall_mem_cons.mpr ⟨tc_5, List.forall_mem_cons.mpr ⟨tc_6, List.forall_mem_cons.mpr ⟨tc_7, List.forall_mem_cons.mpr ⟨tc_8, List.forall_mem_cons.mpr ⟨tc_9, List.forall_mem_cons.mpr ⟨tc_10, List.forall_mem_cons.mpr ⟨tc_11, List.forall_mem_cons.mpr ⟨tc_12, List.forall_mem_cons.mpr ⟨tc_13, List.forall_mem_cons.mpr ⟨tc_14, List.forall_mem_cons.mpr ⟨tc_15, List.forall_mem_cons.mpr ⟨tc_16, List.forall_mem_cons.mpr ⟨tc_17, List.forall_mem_cons.mpr ⟨tc_18, List.forall_mem_cons.mpr ⟨tc_19, List.forall_mem_cons.mpr ⟨tc_20, List.forall_mem_cons.mpr ⟨tc_21, List.forall_mem_cons.mpr ⟨tc_22, List.forall_mem_cons.mpr ⟨tc_23, List.forall_mem_cons.mpr ⟨tc_24, List.forall_mem_cons.mpr ⟨tc_25, List.forall_mem_cons.mpr ⟨tc_26, List.forall_mem_cons.mpr ⟨tc_27, List.forall_mem_cons.mpr ⟨tc_28, List.forall_mem_cons.mpr ⟨tc_29, List.forall_mem_cons.mpr ⟨tc_30, List.forall_mem_cons.mpr ⟨tc_31, List.forall_mem_cons.mpr ⟨tc_32, List.forall_mem_cons.mpr ⟨tc_33, List.forall_mem_cons.mpr ⟨tc_34, List.forall_mem_cons.mpr ⟨tc_35, List.forall_mem_cons.mpr ⟨tc_36, List.forall_mem_cons.mpr ⟨tc_37, List.forall_mem_cons.mpr ⟨tc_38, List.forall_mem_cons.mpr ⟨tc_39, List.forall_mem_cons.mpr ⟨tc_40, List.forall_mem_cons.mpr ⟨tc_41, List.forall_mem_cons.mpr ⟨tc_42, List.forall_mem_cons.mpr ⟨tc_43, List.forall_mem_cons.mpr ⟨tc_44, List.forall_mem_cons.mpr ⟨tc_45, List.forall_mem_cons.mpr ⟨tc_46, List.forall_mem_cons.mpr ⟨tc_47, List.forall_mem_cons.mpr ⟨tc_48, List.forall_mem_cons.mpr ⟨tc_49, List.forall_mem_cons.mpr ⟨tc_50, List.forall_mem_cons.mpr ⟨tc_51, List.forall_mem_cons.mpr ⟨tc_52, List.forall_mem_cons.mpr ⟨tc_53, List.forall_mem_cons.mpr ⟨tc_54, List.forall_mem_cons.mpr ⟨tc_55, List.forall_mem_cons.mpr ⟨tc_56, List.forall_mem_cons.mpr ⟨tc_57, List.forall_mem_cons.mpr ⟨tc_58, List.forall_mem_cons.mpr ⟨tc_59, List.forall_mem_cons.mpr ⟨tc_60, List.forall_mem_cons.mpr ⟨tc_61, List.forall_mem_cons.mpr ⟨tc_62, List.forall_mem_cons.mpr ⟨tc_63, List.forall_mem_cons.mpr ⟨tc_64, List.forall_mem_cons.mpr ⟨tc_65, List.forall_mem_cons.mpr ⟨tc_66, List.forall_mem_cons.mpr ⟨tc_67, List.forall_mem_cons.mpr ⟨tc_68, List.forall_mem_cons.mpr ⟨tc_69, List.forall_mem_cons.mpr ⟨tc_70, List.forall_mem_cons.mpr ⟨tc_71, List.forall_mem_cons.mpr ⟨tc_72, List.forall_mem_cons.mpr ⟨tc_73, List.forall_mem_cons.mpr ⟨tc_74, List.forall_mem_cons.mpr ⟨tc_75, List.forall_mem_cons.mpr ⟨tc_76, List.forall_mem_cons.mpr ⟨tc_77, List.forall_mem_cons.mpr ⟨tc_78, List.forall_mem_cons.mpr ⟨tc_79, List.forall_mem_cons.mpr ⟨tc_80, List.forall_mem_cons.mpr ⟨tc_81, List.forall_mem_cons.mpr ⟨tc_82, List.forall_mem_cons.mpr ⟨tc_83, List.forall_mem_cons.mpr ⟨tc_84, List.forall_mem_cons.mpr ⟨tc_85, List.forall_mem_cons.mpr ⟨tc_86, List.forall_mem_cons.mpr ⟨tc_87, List.forall_mem_cons.mpr ⟨tc_88, List.forall_mem_cons.mpr ⟨tc_89, List.forall_mem_cons.mpr ⟨tc_90, List.forall_mem_cons.mpr ⟨tc_91, List.forall_mem_cons.mpr ⟨tc_92, List.forall_mem_cons.mpr ⟨tc_93, List.forall_mem_cons.mpr ⟨tc_94, List.forall_mem_cons.mpr ⟨tc_95, List.forall_mem_cons.mpr ⟨tc_96, List.forall_mem_cons.mpr ⟨tc_97, List.forall_mem_cons.mpr ⟨tc_98, List.forall_mem_cons.mpr ⟨tc_99, List.forall_mem_cons.mpr ⟨tc_100, List.forall_mem_cons.mpr ⟨tc_101, List.forall_mem_cons.mpr ⟨tc_102, List.forall_mem_cons.mpr ⟨tc_103, List.forall_mem_cons.mpr ⟨tc_104, List.forall_mem_cons.mpr ⟨tc_105, List.forall_mem_cons.mpr ⟨tc_106, List.forall_mem_cons.mpr ⟨tc_107, List.forall_mem_cons.mpr ⟨tc_108, List.forall_mem_cons.mpr ⟨tc_109, List.forall_mem_cons.mpr ⟨tc_110, List.forall_mem_cons.mpr ⟨tc_111, List.forall_mem_cons.mpr ⟨tc_112, List.forall_mem_cons.mpr ⟨tc_113, List.forall_mem_cons.mpr ⟨tc_114, List.forall_mem_cons.mpr ⟨tc_115, List.forall_mem_cons.mpr ⟨tc_116, List.forall_mem_cons.mpr ⟨tc_117, List.forall_mem_cons.mpr ⟨tc_118, List.forall_mem_cons.mpr ⟨tc_119, List.forall_mem_cons.mpr ⟨tc_120, List.forall_mem_cons.mpr ⟨tc_121, List.forall_mem_cons.mpr ⟨tc_122, List.forall_mem_cons.mpr ⟨tc_123, List.forall_mem_cons.mpr ⟨tc_124, List.forall_mem_cons.mpr ⟨tc_125, List.forall_mem_cons.mpr ⟨tc_126, List.forall_mem_cons.mpr ⟨tc_127,  fun _ h => absurd h List.not_mem_nil⟩⟩⟩⟩⟩⟩⟩⟩⟩⟩⟩⟩⟩⟩⟩⟩⟩⟩⟩⟩⟩⟩⟩⟩⟩⟩⟩⟩⟩⟩⟩⟩⟩⟩⟩⟩⟩⟩⟩⟩⟩⟩⟩⟩⟩⟩⟩⟩⟩⟩⟩⟩⟩⟩⟩⟩⟩⟩⟩⟩⟩⟩⟩⟩⟩⟩⟩⟩⟩⟩⟩⟩⟩⟩⟩⟩⟩⟩⟩⟩⟩⟩⟩⟩⟩⟩⟩⟩⟩⟩⟩⟩⟩⟩⟩⟩⟩⟩⟩⟩⟩⟩⟩⟩⟩⟩⟩⟩⟩⟩⟩⟩⟩⟩⟩⟩⟩⟩⟩⟩⟩⟩⟩⟩⟩⟩⟩⟩
set_option maxRecDepth 100000 in
theorem tc_ok : ∀ w, w < 128 → mm_cw (tmi w) ∈ lw_tbl := fun w hw => tc_all w (by have h := List.mem_range.mpr hw; exact h)
set_option maxRecDepth 100000 in
theorem tc_oi : Cond.code objectInit ⟨#[0xb1]⟩ 1 none ∈ lw_tbl := List.mem_of_getElem? (i := 68) rfl
set_option maxRecDepth 100000 in
theorem tc_nF : tnF.map (fun q => Cond.fieldLinkNest q.1 q.2.1 q.2.2.1 q.2.2.2.1 q.2.2.2.2.1 q.2.2.2.2.2) = ([110, 130, 133, 134, 173, 175, 176, 195, 202, 204, 258] : List Nat).filterMap (fun i => lw_tbl[i]?) := by decide +kernel
set_option maxRecDepth 100000 in
theorem tc_nM : tnM.map (fun q => Cond.methodLinkNest q.1 q.2.1 q.2.2.1 q.2.2.2) = ([168, 190] : List Nat).filterMap (fun i => lw_tbl[i]?) := by decide +kernel
theorem tc_mF : ∀ q ∈ tnF, Cond.fieldLinkNest q.1 q.2.1 q.2.2.1 q.2.2.2.1 q.2.2.2.2.1 q.2.2.2.2.2 ∈ lw_tbl := by
  intro q hq
  have h1 := List.mem_map_of_mem (f := fun q : mm_F => Cond.fieldLinkNest q.1 q.2.1 q.2.2.1 q.2.2.2.1 q.2.2.2.2.1 q.2.2.2.2.2) hq
  rw [tc_nF] at h1
  obtain ⟨i, -, hi⟩ := List.mem_filterMap.mp h1
  exact List.mem_of_getElem? hi
theorem tc_mM : ∀ q ∈ tnM, Cond.methodLinkNest q.1 q.2.1 q.2.2.1 q.2.2.2 ∈ lw_tbl := by
  intro q hq
  have h1 := List.mem_map_of_mem (f := fun q : mm_N => Cond.methodLinkNest q.1 q.2.1 q.2.2.1 q.2.2.2) hq
  rw [tc_nM] at h1
  obtain ⟨i, -, hi⟩ := List.mem_filterMap.mp h1
  exact List.mem_of_getElem? hi
theorem tc_inst : ∀ q ∈ tcl, Cond.instantiable q.1 q.2.2 ∈ tws := by
  have h : tcl.all (fun q => decide (Cond.instantiable q.1 q.2.2 ∈ tws)) = true := by decide +kernel
  intro q hq
  exact of_decide_eq_true (List.all_eq_true.mp h q hq)
theorem tc_arr : Cond.arrayClass .int ∈ tws ∧ Cond.arrayClass .boolean ∈ tws ∧ Cond.arrayClass .char ∈ tws := ⟨by decide +kernel, by decide +kernel, by decide +kernel⟩
end
section
/-! the small machine's world in the machine -/
def mm_KK (D : va_G) (dA : FieldType → ClassId) (cl : List vw_C) (nF : List mm_F) (nM : List mm_N) (U : State) : Prop :=
  va_K D cl [(dA .int, .int), (dA .boolean, .boolean), (dA .char, .char)] U ∧ (∀ q ∈ nF, va_Nw (.fieldLinkNest q.1 q.2.1 q.2.2.1 q.2.2.2.1 q.2.2.2.2.1 q.2.2.2.2.2) U) ∧ (∀ q ∈ nM, va_Nw (.methodLinkNest q.1 q.2.1 q.2.2.1 q.2.2.2) U)
theorem mm_KK.warm {D : va_G} {dA : FieldType → ClassId} {cl : List vw_C} {nF : List mm_F} {nM : List mm_N} {s U : State} (hW : s.WarmedH U.vm) (h : mm_KK D dA cl nF nM s) : mm_KK D dA cl nF nM U :=
  ⟨va_K.moved hW.alike h.1, fun q hq => va_Nw.warmF hW (h.2.1 q hq), fun q hq => va_Nw.warmM hW (h.2.2 q hq)⟩
theorem mm_KK.same {D : va_G} {dA : FieldType → ClassId} {cl : List vw_C} {nF : List mm_F} {nM : List mm_N} {s U : State} (hv : s.vm = U.vm) (h : mm_KK D dA cl nF nM s) : mm_KK D dA cl nF nM U :=
  ⟨va_K.moved (by rw [hv]; exact Vm.Alike.refl _) h.1, fun q hq => va_Nw.same rfl hv (h.2.1 q hq), fun q hq => va_Nw.same rfl hv (h.2.2 q hq)⟩
def mm_Pc (D : va_G) (dA : FieldType → ClassId) (cl : List vw_C) (nF : List mm_F) (nM : List mm_N) (b : Nat) (xs : Nat × (Nat → Int32)) (φ : Nat → Nat) (h : mm_H) (as : List Value) (sz : Nat) : Array Value → State → Prop :=
  va_Pc (as.map (mm_v b φ)) (fun U => U.heap.size = sz ∧ va_P D cl (mm_w b φ dA h) U.heap ∧ mm_KK D dA cl nF nM U ∧ va_D (fun _ => True) (mm_w b φ dA h) ∧ va_X b xs.1 xs.2 U U.heap ∧ b < U.heap.size ∧ ∀ (k : Nat) (q : Nat × va_E), (mm_w b φ dA h)[k]? = some q → q.1 ≠ b)
theorem mm_Pc_blind {D : va_G} {dA : FieldType → ClassId} {cl : List vw_C} {nF : List mm_F} {nM : List mm_N} {b : Nat} {xs : Nat × (Nat → Int32)} {φ : Nat → Nat} {h : mm_H} {as : List Value} {sz : Nat} : FrameBlind (mm_Pc D dA cl nF nM b xs φ h as sz) := by
  intro a U g mk q
  obtain ⟨h0, h1, h2, h3, h4, h5, h6, h7⟩ := q
  exact ⟨h0, h1, h2, mm_KK.same (s := U) (U := U.calling g mk a) rfl h3, h4, va_X.moved (u := U) (U := U.calling g mk a) (Vm.Alike.refl U.vm) h5, h6, h7⟩
def mm_Qc (D : va_G) (dA : FieldType → ClassId) (cl : List vw_C) (b : Nat) (φ : Nat → Nat) (h : mm_H) (sz mc : Nat) (P : mm_H → Option Value → Prop) : Array Value → State → Outcome → State → Prop := fun _ st oc t =>
  ∃ (h' : mm_H) (r : Option Value) (φ' : Nat → Nat), (∀ k, k < h.length → φ' k = φ k) ∧ (mc = 0 → φ' = φ) ∧ h.length ≤ h'.length ∧ P h' r ∧ oc = .returned (r.map (mm_v b φ')) ∧ va_P D cl (mm_w b φ' dA h') t.heap ∧ va_D (va_A (mm_w b φ dA h) sz) (mm_w b φ' dA h') ∧ va_F (va_A (mm_w b φ dA h) sz) st t
def mm_rm (d : Nat) (M : mm_M) : Room := { frames := d, cells := mm_mc M, slots := mm_ms M, locals := 60 * d }
section MG
variable {p : Program} {l : Launch} {e : Env} {R : Room} {s : State} {m : MethodId} {args : Array Value} {below : List Frame} {meth : Method} {c : Code} {Q : State → Prop}
/-- from a state of the small machine the machine comes to Q -/
def mm_Go (p : Program) (l : Launch) (e : Env) (R : Room) (s : State) (m : MethodId) (args : Array Value) (below : List Frame) (meth : Method) (c : Code) (Q : State → Prop) (D : va_G) (dA : FieldType → ClassId) (cl : List vw_C) (b : Nat) (A : Nat → Prop) (φ0 : Nat → Nat) (n0 nL : Nat) : mm_K := fun pc L st h kc ks =>
  ∀ (φ : Nat → Nat) (H : Heap) (locs : List Loc) (ls : Array Slot), (∀ k, k < n0 → φ k = φ0 k) → (kc = 0 → φ = φ0) → n0 ≤ h.length → kc ≤ R.cells → ks ≤ R.slots → va_P D cl (mm_w b φ dA h) H → va_D A (mm_w b φ dA h) → va_S A s.heap H locs → lv_has ls nL (mm_l b φ L) → W p l e R s m args below meth c H locs kc ks Q (F0 m pc ls (st.map (mm_v b φ)))
theorem mm_callg {H : Heap} {locs : List Loc} {cells slots mc ms pc : Nat} {ls : Array Slot} {st0 rest : List Value} {Qa : State → Outcome → State → Prop} {free : Addr → Prop} (hr : va_Run p l e R s m args below meth c H locs cells slots mc ms (F0 m pc ls st0) rest Qa free)
    (kk : ∀ (v : Option Value) (st₀ t : State) (H1 : Heap) (Ls : List Loc), st₀.heap = H → Qa st₀ (.returned v) t → t.heap = H1 → (∀ q ∈ Ls, free q.base) → W p l e R s m args below meth c H1 (locs ++ Ls) (cells + mc) (slots + ms) Q (F0 m (pc + 3) ls (v.toList ++ rest))) : W p l e R s m args below meth c H locs cells slots Q (F0 m pc ls st0) := by
  intro T hT X
  obtain ⟨v, st₀, t, T', L, h0, X', hL, e1, e2, hq, st⟩ := hr T hT X
  obtain ⟨t2, a1, b1⟩ := kk v st₀ t T'.heap L h0 hq e1.symm hL T' rfl X'
  exact ⟨t2, st t2 a1, b1⟩
theorem mm_back {D : va_G} {dA : FieldType → ClassId} {cl : List vw_C} {b : Nat} {A : Nat → Prop} {φ0 φ : Nat → Nat} {n0 nL : Nat} {H : Heap} {locs : List Loc} {kc ks mc ms pc : Nat} {ls : Array Slot} {st0 rest : List Value} {h : mm_H} {L : mm_L} {av : Array Value} {Pk : mm_H → Option Value → Prop}
    (hr : va_Run p l e R s m args below meth c H locs kc ks mc ms (F0 m pc ls st0) (rest.map (mm_v b φ)) (mm_Qc D dA cl b φ h H.size mc Pk av) (va_A (mm_w b φ dA h) H.size))
    (hA : ∀ q, s.heap.size ≤ q → A q) (hk1 : kc + mc ≤ R.cells) (hk2 : ks + ms ≤ R.slots) (hwf : mc = 0 ∨ (L.all (mm_wfo h.length) && rest.all (mm_wfv h.length)) = true)
    (f0 : ∀ k, k < n0 → φ k = φ0 k) (g0 : kc = 0 → φ = φ0) (hn : n0 ≤ h.length) (hD : va_D A (mm_w b φ dA h)) (hS : va_S A s.heap H locs) (hl : lv_has ls nL (mm_l b φ L))
    (hgo : ∀ h' v, Pk h' v → mm_Go p l e R s m args below meth c Q D dA cl b A φ0 n0 nL (pc + 3) L (v.toList ++ rest) h' (kc + mc) (ks + ms)) : W p l e R s m args below meth c H locs kc ks Q (F0 m pc ls st0) := by
  refine mm_callg hr fun v st₀ t H1 Ls e0 hq e1 hL => ?_
  obtain ⟨h', r, φ', f1, f2, f3, hPk, hv, hP1, hD1, hF1, hF2⟩ := hq
  have hv : v = r.map (mm_v b φ') := Outcome.returned.inj hv
  subst hv
  rw [e1] at hP1 hF1 hF2
  rw [e0] at hF1 hF2
  have hfr : ∀ q, va_A (mm_w b φ dA h) H.size q → A q := fun q hq => by
    rcases hq with ⟨k, e, hk⟩ | hq
    · exact hD.2 k _ hk
    · exact hA q (Nat.le_trans hS.1 hq)
  have hrest : rest.map (mm_v b φ) = rest.map (mm_v b φ') := by
    rcases hwf with h0 | h0
    · rw [f2 h0]
    · exact (mm_vs_ext (Bool.and_eq_true_iff.mp h0).2 f1).symm
  have hl' : lv_has ls nL (mm_l b φ' L) := by
    rcases hwf with h0 | h0
    · rw [f2 h0]; exact hl
    · exact mm_lsub hl (mm_l_ext (Bool.and_eq_true_iff.mp h0).1 f1)
  have hst : (r.map (mm_v b φ')).toList ++ rest.map (mm_v b φ) = (r.toList ++ rest).map (mm_v b φ') := by
    rw [hrest, List.map_append]
    cases r <;> rfl
  rw [hst]
  refine hgo h' r hPk φ' H1 (locs ++ Ls) ls (fun k hk => (f1 k (Nat.lt_of_lt_of_le hk hn)).trans (f0 k hk)) (fun hz => ?_) (Nat.le_trans hn f3) hk1 hk2 hP1 (hD1.weaken (fun k q _ hq => hfr q.1 hq)) ⟨Nat.le_trans hS.1 hF1, fun q h1 h2 => ?_, fun q hq => ?_⟩ hl'
  · rw [f2 (by omega), g0 (by omega)]
  · rw [hF2 q (Nat.lt_of_lt_of_le h1 hS.1) (fun z => h2 (hfr q z))]
    exact hS.2.1 q h1 h2
  · rcases List.mem_append.mp hq with hq | hq
    · exact hS.2.2 q hq
    · exact hfr _ (hL q hq)
end MG
end
section
section MO
variable {p : Program} {l : Launch} {e : Env} {R : Room} {s : State} {m : MethodId} {args : Array Value} {below : List Frame} {meth : Method} {c : Code} {Q : State → Prop}
variable {D : va_G} {dA : FieldType → ClassId} {cl : List vw_C} {b : Nat} {A : Nat → Prop} {φ0 : Nat → Nat} {n0 : Nat}
variable {mi : Nat → mm_M} {tb : Nat → Nat → Option mm_E} {df : Nat → List Value} {WS Ts : List Cond} {nF : List mm_F} {nM : List mm_N} {nm w d : Nat} {xs : Nat × (Nat → Int32)}
theorem mm_tyI : ([(dA .int, .int), (dA .boolean, .boolean), (dA .char, .char)] : List (ClassId × FieldType))[0]? = some (dA .int, .int) := rfl
theorem mm_tyZ : ([(dA .int, .int), (dA .boolean, .boolean), (dA .char, .char)] : List (ClassId × FieldType))[1]? = some (dA .boolean, .boolean) := rfl
theorem mm_tyC : ([(dA .int, .int), (dA .boolean, .boolean), (dA .char, .char)] : List (ClassId × FieldType))[2]? = some (dA .char, .char) := rfl
/-- what the tables say of a class -/
theorem mm_okc_spec {dv : List Value} {q : vw_C} (h : mm_okc WS dv q = true) : (∀ x ∈ u_ws q.1 q.2.1 q.2.2, x ∈ WS) ∧ (∀ k, k < q.2.2 → parseFieldDescriptor (q.2.1 k).2.2.1 = some ((parseFieldDescriptor (q.2.1 k).2.2.1).getD .int)) ∧ (∀ a, a < q.2.2 → ∀ b, b < q.2.2 → a ≠ b → (q.2.1 a).2.1 ≠ (q.2.1 b).2.1) ∧ (∀ k, k < q.2.2 → defaultValue ((parseFieldDescriptor (q.2.1 k).2.2.1).getD .int) = vp_V dv k) ∧ (∀ v ∈ dv, v = .int 0 ∨ v = .null) := by
  simp only [mm_okc, Bool.and_eq_true, List.all_eq_true, List.mem_range, decide_eq_true_eq, Bool.or_eq_true] at h
  obtain ⟨⟨h1, h2⟩, h3⟩ := h
  refine ⟨fun x hx => ?_, fun k hk => ?_, fun a ha b hb hab => ?_, fun k hk => (h1 k hk).2, h3⟩
  · obtain ⟨k, hk, rfl⟩ := List.mem_map.mp hx
    exact (h1 k (List.mem_range.mp hk)).1.2
  · have := (h1 k hk).1.1
    obtain ⟨y, hy⟩ := Option.isSome_iff_exists.mp this
    rw [hy]
    rfl
  · rcases h2 a ha b hb with h | h
    · exact absurd h hab
    · exact h
theorem mm_fit_ok {b : Nat} {φ : Nat → Nat} {k : Int32} {v : Value} {ty : FieldType} (hf : mm_fit k v) (ht : mm_ty k ty = true) : narrow ty (mm_v b φ v) = mm_v b φ v ∧ fits ty (mm_v b φ v) = true := by
  cases v with
  | int x =>
    cases ty <;> simp [mm_ty] at ht <;> subst ht <;> simp [mm_fit] at hf
    · exact ⟨rfl, rfl⟩
    · rcases hf with rfl | rfl
      · show narrow .boolean (.int 0) = .int 0 ∧ fits .boolean (.int 0) = true
        decide
      · show narrow .boolean (.int 1) = .int 1 ∧ fits .boolean (.int 1) = true
        decide
  | ref o =>
    cases ty <;> simp [mm_ty] at ht <;> subst ht <;> simp [mm_fit] at hf
    · exact ⟨rfl, rfl⟩
    · exact ⟨rfl, rfl⟩
  | null =>
    cases ty <;> simp [mm_ty] at ht <;> subst ht <;> simp [mm_fit] at hf
    · exact ⟨rfl, rfl⟩
    · exact ⟨rfl, rfl⟩
  | _ => exact hf.elim
theorem mm_rcv_inv {h : mm_H} {ci : Nat} {as : List Value} (hr : mm_rcv h ci as) : ∃ o As fs, as = .ref o :: As ∧ h[o]? = some (.inr (ci, fs)) := by
  unfold mm_rcv at hr
  split at hr
  · rename_i o As
    split at hr
    · rename_i q hq
      subst hr
      exact ⟨o, As, q.2, rfl, hq⟩
    · exact hr.elim
  · exact hr.elim
theorem mm_stack {b k : Nat} {φ : Nat → Nat} {st As : List Value} {o : Nat} (h : (st.take k).reverse = .ref o :: As) : st.map (mm_v b φ) = (As.map (mm_v b φ)).reverse ++ .ref (φ o) :: (st.drop k).map (mm_v b φ) := by
  have h1 : st.take k = (Value.ref o :: As).reverse := by rw [← h, List.reverse_reverse]
  have h2 : st = (Value.ref o :: As).reverse ++ st.drop k := by rw [← h1, List.take_append_drop]
  have h3 : st.map (mm_v b φ) = ((Value.ref o :: As).reverse ++ st.drop k).map (mm_v b φ) := congrArg _ h2
  rw [h3]
  simp [mm_v]
theorem mm_stackS {b k : Nat} {φ : Nat → Nat} {st : List Value} : st.map (mm_v b φ) = ((st.take k).reverse.map (mm_v b φ)).reverse ++ (st.drop k).map (mm_v b φ) := by
  have h3 : st.map (mm_v b φ) = (st.take k ++ st.drop k).map (mm_v b φ) := by rw [List.take_append_drop]
  rw [h3]
  simp
theorem mm_ml_spec {own : String} {i : Nat} {y : MethodName} (h : mm_ml WS nM own i y = true) : Cond.methodLink own i y ∈ WS ∨ ∃ q ∈ nM, q.1 = own ∧ q.2.1 = i ∧ q.2.2.1 = y := by
  simpa only [mm_ml, Bool.or_eq_true, decide_eq_true_eq, List.any_eq_true] using h
theorem mm_my_spec {y : MethodName} {k : Nat} (h : mm_my WS y k = true) : (y.cls ≠ "java/lang/invoke/MethodHandle" ∧ y.cls ≠ "java/lang/invoke/VarHandle" ∧ (parseMethodDescriptor y.desc).map (fun d => d.parameters.length) = some k) ∧ Cond.initialized y.cls ∈ WS := by
  simp only [mm_my, Bool.and_eq_true, decide_eq_true_eq] at h
  exact ⟨⟨h.1.1.1, h.1.1.2, h.1.2⟩, h.2⟩
/-- the start of a callee, from where its caller stands -/
theorem mm_pre {φ : Nat → Nat} {h : mm_H} {H : Heap} {locs : List Loc} {as : List Value} (hKK : mm_KK D dA cl nF nM s) (hX : va_X b xs.1 xs.2 s s.heap) (hbl : b < s.heap.size) (hbA : ¬ A b) (hP : va_P D cl (mm_w b φ dA h) H) (hD : va_D A (mm_w b φ dA h)) (hS : va_S A s.heap H locs) {av : Array Value} (hav : av = (as.map (mm_v b φ)).toArray) : ∀ U : State, U.heap = H → s.WarmedH U.vm → mm_Pc D dA cl nF nM b xs φ h as H.size av U := by
  intro U hU hW
  exact ⟨hav, by rw [hU], by rw [hU]; exact hP, hKK.warm hW, hD.weaken (fun _ _ _ _ => trivial), by rw [hU]; exact (hX.kept (hS.2.1 b hbl hbA)).moved hW.alike, by rw [hU]; exact Nat.lt_of_lt_of_le hbl hS.1, fun k q hq e => hbA (e ▸ hD.2 k q hq)⟩
end MO
end
section
section MX
variable {p : Program} {l : Launch} {e : Env} {R : Room} {s : State} {m : MethodId} {args : Array Value} {below : List Frame} {meth : Method} {c : Code} {Q : State → Prop}
variable {D : va_G} {dA : FieldType → ClassId} {cl : List vw_C} {b : Nat} {A : Nat → Prop} {φ0 : Nat → Nat} {n0 : Nat}
variable {mi : Nat → mm_M} {tb : Nat → Nat → Option mm_E} {df : Nat → List Value} {WS Ts : List Cond} {nF : List mm_F} {nM : List mm_N} {nm w d : Nat} {xs : Nat × (Nat → Int32)}
/-- all that a walk of a method's body stands on, and that does not change in it -/
def mm_Cx (p : Program) (l : Launch) (R : Room) (s : State) (m : MethodId) (args : Array Value) (meth : Method) (c : Code) (D : va_G) (dA : FieldType → ClassId) (cl : List vw_C) (b : Nat) (A : Nat → Prop) (mi : Nat → mm_M) (df : Nat → List Value) (WS Ts : List Cond) (nF : List mm_F) (nM : List mm_N) (nm w d : Nat) (xs : Nat × (Nat → Int32)) : Prop :=
  (p.tables.exec = Jvm.exec ∧ c.code = mm_b (mi w) ∧ c.maxLocals = mm_n (mi w) ∧ s.vm.findClass (mm_y (mi w)).cls = some m.cls ∧ ∀ x ∈ Ts, x.before args s = true) ∧ (∀ x ∈ WS, x ∈ Ts) ∧ Cond.code objectInit ⟨#[0xb1]⟩ 1 none ∈ Ts ∧ (∀ y, y < nm → GoodIn Ts (mm_ws mi WS nm y)) ∧ (∀ y, y < nm → mm_okm (mi y) = true) ∧ (∀ ci q, cl[ci]? = some q → mm_okc WS (df ci) q = true) ∧
  mm_KK D dA cl nF nM s ∧ (∀ q, s.heap.size ≤ q → A q) ∧ va_X b xs.1 xs.2 s s.heap ∧ b < s.heap.size ∧ ¬ A b ∧ ((mm_y (mi w)).name = "<init>" → meth.name = "<init>") ∧ d + 1 ≤ R.frames ∧ 60 * d + 60 ≤ R.locals
theorem mm_x_iconst (Z : mm_Cx p l R s m args meth c D dA cl b A mi df WS Ts nF nM nm w d xs) {K : mm_K} (hK : ∀ pc L st h kc ks, K pc L st h kc ks → mm_Go p l e R s m args below meth c Q D dA cl b A φ0 n0 (mm_n (mi w)) pc L st h kc ks) {len a bb pc kc ks : Nat} {k : Int32} {L : mm_L} {st : List Value} {h : mm_H} {n : Int} (hok : mm_ok mi cl WS nF nM nm w pc (.iconst n, len, a, bb, k) = true) (hE : K (pc + len) L (.int k :: st) h kc ks) : mm_Go p l e R s m args below meth c Q D dA cl b A φ0 n0 (mm_n (mi w)) pc L st h kc ks := by
  obtain ⟨⟨hx, hb, hml, hown, hts⟩, hWT, hoi, hG, hmi, hcl, hKK, hA, hX, hbl, hbA, hin, hRf, hRl⟩ := Z
  simp only [mm_ok, mm_sd, Bool.and_eq_true, decide_eq_true_eq] at hok
  obtain ⟨hd, h1, h2⟩ := hok
  subst h1
  intro φ H locs ls f0 g0 hn k1 k2 hP hD hS hl
  exact lv_iconst hx hb hd h2 (hK _ _ _ _ _ _ hE φ H locs ls f0 g0 hn k1 k2 hP hD hS hl)
theorem mm_x_bipush (Z : mm_Cx p l R s m args meth c D dA cl b A mi df WS Ts nF nM nm w d xs) {K : mm_K} (hK : ∀ pc L st h kc ks, K pc L st h kc ks → mm_Go p l e R s m args below meth c Q D dA cl b A φ0 n0 (mm_n (mi w)) pc L st h kc ks) {len a bb pc kc ks : Nat} {k : Int32} {L : mm_L} {st : List Value} {h : mm_H} {n : Int} (hok : mm_ok mi cl WS nF nM nm w pc (.bipush n, len, a, bb, k) = true) (hE : K (pc + len) L (.int k :: st) h kc ks) : mm_Go p l e R s m args below meth c Q D dA cl b A φ0 n0 (mm_n (mi w)) pc L st h kc ks := by
  obtain ⟨⟨hx, hb, hml, hown, hts⟩, hWT, hoi, hG, hmi, hcl, hKK, hA, hX, hbl, hbA, hin, hRf, hRl⟩ := Z
  simp only [mm_ok, mm_sd, Bool.and_eq_true, decide_eq_true_eq] at hok
  obtain ⟨hd, h1, h2⟩ := hok
  subst h1
  intro φ H locs ls f0 g0 hn k1 k2 hP hD hS hl
  exact lv_bipush hx hb hd h2 (hK _ _ _ _ _ _ hE φ H locs ls f0 g0 hn k1 k2 hP hD hS hl)
theorem mm_x_sipush (Z : mm_Cx p l R s m args meth c D dA cl b A mi df WS Ts nF nM nm w d xs) {K : mm_K} (hK : ∀ pc L st h kc ks, K pc L st h kc ks → mm_Go p l e R s m args below meth c Q D dA cl b A φ0 n0 (mm_n (mi w)) pc L st h kc ks) {len a bb pc kc ks : Nat} {k : Int32} {L : mm_L} {st : List Value} {h : mm_H} {n : Int} (hok : mm_ok mi cl WS nF nM nm w pc (.sipush n, len, a, bb, k) = true) (hE : K (pc + len) L (.int k :: st) h kc ks) : mm_Go p l e R s m args below meth c Q D dA cl b A φ0 n0 (mm_n (mi w)) pc L st h kc ks := by
  obtain ⟨⟨hx, hb, hml, hown, hts⟩, hWT, hoi, hG, hmi, hcl, hKK, hA, hX, hbl, hbA, hin, hRf, hRl⟩ := Z
  simp only [mm_ok, mm_sd, Bool.and_eq_true, decide_eq_true_eq] at hok
  obtain ⟨hd, h1, h2⟩ := hok
  subst h1
  intro φ H locs ls f0 g0 hn k1 k2 hP hD hS hl
  exact lv_sipush hx hb hd h2 (hK _ _ _ _ _ _ hE φ H locs ls f0 g0 hn k1 k2 hP hD hS hl)
theorem mm_x_ldc (Z : mm_Cx p l R s m args meth c D dA cl b A mi df WS Ts nF nM nm w d xs) {K : mm_K} (hK : ∀ pc L st h kc ks, K pc L st h kc ks → mm_Go p l e R s m args below meth c Q D dA cl b A φ0 n0 (mm_n (mi w)) pc L st h kc ks) {len a bb pc kc ks : Nat} {k : Int32} {L : mm_L} {st : List Value} {h : mm_H} {i : Nat} (hok : mm_ok mi cl WS nF nM nm w pc (.ldc i, len, a, bb, k) = true) (hE : K (pc + len) L (.int k :: st) h kc ks) : mm_Go p l e R s m args below meth c Q D dA cl b A φ0 n0 (mm_n (mi w)) pc L st h kc ks := by
  obtain ⟨⟨hx, hb, hml, hown, hts⟩, hWT, hoi, hG, hmi, hcl, hKK, hA, hX, hbl, hbA, hin, hRf, hRl⟩ := Z
  simp only [mm_ok, mm_sd, Bool.and_eq_true, decide_eq_true_eq] at hok
  obtain ⟨hd, h1, h2⟩ := hok
  subst h1
  intro φ H locs ls f0 g0 hn k1 k2 hP hD hS hl
  exact lv_ldc hx hb hown (hts _ (hWT _ h2)) hd (hK _ _ _ _ _ _ hE φ H locs ls f0 g0 hn k1 k2 hP hD hS hl)
theorem mm_x_iload_n (Z : mm_Cx p l R s m args meth c D dA cl b A mi df WS Ts nF nM nm w d xs) {K : mm_K} (hK : ∀ pc L st h kc ks, K pc L st h kc ks → mm_Go p l e R s m args below meth c Q D dA cl b A φ0 n0 (mm_n (mi w)) pc L st h kc ks) {len a bb pc kc ks : Nat} {k : Int32} {L : mm_L} {st : List Value} {h : mm_H} {i : Fin 4} (hok : mm_ok mi cl WS nF nM nm w pc (.iload_n i, len, a, bb, k) = true) (hE : mm_li L a fun x => K (pc + len) L (.int x :: st) h kc ks) : mm_Go p l e R s m args below meth c Q D dA cl b A φ0 n0 (mm_n (mi w)) pc L st h kc ks := by
  obtain ⟨⟨hx, hb, hml, hown, hts⟩, hWT, hoi, hG, hmi, hcl, hKK, hA, hX, hbl, hbA, hin, hRf, hRl⟩ := Z
  simp only [mm_ok, mm_sd, Bool.and_eq_true, decide_eq_true_eq] at hok
  obtain ⟨hd, h1, h2⟩ := hok
  subst h1
  obtain ⟨x, hx1, hE1⟩ := mm_li_inv hE
  intro φ H locs ls f0 g0 hn k1 k2 hP hD hS hl
  exact lv_iload_n (x := x) hx hb hd h2 (mm_lget hl hx1 rfl) (hK _ _ _ _ _ _ hE1 φ H locs ls f0 g0 hn k1 k2 hP hD hS hl)
theorem mm_x_iload (Z : mm_Cx p l R s m args meth c D dA cl b A mi df WS Ts nF nM nm w d xs) {K : mm_K} (hK : ∀ pc L st h kc ks, K pc L st h kc ks → mm_Go p l e R s m args below meth c Q D dA cl b A φ0 n0 (mm_n (mi w)) pc L st h kc ks) {len a bb pc kc ks : Nat} {k : Int32} {L : mm_L} {st : List Value} {h : mm_H} {i : Nat} (hok : mm_ok mi cl WS nF nM nm w pc (.iload i, len, a, bb, k) = true) (hE : mm_li L a fun x => K (pc + len) L (.int x :: st) h kc ks) : mm_Go p l e R s m args below meth c Q D dA cl b A φ0 n0 (mm_n (mi w)) pc L st h kc ks := by
  obtain ⟨⟨hx, hb, hml, hown, hts⟩, hWT, hoi, hG, hmi, hcl, hKK, hA, hX, hbl, hbA, hin, hRf, hRl⟩ := Z
  simp only [mm_ok, mm_sd, Bool.and_eq_true, decide_eq_true_eq] at hok
  obtain ⟨hd, h1, h2⟩ := hok
  subst h1
  subst h2
  obtain ⟨x, hx1, hE2⟩ := mm_li_inv hE
  intro φ H locs ls f0 g0 hn k1 k2 hP hD hS hl
  exact lv_iload (x := x) hx hb hd (mm_lget hl hx1 rfl) (hK _ _ _ _ _ _ hE2 φ H locs ls f0 g0 hn k1 k2 hP hD hS hl)
theorem mm_x_aload_n (Z : mm_Cx p l R s m args meth c D dA cl b A mi df WS Ts nF nM nm w d xs) {K : mm_K} (hK : ∀ pc L st h kc ks, K pc L st h kc ks → mm_Go p l e R s m args below meth c Q D dA cl b A φ0 n0 (mm_n (mi w)) pc L st h kc ks) {len a bb pc kc ks : Nat} {k : Int32} {L : mm_L} {st : List Value} {h : mm_H} {i : Fin 4} (hok : mm_ok mi cl WS nF nM nm w pc (.aload_n i, len, a, bb, k) = true) (hE : mm_lr L a fun v => K (pc + len) L (v :: st) h kc ks) : mm_Go p l e R s m args below meth c Q D dA cl b A φ0 n0 (mm_n (mi w)) pc L st h kc ks := by
  obtain ⟨⟨hx, hb, hml, hown, hts⟩, hWT, hoi, hG, hmi, hcl, hKK, hA, hX, hbl, hbA, hin, hRf, hRl⟩ := Z
  simp only [mm_ok, mm_sd, Bool.and_eq_true, decide_eq_true_eq] at hok
  obtain ⟨hd, h1, h2⟩ := hok
  subst h1
  obtain ⟨v, hx1, hv, hE3⟩ := mm_lr_inv hE
  intro φ H locs ls f0 g0 hn k1 k2 hP hD hS hl
  rcases hv with ⟨x, rfl⟩ | ⟨x, rfl⟩
  · exact lv_aload_n (x := φ x) hx hb hd h2 (mm_lget hl hx1 rfl) (hK _ _ _ _ _ _ hE3 φ H locs ls f0 g0 hn k1 k2 hP hD hS hl)
  · exact lv_aload_n (x := b) hx hb hd h2 (mm_lget hl hx1 rfl) (hK _ _ _ _ _ _ hE3 φ H locs ls f0 g0 hn k1 k2 hP hD hS hl)
theorem mm_x_aload (Z : mm_Cx p l R s m args meth c D dA cl b A mi df WS Ts nF nM nm w d xs) {K : mm_K} (hK : ∀ pc L st h kc ks, K pc L st h kc ks → mm_Go p l e R s m args below meth c Q D dA cl b A φ0 n0 (mm_n (mi w)) pc L st h kc ks) {len a bb pc kc ks : Nat} {k : Int32} {L : mm_L} {st : List Value} {h : mm_H} {i : Nat} (hok : mm_ok mi cl WS nF nM nm w pc (.aload i, len, a, bb, k) = true) (hE : mm_lr L a fun v => K (pc + len) L (v :: st) h kc ks) : mm_Go p l e R s m args below meth c Q D dA cl b A φ0 n0 (mm_n (mi w)) pc L st h kc ks := by
  obtain ⟨⟨hx, hb, hml, hown, hts⟩, hWT, hoi, hG, hmi, hcl, hKK, hA, hX, hbl, hbA, hin, hRf, hRl⟩ := Z
  simp only [mm_ok, mm_sd, Bool.and_eq_true, decide_eq_true_eq] at hok
  obtain ⟨hd, h1, h2⟩ := hok
  subst h1
  subst h2
  obtain ⟨v, hx1, hv, hE4⟩ := mm_lr_inv hE
  intro φ H locs ls f0 g0 hn k1 k2 hP hD hS hl
  rcases hv with ⟨x, rfl⟩ | ⟨x, rfl⟩
  · exact lv_aload (x := φ x) hx hb hd (mm_lget hl hx1 rfl) (hK _ _ _ _ _ _ hE4 φ H locs ls f0 g0 hn k1 k2 hP hD hS hl)
  · exact lv_aload (x := b) hx hb hd (mm_lget hl hx1 rfl) (hK _ _ _ _ _ _ hE4 φ H locs ls f0 g0 hn k1 k2 hP hD hS hl)
theorem mm_x_istore_n (Z : mm_Cx p l R s m args meth c D dA cl b A mi df WS Ts nF nM nm w d xs) {K : mm_K} (hK : ∀ pc L st h kc ks, K pc L st h kc ks → mm_Go p l e R s m args below meth c Q D dA cl b A φ0 n0 (mm_n (mi w)) pc L st h kc ks) {len a bb pc kc ks : Nat} {k : Int32} {L : mm_L} {st : List Value} {h : mm_H} {i : Fin 4} (hok : mm_ok mi cl WS nF nM nm w pc (.istore_n i, len, a, bb, k) = true) (hE : mm_s1 st fun x r => K (pc + len) (L.set a (some (.int x))) r h kc ks) : mm_Go p l e R s m args below meth c Q D dA cl b A φ0 n0 (mm_n (mi w)) pc L st h kc ks := by
  obtain ⟨⟨hx, hb, hml, hown, hts⟩, hWT, hoi, hG, hmi, hcl, hKK, hA, hX, hbl, hbA, hin, hRf, hRl⟩ := Z
  simp only [mm_ok, mm_sd, Bool.and_eq_true, decide_eq_true_eq] at hok
  obtain ⟨hd, h1, h2, h3⟩ := hok
  subst h1
  obtain ⟨x, r, rfl, hE5⟩ := mm_s1_inv hE
  intro φ H locs ls f0 g0 hn k1 k2 hP hD hS hl
  exact lv_istore_n hx hb hd h2 hl h3 rfl (fun ls' hl' => hK _ _ _ _ _ _ hE5 φ H locs ls' f0 g0 hn k1 k2 hP hD hS (mm_lsub hl' mm_lset))
theorem mm_x_istore (Z : mm_Cx p l R s m args meth c D dA cl b A mi df WS Ts nF nM nm w d xs) {K : mm_K} (hK : ∀ pc L st h kc ks, K pc L st h kc ks → mm_Go p l e R s m args below meth c Q D dA cl b A φ0 n0 (mm_n (mi w)) pc L st h kc ks) {len a bb pc kc ks : Nat} {k : Int32} {L : mm_L} {st : List Value} {h : mm_H} {i : Nat} (hok : mm_ok mi cl WS nF nM nm w pc (.istore i, len, a, bb, k) = true) (hE : mm_s1 st fun x r => K (pc + len) (L.set a (some (.int x))) r h kc ks) : mm_Go p l e R s m args below meth c Q D dA cl b A φ0 n0 (mm_n (mi w)) pc L st h kc ks := by
  obtain ⟨⟨hx, hb, hml, hown, hts⟩, hWT, hoi, hG, hmi, hcl, hKK, hA, hX, hbl, hbA, hin, hRf, hRl⟩ := Z
  simp only [mm_ok, mm_sd, Bool.and_eq_true, decide_eq_true_eq] at hok
  obtain ⟨hd, h1, h2, h3⟩ := hok
  subst h1
  subst h2
  obtain ⟨x, r, rfl, hE6⟩ := mm_s1_inv hE
  intro φ H locs ls f0 g0 hn k1 k2 hP hD hS hl
  exact lv_istore hx hb hd hl h3 rfl (fun ls' hl' => hK _ _ _ _ _ _ hE6 φ H locs ls' f0 g0 hn k1 k2 hP hD hS (mm_lsub hl' mm_lset))
theorem mm_x_astore_n (Z : mm_Cx p l R s m args meth c D dA cl b A mi df WS Ts nF nM nm w d xs) {K : mm_K} (hK : ∀ pc L st h kc ks, K pc L st h kc ks → mm_Go p l e R s m args below meth c Q D dA cl b A φ0 n0 (mm_n (mi w)) pc L st h kc ks) {len a bb pc kc ks : Nat} {k : Int32} {L : mm_L} {st : List Value} {h : mm_H} {i : Fin 4} (hok : mm_ok mi cl WS nF nM nm w pc (.astore_n i, len, a, bb, k) = true) (hE : mm_sr st fun x r => K (pc + len) (L.set a (some (.ref x))) r h kc ks) : mm_Go p l e R s m args below meth c Q D dA cl b A φ0 n0 (mm_n (mi w)) pc L st h kc ks := by
  obtain ⟨⟨hx, hb, hml, hown, hts⟩, hWT, hoi, hG, hmi, hcl, hKK, hA, hX, hbl, hbA, hin, hRf, hRl⟩ := Z
  simp only [mm_ok, mm_sd, Bool.and_eq_true, decide_eq_true_eq] at hok
  obtain ⟨hd, h1, h2, h3⟩ := hok
  subst h1
  obtain ⟨x, r, rfl, hE7⟩ := mm_sr_inv hE
  intro φ H locs ls f0 g0 hn k1 k2 hP hD hS hl
  exact lv_astore_n hx hb hd h2 hl h3 rfl (fun ls' hl' => hK _ _ _ _ _ _ hE7 φ H locs ls' f0 g0 hn k1 k2 hP hD hS (mm_lsub hl' mm_lset))
theorem mm_x_astore (Z : mm_Cx p l R s m args meth c D dA cl b A mi df WS Ts nF nM nm w d xs) {K : mm_K} (hK : ∀ pc L st h kc ks, K pc L st h kc ks → mm_Go p l e R s m args below meth c Q D dA cl b A φ0 n0 (mm_n (mi w)) pc L st h kc ks) {len a bb pc kc ks : Nat} {k : Int32} {L : mm_L} {st : List Value} {h : mm_H} {i : Nat} (hok : mm_ok mi cl WS nF nM nm w pc (.astore i, len, a, bb, k) = true) (hE : mm_sr st fun x r => K (pc + len) (L.set a (some (.ref x))) r h kc ks) : mm_Go p l e R s m args below meth c Q D dA cl b A φ0 n0 (mm_n (mi w)) pc L st h kc ks := by
  obtain ⟨⟨hx, hb, hml, hown, hts⟩, hWT, hoi, hG, hmi, hcl, hKK, hA, hX, hbl, hbA, hin, hRf, hRl⟩ := Z
  simp only [mm_ok, mm_sd, Bool.and_eq_true, decide_eq_true_eq] at hok
  obtain ⟨hd, h1, h2, h3⟩ := hok
  subst h1
  subst h2
  obtain ⟨x, r, rfl, hE8⟩ := mm_sr_inv hE
  intro φ H locs ls f0 g0 hn k1 k2 hP hD hS hl
  exact lv_astore hx hb hd hl h3 rfl (fun ls' hl' => hK _ _ _ _ _ _ hE8 φ H locs ls' f0 g0 hn k1 k2 hP hD hS (mm_lsub hl' mm_lset))
theorem mm_x_iinc (Z : mm_Cx p l R s m args meth c D dA cl b A mi df WS Ts nF nM nm w d xs) {K : mm_K} (hK : ∀ pc L st h kc ks, K pc L st h kc ks → mm_Go p l e R s m args below meth c Q D dA cl b A φ0 n0 (mm_n (mi w)) pc L st h kc ks) {len a bb pc kc ks : Nat} {k : Int32} {L : mm_L} {st : List Value} {h : mm_H} {i : Nat} {n : Int} (hok : mm_ok mi cl WS nF nM nm w pc (.iinc i n, len, a, bb, k) = true) (hE : mm_li L a fun x => K (pc + len) (L.set a (some (.int (x + k)))) st h kc ks) : mm_Go p l e R s m args below meth c Q D dA cl b A φ0 n0 (mm_n (mi w)) pc L st h kc ks := by
  obtain ⟨⟨hx, hb, hml, hown, hts⟩, hWT, hoi, hG, hmi, hcl, hKK, hA, hX, hbl, hbA, hin, hRf, hRl⟩ := Z
  simp only [mm_ok, mm_sd, Bool.and_eq_true, decide_eq_true_eq] at hok
  obtain ⟨hd, h1, h2, h3, h4⟩ := hok
  subst h1
  subst h2
  obtain ⟨x, hx1, hE9⟩ := mm_li_inv hE
  intro φ H locs ls f0 g0 hn k1 k2 hP hD hS hl
  obtain ⟨j, hj⟩ := List.getElem?_of_mem (mm_l_mem (b := b) (φ := φ) (q := (i, Value.int x)).mpr ⟨.int x, hx1, rfl, rfl⟩)
  exact lv_iinc (k := j) hx hb hd hl hj (by rw [h4]) h3 rfl (fun ls' hl' => hK _ _ _ _ _ _ hE9 φ H locs ls' f0 g0 hn k1 k2 hP hD hS (mm_lsub hl' mm_lset))
theorem mm_x_iadd (Z : mm_Cx p l R s m args meth c D dA cl b A mi df WS Ts nF nM nm w d xs) {K : mm_K} (hK : ∀ pc L st h kc ks, K pc L st h kc ks → mm_Go p l e R s m args below meth c Q D dA cl b A φ0 n0 (mm_n (mi w)) pc L st h kc ks) {len a bb pc kc ks : Nat} {k : Int32} {L : mm_L} {st : List Value} {h : mm_H}  (hok : mm_ok mi cl WS nF nM nm w pc (.iadd, len, a, bb, k) = true) (hE : mm_s2 st fun y x r => K (pc + len) L (.int (x + y) :: r) h kc ks) : mm_Go p l e R s m args below meth c Q D dA cl b A φ0 n0 (mm_n (mi w)) pc L st h kc ks := by
  obtain ⟨⟨hx, hb, hml, hown, hts⟩, hWT, hoi, hG, hmi, hcl, hKK, hA, hX, hbl, hbA, hin, hRf, hRl⟩ := Z
  simp only [mm_ok, mm_sd, Bool.and_eq_true, decide_eq_true_eq] at hok
  obtain ⟨hd, h1⟩ := hok
  subst h1
  obtain ⟨y, x, r, rfl, hE10⟩ := mm_s2_inv hE
  intro φ H locs ls f0 g0 hn k1 k2 hP hD hS hl
  exact lv_iadd hx hb hd (hK _ _ _ _ _ _ hE10 φ H locs ls f0 g0 hn k1 k2 hP hD hS hl)
theorem mm_x_isub (Z : mm_Cx p l R s m args meth c D dA cl b A mi df WS Ts nF nM nm w d xs) {K : mm_K} (hK : ∀ pc L st h kc ks, K pc L st h kc ks → mm_Go p l e R s m args below meth c Q D dA cl b A φ0 n0 (mm_n (mi w)) pc L st h kc ks) {len a bb pc kc ks : Nat} {k : Int32} {L : mm_L} {st : List Value} {h : mm_H}  (hok : mm_ok mi cl WS nF nM nm w pc (.isub, len, a, bb, k) = true) (hE : mm_s2 st fun y x r => K (pc + len) L (.int (x - y) :: r) h kc ks) : mm_Go p l e R s m args below meth c Q D dA cl b A φ0 n0 (mm_n (mi w)) pc L st h kc ks := by
  obtain ⟨⟨hx, hb, hml, hown, hts⟩, hWT, hoi, hG, hmi, hcl, hKK, hA, hX, hbl, hbA, hin, hRf, hRl⟩ := Z
  simp only [mm_ok, mm_sd, Bool.and_eq_true, decide_eq_true_eq] at hok
  obtain ⟨hd, h1⟩ := hok
  subst h1
  obtain ⟨y, x, r, rfl, hE11⟩ := mm_s2_inv hE
  intro φ H locs ls f0 g0 hn k1 k2 hP hD hS hl
  exact lv_isub hx hb hd (hK _ _ _ _ _ _ hE11 φ H locs ls f0 g0 hn k1 k2 hP hD hS hl)
theorem mm_x_imul (Z : mm_Cx p l R s m args meth c D dA cl b A mi df WS Ts nF nM nm w d xs) {K : mm_K} (hK : ∀ pc L st h kc ks, K pc L st h kc ks → mm_Go p l e R s m args below meth c Q D dA cl b A φ0 n0 (mm_n (mi w)) pc L st h kc ks) {len a bb pc kc ks : Nat} {k : Int32} {L : mm_L} {st : List Value} {h : mm_H}  (hok : mm_ok mi cl WS nF nM nm w pc (.imul, len, a, bb, k) = true) (hE : mm_s2 st fun y x r => K (pc + len) L (.int (x * y) :: r) h kc ks) : mm_Go p l e R s m args below meth c Q D dA cl b A φ0 n0 (mm_n (mi w)) pc L st h kc ks := by
  obtain ⟨⟨hx, hb, hml, hown, hts⟩, hWT, hoi, hG, hmi, hcl, hKK, hA, hX, hbl, hbA, hin, hRf, hRl⟩ := Z
  simp only [mm_ok, mm_sd, Bool.and_eq_true, decide_eq_true_eq] at hok
  obtain ⟨hd, h1⟩ := hok
  subst h1
  obtain ⟨y, x, r, rfl, hE12⟩ := mm_s2_inv hE
  intro φ H locs ls f0 g0 hn k1 k2 hP hD hS hl
  exact lv_imul hx hb hd (hK _ _ _ _ _ _ hE12 φ H locs ls f0 g0 hn k1 k2 hP hD hS hl)
theorem mm_x_iand (Z : mm_Cx p l R s m args meth c D dA cl b A mi df WS Ts nF nM nm w d xs) {K : mm_K} (hK : ∀ pc L st h kc ks, K pc L st h kc ks → mm_Go p l e R s m args below meth c Q D dA cl b A φ0 n0 (mm_n (mi w)) pc L st h kc ks) {len a bb pc kc ks : Nat} {k : Int32} {L : mm_L} {st : List Value} {h : mm_H}  (hok : mm_ok mi cl WS nF nM nm w pc (.iand, len, a, bb, k) = true) (hE : mm_s2 st fun y x r => K (pc + len) L (.int (x &&& y) :: r) h kc ks) : mm_Go p l e R s m args below meth c Q D dA cl b A φ0 n0 (mm_n (mi w)) pc L st h kc ks := by
  obtain ⟨⟨hx, hb, hml, hown, hts⟩, hWT, hoi, hG, hmi, hcl, hKK, hA, hX, hbl, hbA, hin, hRf, hRl⟩ := Z
  simp only [mm_ok, mm_sd, Bool.and_eq_true, decide_eq_true_eq] at hok
  obtain ⟨hd, h1⟩ := hok
  subst h1
  obtain ⟨y, x, r, rfl, hE13⟩ := mm_s2_inv hE
  intro φ H locs ls f0 g0 hn k1 k2 hP hD hS hl
  exact lv_iand hx hb hd (hK _ _ _ _ _ _ hE13 φ H locs ls f0 g0 hn k1 k2 hP hD hS hl)
theorem mm_x_ior (Z : mm_Cx p l R s m args meth c D dA cl b A mi df WS Ts nF nM nm w d xs) {K : mm_K} (hK : ∀ pc L st h kc ks, K pc L st h kc ks → mm_Go p l e R s m args below meth c Q D dA cl b A φ0 n0 (mm_n (mi w)) pc L st h kc ks) {len a bb pc kc ks : Nat} {k : Int32} {L : mm_L} {st : List Value} {h : mm_H}  (hok : mm_ok mi cl WS nF nM nm w pc (.ior, len, a, bb, k) = true) (hE : mm_s2 st fun y x r => K (pc + len) L (.int (x ||| y) :: r) h kc ks) : mm_Go p l e R s m args below meth c Q D dA cl b A φ0 n0 (mm_n (mi w)) pc L st h kc ks := by
  obtain ⟨⟨hx, hb, hml, hown, hts⟩, hWT, hoi, hG, hmi, hcl, hKK, hA, hX, hbl, hbA, hin, hRf, hRl⟩ := Z
  simp only [mm_ok, mm_sd, Bool.and_eq_true, decide_eq_true_eq] at hok
  obtain ⟨hd, h1⟩ := hok
  subst h1
  obtain ⟨y, x, r, rfl, hE14⟩ := mm_s2_inv hE
  intro φ H locs ls f0 g0 hn k1 k2 hP hD hS hl
  exact lv_ior hx hb hd (hK _ _ _ _ _ _ hE14 φ H locs ls f0 g0 hn k1 k2 hP hD hS hl)
theorem mm_x_ixor (Z : mm_Cx p l R s m args meth c D dA cl b A mi df WS Ts nF nM nm w d xs) {K : mm_K} (hK : ∀ pc L st h kc ks, K pc L st h kc ks → mm_Go p l e R s m args below meth c Q D dA cl b A φ0 n0 (mm_n (mi w)) pc L st h kc ks) {len a bb pc kc ks : Nat} {k : Int32} {L : mm_L} {st : List Value} {h : mm_H}  (hok : mm_ok mi cl WS nF nM nm w pc (.ixor, len, a, bb, k) = true) (hE : mm_s2 st fun y x r => K (pc + len) L (.int (x ^^^ y) :: r) h kc ks) : mm_Go p l e R s m args below meth c Q D dA cl b A φ0 n0 (mm_n (mi w)) pc L st h kc ks := by
  obtain ⟨⟨hx, hb, hml, hown, hts⟩, hWT, hoi, hG, hmi, hcl, hKK, hA, hX, hbl, hbA, hin, hRf, hRl⟩ := Z
  simp only [mm_ok, mm_sd, Bool.and_eq_true, decide_eq_true_eq] at hok
  obtain ⟨hd, h1⟩ := hok
  subst h1
  obtain ⟨y, x, r, rfl, hE15⟩ := mm_s2_inv hE
  intro φ H locs ls f0 g0 hn k1 k2 hP hD hS hl
  exact lv_ixor hx hb hd (hK _ _ _ _ _ _ hE15 φ H locs ls f0 g0 hn k1 k2 hP hD hS hl)
theorem mm_x_ishl (Z : mm_Cx p l R s m args meth c D dA cl b A mi df WS Ts nF nM nm w d xs) {K : mm_K} (hK : ∀ pc L st h kc ks, K pc L st h kc ks → mm_Go p l e R s m args below meth c Q D dA cl b A φ0 n0 (mm_n (mi w)) pc L st h kc ks) {len a bb pc kc ks : Nat} {k : Int32} {L : mm_L} {st : List Value} {h : mm_H}  (hok : mm_ok mi cl WS nF nM nm w pc (.ishl, len, a, bb, k) = true) (hE : mm_s2 st fun y x r => K (pc + len) L (.int (x <<< (y &&& 31)) :: r) h kc ks) : mm_Go p l e R s m args below meth c Q D dA cl b A φ0 n0 (mm_n (mi w)) pc L st h kc ks := by
  obtain ⟨⟨hx, hb, hml, hown, hts⟩, hWT, hoi, hG, hmi, hcl, hKK, hA, hX, hbl, hbA, hin, hRf, hRl⟩ := Z
  simp only [mm_ok, mm_sd, Bool.and_eq_true, decide_eq_true_eq] at hok
  obtain ⟨hd, h1⟩ := hok
  subst h1
  obtain ⟨y, x, r, rfl, hE16⟩ := mm_s2_inv hE
  intro φ H locs ls f0 g0 hn k1 k2 hP hD hS hl
  exact lv_ishl hx hb hd (hK _ _ _ _ _ _ hE16 φ H locs ls f0 g0 hn k1 k2 hP hD hS hl)
theorem mm_x_ishr (Z : mm_Cx p l R s m args meth c D dA cl b A mi df WS Ts nF nM nm w d xs) {K : mm_K} (hK : ∀ pc L st h kc ks, K pc L st h kc ks → mm_Go p l e R s m args below meth c Q D dA cl b A φ0 n0 (mm_n (mi w)) pc L st h kc ks) {len a bb pc kc ks : Nat} {k : Int32} {L : mm_L} {st : List Value} {h : mm_H}  (hok : mm_ok mi cl WS nF nM nm w pc (.ishr, len, a, bb, k) = true) (hE : mm_s2 st fun y x r => K (pc + len) L (.int (x >>> (y &&& 31)) :: r) h kc ks) : mm_Go p l e R s m args below meth c Q D dA cl b A φ0 n0 (mm_n (mi w)) pc L st h kc ks := by
  obtain ⟨⟨hx, hb, hml, hown, hts⟩, hWT, hoi, hG, hmi, hcl, hKK, hA, hX, hbl, hbA, hin, hRf, hRl⟩ := Z
  simp only [mm_ok, mm_sd, Bool.and_eq_true, decide_eq_true_eq] at hok
  obtain ⟨hd, h1⟩ := hok
  subst h1
  obtain ⟨y, x, r, rfl, hE17⟩ := mm_s2_inv hE
  intro φ H locs ls f0 g0 hn k1 k2 hP hD hS hl
  exact lv_ishr hx hb hd (hK _ _ _ _ _ _ hE17 φ H locs ls f0 g0 hn k1 k2 hP hD hS hl)
theorem mm_x_idiv (Z : mm_Cx p l R s m args meth c D dA cl b A mi df WS Ts nF nM nm w d xs) {K : mm_K} (hK : ∀ pc L st h kc ks, K pc L st h kc ks → mm_Go p l e R s m args below meth c Q D dA cl b A φ0 n0 (mm_n (mi w)) pc L st h kc ks) {len a bb pc kc ks : Nat} {k : Int32} {L : mm_L} {st : List Value} {h : mm_H}  (hok : mm_ok mi cl WS nF nM nm w pc (.idiv, len, a, bb, k) = true) (hE : mm_s2 st fun y x r => ¬ y = 0 ∧ K (pc + len) L (.int (x / y) :: r) h kc ks) : mm_Go p l e R s m args below meth c Q D dA cl b A φ0 n0 (mm_n (mi w)) pc L st h kc ks := by
  obtain ⟨⟨hx, hb, hml, hown, hts⟩, hWT, hoi, hG, hmi, hcl, hKK, hA, hX, hbl, hbA, hin, hRf, hRl⟩ := Z
  simp only [mm_ok, mm_sd, Bool.and_eq_true, decide_eq_true_eq] at hok
  obtain ⟨hd, h1⟩ := hok
  subst h1
  obtain ⟨y, x, r, rfl, hy, hE18⟩ := mm_s2_inv hE
  intro φ H locs ls f0 g0 hn k1 k2 hP hD hS hl
  exact lv_idiv hx hb hd hy (hK _ _ _ _ _ _ hE18 φ H locs ls f0 g0 hn k1 k2 hP hD hS hl)
theorem mm_x_irem (Z : mm_Cx p l R s m args meth c D dA cl b A mi df WS Ts nF nM nm w d xs) {K : mm_K} (hK : ∀ pc L st h kc ks, K pc L st h kc ks → mm_Go p l e R s m args below meth c Q D dA cl b A φ0 n0 (mm_n (mi w)) pc L st h kc ks) {len a bb pc kc ks : Nat} {k : Int32} {L : mm_L} {st : List Value} {h : mm_H}  (hok : mm_ok mi cl WS nF nM nm w pc (.irem, len, a, bb, k) = true) (hE : mm_s2 st fun y x r => ¬ y = 0 ∧ K (pc + len) L (.int (x - x / y * y) :: r) h kc ks) : mm_Go p l e R s m args below meth c Q D dA cl b A φ0 n0 (mm_n (mi w)) pc L st h kc ks := by
  obtain ⟨⟨hx, hb, hml, hown, hts⟩, hWT, hoi, hG, hmi, hcl, hKK, hA, hX, hbl, hbA, hin, hRf, hRl⟩ := Z
  simp only [mm_ok, mm_sd, Bool.and_eq_true, decide_eq_true_eq] at hok
  obtain ⟨hd, h1⟩ := hok
  subst h1
  obtain ⟨y, x, r, rfl, hy, hE19⟩ := mm_s2_inv hE
  intro φ H locs ls f0 g0 hn k1 k2 hP hD hS hl
  exact lv_irem hx hb hd hy (hK _ _ _ _ _ _ hE19 φ H locs ls f0 g0 hn k1 k2 hP hD hS hl)
theorem mm_x_ineg (Z : mm_Cx p l R s m args meth c D dA cl b A mi df WS Ts nF nM nm w d xs) {K : mm_K} (hK : ∀ pc L st h kc ks, K pc L st h kc ks → mm_Go p l e R s m args below meth c Q D dA cl b A φ0 n0 (mm_n (mi w)) pc L st h kc ks) {len a bb pc kc ks : Nat} {k : Int32} {L : mm_L} {st : List Value} {h : mm_H}  (hok : mm_ok mi cl WS nF nM nm w pc (.ineg, len, a, bb, k) = true) (hE : mm_s1 st fun x r => K (pc + len) L (.int (-x) :: r) h kc ks) : mm_Go p l e R s m args below meth c Q D dA cl b A φ0 n0 (mm_n (mi w)) pc L st h kc ks := by
  obtain ⟨⟨hx, hb, hml, hown, hts⟩, hWT, hoi, hG, hmi, hcl, hKK, hA, hX, hbl, hbA, hin, hRf, hRl⟩ := Z
  simp only [mm_ok, mm_sd, Bool.and_eq_true, decide_eq_true_eq] at hok
  obtain ⟨hd, h1⟩ := hok
  subst h1
  obtain ⟨x, r, rfl, hE20⟩ := mm_s1_inv hE
  intro φ H locs ls f0 g0 hn k1 k2 hP hD hS hl
  exact lv_ineg hx hb hd (hK _ _ _ _ _ _ hE20 φ H locs ls f0 g0 hn k1 k2 hP hD hS hl)
theorem mm_x_i2c (Z : mm_Cx p l R s m args meth c D dA cl b A mi df WS Ts nF nM nm w d xs) {K : mm_K} (hK : ∀ pc L st h kc ks, K pc L st h kc ks → mm_Go p l e R s m args below meth c Q D dA cl b A φ0 n0 (mm_n (mi w)) pc L st h kc ks) {len a bb pc kc ks : Nat} {k : Int32} {L : mm_L} {st : List Value} {h : mm_H}  (hok : mm_ok mi cl WS nF nM nm w pc (.i2c, len, a, bb, k) = true) (hE : mm_s1 st fun x r => K (pc + len) L (.int (x.toUInt32 % 65536).toInt32 :: r) h kc ks) : mm_Go p l e R s m args below meth c Q D dA cl b A φ0 n0 (mm_n (mi w)) pc L st h kc ks := by
  obtain ⟨⟨hx, hb, hml, hown, hts⟩, hWT, hoi, hG, hmi, hcl, hKK, hA, hX, hbl, hbA, hin, hRf, hRl⟩ := Z
  simp only [mm_ok, mm_sd, Bool.and_eq_true, decide_eq_true_eq] at hok
  obtain ⟨hd, h1⟩ := hok
  subst h1
  obtain ⟨x, r, rfl, hE21⟩ := mm_s1_inv hE
  intro φ H locs ls f0 g0 hn k1 k2 hP hD hS hl
  exact lv_i2c hx hb hd rfl (hK _ _ _ _ _ _ hE21 φ H locs ls f0 g0 hn k1 k2 hP hD hS hl)
theorem mm_x_dup (Z : mm_Cx p l R s m args meth c D dA cl b A mi df WS Ts nF nM nm w d xs) {K : mm_K} (hK : ∀ pc L st h kc ks, K pc L st h kc ks → mm_Go p l e R s m args below meth c Q D dA cl b A φ0 n0 (mm_n (mi w)) pc L st h kc ks) {len a bb pc kc ks : Nat} {k : Int32} {L : mm_L} {st : List Value} {h : mm_H}  (hok : mm_ok mi cl WS nF nM nm w pc (.dup, len, a, bb, k) = true) (hE : mm_sv st fun v r => v.category = 1 ∧ K (pc + len) L (v :: v :: r) h kc ks) : mm_Go p l e R s m args below meth c Q D dA cl b A φ0 n0 (mm_n (mi w)) pc L st h kc ks := by
  obtain ⟨⟨hx, hb, hml, hown, hts⟩, hWT, hoi, hG, hmi, hcl, hKK, hA, hX, hbl, hbA, hin, hRf, hRl⟩ := Z
  simp only [mm_ok, mm_sd, Bool.and_eq_true, decide_eq_true_eq] at hok
  obtain ⟨hd, h1⟩ := hok
  subst h1
  obtain ⟨v, r, rfl, c1, hE22⟩ := mm_sv_inv hE
  intro φ H locs ls f0 g0 hn k1 k2 hP hD hS hl
  exact lv_dup hx hb hd (by rw [mm_v_cat]; exact c1) (hK _ _ _ _ _ _ hE22 φ H locs ls f0 g0 hn k1 k2 hP hD hS hl)
theorem mm_x_pop (Z : mm_Cx p l R s m args meth c D dA cl b A mi df WS Ts nF nM nm w d xs) {K : mm_K} (hK : ∀ pc L st h kc ks, K pc L st h kc ks → mm_Go p l e R s m args below meth c Q D dA cl b A φ0 n0 (mm_n (mi w)) pc L st h kc ks) {len a bb pc kc ks : Nat} {k : Int32} {L : mm_L} {st : List Value} {h : mm_H}  (hok : mm_ok mi cl WS nF nM nm w pc (.pop, len, a, bb, k) = true) (hE : mm_sv st fun v r => v.category = 1 ∧ K (pc + len) L r h kc ks) : mm_Go p l e R s m args below meth c Q D dA cl b A φ0 n0 (mm_n (mi w)) pc L st h kc ks := by
  obtain ⟨⟨hx, hb, hml, hown, hts⟩, hWT, hoi, hG, hmi, hcl, hKK, hA, hX, hbl, hbA, hin, hRf, hRl⟩ := Z
  simp only [mm_ok, mm_sd, Bool.and_eq_true, decide_eq_true_eq] at hok
  obtain ⟨hd, h1⟩ := hok
  subst h1
  obtain ⟨v, r, rfl, c1, hE23⟩ := mm_sv_inv hE
  intro φ H locs ls f0 g0 hn k1 k2 hP hD hS hl
  exact lv_pop hx hb hd (by rw [mm_v_cat]; exact c1) (hK _ _ _ _ _ _ hE23 φ H locs ls f0 g0 hn k1 k2 hP hD hS hl)
theorem mm_x_dup_x1 (Z : mm_Cx p l R s m args meth c D dA cl b A mi df WS Ts nF nM nm w d xs) {K : mm_K} (hK : ∀ pc L st h kc ks, K pc L st h kc ks → mm_Go p l e R s m args below meth c Q D dA cl b A φ0 n0 (mm_n (mi w)) pc L st h kc ks) {len a bb pc kc ks : Nat} {k : Int32} {L : mm_L} {st : List Value} {h : mm_H}  (hok : mm_ok mi cl WS nF nM nm w pc (.dup_x1, len, a, bb, k) = true) (hE : mm_sv st fun v r => mm_sv r fun w r => v.category = 1 ∧ w.category = 1 ∧ K (pc + len) L (v :: w :: v :: r) h kc ks) : mm_Go p l e R s m args below meth c Q D dA cl b A φ0 n0 (mm_n (mi w)) pc L st h kc ks := by
  obtain ⟨⟨hx, hb, hml, hown, hts⟩, hWT, hoi, hG, hmi, hcl, hKK, hA, hX, hbl, hbA, hin, hRf, hRl⟩ := Z
  simp only [mm_ok, mm_sd, Bool.and_eq_true, decide_eq_true_eq] at hok
  obtain ⟨hd, h1⟩ := hok
  subst h1
  obtain ⟨v, r, rfl, hE24⟩ := mm_sv_inv hE
  obtain ⟨v2, r, rfl, c1, c2, hE25⟩ := mm_sv_inv hE24
  intro φ H locs ls f0 g0 hn k1 k2 hP hD hS hl
  exact lv_dup_x1 hx hb hd (by rw [mm_v_cat]; exact c1) (by rw [mm_v_cat]; exact c2) (hK _ _ _ _ _ _ hE25 φ H locs ls f0 g0 hn k1 k2 hP hD hS hl)
theorem mm_x_dup2 (Z : mm_Cx p l R s m args meth c D dA cl b A mi df WS Ts nF nM nm w d xs) {K : mm_K} (hK : ∀ pc L st h kc ks, K pc L st h kc ks → mm_Go p l e R s m args below meth c Q D dA cl b A φ0 n0 (mm_n (mi w)) pc L st h kc ks) {len a bb pc kc ks : Nat} {k : Int32} {L : mm_L} {st : List Value} {h : mm_H}  (hok : mm_ok mi cl WS nF nM nm w pc (.dup2, len, a, bb, k) = true) (hE : mm_sv st fun v r => mm_sv r fun w r => v.category = 1 ∧ w.category = 1 ∧ K (pc + len) L (v :: w :: v :: w :: r) h kc ks) : mm_Go p l e R s m args below meth c Q D dA cl b A φ0 n0 (mm_n (mi w)) pc L st h kc ks := by
  obtain ⟨⟨hx, hb, hml, hown, hts⟩, hWT, hoi, hG, hmi, hcl, hKK, hA, hX, hbl, hbA, hin, hRf, hRl⟩ := Z
  simp only [mm_ok, mm_sd, Bool.and_eq_true, decide_eq_true_eq] at hok
  obtain ⟨hd, h1⟩ := hok
  subst h1
  obtain ⟨v, r, rfl, hE26⟩ := mm_sv_inv hE
  obtain ⟨v2, r, rfl, c1, c2, hE27⟩ := mm_sv_inv hE26
  intro φ H locs ls f0 g0 hn k1 k2 hP hD hS hl
  exact lv_dup2_11 hx hb hd (by rw [mm_v_cat]; exact c1) (by rw [mm_v_cat]; exact c2) (hK _ _ _ _ _ _ hE27 φ H locs ls f0 g0 hn k1 k2 hP hD hS hl)
theorem mm_x_dup_x2 (Z : mm_Cx p l R s m args meth c D dA cl b A mi df WS Ts nF nM nm w d xs) {K : mm_K} (hK : ∀ pc L st h kc ks, K pc L st h kc ks → mm_Go p l e R s m args below meth c Q D dA cl b A φ0 n0 (mm_n (mi w)) pc L st h kc ks) {len a bb pc kc ks : Nat} {k : Int32} {L : mm_L} {st : List Value} {h : mm_H}  (hok : mm_ok mi cl WS nF nM nm w pc (.dup_x2, len, a, bb, k) = true) (hE : mm_sv st fun v r => mm_sv r fun w r => mm_sv r fun z r => v.category = 1 ∧ w.category = 1 ∧ z.category = 1 ∧ K (pc + len) L (v :: w :: z :: v :: r) h kc ks) : mm_Go p l e R s m args below meth c Q D dA cl b A φ0 n0 (mm_n (mi w)) pc L st h kc ks := by
  obtain ⟨⟨hx, hb, hml, hown, hts⟩, hWT, hoi, hG, hmi, hcl, hKK, hA, hX, hbl, hbA, hin, hRf, hRl⟩ := Z
  simp only [mm_ok, mm_sd, Bool.and_eq_true, decide_eq_true_eq] at hok
  obtain ⟨hd, h1⟩ := hok
  subst h1
  obtain ⟨v, r, rfl, hE28⟩ := mm_sv_inv hE
  obtain ⟨v2, r, rfl, hE29⟩ := mm_sv_inv hE28
  obtain ⟨v3, r, rfl, c1, c2, c3, hE30⟩ := mm_sv_inv hE29
  intro φ H locs ls f0 g0 hn k1 k2 hP hD hS hl
  exact lv_dup_x2 hx hb hd (by rw [mm_v_cat]; exact c1) (by rw [mm_v_cat]; exact c2) (by rw [mm_v_cat]; exact c3) (hK _ _ _ _ _ _ hE30 φ H locs ls f0 g0 hn k1 k2 hP hD hS hl)
theorem mm_x_ifCond (Z : mm_Cx p l R s m args meth c D dA cl b A mi df WS Ts nF nM nm w d xs) {K : mm_K} (hK : ∀ pc L st h kc ks, K pc L st h kc ks → mm_Go p l e R s m args below meth c Q D dA cl b A φ0 n0 (mm_n (mi w)) pc L st h kc ks) {len a bb pc kc ks : Nat} {k : Int32} {L : mm_L} {st : List Value} {h : mm_H} {cnd : Jvm.ClassFile.Cond} {off : Int} (hok : mm_ok mi cl WS nF nM nm w pc (.ifCond cnd off, len, a, bb, k) = true) (hE : mm_s1 st fun x r => (mm_cz cnd x → K a L r h kc ks) ∧ (¬ mm_cz cnd x → K (pc + len) L r h kc ks)) : mm_Go p l e R s m args below meth c Q D dA cl b A φ0 n0 (mm_n (mi w)) pc L st h kc ks := by
  obtain ⟨⟨hx, hb, hml, hown, hts⟩, hWT, hoi, hG, hmi, hcl, hKK, hA, hX, hbl, hbA, hin, hRf, hRl⟩ := Z
  simp only [mm_ok, mm_sd, Bool.and_eq_true, decide_eq_true_eq] at hok
  obtain ⟨hd, h1, h2⟩ := hok
  subst h1
  obtain ⟨x, r, rfl, hE31⟩ := mm_s1_inv hE
  intro φ H locs ls f0 g0 hn k1 k2 hP hD hS hl
  cases cnd with
  | eq => exact lv_if_eq hx hb hd h2 (fun hc => (hK _ _ _ _ _ _ (hE.1 hc) φ H locs ls f0 g0 hn k1 k2 hP hD hS hl)) (fun hc => (hK _ _ _ _ _ _ (hE.2 hc) φ H locs ls f0 g0 hn k1 k2 hP hD hS hl))
  | ne => exact lv_if_ne hx hb hd h2 (fun hc => (hK _ _ _ _ _ _ (hE.1 hc) φ H locs ls f0 g0 hn k1 k2 hP hD hS hl)) (fun hc => (hK _ _ _ _ _ _ (hE.2 (fun hn2 => hn2 hc)) φ H locs ls f0 g0 hn k1 k2 hP hD hS hl))
  | lt => exact lv_if_lt hx hb hd h2 (fun hc => (hK _ _ _ _ _ _ (hE.1 hc) φ H locs ls f0 g0 hn k1 k2 hP hD hS hl)) (fun hc => (hK _ _ _ _ _ _ (hE.2 hc) φ H locs ls f0 g0 hn k1 k2 hP hD hS hl))
  | ge => exact lv_if_ge hx hb hd h2 (fun hc => (hK _ _ _ _ _ _ (hE.1 hc) φ H locs ls f0 g0 hn k1 k2 hP hD hS hl)) (fun hc => (hK _ _ _ _ _ _ (hE.2 hc) φ H locs ls f0 g0 hn k1 k2 hP hD hS hl))
  | gt => exact lv_if_gt hx hb hd h2 (fun hc => (hK _ _ _ _ _ _ (hE.1 hc) φ H locs ls f0 g0 hn k1 k2 hP hD hS hl)) (fun hc => (hK _ _ _ _ _ _ (hE.2 hc) φ H locs ls f0 g0 hn k1 k2 hP hD hS hl))
  | le => exact lv_if_le hx hb hd h2 (fun hc => (hK _ _ _ _ _ _ (hE.1 hc) φ H locs ls f0 g0 hn k1 k2 hP hD hS hl)) (fun hc => (hK _ _ _ _ _ _ (hE.2 hc) φ H locs ls f0 g0 hn k1 k2 hP hD hS hl))
theorem mm_x_if_icmp (Z : mm_Cx p l R s m args meth c D dA cl b A mi df WS Ts nF nM nm w d xs) {K : mm_K} (hK : ∀ pc L st h kc ks, K pc L st h kc ks → mm_Go p l e R s m args below meth c Q D dA cl b A φ0 n0 (mm_n (mi w)) pc L st h kc ks) {len a bb pc kc ks : Nat} {k : Int32} {L : mm_L} {st : List Value} {h : mm_H} {cnd : Jvm.ClassFile.Cond} {off : Int} (hok : mm_ok mi cl WS nF nM nm w pc (.if_icmp cnd off, len, a, bb, k) = true) (hE : mm_s2 st fun y x r => (mm_cc cnd x y → K a L r h kc ks) ∧ (¬ mm_cc cnd x y → K (pc + len) L r h kc ks)) : mm_Go p l e R s m args below meth c Q D dA cl b A φ0 n0 (mm_n (mi w)) pc L st h kc ks := by
  obtain ⟨⟨hx, hb, hml, hown, hts⟩, hWT, hoi, hG, hmi, hcl, hKK, hA, hX, hbl, hbA, hin, hRf, hRl⟩ := Z
  simp only [mm_ok, mm_sd, Bool.and_eq_true, decide_eq_true_eq] at hok
  obtain ⟨hd, h1, h2⟩ := hok
  subst h1
  obtain ⟨y, x, r, rfl, hE32⟩ := mm_s2_inv hE
  intro φ H locs ls f0 g0 hn k1 k2 hP hD hS hl
  cases cnd with
  | eq => exact lv_icmp_eq hx hb hd h2 (fun hc => (hK _ _ _ _ _ _ (hE.1 hc) φ H locs ls f0 g0 hn k1 k2 hP hD hS hl)) (fun hc => (hK _ _ _ _ _ _ (hE.2 hc) φ H locs ls f0 g0 hn k1 k2 hP hD hS hl))
  | ne => exact lv_icmp_ne hx hb hd h2 (fun hc => (hK _ _ _ _ _ _ (hE.1 hc) φ H locs ls f0 g0 hn k1 k2 hP hD hS hl)) (fun hc => (hK _ _ _ _ _ _ (hE.2 (fun hn2 => hn2 hc)) φ H locs ls f0 g0 hn k1 k2 hP hD hS hl))
  | lt => exact lv_icmp_lt hx hb hd h2 (fun hc => (hK _ _ _ _ _ _ (hE.1 hc) φ H locs ls f0 g0 hn k1 k2 hP hD hS hl)) (fun hc => (hK _ _ _ _ _ _ (hE.2 hc) φ H locs ls f0 g0 hn k1 k2 hP hD hS hl))
  | ge => exact lv_icmp_ge hx hb hd h2 (fun hc => (hK _ _ _ _ _ _ (hE.1 hc) φ H locs ls f0 g0 hn k1 k2 hP hD hS hl)) (fun hc => (hK _ _ _ _ _ _ (hE.2 hc) φ H locs ls f0 g0 hn k1 k2 hP hD hS hl))
  | gt => exact lv_icmp_gt hx hb hd h2 (fun hc => (hK _ _ _ _ _ _ (hE.1 hc) φ H locs ls f0 g0 hn k1 k2 hP hD hS hl)) (fun hc => (hK _ _ _ _ _ _ (hE.2 hc) φ H locs ls f0 g0 hn k1 k2 hP hD hS hl))
  | le => exact lv_icmp_le hx hb hd h2 (fun hc => (hK _ _ _ _ _ _ (hE.1 hc) φ H locs ls f0 g0 hn k1 k2 hP hD hS hl)) (fun hc => (hK _ _ _ _ _ _ (hE.2 hc) φ H locs ls f0 g0 hn k1 k2 hP hD hS hl))
theorem mm_x_goto (Z : mm_Cx p l R s m args meth c D dA cl b A mi df WS Ts nF nM nm w d xs) {K : mm_K} (hK : ∀ pc L st h kc ks, K pc L st h kc ks → mm_Go p l e R s m args below meth c Q D dA cl b A φ0 n0 (mm_n (mi w)) pc L st h kc ks) {len a bb pc kc ks : Nat} {k : Int32} {L : mm_L} {st : List Value} {h : mm_H} {off : Int} (hok : mm_ok mi cl WS nF nM nm w pc (.goto off, len, a, bb, k) = true) (hE : K a L st h kc ks) : mm_Go p l e R s m args below meth c Q D dA cl b A φ0 n0 (mm_n (mi w)) pc L st h kc ks := by
  obtain ⟨⟨hx, hb, hml, hown, hts⟩, hWT, hoi, hG, hmi, hcl, hKK, hA, hX, hbl, hbA, hin, hRf, hRl⟩ := Z
  simp only [mm_ok, mm_sd, Bool.and_eq_true, decide_eq_true_eq] at hok
  obtain ⟨hd, h1, h2⟩ := hok
  subst h1
  intro φ H locs ls f0 g0 hn k1 k2 hP hD hS hl
  exact lv_goto hx hb hd h2 (hK _ _ _ _ _ _ hE φ H locs ls f0 g0 hn k1 k2 hP hD hS hl)
theorem mm_x_lookupswitch (Z : mm_Cx p l R s m args meth c D dA cl b A mi df WS Ts nF nM nm w d xs) {K : mm_K} (hK : ∀ pc L st h kc ks, K pc L st h kc ks → mm_Go p l e R s m args below meth c Q D dA cl b A φ0 n0 (mm_n (mi w)) pc L st h kc ks) {len a bb pc kc ks : Nat} {k : Int32} {L : mm_L} {st : List Value} {h : mm_H} {dd : Int} {ps : Array (Int × Int)} (hok : mm_ok mi cl WS nF nM nm w pc (.lookupswitch dd ps, len, a, bb, k) = true) (hE : mm_s1 st fun x r => ∃ t : Nat, (pc : Int) + Op.lookupswitch.offset ps.toList dd x.toInt = (t : Int) ∧ K t L r h kc ks) : mm_Go p l e R s m args below meth c Q D dA cl b A φ0 n0 (mm_n (mi w)) pc L st h kc ks := by
  obtain ⟨⟨hx, hb, hml, hown, hts⟩, hWT, hoi, hG, hmi, hcl, hKK, hA, hX, hbl, hbA, hin, hRf, hRl⟩ := Z
  simp only [mm_ok, mm_sd, Bool.and_eq_true, decide_eq_true_eq] at hok
  obtain ⟨hd, h1⟩ := hok
  obtain ⟨x, r, rfl, t, ht, hE33⟩ := mm_s1_inv hE
  intro φ H locs ls f0 g0 hn k1 k2 hP hD hS hl
  exact lv_lookup hx hb hd h1 rfl ht (hK _ _ _ _ _ _ hE33 φ H locs ls f0 g0 hn k1 k2 hP hD hS hl)
theorem mm_x_tableswitch (Z : mm_Cx p l R s m args meth c D dA cl b A mi df WS Ts nF nM nm w d xs) {K : mm_K} (hK : ∀ pc L st h kc ks, K pc L st h kc ks → mm_Go p l e R s m args below meth c Q D dA cl b A φ0 n0 (mm_n (mi w)) pc L st h kc ks) {len a bb pc kc ks : Nat} {k : Int32} {L : mm_L} {st : List Value} {h : mm_H} {dd lo hi : Int} {offs : Array Int} (hok : mm_ok mi cl WS nF nM nm w pc (.tableswitch dd lo hi offs, len, a, bb, k) = true) (hE : mm_s1 st fun x r => (x.toInt < lo ∨ hi < x.toInt → ∃ t : Nat, (pc : Int) + dd = (t : Int) ∧ K t L r h kc ks) ∧ (¬ x.toInt < lo → ¬ hi < x.toInt → ∃ (o : Int) (t : Nat), offs[(x.toInt - lo).toNat]? = some o ∧ (pc : Int) + o = (t : Int) ∧ K t L r h kc ks)) : mm_Go p l e R s m args below meth c Q D dA cl b A φ0 n0 (mm_n (mi w)) pc L st h kc ks := by
  obtain ⟨⟨hx, hb, hml, hown, hts⟩, hWT, hoi, hG, hmi, hcl, hKK, hA, hX, hbl, hbA, hin, hRf, hRl⟩ := Z
  simp only [mm_ok, mm_sd, Bool.and_eq_true, decide_eq_true_eq] at hok
  obtain ⟨hd, h1⟩ := hok
  obtain ⟨x, r, rfl, hE34⟩ := mm_s1_inv hE
  intro φ H locs ls f0 g0 hn k1 k2 hP hD hS hl
  by_cases hc : x.toInt < lo ∨ hi < x.toInt
  · obtain ⟨t, ht, hE35⟩ := hE34.1 hc
    exact lv_tableOut hx hb hd hc ht (hK _ _ _ _ _ _ hE35 φ H locs ls f0 g0 hn k1 k2 hP hD hS hl)
  · obtain ⟨o, t, ho, ht, hE36⟩ := hE34.2 (fun z => hc (Or.inl z)) (fun z => hc (Or.inr z))
    exact lv_tableIn hx hb hd (fun z => hc (Or.inl z)) (fun z => hc (Or.inr z)) ho ht (hK _ _ _ _ _ _ hE36 φ H locs ls f0 g0 hn k1 k2 hP hD hS hl)
theorem mm_x_getfield (Z : mm_Cx p l R s m args meth c D dA cl b A mi df WS Ts nF nM nm w d xs) {K : mm_K} (hK : ∀ pc L st h kc ks, K pc L st h kc ks → mm_Go p l e R s m args below meth c Q D dA cl b A φ0 n0 (mm_n (mi w)) pc L st h kc ks) {len a bb pc kc ks : Nat} {k : Int32} {L : mm_L} {st : List Value} {h : mm_H} {i : Nat} (hok : mm_ok mi cl WS nF nM nm w pc (.getfield i, len, a, bb, k) = true) (hE : mm_sr st fun o r => mm_ob h o fun ci fs => mm_fd fs bb fun v => ci = a ∧ K (pc + len) L (v :: r) h kc ks) : mm_Go p l e R s m args below meth c Q D dA cl b A φ0 n0 (mm_n (mi w)) pc L st h kc ks := by
  obtain ⟨⟨hx, hb, hml, hown, hts⟩, hWT, hoi, hG, hmi, hcl, hKK, hA, hX, hbl, hbA, hin, hRf, hRl⟩ := Z
  simp only [mm_ok, mm_sd, Bool.and_eq_true, decide_eq_true_eq] at hok
  obtain ⟨hd, h1, hfl⟩ := hok
  subst h1
  obtain ⟨o, r, rfl, hE37⟩ := mm_sr_inv hE
  obtain ⟨ci, fs, ho, hE38⟩ := mm_ob_inv hE37
  obtain ⟨v, hv, rfl, hE39⟩ := mm_fd_inv hE38
  unfold mm_fl at hfl
  split at hfl
  · cases hfl
  · rename_i q hq
    simp only [Bool.and_eq_true, decide_eq_true_eq, mm_lk, Bool.or_eq_true, List.any_eq_true] at hfl
    obtain ⟨hk, hlk⟩ := hfl
    obtain ⟨u1, u2, u3, u4, u5⟩ := mm_okc_spec (hcl _ _ hq)
    intro φ H locs ls f0 g0 hn k1 k2 hP hD hS hl
    have hfv : (fs.map (mm_v b φ))[bb]? = some (mm_v b φ v) := by rw [List.getElem?_map, hv]; rfl
    rcases hlk with hlk | ⟨q2, hq2, e1, e2, e3, e4, e5⟩
    · exact va_get (C := q.1) (T := q.2.1) (N := q.2.2) hx hb hts (fun x h9 => hWT _ (u1 x h9)) hown hKK.1 hP o (mm_w_at ho) hq bb hk (hts _ (hWT _ hlk)) (fun _ h9 => h9) hfv hd (hK _ _ _ _ _ _ hE39 φ H locs ls f0 g0 hn k1 k2 hP hD hS hl)
    · have hz := hKK.2.1 q2 hq2
      rw [e1, e2, e3, e4, e5] at hz
      exact va_getN (C := q.1) (T := q.2.1) (N := q.2.2) hx hb hts (fun x h9 => hWT _ (u1 x h9)) hown hKK.1 hP o (mm_w_at ho) hq bb hk (va_Nw.use rfl hz) (fun _ h9 => h9) hfv hd (hK _ _ _ _ _ _ hE39 φ H locs ls f0 g0 hn k1 k2 hP hD hS hl)
theorem mm_x_putfield (Z : mm_Cx p l R s m args meth c D dA cl b A mi df WS Ts nF nM nm w d xs) {K : mm_K} (hK : ∀ pc L st h kc ks, K pc L st h kc ks → mm_Go p l e R s m args below meth c Q D dA cl b A φ0 n0 (mm_n (mi w)) pc L st h kc ks) {len a bb pc kc ks : Nat} {k : Int32} {L : mm_L} {st : List Value} {h : mm_H} {i : Nat} (hok : mm_ok mi cl WS nF nM nm w pc (.putfield i, len, a, bb, k) = true) (hE : mm_sv st fun v r => mm_sr r fun o r => mm_ob h o fun ci fs => ci = a ∧ bb < fs.length ∧ mm_fit k v ∧ K (pc + len) L r (h.set o (.inr (ci, fs.set bb v))) kc ks) : mm_Go p l e R s m args below meth c Q D dA cl b A φ0 n0 (mm_n (mi w)) pc L st h kc ks := by
  obtain ⟨⟨hx, hb, hml, hown, hts⟩, hWT, hoi, hG, hmi, hcl, hKK, hA, hX, hbl, hbA, hin, hRf, hRl⟩ := Z
  simp only [mm_ok, mm_sd, Bool.and_eq_true, decide_eq_true_eq] at hok
  obtain ⟨hd, h1, hfl⟩ := hok
  subst h1
  obtain ⟨v, r, rfl, hE40⟩ := mm_sv_inv hE
  obtain ⟨o, r, rfl, hE41⟩ := mm_sr_inv hE40
  obtain ⟨ci, fs, ho, rfl, hlen, hfit, hE42⟩ := mm_ob_inv hE41
  unfold mm_fp at hfl
  split at hfl
  · cases hfl
  · rename_i q hq
    simp only [Bool.and_eq_true, decide_eq_true_eq] at hfl
    obtain ⟨⟨hk, hty⟩, hlk⟩ := hfl
    obtain ⟨u1, u2, u3, u4, u5⟩ := mm_okc_spec (hcl _ _ hq)
    split at hty
    · cases hty
    · rename_i ty hpd
      intro φ H locs ls f0 g0 hn k1 k2 hP hD hS hl
      obtain ⟨n1, n2⟩ := mm_fit_ok (b := b) (φ := φ) hfit hty
      have hset : (mm_w b φ dA h).set o (φ o, .inr (ci, (fs.map (mm_v b φ)).set bb (mm_v b φ v))) = mm_w b φ dA (h.set o (.inr (ci, fs.set bb v))) := by
        rw [← mm_w_set]
        show _ = (mm_w b φ dA h).set o (φ o, .inr (ci, (fs.set bb v).map (mm_v b φ)))
        rw [List.map_set]
      have kk : ∀ (H1 : Heap) (locs1 : List Loc), va_P D cl ((mm_w b φ dA h).set o (φ o, .inr (ci, (fs.map (mm_v b φ)).set bb (mm_v b φ v)))) H1 → va_D A ((mm_w b φ dA h).set o (φ o, .inr (ci, (fs.map (mm_v b φ)).set bb (mm_v b φ v)))) → va_S A s.heap H1 locs1 → W p l e R s m args below meth c H1 locs1 kc ks Q (F0 m (pc + 3) ls (r.map (mm_v b φ))) := by
        intro H1 locs1 hP1 hD1 hS1
        rw [hset] at hP1 hD1
        exact hK _ _ _ _ _ _ hE42 φ H1 locs1 ls f0 g0 (by rw [List.length_set]; exact hn) k1 k2 hP1 hD1 hS1 hl
      have hl2 : bb < (fs.map (mm_v b φ)).length := by rw [List.length_map]; exact hlen
      split at hlk
      · rename_i hfin
        simp only [Bool.and_eq_true, decide_eq_true_eq] at hlk
        exact va_putF (C := q.1) (T := q.2.1) (N := q.2.2) hx hb hts (fun x h9 => hWT _ (u1 x h9)) _ u2 u3 hown hKK.1 hP hD hS o (mm_w_at ho) hq bb hk (hts _ (hWT _ hlk.2)) (fun _ h9 => h9) hfin (hin hlk.1.1) hlk.1.2 hpd n1 n2 hl2 hd kk
      · rename_i hfin
        have hfin : (q.2.1 bb).2.2.2 = false := by simpa using hfin
        simp only [mm_lk, Bool.or_eq_true, decide_eq_true_eq, List.any_eq_true] at hlk
        rcases hlk with hlk | ⟨q2, hq2, e1, e2, e3, e4, e5⟩
        · exact va_put (C := q.1) (T := q.2.1) (N := q.2.2) hx hb hts (fun x h9 => hWT _ (u1 x h9)) _ u2 u3 hown hKK.1 hP hD hS o (mm_w_at ho) hq bb hk (hts _ (hWT _ hlk)) (fun _ h9 => h9) hfin hpd n1 n2 hl2 hd kk
        · have hz := hKK.2.1 q2 hq2
          rw [e1, e2, e3, e4, e5] at hz
          exact va_putN (C := q.1) (T := q.2.1) (N := q.2.2) hx hb hts (fun x h9 => hWT _ (u1 x h9)) _ u2 u3 hown hKK.1 hP hD hS o (mm_w_at ho) hq bb hk (va_Nw.use rfl hz) (fun _ h9 => h9) hfin hpd n1 n2 hl2 hd kk
theorem mm_x_iaload (Z : mm_Cx p l R s m args meth c D dA cl b A mi df WS Ts nF nM nm w d xs) {K : mm_K} (hK : ∀ pc L st h kc ks, K pc L st h kc ks → mm_Go p l e R s m args below meth c Q D dA cl b A φ0 n0 (mm_n (mi w)) pc L st h kc ks) {len a bb pc kc ks : Nat} {k : Int32} {L : mm_L} {st : List Value} {h : mm_H}  (hok : mm_ok mi cl WS nF nM nm w pc (.iaload, len, a, bb, k) = true) (hE : mm_s1 st fun i r => mm_sx r (fun r => vp_in i xs.1 ∧ K (pc + len) L (.int (xs.2 i.toNatClampNeg) :: r) h kc ks) (fun o r => mm_ar h o fun ty n f => ty = .int ∧ vp_in i n ∧ K (pc + len) L (.int (f i.toNatClampNeg) :: r) h kc ks)) : mm_Go p l e R s m args below meth c Q D dA cl b A φ0 n0 (mm_n (mi w)) pc L st h kc ks := by
  obtain ⟨⟨hx, hb, hml, hown, hts⟩, hWT, hoi, hG, hmi, hcl, hKK, hA, hX, hbl, hbA, hin, hRf, hRl⟩ := Z
  simp only [mm_ok, mm_sd, Bool.and_eq_true, decide_eq_true_eq] at hok
  obtain ⟨hd, h1⟩ := hok
  subst h1
  obtain ⟨i, r, rfl, hE43⟩ := mm_s1_inv hE
  intro φ H locs ls f0 g0 hn k1 k2 hP hD hS hl
  rcases mm_sx_inv hE43 with ⟨z, r, rfl, hi, hE44⟩ | ⟨o, r, rfl, hE44⟩
  · exact va_sld (A := A) hx hb hX hbl hbA hS hi hd (hK _ _ _ _ _ _ hE44 φ H locs ls f0 g0 hn k1 k2 hP hD hS hl)
  · obtain ⟨ty, n, f, ho, rfl, hi, hE45⟩ := mm_ar_inv hE44
    exact va_iald hx hb hKK.1 hP o 0 (mm_w_at ho) mm_tyI hi hd (hK _ _ _ _ _ _ hE45 φ H locs ls f0 g0 hn k1 k2 hP hD hS hl)
theorem mm_x_baload (Z : mm_Cx p l R s m args meth c D dA cl b A mi df WS Ts nF nM nm w d xs) {K : mm_K} (hK : ∀ pc L st h kc ks, K pc L st h kc ks → mm_Go p l e R s m args below meth c Q D dA cl b A φ0 n0 (mm_n (mi w)) pc L st h kc ks) {len a bb pc kc ks : Nat} {k : Int32} {L : mm_L} {st : List Value} {h : mm_H}  (hok : mm_ok mi cl WS nF nM nm w pc (.baload, len, a, bb, k) = true) (hE : mm_s1 st fun i r => mm_sr r fun o r => mm_ar h o fun ty n f => ty = .boolean ∧ vp_in i n ∧ K (pc + len) L (.int (f i.toNatClampNeg) :: r) h kc ks) : mm_Go p l e R s m args below meth c Q D dA cl b A φ0 n0 (mm_n (mi w)) pc L st h kc ks := by
  obtain ⟨⟨hx, hb, hml, hown, hts⟩, hWT, hoi, hG, hmi, hcl, hKK, hA, hX, hbl, hbA, hin, hRf, hRl⟩ := Z
  simp only [mm_ok, mm_sd, Bool.and_eq_true, decide_eq_true_eq] at hok
  obtain ⟨hd, h1⟩ := hok
  subst h1
  obtain ⟨i, r, rfl, hE46⟩ := mm_s1_inv hE
  obtain ⟨o, r, rfl, hE47⟩ := mm_sr_inv hE46
  obtain ⟨ty, n, f, ho, rfl, hi, hE48⟩ := mm_ar_inv hE47
  intro φ H locs ls f0 g0 hn k1 k2 hP hD hS hl
  exact va_zald hx hb hKK.1 hP o 1 (mm_w_at ho) mm_tyZ hi hd (hK _ _ _ _ _ _ hE48 φ H locs ls f0 g0 hn k1 k2 hP hD hS hl)
theorem mm_x_caload (Z : mm_Cx p l R s m args meth c D dA cl b A mi df WS Ts nF nM nm w d xs) {K : mm_K} (hK : ∀ pc L st h kc ks, K pc L st h kc ks → mm_Go p l e R s m args below meth c Q D dA cl b A φ0 n0 (mm_n (mi w)) pc L st h kc ks) {len a bb pc kc ks : Nat} {k : Int32} {L : mm_L} {st : List Value} {h : mm_H}  (hok : mm_ok mi cl WS nF nM nm w pc (.caload, len, a, bb, k) = true) (hE : mm_s1 st fun i r => mm_sr r fun o r => mm_ar h o fun ty n f => ty = .char ∧ vp_in i n ∧ K (pc + len) L (.int (f i.toNatClampNeg) :: r) h kc ks) : mm_Go p l e R s m args below meth c Q D dA cl b A φ0 n0 (mm_n (mi w)) pc L st h kc ks := by
  obtain ⟨⟨hx, hb, hml, hown, hts⟩, hWT, hoi, hG, hmi, hcl, hKK, hA, hX, hbl, hbA, hin, hRf, hRl⟩ := Z
  simp only [mm_ok, mm_sd, Bool.and_eq_true, decide_eq_true_eq] at hok
  obtain ⟨hd, h1⟩ := hok
  subst h1
  obtain ⟨i, r, rfl, hE49⟩ := mm_s1_inv hE
  obtain ⟨o, r, rfl, hE50⟩ := mm_sr_inv hE49
  obtain ⟨ty, n, f, ho, rfl, hi, hE51⟩ := mm_ar_inv hE50
  intro φ H locs ls f0 g0 hn k1 k2 hP hD hS hl
  exact va_cald hx hb hKK.1 hP o 2 (mm_w_at ho) mm_tyC hi hd (hK _ _ _ _ _ _ hE51 φ H locs ls f0 g0 hn k1 k2 hP hD hS hl)
theorem mm_x_iastore (Z : mm_Cx p l R s m args meth c D dA cl b A mi df WS Ts nF nM nm w d xs) {K : mm_K} (hK : ∀ pc L st h kc ks, K pc L st h kc ks → mm_Go p l e R s m args below meth c Q D dA cl b A φ0 n0 (mm_n (mi w)) pc L st h kc ks) {len a bb pc kc ks : Nat} {k : Int32} {L : mm_L} {st : List Value} {h : mm_H}  (hok : mm_ok mi cl WS nF nM nm w pc (.iastore, len, a, bb, k) = true) (hE : mm_s2 st fun x i r => mm_sr r fun o r => mm_ar h o fun ty n f => ty = .int ∧ vp_in i n ∧ K (pc + len) L r (h.set o (.inl (.int, n, upd f i.toNatClampNeg x))) kc ks) : mm_Go p l e R s m args below meth c Q D dA cl b A φ0 n0 (mm_n (mi w)) pc L st h kc ks := by
  obtain ⟨⟨hx, hb, hml, hown, hts⟩, hWT, hoi, hG, hmi, hcl, hKK, hA, hX, hbl, hbA, hin, hRf, hRl⟩ := Z
  simp only [mm_ok, mm_sd, Bool.and_eq_true, decide_eq_true_eq] at hok
  obtain ⟨hd, h1⟩ := hok
  subst h1
  obtain ⟨x, i, r, rfl, hE52⟩ := mm_s2_inv hE
  obtain ⟨o, r, rfl, hE53⟩ := mm_sr_inv hE52
  obtain ⟨ty, n, f, ho, rfl, hi, hE54⟩ := mm_ar_inv hE53
  intro φ H locs ls f0 g0 hn k1 k2 hP hD hS hl
  have hset := mm_w_set (b := b) (φ := φ) (dA := dA) (h := h) (o := o) (c := .inl (.int, n, upd f i.toNatClampNeg x))
  exact va_iast hx hb hKK.1 hP hD hS o 0 (mm_w_at ho) mm_tyI hi hd (fun H1 locs1 hP1 hD1 hS1 => hK _ _ _ _ _ _ hE54 φ H1 locs1 ls f0 g0 (by rw [List.length_set]; exact hn) k1 k2 (by rw [← hset]; exact hP1) (by rw [← hset]; exact hD1) hS1 hl)
theorem mm_x_bastore (Z : mm_Cx p l R s m args meth c D dA cl b A mi df WS Ts nF nM nm w d xs) {K : mm_K} (hK : ∀ pc L st h kc ks, K pc L st h kc ks → mm_Go p l e R s m args below meth c Q D dA cl b A φ0 n0 (mm_n (mi w)) pc L st h kc ks) {len a bb pc kc ks : Nat} {k : Int32} {L : mm_L} {st : List Value} {h : mm_H}  (hok : mm_ok mi cl WS nF nM nm w pc (.bastore, len, a, bb, k) = true) (hE : mm_s2 st fun x i r => mm_sr r fun o r => mm_ar h o fun ty n f => ty = .boolean ∧ vp_in i n ∧ K (pc + len) L r (h.set o (.inl (.boolean, n, upd f i.toNatClampNeg (vp_nar .boolean x)))) kc ks) : mm_Go p l e R s m args below meth c Q D dA cl b A φ0 n0 (mm_n (mi w)) pc L st h kc ks := by
  obtain ⟨⟨hx, hb, hml, hown, hts⟩, hWT, hoi, hG, hmi, hcl, hKK, hA, hX, hbl, hbA, hin, hRf, hRl⟩ := Z
  simp only [mm_ok, mm_sd, Bool.and_eq_true, decide_eq_true_eq] at hok
  obtain ⟨hd, h1⟩ := hok
  subst h1
  obtain ⟨x, i, r, rfl, hE55⟩ := mm_s2_inv hE
  obtain ⟨o, r, rfl, hE56⟩ := mm_sr_inv hE55
  obtain ⟨ty, n, f, ho, rfl, hi, hE57⟩ := mm_ar_inv hE56
  intro φ H locs ls f0 g0 hn k1 k2 hP hD hS hl
  have hset := mm_w_set (b := b) (φ := φ) (dA := dA) (h := h) (o := o) (c := .inl (.boolean, n, upd f i.toNatClampNeg (vp_nar .boolean x)))
  exact va_zast hx hb hKK.1 hP hD hS o 1 (mm_w_at ho) mm_tyZ hi hd (fun H1 locs1 hP1 hD1 hS1 => hK _ _ _ _ _ _ hE57 φ H1 locs1 ls f0 g0 (by rw [List.length_set]; exact hn) k1 k2 (by rw [← hset]; exact hP1) (by rw [← hset]; exact hD1) hS1 hl)
theorem mm_x_castore (Z : mm_Cx p l R s m args meth c D dA cl b A mi df WS Ts nF nM nm w d xs) {K : mm_K} (hK : ∀ pc L st h kc ks, K pc L st h kc ks → mm_Go p l e R s m args below meth c Q D dA cl b A φ0 n0 (mm_n (mi w)) pc L st h kc ks) {len a bb pc kc ks : Nat} {k : Int32} {L : mm_L} {st : List Value} {h : mm_H}  (hok : mm_ok mi cl WS nF nM nm w pc (.castore, len, a, bb, k) = true) (hE : mm_s2 st fun x i r => mm_sr r fun o r => mm_ar h o fun ty n f => ty = .char ∧ vp_in i n ∧ K (pc + len) L r (h.set o (.inl (.char, n, upd f i.toNatClampNeg (vp_nar .char x)))) kc ks) : mm_Go p l e R s m args below meth c Q D dA cl b A φ0 n0 (mm_n (mi w)) pc L st h kc ks := by
  obtain ⟨⟨hx, hb, hml, hown, hts⟩, hWT, hoi, hG, hmi, hcl, hKK, hA, hX, hbl, hbA, hin, hRf, hRl⟩ := Z
  simp only [mm_ok, mm_sd, Bool.and_eq_true, decide_eq_true_eq] at hok
  obtain ⟨hd, h1⟩ := hok
  subst h1
  obtain ⟨x, i, r, rfl, hE58⟩ := mm_s2_inv hE
  obtain ⟨o, r, rfl, hE59⟩ := mm_sr_inv hE58
  obtain ⟨ty, n, f, ho, rfl, hi, hE60⟩ := mm_ar_inv hE59
  intro φ H locs ls f0 g0 hn k1 k2 hP hD hS hl
  have hset := mm_w_set (b := b) (φ := φ) (dA := dA) (h := h) (o := o) (c := .inl (.char, n, upd f i.toNatClampNeg (vp_nar .char x)))
  exact va_cast hx hb hKK.1 hP hD hS o 2 (mm_w_at ho) mm_tyC hi hd (fun H1 locs1 hP1 hD1 hS1 => hK _ _ _ _ _ _ hE60 φ H1 locs1 ls f0 g0 (by rw [List.length_set]; exact hn) k1 k2 (by rw [← hset]; exact hP1) (by rw [← hset]; exact hD1) hS1 hl)
theorem mm_x_arraylength (Z : mm_Cx p l R s m args meth c D dA cl b A mi df WS Ts nF nM nm w d xs) {K : mm_K} (hK : ∀ pc L st h kc ks, K pc L st h kc ks → mm_Go p l e R s m args below meth c Q D dA cl b A φ0 n0 (mm_n (mi w)) pc L st h kc ks) {len a bb pc kc ks : Nat} {k : Int32} {L : mm_L} {st : List Value} {h : mm_H}  (hok : mm_ok mi cl WS nF nM nm w pc (.arraylength, len, a, bb, k) = true) (hE : mm_sx st (fun r => K (pc + len) L (.int (Int32.ofNat xs.1) :: r) h kc ks) (fun o r => mm_ar h o fun ty n _ => (ty = .int ∨ ty = .boolean ∨ ty = .char) ∧ K (pc + len) L (.int (Int32.ofNat n) :: r) h kc ks)) : mm_Go p l e R s m args below meth c Q D dA cl b A φ0 n0 (mm_n (mi w)) pc L st h kc ks := by
  obtain ⟨⟨hx, hb, hml, hown, hts⟩, hWT, hoi, hG, hmi, hcl, hKK, hA, hX, hbl, hbA, hin, hRf, hRl⟩ := Z
  simp only [mm_ok, mm_sd, Bool.and_eq_true, decide_eq_true_eq] at hok
  obtain ⟨hd, h1⟩ := hok
  subst h1
  intro φ H locs ls f0 g0 hn k1 k2 hP hD hS hl
  rcases mm_sx_inv hE with ⟨z, r, rfl, hE61⟩ | ⟨o, r, rfl, hE61⟩
  · exact va_slen (A := A) hx hb hX hbl hbA hS hd (hK _ _ _ _ _ _ hE61 φ H locs ls f0 g0 hn k1 k2 hP hD hS hl)
  · obtain ⟨ty, n, f, ho, hty, hE62⟩ := mm_ar_inv hE61
    rcases hty with rfl | rfl | rfl
    · exact va_alen (x := (n, .inl f)) hx hb hKK.1 hP o 0 (mm_w_at ho) mm_tyI rfl hd (hK _ _ _ _ _ _ hE62 φ H locs ls f0 g0 hn k1 k2 hP hD hS hl)
    · exact va_alen (x := (n, .inl f)) hx hb hKK.1 hP o 1 (mm_w_at ho) mm_tyZ rfl hd (hK _ _ _ _ _ _ hE62 φ H locs ls f0 g0 hn k1 k2 hP hD hS hl)
    · exact va_alen (x := (n, .inl f)) hx hb hKK.1 hP o 2 (mm_w_at ho) mm_tyC rfl hd (hK _ _ _ _ _ _ hE62 φ H locs ls f0 g0 hn k1 k2 hP hD hS hl)
theorem mm_x_new (Z : mm_Cx p l R s m args meth c D dA cl b A mi df WS Ts nF nM nm w d xs) {K : mm_K} (hK : ∀ pc L st h kc ks, K pc L st h kc ks → mm_Go p l e R s m args below meth c Q D dA cl b A φ0 n0 (mm_n (mi w)) pc L st h kc ks) {len a bb pc kc ks : Nat} {k : Int32} {L : mm_L} {st : List Value} {h : mm_H} {i : Nat} (hok : mm_ok mi cl WS nF nM nm w pc (.new i, len, a, bb, k) = true) (hE : kc + 1 ≤ R.cells ∧ ks + bb ≤ R.slots ∧ (L.all (mm_wfo h.length) && st.all (mm_wfv h.length) && h.all (mm_wfc h.length)) = true ∧ K (pc + len) L (.ref h.length :: st) (h ++ [.inr (a, df a)]) (kc + 1) (ks + bb)) : mm_Go p l e R s m args below meth c Q D dA cl b A φ0 n0 (mm_n (mi w)) pc L st h kc ks := by
  obtain ⟨⟨hx, hb, hml, hown, hts⟩, hWT, hoi, hG, hmi, hcl, hKK, hA, hX, hbl, hbA, hin, hRf, hRl⟩ := Z
  simp only [mm_ok, mm_sd, Bool.and_eq_true, decide_eq_true_eq] at hok
  obtain ⟨hd, h1, hq⟩ := hok
  subst h1
  obtain ⟨c1, c2, hwf, hE63⟩ := hE
  simp only [Bool.and_eq_true] at hwf
  obtain ⟨⟨w1, w2⟩, w3⟩ := hwf
  split at hq
  · cases hq
  · rename_i q hq1
    simp only [Bool.and_eq_true, decide_eq_true_eq] at hq
    obtain ⟨⟨⟨e1, e2⟩, e3⟩, e4⟩ := hq
    subst e1
    obtain ⟨u1, u2, u3, u4, u5⟩ := mm_okc_spec (hcl _ _ hq1)
    intro φ H locs ls f0 g0 hn k1 k2 hP hD hS hl
    refine va_new (ci := a) (fs := df a) (C := q.1) (T := q.2.1) (N := q.2.2) hx hb hts (fun x h9 => hWT _ (u1 x h9)) (fun k => (parseFieldDescriptor (q.2.1 k).2.2.1).getD .int) u2 hown (hts _ (hWT _ e2)) (hts _ (hWT _ e3)) (hts _ (hWT _ e4)) hKK.1 hP hD hS hA hq1 u4 c1 c2 hd (fun z H1 hP1 hD1 hS1 => ?_)
    have hc : ∀ φ', mm_c b φ' dA (.inr (a, df a)) = .inr (a, df a) := by
      intro φ'
      have hm : (df a).map (mm_v b φ') = df a := by
        conv => rhs; rw [← List.map_id (df a)]
        exact List.map_congr_left (fun v hv => by rcases u5 v hv with rfl | rfl <;> rfl)
      show Sum.inr (a, (df a).map (mm_v b φ')) = _
      rw [hm]
    have hw := mm_w_app (b := b) (q := z) (φ := φ) (dA := dA) (h := h) (c := .inr (a, df a)) (e := .inr (a, df a)) w3 hc
    have hext : ∀ k, k < h.length → (fun k => if k = h.length then z else φ k) k = φ k := fun k hk => if_neg (Nat.ne_of_lt hk)
    have hst : Value.ref z :: st.map (mm_v b φ) = (Value.ref h.length :: st).map (mm_v b (fun k => if k = h.length then z else φ k)) := by
      rw [List.map_cons, mm_vs_ext w2 hext]
      show _ = Value.ref (if h.length = h.length then z else φ h.length) :: _
      rw [if_pos rfl]
    rw [hst]
    exact hK _ _ _ _ _ _ hE63 (fun k => if k = h.length then z else φ k) H1 locs ls (fun k hk => (hext k (Nat.lt_of_lt_of_le hk hn)).trans (f0 k hk)) (fun hz => absurd hz (Nat.succ_ne_zero _)) (by rw [List.length_append]; exact Nat.le_trans hn (Nat.le_add_right _ _)) c1 c2 (by rw [hw]; exact hP1) (by rw [hw]; exact hD1) hS1 (mm_lsub hl (mm_l_ext w1 hext))
theorem mm_newa {nn : Int32} {pc kc ks : Nat} {L : mm_L} {r : List Value} {h : mm_H} {at_ : ArrayType} {ty : FieldType} (Z : mm_Cx p l R s m args meth c D dA cl b A mi df WS Ts nF nM nm w d xs) {K : mm_K} (hK : ∀ pc L st h kc ks, K pc L st h kc ks → mm_Go p l e R s m args below meth c Q D dA cl b A φ0 n0 (mm_n (mi w)) pc L st h kc ks) (hd : decode (mm_b (mi w)) pc = .ok (.newarray at_, 2)) (hty : newarray.typeOf at_ = ty) (harr : Cond.arrayClass (newarray.typeOf at_) ∈ WS) (hpr : va_RA s (dA ty) ty) (huq : ∀ cA, va_RA s cA ty → cA = dA ty) (hdv : defaultValue ty = .int 0) (hcb : componentBytes ty ≤ 4)
    (hE : ¬ nn < 0 ∧ nn.toNatClampNeg ≤ 1000000 ∧ kc + 1 ≤ R.cells ∧ ks + nn.toNatClampNeg ≤ R.slots ∧ (L.all (mm_wfo h.length) && r.all (mm_wfv h.length) && h.all (mm_wfc h.length)) = true ∧ K (pc + 2) L (.ref h.length :: r) (h ++ [.inl (ty, nn.toNatClampNeg, fun _ => 0)]) (kc + 1) (ks + nn.toNatClampNeg)) : mm_Go p l e R s m args below meth c Q D dA cl b A φ0 n0 (mm_n (mi w)) pc L (.int nn :: r) h kc ks := by
  obtain ⟨⟨hx, hb, hml, hown, hts⟩, hWT, hoi, hG, hmi, hcl, hKK, hA, hX, hbl, hbA, hin, hRf, hRl⟩ := Z
  obtain ⟨c0, c1, c2, c3, hwf, hE64⟩ := hE
  simp only [Bool.and_eq_true] at hwf
  obtain ⟨⟨w1, w2⟩, w3⟩ := hwf
  intro φ H locs ls f0 g0 hn k1 k2 hP hD hS hl
  refine va_newa (a0 := (nn.toNatClampNeg, .inl (fun _ => 0))) hx hb (hts _ (hWT _ harr)) hty hKK.1 hP hD hS hA (fun cA => by rw [vp_cell_i, hdv]) c0 rfl (Nat.le_trans (Nat.mul_le_mul c1 hcb) (by decide)) c2 c3 hd (fun z cA H1 hK1 hP1 hD1 hS1 => ?_)
  have hcA : cA = dA ty := huq cA (hK1.2 3 (cA, ty) rfl).2
  subst hcA
  have hw := mm_w_app (b := b) (q := z) (φ := φ) (dA := dA) (h := h) (c := .inl (ty, nn.toNatClampNeg, fun _ => 0)) (e := .inl (dA ty, nn.toNatClampNeg, .inl (fun _ => 0))) w3 (fun _ => rfl)
  have hext : ∀ k, k < h.length → (fun k => if k = h.length then z else φ k) k = φ k := fun k hk => if_neg (Nat.ne_of_lt hk)
  have hst : Value.ref z :: r.map (mm_v b φ) = (Value.ref h.length :: r).map (mm_v b (fun k => if k = h.length then z else φ k)) := by
    rw [List.map_cons, mm_vs_ext w2 hext]
    show _ = Value.ref (if h.length = h.length then z else φ h.length) :: _
    rw [if_pos rfl]
  show W p l e R s m args below meth c H1 locs (kc + 1) (ks + nn.toNatClampNeg) Q (F0 m (pc + 2) ls (Value.ref z :: r.map (mm_v b φ)))
  rw [hst]
  exact hK _ _ _ _ _ _ hE64 (fun k => if k = h.length then z else φ k) H1 locs ls (fun k hk => (hext k (Nat.lt_of_lt_of_le hk hn)).trans (f0 k hk)) (fun hz => absurd hz (Nat.succ_ne_zero _)) (by rw [List.length_append]; exact Nat.le_trans hn (Nat.le_add_right _ _)) c2 c3 (by rw [hw]; exact hP1) (by rw [hw]; exact hD1) hS1 (mm_lsub hl (mm_l_ext w1 hext))
theorem mm_x_newarray (Z : mm_Cx p l R s m args meth c D dA cl b A mi df WS Ts nF nM nm w d xs) {K : mm_K} (hK : ∀ pc L st h kc ks, K pc L st h kc ks → mm_Go p l e R s m args below meth c Q D dA cl b A φ0 n0 (mm_n (mi w)) pc L st h kc ks) {len a bb pc kc ks : Nat} {k : Int32} {L : mm_L} {st : List Value} {h : mm_H} {at_ : ArrayType} (hok : mm_ok mi cl WS nF nM nm w pc (.newarray at_, len, a, bb, k) = true) (hE : mm_s1 st fun n r => ¬ n < 0 ∧ n.toNatClampNeg ≤ 1000000 ∧ kc + 1 ≤ R.cells ∧ ks + n.toNatClampNeg ≤ R.slots ∧ (L.all (mm_wfo h.length) && r.all (mm_wfv h.length) && h.all (mm_wfc h.length)) = true ∧ K (pc + len) L (.ref h.length :: r) (h ++ [.inl (newarray.typeOf at_, n.toNatClampNeg, fun _ => 0)]) (kc + 1) (ks + n.toNatClampNeg)) : mm_Go p l e R s m args below meth c Q D dA cl b A φ0 n0 (mm_n (mi w)) pc L st h kc ks := by
  obtain ⟨⟨hx, hb, hml, hown, hts⟩, hWT, hoi, hG, hmi, hcl, hKK, hA, hX, hbl, hbA, hin, hRf, hRl⟩ := Z
  simp only [mm_ok, mm_sd, Bool.and_eq_true, decide_eq_true_eq] at hok
  obtain ⟨hd, ⟨h1, h2⟩, h3⟩ := hok
  subst h1
  obtain ⟨nn, r, rfl, hE65⟩ := mm_s1_inv hE
  have Z : mm_Cx p l R s m args meth c D dA cl b A mi df WS Ts nF nM nm w d xs := ⟨⟨hx, hb, hml, hown, hts⟩, hWT, hoi, hG, hmi, hcl, hKK, hA, hX, hbl, hbA, hin, hRf, hRl⟩
  simp only [Bool.or_eq_true, decide_eq_true_eq] at h2
  rcases h2 with (h2 | h2) | h2
  · rw [h2] at hE65
    exact mm_newa Z hK hd h2 h3 (hKK.1.2 0 _ mm_tyI).2 (fun cA hc => Option.some.inj ((show s.vm.findClass _ = some cA from hc).symm.trans (show s.vm.findClass _ = some (dA .int) from (hKK.1.2 0 _ mm_tyI).2))) rfl (by decide) hE65
  · rw [h2] at hE65
    exact mm_newa Z hK hd h2 h3 (hKK.1.2 1 _ mm_tyZ).2 (fun cA hc => Option.some.inj ((show s.vm.findClass _ = some cA from hc).symm.trans (show s.vm.findClass _ = some (dA .boolean) from (hKK.1.2 1 _ mm_tyZ).2))) rfl (by decide) hE65
  · rw [h2] at hE65
    exact mm_newa Z hK hd h2 h3 (hKK.1.2 2 _ mm_tyC).2 (fun cA hc => Option.some.inj ((show s.vm.findClass _ = some cA from hc).symm.trans (show s.vm.findClass _ = some (dA .char) from (hKK.1.2 2 _ mm_tyC).2))) rfl (by decide) hE65
end MX
end
section
section MC
variable {p : Program} {l : Launch} {e : Env} {R : Room} {s : State} {m : MethodId} {args : Array Value} {below : List Frame} {meth : Method} {c : Code} {Q : State → Prop}
variable {D : va_G} {dA : FieldType → ClassId} {cl : List vw_C} {b : Nat} {A : Nat → Prop} {φ0 : Nat → Nat} {n0 : Nat}
variable {mi : Nat → mm_M} {tb : Nat → Nat → Option mm_E} {df : Nat → List Value} {WS Ts : List Cond} {nF : List mm_F} {nM : List mm_N} {nm w d : Nat} {xs : Nat × (Nat → Int32)}
/-- what is known of a callee -/
def mm_Ct (l : Launch) (D : va_G) (dA : FieldType → ClassId) (cl : List vw_C) (b : Nat) (mi : Nat → mm_M) (WS : List Cond) (nF : List mm_F) (nM : List mm_N) (nm d : Nat) (xs : Nat × (Nat → Int32)) (C : Nat → mm_H → List Value → (mm_H → Option Value → Prop) → Prop) : Prop :=
  ∀ y h as Pk, y < nm → C y h as Pk → ∀ φ sz, Met l (mm_y (mi y)) (mm_ws mi WS nm y) (mm_rm d (mi y)) (mm_Pc D dA cl nF nM b xs φ h as sz) (mm_Qc D dA cl b φ h sz (mm_mc (mi y)) Pk) (mm_mc (mi y)) (mm_ms (mi y)) (va_A (mm_w b φ dA h) sz)
theorem mm_room {y : Nat} (hm : mm_okm (mi y) = true) (hRf : d + 1 ≤ R.frames) (hRl : 60 * d + 60 ≤ R.locals) : (mm_rm d (mi y)).frames + 1 ≤ R.frames ∧ 8 + (mm_n (mi y) + 11) + (mm_rm d (mi y)).locals ≤ R.locals := by
  simp only [mm_okm, Bool.and_eq_true, decide_eq_true_eq] at hm
  have h1 := hm.1.2
  refine ⟨hRf, ?_⟩
  show 8 + (mm_n (mi y) + 11) + 60 * d ≤ R.locals
  omega
theorem mm_x_objinit (Z : mm_Cx p l R s m args meth c D dA cl b A mi df WS Ts nF nM nm w d xs) {K : mm_K} (hK : ∀ pc L st h kc ks, K pc L st h kc ks → mm_Go p l e R s m args below meth c Q D dA cl b A φ0 n0 (mm_n (mi w)) pc L st h kc ks) {pc kc ks i : Nat} {L : mm_L} {st : List Value} {h : mm_H} (hd : decode (mm_b (mi w)) pc = .ok (.invokespecial i, 3)) (h1 : Cond.methodLink (mm_y (mi w)).cls i objectInit ∈ WS) (h2 : Cond.instanceMethod objectInit ∈ WS)
    (hE : mm_sr st fun _ r => mm_cat r ∧ K (pc + 3) L r h kc ks) : mm_Go p l e R s m args below meth c Q D dA cl b A φ0 n0 (mm_n (mi w)) pc L st h kc ks := by
  obtain ⟨⟨hx, hb, hml, hown, hts⟩, hWT, hoi, hG, hmi, hcl, hKK, hA, hX, hbl, hbA, hin, hRf, hRl⟩ := Z
  obtain ⟨o, r, rfl, hc, hE1⟩ := mm_sr_inv hE
  intro φ H locs ls f0 g0 hn k1 k2 hP hD hS hl
  have hc2 := mm_cat_v (b := b) (φ := φ) hc
  exact W.objInit hx hb hown (hts _ (hWT _ h1)) (hts _ (hWT _ h2)) (hts _ hoi) (g := F0 m pc ls ((Value.ref o :: r).map (mm_v b φ))) rfl (by rw [hml]; exact hl.1) (a := φ o) (rest := r.map (mm_v b φ)) rfl hd (by omega) (by show 2 * 0 + _ + 12 ≤ _; omega) (hK _ _ _ _ _ _ hE1 φ H locs ls f0 g0 hn k1 k2 hP hD hS hl)
theorem mm_x_static (Z : mm_Cx p l R s m args meth c D dA cl b A mi df WS Ts nF nM nm w d xs) {K : mm_K} (hK : ∀ pc L st h kc ks, K pc L st h kc ks → mm_Go p l e R s m args below meth c Q D dA cl b A φ0 n0 (mm_n (mi w)) pc L st h kc ks) {C : Nat → mm_H → List Value → (mm_H → Option Value → Prop) → Prop} (hC : mm_Ct l D dA cl b mi WS nF nM nm d xs C) {y pc kc ks i : Nat} {L : mm_L} {st : List Value} {h : mm_H} (hd : decode (mm_b (mi w)) pc = .ok (.invokestatic i, 3)) (hy : y < nm) (hml0 : mm_ml WS nM (mm_y (mi w)).cls i (mm_y (mi y)) = true) (hmy : mm_my WS (mm_y (mi y)) (mm_k (mi y)) = true) (hst0 : Cond.static (mm_y (mi y)) ∈ WS)
    (hE : mm_cl mi C (R.cells, R.slots) K y (pc + 3) L st h kc ks) : mm_Go p l e R s m args below meth c Q D dA cl b A φ0 n0 (mm_n (mi w)) pc L st h kc ks := by
  obtain ⟨⟨hx, hb, hml, hown, hts⟩, hWT, hoi, hG, hmi, hcl, hKK, hA, hX, hbl, hbA, hin, hRf, hRl⟩ := Z
  obtain ⟨e1, e2, e3, e4, e5, hCy⟩ := hE
  obtain ⟨hyd, hini⟩ := mm_my_spec hmy
  intro φ H locs ls f0 g0 hn k1 k2 hP hD hS hl
  have hM := hC y h _ _ hy hCy φ H.size
  have hR := mm_room (hmi y hy) hRf hRl
  have hlen : ((st.take (mm_k (mi y))).reverse.map (mm_v b φ)).length = mm_k (mi y) := by
    rw [List.length_map, List.length_reverse, List.length_take]
    omega
  have hpre : PreS s H (mm_Pc D dA cl nF nM b xs φ h (st.take (mm_k (mi y))).reverse H.size) ((st.take (mm_k (mi y))).reverse.map (mm_v b φ)) := ⟨mm_Pc_blind, mm_pre hKK hX hbl hbA hP hD hS rfl⟩
  have hrm := mm_cat_v (b := b) (φ := φ) e2
  rcases mm_ml_spec hml0 with hlk | ⟨q2, hq2, r1, r2, r3⟩
  · exact mm_back (va_runS (nL := mm_n (mi w)) (g := F0 m pc ls (st.map (mm_v b φ))) (rest := (st.drop (mm_k (mi y))).map (mm_v b φ)) ⟨hx, hb, hml, hown, hts⟩ hM ⟨callB_of (mm_k (mi y)) hts (hG y hy) rfl rfl rfl (hts _ (hWT _ hini)) (hts _ (hWT _ hlk)) hyd hR, hts _ (hWT _ hst0)⟩ hpre rfl hlen hl.1 mm_stackS (lv_room hrm) hd ⟨e3, e4⟩) hA e3 e4 e5 f0 g0 hn hD hS hl (fun h' v hv => hK _ _ _ _ _ _ hv)
  · have hz := hKK.2.2 q2 hq2
    rw [r1, r2, r3] at hz
    exact mm_back (va_runSN (nL := mm_n (mi w)) (g := F0 m pc ls (st.map (mm_v b φ))) (rest := (st.drop (mm_k (mi y))).map (mm_v b φ)) ⟨hx, hb, hml, hown, hts⟩ hM ⟨va_cnB (mm_k (mi y)) hts (hG y hy) rfl rfl rfl hz (hts _ (hWT _ hini)) hyd hR, hts _ (hWT _ hst0), trivial⟩ hpre rfl hlen hl.1 mm_stackS (lv_room hrm) hd ⟨e3, e4⟩) hA e3 e4 e5 f0 g0 hn hD hS hl (fun h' v hv => hK _ _ _ _ _ _ hv)
theorem mm_x_virtual (Z : mm_Cx p l R s m args meth c D dA cl b A mi df WS Ts nF nM nm w d xs) {K : mm_K} (hK : ∀ pc L st h kc ks, K pc L st h kc ks → mm_Go p l e R s m args below meth c Q D dA cl b A φ0 n0 (mm_n (mi w)) pc L st h kc ks) {C : Nat → mm_H → List Value → (mm_H → Option Value → Prop) → Prop} (hC : mm_Ct l D dA cl b mi WS nF nM nm d xs C) {y pc kc ks i : Nat} {L : mm_L} {st : List Value} {h : mm_H} {q : vw_C} (hd : decode (mm_b (mi w)) pc = .ok (.invokevirtual i, 3)) (hy : y < nm) (hk0 : 0 < mm_k (mi y)) (hml0 : mm_ml WS nM (mm_y (mi w)).cls i (mm_y (mi y)) = true) (hmy : mm_my WS (mm_y (mi y)) (mm_k (mi y) - 1) = true) (hinst : Cond.instanceMethod (mm_y (mi y)) ∈ WS) (hsel : Cond.selects (mm_y (mi y)).cls (mm_y (mi y)) (mm_y (mi y)) ∈ WS) (hq : cl[mm_ci (mi y)]? = some q) (hqc : q.1 = (mm_y (mi y)).cls)
    (hrc : mm_rcv h (mm_ci (mi y)) (st.take (mm_k (mi y))).reverse) (hE : mm_cl mi C (R.cells, R.slots) K y (pc + 3) L st h kc ks) : mm_Go p l e R s m args below meth c Q D dA cl b A φ0 n0 (mm_n (mi w)) pc L st h kc ks := by
  obtain ⟨⟨hx, hb, hml, hown, hts⟩, hWT, hoi, hG, hmi, hcl, hKK, hA, hX, hbl, hbA, hin, hRf, hRl⟩ := Z
  obtain ⟨e1, e2, e3, e4, e5, hCy⟩ := hE
  obtain ⟨hyd, hini⟩ := mm_my_spec hmy
  obtain ⟨o, As, fs, has, ho⟩ := mm_rcv_inv hrc
  intro φ H locs ls f0 g0 hn k1 k2 hP hD hS hl
  have hM := hC y h _ _ hy hCy φ H.size
  have hR := mm_room (hmi y hy) hRf hRl
  have hlen : (As.map (mm_v b φ)).length = mm_k (mi y) - 1 := by
    have h1 : ((st.take (mm_k (mi y))).reverse).length = mm_k (mi y) := by
      rw [List.length_reverse, List.length_take]
      omega
    rw [has, List.length_cons] at h1
    rw [List.length_map]
    omega
  have hpre : PreV s H (mm_y (mi y)).cls (φ o) (mm_Pc D dA cl nF nM b xs φ h (st.take (mm_k (mi y))).reverse H.size) (As.map (mm_v b φ)) :=
    ⟨mm_Pc_blind, by rw [← hqc]; exact va_recv hKK.1 hP hq (mm_w_at ho), mm_pre hKK hX hbl hbA hP hD hS (by rw [has]; rfl)⟩
  have hrm := mm_cat_v (b := b) (φ := φ) e2
  rcases mm_ml_spec hml0 with hlk | ⟨q2, hq2, r1, r2, r3⟩
  · exact mm_back (va_runV (nL := mm_n (mi w)) (g := F0 m pc ls (st.map (mm_v b φ))) (rest := (st.drop (mm_k (mi y))).map (mm_v b φ)) ⟨hx, hb, hml, hown, hts⟩ hM ⟨callB_of (mm_k (mi y) - 1) hts (hG y hy) rfl rfl rfl (hts _ (hWT _ hini)) (hts _ (hWT _ hlk)) hyd hR, hts _ (hWT _ hinst), hts _ (hWT _ hsel)⟩ hpre rfl hlen hl.1 (mm_stack has) (lv_room hrm) hd ⟨e3, e4⟩) hA e3 e4 e5 f0 g0 hn hD hS hl (fun h' v hv => hK _ _ _ _ _ _ hv)
  · have hz := hKK.2.2 q2 hq2
    rw [r1, r2, r3] at hz
    exact mm_back (va_runVN (nL := mm_n (mi w)) (g := F0 m pc ls (st.map (mm_v b φ))) (rest := (st.drop (mm_k (mi y))).map (mm_v b φ)) ⟨hx, hb, hml, hown, hts⟩ hM ⟨va_cnB (mm_k (mi y) - 1) hts (hG y hy) rfl rfl rfl hz (hts _ (hWT _ hini)) hyd hR, hts _ (hWT _ hinst), hts _ (hWT _ hsel)⟩ hpre rfl hlen hl.1 (mm_stack has) (lv_room hrm) hd ⟨e3, e4⟩) hA e3 e4 e5 f0 g0 hn hD hS hl (fun h' v hv => hK _ _ _ _ _ _ hv)
theorem mm_x_special (Z : mm_Cx p l R s m args meth c D dA cl b A mi df WS Ts nF nM nm w d xs) {K : mm_K} (hK : ∀ pc L st h kc ks, K pc L st h kc ks → mm_Go p l e R s m args below meth c Q D dA cl b A φ0 n0 (mm_n (mi w)) pc L st h kc ks) {C : Nat → mm_H → List Value → (mm_H → Option Value → Prop) → Prop} (hC : mm_Ct l D dA cl b mi WS nF nM nm d xs C) {y pc kc ks i : Nat} {L : mm_L} {st : List Value} {h : mm_H} (hd : decode (mm_b (mi w)) pc = .ok (.invokespecial i, 3)) (hy : y < nm) (hyn : (mm_y (mi y)).name = "<init>") (hyr : mm_r (mi y) = none) (hk0 : 0 < mm_k (mi y)) (hml0 : mm_ml WS nM (mm_y (mi w)).cls i (mm_y (mi y)) = true) (hmy : mm_my WS (mm_y (mi y)) (mm_k (mi y) - 1) = true) (hinst : Cond.instanceMethod (mm_y (mi y)) ∈ WS)
    (hrc : ∃ o As, (st.take (mm_k (mi y))).reverse = .ref o :: As) (hE : mm_cl mi C (R.cells, R.slots) K y (pc + 3) L st h kc ks) : mm_Go p l e R s m args below meth c Q D dA cl b A φ0 n0 (mm_n (mi w)) pc L st h kc ks := by
  obtain ⟨⟨hx, hb, hml, hown, hts⟩, hWT, hoi, hG, hmi, hcl, hKK, hA, hX, hbl, hbA, hin, hRf, hRl⟩ := Z
  obtain ⟨e1, e2, e3, e4, e5, hCy⟩ := hE
  obtain ⟨hyd, hini⟩ := mm_my_spec hmy
  obtain ⟨o, As, has⟩ := hrc
  intro φ H locs ls f0 g0 hn k1 k2 hP hD hS hl
  have hM := hC y h _ _ hy hCy φ H.size
  have hR := mm_room (hmi y hy) hRf hRl
  have hlen : (As.map (mm_v b φ)).length = mm_k (mi y) - 1 := by
    have h1 : ((st.take (mm_k (mi y))).reverse).length = mm_k (mi y) := by
      rw [List.length_reverse, List.length_take]
      omega
    rw [has, List.length_cons] at h1
    rw [List.length_map]
    omega
  have hpre : PreS s H (mm_Pc D dA cl nF nM b xs φ h (st.take (mm_k (mi y))).reverse H.size) (Value.ref (φ o) :: As.map (mm_v b φ)) := ⟨mm_Pc_blind, mm_pre hKK hX hbl hbA hP hD hS (by rw [has]; rfl)⟩
  have hrm := mm_cat_v (b := b) (φ := φ) e2
  have hw : mm_ws mi WS nm y = Cond.code (mm_y (mi y)) (mm_b (mi y)) (mm_n (mi y)) none :: ((List.range nm).map (fun i => mm_cw (mi i)) ++ (Cond.code objectInit ⟨#[0xb1]⟩ 1 none :: WS)) := by
    show mm_cw (mi y) :: _ = _
    unfold mm_cw
    rw [hyr]
  rcases mm_ml_spec hml0 with hlk | ⟨q2, hq2, r1, r2, r3⟩
  · exact mm_back (va_runI (nL := mm_n (mi w)) (g := F0 m pc ls (st.map (mm_v b φ))) (rest := (st.drop (mm_k (mi y))).map (mm_v b φ)) ⟨hx, hb, hml, hown, hts⟩ hM ⟨callB_of (mm_k (mi y) - 1) hts (hG y hy) hw rfl rfl (hts _ (hWT _ hini)) (hts _ (hWT _ hlk)) hyd hR, hyn, hts _ (hWT _ hinst)⟩ hpre rfl hlen hl.1 (mm_stack has) (lv_room hrm) hd ⟨e3, e4⟩) hA e3 e4 e5 f0 g0 hn hD hS hl (fun h' v hv => hK _ _ _ _ _ _ hv)
  · have hz := hKK.2.2 q2 hq2
    rw [r1, r2, r3] at hz
    exact mm_back (va_runIN (nL := mm_n (mi w)) (g := F0 m pc ls (st.map (mm_v b φ))) (rest := (st.drop (mm_k (mi y))).map (mm_v b φ)) ⟨hx, hb, hml, hown, hts⟩ hM ⟨va_cnB (mm_k (mi y) - 1) hts (hG y hy) hw rfl rfl hz (hts _ (hWT _ hini)) hyd hR, hyn, hts _ (hWT _ hinst)⟩ hpre rfl hlen hl.1 (mm_stack has) (lv_room hrm) hd ⟨e3, e4⟩) hA e3 e4 e5 f0 g0 hn hD hS hl (fun h' v hv => hK _ _ _ _ _ _ hv)
theorem mm_x_copy (Z : mm_Cx p l R s m args meth c D dA cl b A mi df WS Ts nF nM nm w d xs) {K : mm_K} (hK : ∀ pc L st h kc ks, K pc L st h kc ks → mm_Go p l e R s m args below meth c Q D dA cl b A φ0 n0 (mm_n (mi w)) pc L st h kc ks) {pc kc ks i : Nat} {L : mm_L} {st : List Value} {h : mm_H} (hd : decode (mm_b (mi w)) pc = .ok (.invokestatic i, 3)) (h1 : Cond.methodLink (mm_y (mi w)).cls i arraycopyName ∈ WS) (h2 : Cond.native arraycopyName ∈ WS) (h3 : Cond.static arraycopyName ∈ WS) (h4 : Cond.initialized "java/lang/System" ∈ WS)
    (hE : mm_s2 st fun n dp r => mm_sr r fun o1 r => mm_s1 r fun sp r => mm_sr r fun o0 r => mm_ar h o0 fun ty n0 f => mm_ar h o1 fun ty1 n1 g => (ty = .int ∨ ty = .boolean ∨ ty = .char) ∧ ty1 = ty ∧ ¬ sp < 0 ∧ ¬ dp < 0 ∧ ¬ n < 0 ∧ sp.toNatClampNeg + n.toNatClampNeg ≤ n0 ∧ dp.toNatClampNeg + n.toNatClampNeg ≤ n1 ∧ (∀ i, i < n.toNatClampNeg → fits ty (.int (f (sp.toNatClampNeg + i))) = true) ∧ mm_cat r ∧ K (pc + 3) L r (h.set o1 (.inl (ty, n1, va_cpy f g sp.toNatClampNeg dp.toNatClampNeg n.toNatClampNeg))) kc ks) : mm_Go p l e R s m args below meth c Q D dA cl b A φ0 n0 (mm_n (mi w)) pc L st h kc ks := by
  obtain ⟨⟨hx, hb, hml, hown, hts⟩, hWT, hoi, hG, hmi, hcl, hKK, hA, hX, hbl, hbA, hin, hRf, hRl⟩ := Z
  obtain ⟨n, dp, r, rfl, hE2⟩ := mm_s2_inv hE
  obtain ⟨o1, r, rfl, hE3⟩ := mm_sr_inv hE2
  obtain ⟨sp, r, rfl, hE4⟩ := mm_s1_inv hE3
  obtain ⟨o0, r, rfl, hE5⟩ := mm_sr_inv hE4
  obtain ⟨ty, m0, f, ho0, hE6⟩ := mm_ar_inv hE5
  obtain ⟨ty1, m1, g, ho1, hty, rfl, j1, j2, j3, j4, j5, j6, hc, hE7⟩ := mm_ar_inv hE6
  intro φ H locs ls f0 g0 hn k1 k2 hP hD hS hl
  have hc2 := mm_cat_v (b := b) (φ := φ) hc
  obtain ⟨t0, ht0, hpr⟩ : ∃ t0, ([(dA .int, .int), (dA .boolean, .boolean), (dA .char, .char)] : List (ClassId × FieldType))[t0]? = some (dA ty1, ty1) ∧ refKind ty1 = false := by
    rcases hty with rfl | rfl | rfl
    · exact ⟨0, rfl, rfl⟩
    · exact ⟨1, rfl, rfl⟩
    · exact ⟨2, rfl, rfl⟩
  have hset := mm_w_set (b := b) (φ := φ) (dA := dA) (h := h) (o := o1) (c := .inl (ty1, m1, va_cpy f g sp.toNatClampNeg dp.toNatClampNeg n.toNatClampNeg))
  have hnf : nativeFrameWords "java/lang/System" "arraycopy" 5 + 11 ≤ 52 := by decide
  exact va_copyi hx hb (by rw [hml]; exact hl.1.symm) hown (hts _ (hWT _ h1)) (hts _ (hWT _ h2)) (hts _ (hWT _ h3)) (hts _ (hWT _ h4)) hKK.1 hP hD hS o0 o1 t0 t0 (mm_w_at ho0) (mm_w_at ho1) ht0 ht0 hpr j1 j2 j3 j4 j5 j6 (by omega) (by omega) hd (fun H1 locs1 hP1 hD1 hS1 => hK _ _ _ _ _ _ hE7 φ H1 locs1 ls f0 g0 (by rw [List.length_set]; exact hn) k1 k2 (by rw [← hset]; exact hP1) (by rw [← hset]; exact hD1) hS1 hl)
end MC
end
section
section MM9
variable {p : Program} {l : Launch} {e : Env} {R : Room} {s : State} {m : MethodId} {args : Array Value} {below : List Frame} {meth : Method} {c : Code} {Q : State → Prop}
variable {D : va_G} {dA : FieldType → ClassId} {cl : List vw_C} {b : Nat} {A : Nat → Prop} {φ0 : Nat → Nat} {n0 : Nat}
variable {mi : Nat → mm_M} {tb : Nat → Nat → Option mm_E} {df : Nat → List Value} {WS Ts : List Cond} {nF : List mm_F} {nM : List mm_N} {nm w d : Nat} {xs : Nat × (Nat → Int32)}
/-- a method's end: which instruction, with what answer -/
def mm_Ret (rt : Option FieldType) (I : Instr) (v : Option Value) : Prop :=
  (I = .return_ ∧ v = none ∧ rt = none) ∨ (∃ x ty, I = .ireturn ∧ v = some (.int x) ∧ rt = some ty ∧ narrow ty (.int x) = .int x) ∨ (∃ x ty, I = .areturn ∧ v = some (.ref x) ∧ rt = some ty ∧ ((∃ n, ty = .object n) ∨ ∃ t, ty = .array t))
set_option maxHeartbeats 4000000 in
set_option maxRecDepth 100000 in
theorem mm_one_go (Z : mm_Cx p l R s m args meth c D dA cl b A mi df WS Ts nF nM nm w d xs) {C : Nat → mm_H → List Value → (mm_H → Option Value → Prop) → Prop} (hC : mm_Ct l D dA cl b mi WS nF nM nm d xs C) {P : mm_H → Option Value → Nat → Nat → Prop}
    (hend : ∀ I v pc L h kc ks, mm_Ret (mm_r (mi w)) I v → decode (mm_b (mi w)) pc = .ok (I, 1) → (∃ j, n0 ≤ j ∧ P (h.take j) v kc ks) → mm_Go p l e R s m args below meth c Q D dA cl b A φ0 n0 (mm_n (mi w)) pc L v.toList h kc ks)
    (htb : ∀ pc E, tb w pc = some E → mm_ok mi cl WS nF nM nm w pc E = true) {K : mm_K} (hK : ∀ pc L st h kc ks, K pc L st h kc ks → mm_Go p l e R s m args below meth c Q D dA cl b A φ0 n0 (mm_n (mi w)) pc L st h kc ks) {pc kc ks : Nat} {L : mm_L} {st : List Value} {h : mm_H} (hE : mm_one mi tb df C xs (R.cells, R.slots) P n0 w K pc L st h kc ks) : mm_Go p l e R s m args below meth c Q D dA cl b A φ0 n0 (mm_n (mi w)) pc L st h kc ks := by
  unfold mm_one at hE
  split at hE
  · exact hE.elim
  · rename_i E hEq
    have hok := htb pc E hEq
    obtain ⟨I, len, a, bb, k⟩ := E
    dsimp only at hE
    cases I with
    | iconst z0 =>
      dsimp only [mm_ex] at hE
      exact mm_x_iconst Z hK hok hE
    | bipush z0 =>
      dsimp only [mm_ex] at hE
      exact mm_x_bipush Z hK hok hE
    | sipush z0 =>
      dsimp only [mm_ex] at hE
      exact mm_x_sipush Z hK hok hE
    | ldc z0 =>
      dsimp only [mm_ex] at hE
      exact mm_x_ldc Z hK hok hE
    | iload_n z0 =>
      dsimp only [mm_ex] at hE
      exact mm_x_iload_n Z hK hok hE
    | iload z0 =>
      dsimp only [mm_ex] at hE
      exact mm_x_iload Z hK hok hE
    | aload_n z0 =>
      dsimp only [mm_ex] at hE
      exact mm_x_aload_n Z hK hok hE
    | aload z0 =>
      dsimp only [mm_ex] at hE
      exact mm_x_aload Z hK hok hE
    | istore_n z0 =>
      dsimp only [mm_ex] at hE
      exact mm_x_istore_n Z hK hok hE
    | istore z0 =>
      dsimp only [mm_ex] at hE
      exact mm_x_istore Z hK hok hE
    | astore_n z0 =>
      dsimp only [mm_ex] at hE
      exact mm_x_astore_n Z hK hok hE
    | astore z0 =>
      dsimp only [mm_ex] at hE
      exact mm_x_astore Z hK hok hE
    | iinc z0 z1 =>
      dsimp only [mm_ex] at hE
      exact mm_x_iinc Z hK hok hE
    | iadd =>
      dsimp only [mm_ex] at hE
      exact mm_x_iadd Z hK hok hE
    | isub =>
      dsimp only [mm_ex] at hE
      exact mm_x_isub Z hK hok hE
    | imul =>
      dsimp only [mm_ex] at hE
      exact mm_x_imul Z hK hok hE
    | iand =>
      dsimp only [mm_ex] at hE
      exact mm_x_iand Z hK hok hE
    | ior =>
      dsimp only [mm_ex] at hE
      exact mm_x_ior Z hK hok hE
    | ixor =>
      dsimp only [mm_ex] at hE
      exact mm_x_ixor Z hK hok hE
    | ishl =>
      dsimp only [mm_ex] at hE
      exact mm_x_ishl Z hK hok hE
    | ishr =>
      dsimp only [mm_ex] at hE
      exact mm_x_ishr Z hK hok hE
    | idiv =>
      dsimp only [mm_ex] at hE
      exact mm_x_idiv Z hK hok hE
    | irem =>
      dsimp only [mm_ex] at hE
      exact mm_x_irem Z hK hok hE
    | ineg =>
      dsimp only [mm_ex] at hE
      exact mm_x_ineg Z hK hok hE
    | i2c =>
      dsimp only [mm_ex] at hE
      exact mm_x_i2c Z hK hok hE
    | dup =>
      dsimp only [mm_ex] at hE
      exact mm_x_dup Z hK hok hE
    | pop =>
      dsimp only [mm_ex] at hE
      exact mm_x_pop Z hK hok hE
    | dup_x1 =>
      dsimp only [mm_ex] at hE
      exact mm_x_dup_x1 Z hK hok hE
    | dup2 =>
      dsimp only [mm_ex] at hE
      exact mm_x_dup2 Z hK hok hE
    | dup_x2 =>
      dsimp only [mm_ex] at hE
      exact mm_x_dup_x2 Z hK hok hE
    | ifCond z0 z1 =>
      dsimp only [mm_ex] at hE
      exact mm_x_ifCond Z hK hok hE
    | if_icmp z0 z1 =>
      dsimp only [mm_ex] at hE
      exact mm_x_if_icmp Z hK hok hE
    | goto z0 =>
      dsimp only [mm_ex] at hE
      exact mm_x_goto Z hK hok hE
    | lookupswitch z0 z1 =>
      dsimp only [mm_ex] at hE
      exact mm_x_lookupswitch Z hK hok hE
    | tableswitch z0 z1 z2 z3 =>
      dsimp only [mm_ex] at hE
      exact mm_x_tableswitch Z hK hok hE
    | getfield z0 =>
      dsimp only [mm_ex] at hE
      exact mm_x_getfield Z hK hok hE
    | putfield z0 =>
      dsimp only [mm_ex] at hE
      exact mm_x_putfield Z hK hok hE
    | iaload =>
      dsimp only [mm_ex] at hE
      exact mm_x_iaload Z hK hok hE
    | baload =>
      dsimp only [mm_ex] at hE
      exact mm_x_baload Z hK hok hE
    | caload =>
      dsimp only [mm_ex] at hE
      exact mm_x_caload Z hK hok hE
    | iastore =>
      dsimp only [mm_ex] at hE
      exact mm_x_iastore Z hK hok hE
    | bastore =>
      dsimp only [mm_ex] at hE
      exact mm_x_bastore Z hK hok hE
    | castore =>
      dsimp only [mm_ex] at hE
      exact mm_x_castore Z hK hok hE
    | arraylength =>
      dsimp only [mm_ex] at hE
      exact mm_x_arraylength Z hK hok hE
    | new z0 =>
      dsimp only [mm_ex] at hE
      exact mm_x_new Z hK hok hE
    | newarray z0 =>
      dsimp only [mm_ex] at hE
      exact mm_x_newarray Z hK hok hE
    | invokespecial i =>
      dsimp only [mm_ex] at hE
      obtain ⟨hE0, hE1⟩ := hE
      simp only [mm_ok, mm_sd, Bool.and_eq_true, decide_eq_true_eq] at hok
      obtain ⟨hd, h1, hok⟩ := hok
      subst h1
      by_cases hbb : bb = 0
      · rw [if_pos hbb] at hok
        simp only [Bool.and_eq_true, decide_eq_true_eq] at hok
        exact mm_x_objinit Z hK hd hok.1 hok.2 (hE0 hbb)
      · rw [if_neg hbb] at hok
        simp only [Bool.and_eq_true, decide_eq_true_eq] at hok
        obtain ⟨⟨⟨⟨⟨⟨q1, q2⟩, q3⟩, q4⟩, q5⟩, q6⟩, q7⟩ := hok
        exact mm_x_special Z hK hC hd q1 q2 q3 q4 q5 q6 q7 (hE1 hbb).1 (hE1 hbb).2
    | invokevirtual i =>
      dsimp only [mm_ex] at hE
      obtain ⟨hE0, hE1⟩ := hE
      simp only [mm_ok, mm_sd, Bool.and_eq_true, decide_eq_true_eq] at hok
      obtain ⟨hd, ⟨⟨⟨⟨⟨⟨h1, q1⟩, q2⟩, q3⟩, q4⟩, q5⟩, q6⟩, q7⟩ := hok
      subst h1
      split at q7
      · cases q7
      · rename_i q hq
        exact mm_x_virtual Z hK hC hd q1 q2 q3 q4 q5 q6 hq (by simpa using q7) hE0 hE1
    | invokestatic i =>
      dsimp only [mm_ex] at hE
      obtain ⟨hE0, hE1⟩ := hE
      simp only [mm_ok, mm_sd, Bool.and_eq_true, decide_eq_true_eq] at hok
      obtain ⟨hd, h1, hok⟩ := hok
      subst h1
      by_cases hbb : bb = 0
      · rw [if_pos hbb] at hok
        simp only [Bool.and_eq_true, decide_eq_true_eq] at hok
        exact mm_x_copy Z hK hd hok.1.1.1 hok.1.1.2 hok.1.2 hok.2 (hE0 hbb)
      · rw [if_neg hbb] at hok
        simp only [Bool.and_eq_true, decide_eq_true_eq] at hok
        exact mm_x_static Z hK hC hd hok.1.1.1 hok.1.1.2 hok.1.2 hok.2 (hE1 hbb)
    | return_ =>
      dsimp only [mm_ex] at hE
      obtain ⟨h0, h1, h2⟩ := hE
      simp only [mm_ok, mm_sd, Bool.and_eq_true, decide_eq_true_eq] at hok
      obtain ⟨hd, h3⟩ := hok
      subst h3
      subst h0
      exact hend _ none pc L h kc ks (Or.inl ⟨rfl, rfl, h1⟩) hd h2
    | ireturn =>
      dsimp only [mm_ex] at hE
      obtain ⟨x, r, rfl, rfl, ⟨ty, h1, h2⟩, h3⟩ := mm_s1_inv hE
      simp only [mm_ok, mm_sd, Bool.and_eq_true, decide_eq_true_eq] at hok
      obtain ⟨hd, h4⟩ := hok
      subst h4
      exact hend _ (some (.int x)) pc L h kc ks (Or.inr (Or.inl ⟨x, ty, rfl, rfl, h1, h2⟩)) hd h3
    | areturn =>
      dsimp only [mm_ex] at hE
      obtain ⟨x, r, rfl, rfl, ⟨ty, h1, h2⟩, h3⟩ := mm_sr_inv hE
      simp only [mm_ok, mm_sd, Bool.and_eq_true, decide_eq_true_eq] at hok
      obtain ⟨hd, h4⟩ := hok
      subst h4
      exact hend _ (some (.ref x)) pc L h kc ks (Or.inr (Or.inr ⟨x, ty, rfl, rfl, h1, h2⟩)) hd h3
    | _ => exact (show False from hE).elim
theorem mm_run_go (Z : mm_Cx p l R s m args meth c D dA cl b A mi df WS Ts nF nM nm w d xs) {C : Nat → mm_H → List Value → (mm_H → Option Value → Prop) → Prop} (hC : mm_Ct l D dA cl b mi WS nF nM nm d xs C) {P : mm_H → Option Value → Nat → Nat → Prop}
    (hend : ∀ I v pc L h kc ks, mm_Ret (mm_r (mi w)) I v → decode (mm_b (mi w)) pc = .ok (I, 1) → (∃ j, n0 ≤ j ∧ P (h.take j) v kc ks) → mm_Go p l e R s m args below meth c Q D dA cl b A φ0 n0 (mm_n (mi w)) pc L v.toList h kc ks)
    (htb : ∀ pc E, tb w pc = some E → mm_ok mi cl WS nF nM nm w pc E = true) {pc kc ks : Nat} {L : mm_L} {st : List Value} {h : mm_H} (hE : mm_run mi tb df C xs (R.cells, R.slots) P n0 w pc L st h kc ks) : mm_Go p l e R s m args below meth c Q D dA cl b A φ0 n0 (mm_n (mi w)) pc L st h kc ks :=
  hE (mm_Go p l e R s m args below meth c Q D dA cl b A φ0 n0 (mm_n (mi w))) (fun _ _ _ _ _ _ h1 => mm_one_go Z hC hend htb (fun _ _ _ _ _ _ h2 => h2) h1)
end MM9
/-- THE TIE: what the small machine comes to in method y, the machine comes to -/
theorem mm_met (l : Launch) (D : va_G) (dA : FieldType → ClassId) (cl : List vw_C) (b : Nat) (mi : Nat → mm_M) (tb : Nat → Nat → Option mm_E) (df : Nat → List Value) (WS : List Cond) (nF : List mm_F) (nM : List mm_N) (nm : Nat) (xs : Nat × (Nat → Int32))
    (hWS : ∀ x ∈ WS, goodWord x = true) (hmi : ∀ y, y < nm → mm_okm (mi y) = true) (hcl : ∀ ci q, cl[ci]? = some q → mm_okc WS (df ci) q = true) (htb : ∀ w, w < nm → ∀ pc E, tb w pc = some E → mm_ok mi cl WS nF nM nm w pc E = true) : ∀ d, mm_Ct l D dA cl b mi WS nF nM nm d xs (mm_call mi tb df xs d) := by
  intro d
  induction d with
  | zero => intro y h as Pk _ hC; exact hC.elim
  | succ d ih =>
    intro y h as Pk hy hC φ sz
    obtain ⟨hlen, hcat, hrun⟩ := hC
    have hokm := hmi y hy
    simp only [mm_okm, Bool.and_eq_true, decide_eq_true_eq] at hokm
    refine Met.ofW (cc := mm_b (mi y)) (maxL := mm_n (mi y)) (ret := mm_r (mi y)) hokm.1.1 rfl ?_
    intro p e s m args below meth c s₁ B hml hv
    obtain ⟨rfl, hsz, hP, hKK, hD0, hX, hbl, hnb⟩ := hv
    have hx := B.exec
    have hb := B.bytes
    have hr := B.returns
    have hts := atoms_spec (ws := mm_ws mi WS nm y) B.pre
    have hown : s.vm.findClass (mm_y (mi y)).cls = some m.cls := findClass_of_methodNamed B.named
    have hlocks := B.notSynchronized
    have hin : (mm_y (mi y)).name = "<init>" → meth.name = "<init>" := fun hi => (name_of_methodNamed B.named B.method).1.trans hi
    subst hsz
    have hD := hD0.self (sz := s.heap.size)
    have hA : ∀ q : Nat, s.heap.size ≤ q → va_A (mm_w b φ dA h) s.heap.size q := fun q h => Or.inr h
    have hbA : ¬ va_A (mm_w b φ dA h) s.heap.size b := by
      rintro (⟨k, e, hk⟩ | hq)
      · exact hnb k _ hk rfl
      · omega
    have hS : va_S (va_A (mm_w b φ dA h) s.heap.size) s.heap s.heap [] := va_S.rf
    have hl := lv_entry (as.map (mm_v b φ)) (n := mm_n (mi y)) (by rw [mm_in0_len hcat, hlen]; exact hokm.2)
    rw [lg_entry_eq]
    generalize (lg_sl (as.map (mm_v b φ)) ++ List.replicate (mm_n (mi y) - (lg_sl (as.map (mm_v b φ))).length) Slot.unset).toArray = ls at hl ⊢
    have hl2 : lv_has ls (mm_n (mi y)) (mm_l b φ (mm_in0 (mi y) as)) := mm_lsub hl (mm_in0_args hcat)
    have hcode : ∀ i, i < nm → mm_cw (mi i) ∈ (List.range nm).map (fun i => mm_cw (mi i)) := fun i hi => List.mem_map.mpr ⟨i, List.mem_range.mpr hi, rfl⟩
    have hG : ∀ z, z < nm → GoodIn (mm_ws mi WS nm y) (mm_ws mi WS nm z) := by
      intro z hz x hxz
      rcases List.mem_cons.mp hxz with rfl | hxz
      · exact ⟨List.mem_cons_of_mem _ (List.mem_append_left _ (hcode z hz)), Or.inl rfl⟩
      · refine ⟨List.mem_cons_of_mem _ hxz, ?_⟩
        rcases List.mem_append.mp hxz with hxz | hxz
        · obtain ⟨i, -, rfl⟩ := List.mem_map.mp hxz
          exact Or.inl rfl
        · rcases List.mem_cons.mp hxz with rfl | hxz
          · exact Or.inl rfl
          · exact good_of_word (hWS x hxz)
    have Z : mm_Cx p l (headSpec (mm_ws mi WS nm y) (mm_rm (d + 1) (mi y))).room s m (as.map (mm_v b φ)).toArray meth c D dA cl b (va_A (mm_w b φ dA h) s.heap.size) mi df WS (mm_ws mi WS nm y) nF nM nm y d xs :=
      ⟨⟨hx, hb, hml, hown, hts⟩, fun x hxw => List.mem_cons_of_mem _ (List.mem_append_right _ (List.mem_cons_of_mem _ hxw)), List.mem_cons_of_mem _ (List.mem_append_right _ List.mem_cons_self), hG, hmi, hcl, hKK, hA, hX, hbl, hbA, hin, Nat.le_refl _, by show 60 * d + 60 ≤ 60 * (d + 1); omega⟩
    refine mm_run_go (Q := MQ below (mm_Qc D dA cl b φ h s.heap.size (mm_mc (mi y)) Pk) (as.map (mm_v b φ)).toArray s (mm_mc (mi y)) (mm_ms (mi y)) (va_A (mm_w b φ dA h) s.heap.size)) (φ0 := φ) Z ih ?_ (htb y hy) hrun φ s.heap [] ls (fun _ _ => rfl) (fun _ => rfl) (Nat.le_refl _) (Nat.zero_le _) (Nat.zero_le _) hP hD hS hl2
    intro I v pc L h' kc ks hret hd hj φ' H locs ls' f0 g0 hn k1 k2 hP1 hD1 hS1 hl1
    obtain ⟨j, hj1, hj2⟩ := hj
    have key : ∀ t : State, t.heap = H → mm_Qc D dA cl b φ h s.heap.size (mm_mc (mi y)) Pk (as.map (mm_v b φ)).toArray s (.returned (v.map (mm_v b φ'))) t := by
      intro t ht
      have hsub : ∀ (k : Nat) (q : Nat × va_E), (mm_w b φ' dA (h'.take j))[k]? = some q → (mm_w b φ' dA h')[k]? = some q := by
        intro k q hq
        rw [mm_w_get] at hq ⊢
        by_cases hkj : k < j
        · rw [List.getElem?_take_of_lt hkj] at hq
          exact hq
        · rw [List.getElem?_take_eq_none (Nat.not_lt.mp hkj)] at hq
          cases hq
      refine ⟨h'.take j, v, φ', f0, fun hz => g0 ?_, ?_, hj2, rfl, fun k q hq => ?_, ⟨fun i k x z hi hk hxz => hD1.1 i k x z (hsub i x hi) (hsub k z hk) hxz, fun k q hq => hD1.2 k q (hsub k q hq)⟩, ?_⟩
      · have : kc ≤ mm_mc (mi y) := k1
        omega
      · rw [List.length_take]
        omega
      · rw [ht]
        exact hP1 k q (hsub k q hq)
      · exact hS1.F ht
    refine W.widen (k := mm_mc (mi y)) (n := mm_ms (mi y)) k1 k2 ?_
    rcases hret with ⟨rfl, rfl, hrt⟩ | ⟨x, ty, rfl, rfl, hrt, hnar⟩ | ⟨x, ty, rfl, rfl, hrt, hrf⟩
    · exact W.vret hx hb (hr.trans hrt) (fun t ht _ => key t ht) hS1.2.2 hd
    · exact W.zret hx hb (hr.trans hrt) hnar (fun t ht _ => key t ht) hS1.2.2 hd
    · exact W.aret hx hb (hr.trans hrt) hrf (Or.inr ⟨_, rfl⟩) (fun t ht _ => key t ht) hS1.2.2 hd
end
section
section EV
variable {mi : Nat → mm_M} {tb : Nat → Nat → Option mm_E} {df : Nat → List Value} {C : Nat → mm_H → List Value → (mm_H → Option Value → Prop) → Prop} {xs : Nat × (Nat → Int32)} {cap : Nat × Nat} {P : mm_H → Option Value → Nat → Nat → Prop} {n0 m : Nat}
variable {pc kc ks len a b : Nat} {c : Int32} {L : mm_L} {st r : List Value} {h : mm_H}
theorem ev_go (hC : mm_Cm C) {I : Instr} (hE : tb m pc = some (I, len, a, b, c)) (k : mm_ex mi df C xs cap P n0 m (mm_run mi tb df C xs cap P n0 m) I len a b c pc L st h kc ks) : mm_run mi tb df C xs cap P n0 m pc L st h kc ks := by
  refine mm_run_in hC ?_
  unfold mm_one
  rw [hE]
  exact k
theorem ev_iconst (hC : mm_Cm C) {i : Int} (hE : tb m pc = some (.iconst i, len, a, b, c))  (k : mm_run mi tb df C xs cap P n0 m (pc + len) L (.int c :: st) h kc ks) : mm_run mi tb df C xs cap P n0 m pc L st h kc ks := ev_go hC hE k
theorem ev_bipush (hC : mm_Cm C) {i : Int} (hE : tb m pc = some (.bipush i, len, a, b, c))  (k : mm_run mi tb df C xs cap P n0 m (pc + len) L (.int c :: st) h kc ks) : mm_run mi tb df C xs cap P n0 m pc L st h kc ks := ev_go hC hE k
theorem ev_sipush (hC : mm_Cm C) {i : Int} (hE : tb m pc = some (.sipush i, len, a, b, c))  (k : mm_run mi tb df C xs cap P n0 m (pc + len) L (.int c :: st) h kc ks) : mm_run mi tb df C xs cap P n0 m pc L st h kc ks := ev_go hC hE k
theorem ev_ldc (hC : mm_Cm C) {i : Nat} (hE : tb m pc = some (.ldc i, len, a, b, c))  (k : mm_run mi tb df C xs cap P n0 m (pc + len) L (.int c :: st) h kc ks) : mm_run mi tb df C xs cap P n0 m pc L st h kc ks := ev_go hC hE k
theorem ev_iload_n (hC : mm_Cm C) {i : Fin 4} {x : Int32} (hE : tb m pc = some (.iload_n i, len, a, b, c)) (hl : L[a]? = some (some (.int x))) (k : mm_run mi tb df C xs cap P n0 m (pc + len) L (.int x :: st) h kc ks) : mm_run mi tb df C xs cap P n0 m pc L st h kc ks := ev_go hC hE (by show mm_li L a _; unfold mm_li; rw [hl]; exact k)
theorem ev_iload (hC : mm_Cm C) {i : Nat} {x : Int32} (hE : tb m pc = some (.iload i, len, a, b, c)) (hl : L[a]? = some (some (.int x))) (k : mm_run mi tb df C xs cap P n0 m (pc + len) L (.int x :: st) h kc ks) : mm_run mi tb df C xs cap P n0 m pc L st h kc ks := ev_go hC hE (by show mm_li L a _; unfold mm_li; rw [hl]; exact k)
theorem ev_aload_n (hC : mm_Cm C) {i : Fin 4} {x : Nat} (hE : tb m pc = some (.aload_n i, len, a, b, c)) (hl : L[a]? = some (some (.ref x))) (k : mm_run mi tb df C xs cap P n0 m (pc + len) L (.ref x :: st) h kc ks) : mm_run mi tb df C xs cap P n0 m pc L st h kc ks := ev_go hC hE (by dsimp only [mm_ex, mm_s1, mm_s2, mm_sr, mm_sx, mm_sv, mm_lr, mm_li, mm_ob, mm_ar, mm_fd]; rw [hl]; exact k)
theorem ev_aload_nX (hC : mm_Cm C) {i : Fin 4} {x : Nat} (hE : tb m pc = some (.aload_n i, len, a, b, c)) (hl : L[a]? = some (some (.retAddr x))) (k : mm_run mi tb df C xs cap P n0 m (pc + len) L (.retAddr x :: st) h kc ks) : mm_run mi tb df C xs cap P n0 m pc L st h kc ks := ev_go hC hE (by dsimp only [mm_ex, mm_s1, mm_s2, mm_sr, mm_sx, mm_sv, mm_lr, mm_li, mm_ob, mm_ar, mm_fd]; rw [hl]; exact k)
theorem ev_aload (hC : mm_Cm C) {i : Nat} {x : Nat} (hE : tb m pc = some (.aload i, len, a, b, c)) (hl : L[a]? = some (some (.ref x))) (k : mm_run mi tb df C xs cap P n0 m (pc + len) L (.ref x :: st) h kc ks) : mm_run mi tb df C xs cap P n0 m pc L st h kc ks := ev_go hC hE (by dsimp only [mm_ex, mm_s1, mm_s2, mm_sr, mm_sx, mm_sv, mm_lr, mm_li, mm_ob, mm_ar, mm_fd]; rw [hl]; exact k)
theorem ev_aloadX (hC : mm_Cm C) {i : Nat} {x : Nat} (hE : tb m pc = some (.aload i, len, a, b, c)) (hl : L[a]? = some (some (.retAddr x))) (k : mm_run mi tb df C xs cap P n0 m (pc + len) L (.retAddr x :: st) h kc ks) : mm_run mi tb df C xs cap P n0 m pc L st h kc ks := ev_go hC hE (by dsimp only [mm_ex, mm_s1, mm_s2, mm_sr, mm_sx, mm_sv, mm_lr, mm_li, mm_ob, mm_ar, mm_fd]; rw [hl]; exact k)
theorem ev_istore_n (hC : mm_Cm C) {i : Fin 4} {x : Int32} (hE : tb m pc = some (.istore_n i, len, a, b, c))  (k : mm_run mi tb df C xs cap P n0 m (pc + len) (L.set a (some (.int x))) st h kc ks) : mm_run mi tb df C xs cap P n0 m pc L (.int x :: st) h kc ks := ev_go hC hE k
theorem ev_istore (hC : mm_Cm C) {i : Nat} {x : Int32} (hE : tb m pc = some (.istore i, len, a, b, c))  (k : mm_run mi tb df C xs cap P n0 m (pc + len) (L.set a (some (.int x))) st h kc ks) : mm_run mi tb df C xs cap P n0 m pc L (.int x :: st) h kc ks := ev_go hC hE k
theorem ev_astore_n (hC : mm_Cm C) {i : Fin 4} {x : Nat} (hE : tb m pc = some (.astore_n i, len, a, b, c))  (k : mm_run mi tb df C xs cap P n0 m (pc + len) (L.set a (some (.ref x))) st h kc ks) : mm_run mi tb df C xs cap P n0 m pc L (.ref x :: st) h kc ks := ev_go hC hE k
theorem ev_astore (hC : mm_Cm C) {i : Nat} {x : Nat} (hE : tb m pc = some (.astore i, len, a, b, c))  (k : mm_run mi tb df C xs cap P n0 m (pc + len) (L.set a (some (.ref x))) st h kc ks) : mm_run mi tb df C xs cap P n0 m pc L (.ref x :: st) h kc ks := ev_go hC hE k
theorem ev_iinc (hC : mm_Cm C) {i : Nat} {n : Int} {x : Int32} (hE : tb m pc = some (.iinc i n, len, a, b, c)) (hl : L[a]? = some (some (.int x))) (k : mm_run mi tb df C xs cap P n0 m (pc + len) (L.set a (some (.int (x + c)))) st h kc ks) : mm_run mi tb df C xs cap P n0 m pc L st h kc ks := ev_go hC hE (by show mm_li L a _; unfold mm_li; rw [hl]; exact k)
theorem ev_iadd (hC : mm_Cm C) {x y : Int32} (hE : tb m pc = some (.iadd, len, a, b, c))  (k : mm_run mi tb df C xs cap P n0 m (pc + len) L (.int (x + y) :: st) h kc ks) : mm_run mi tb df C xs cap P n0 m pc L (.int y :: .int x :: st) h kc ks := ev_go hC hE k
theorem ev_isub (hC : mm_Cm C) {x y : Int32} (hE : tb m pc = some (.isub, len, a, b, c))  (k : mm_run mi tb df C xs cap P n0 m (pc + len) L (.int (x - y) :: st) h kc ks) : mm_run mi tb df C xs cap P n0 m pc L (.int y :: .int x :: st) h kc ks := ev_go hC hE k
theorem ev_imul (hC : mm_Cm C) {x y : Int32} (hE : tb m pc = some (.imul, len, a, b, c))  (k : mm_run mi tb df C xs cap P n0 m (pc + len) L (.int (x * y) :: st) h kc ks) : mm_run mi tb df C xs cap P n0 m pc L (.int y :: .int x :: st) h kc ks := ev_go hC hE k
theorem ev_iand (hC : mm_Cm C) {x y : Int32} (hE : tb m pc = some (.iand, len, a, b, c))  (k : mm_run mi tb df C xs cap P n0 m (pc + len) L (.int (x &&& y) :: st) h kc ks) : mm_run mi tb df C xs cap P n0 m pc L (.int y :: .int x :: st) h kc ks := ev_go hC hE k
theorem ev_ior (hC : mm_Cm C) {x y : Int32} (hE : tb m pc = some (.ior, len, a, b, c))  (k : mm_run mi tb df C xs cap P n0 m (pc + len) L (.int (x ||| y) :: st) h kc ks) : mm_run mi tb df C xs cap P n0 m pc L (.int y :: .int x :: st) h kc ks := ev_go hC hE k
theorem ev_ixor (hC : mm_Cm C) {x y : Int32} (hE : tb m pc = some (.ixor, len, a, b, c))  (k : mm_run mi tb df C xs cap P n0 m (pc + len) L (.int (x ^^^ y) :: st) h kc ks) : mm_run mi tb df C xs cap P n0 m pc L (.int y :: .int x :: st) h kc ks := ev_go hC hE k
theorem ev_ishl (hC : mm_Cm C) {x y : Int32} (hE : tb m pc = some (.ishl, len, a, b, c))  (k : mm_run mi tb df C xs cap P n0 m (pc + len) L (.int (x <<< (y &&& 31)) :: st) h kc ks) : mm_run mi tb df C xs cap P n0 m pc L (.int y :: .int x :: st) h kc ks := ev_go hC hE k
theorem ev_ishr (hC : mm_Cm C) {x y : Int32} (hE : tb m pc = some (.ishr, len, a, b, c))  (k : mm_run mi tb df C xs cap P n0 m (pc + len) L (.int (x >>> (y &&& 31)) :: st) h kc ks) : mm_run mi tb df C xs cap P n0 m pc L (.int y :: .int x :: st) h kc ks := ev_go hC hE k
theorem ev_idiv (hC : mm_Cm C) {x y : Int32} (hE : tb m pc = some (.idiv, len, a, b, c)) (hy : ¬ y = 0) (k : mm_run mi tb df C xs cap P n0 m (pc + len) L (.int (x / y) :: st) h kc ks) : mm_run mi tb df C xs cap P n0 m pc L (.int y :: .int x :: st) h kc ks := ev_go hC hE ⟨hy, k⟩
theorem ev_irem (hC : mm_Cm C) {x y : Int32} (hE : tb m pc = some (.irem, len, a, b, c)) (hy : ¬ y = 0) (k : mm_run mi tb df C xs cap P n0 m (pc + len) L (.int (x - x / y * y) :: st) h kc ks) : mm_run mi tb df C xs cap P n0 m pc L (.int y :: .int x :: st) h kc ks := ev_go hC hE ⟨hy, k⟩
theorem ev_ineg (hC : mm_Cm C) {x : Int32} (hE : tb m pc = some (.ineg, len, a, b, c))  (k : mm_run mi tb df C xs cap P n0 m (pc + len) L (.int (-x) :: st) h kc ks) : mm_run mi tb df C xs cap P n0 m pc L (.int x :: st) h kc ks := ev_go hC hE k
theorem ev_i2c (hC : mm_Cm C) {x : Int32} (hE : tb m pc = some (.i2c, len, a, b, c))  (k : mm_run mi tb df C xs cap P n0 m (pc + len) L (.int (x.toUInt32 % 65536).toInt32 :: st) h kc ks) : mm_run mi tb df C xs cap P n0 m pc L (.int x :: st) h kc ks := ev_go hC hE k
theorem ev_dup (hC : mm_Cm C) {v : Value} (hE : tb m pc = some (.dup, len, a, b, c)) (hv : v.category = 1) (k : mm_run mi tb df C xs cap P n0 m (pc + len) L (v :: v :: st) h kc ks) : mm_run mi tb df C xs cap P n0 m pc L (v :: st) h kc ks := ev_go hC hE ⟨hv, k⟩
theorem ev_pop (hC : mm_Cm C) {v : Value} (hE : tb m pc = some (.pop, len, a, b, c)) (hv : v.category = 1) (k : mm_run mi tb df C xs cap P n0 m (pc + len) L st h kc ks) : mm_run mi tb df C xs cap P n0 m pc L (v :: st) h kc ks := ev_go hC hE ⟨hv, k⟩
theorem ev_dup_x1 (hC : mm_Cm C) {v w : Value} (hE : tb m pc = some (.dup_x1, len, a, b, c)) (hv : v.category = 1) (hw : w.category = 1) (k : mm_run mi tb df C xs cap P n0 m (pc + len) L (v :: w :: v :: st) h kc ks) : mm_run mi tb df C xs cap P n0 m pc L (v :: w :: st) h kc ks := ev_go hC hE ⟨hv, hw, k⟩
theorem ev_dup2 (hC : mm_Cm C) {v w : Value} (hE : tb m pc = some (.dup2, len, a, b, c)) (hv : v.category = 1) (hw : w.category = 1) (k : mm_run mi tb df C xs cap P n0 m (pc + len) L (v :: w :: v :: w :: st) h kc ks) : mm_run mi tb df C xs cap P n0 m pc L (v :: w :: st) h kc ks := ev_go hC hE ⟨hv, hw, k⟩
theorem ev_dup_x2 (hC : mm_Cm C) {v w z : Value} (hE : tb m pc = some (.dup_x2, len, a, b, c)) (hv : v.category = 1) (hw : w.category = 1) (hz : z.category = 1) (k : mm_run mi tb df C xs cap P n0 m (pc + len) L (v :: w :: z :: v :: st) h kc ks) : mm_run mi tb df C xs cap P n0 m pc L (v :: w :: z :: st) h kc ks := ev_go hC hE ⟨hv, hw, hz, k⟩
theorem ev_if_eq (hC : mm_Cm C) {off : Int} {x : Int32} (hE : tb m pc = some (.ifCond .eq off, len, a, b, c)) (k1 : x = 0 → mm_run mi tb df C xs cap P n0 m a L st h kc ks) (k2 : ¬ (x = 0) → mm_run mi tb df C xs cap P n0 m (pc + len) L st h kc ks) : mm_run mi tb df C xs cap P n0 m pc L (.int x :: st) h kc ks := ev_go hC hE ⟨k1, k2⟩
theorem ev_icmp_eq (hC : mm_Cm C) {off : Int} {x y : Int32} (hE : tb m pc = some (.if_icmp .eq off, len, a, b, c)) (k1 : x = y → mm_run mi tb df C xs cap P n0 m a L st h kc ks) (k2 : ¬ (x = y) → mm_run mi tb df C xs cap P n0 m (pc + len) L st h kc ks) : mm_run mi tb df C xs cap P n0 m pc L (.int y :: .int x :: st) h kc ks := ev_go hC hE ⟨k1, k2⟩
theorem ev_if_ne (hC : mm_Cm C) {off : Int} {x : Int32} (hE : tb m pc = some (.ifCond .ne off, len, a, b, c)) (k1 : ¬ x = 0 → mm_run mi tb df C xs cap P n0 m a L st h kc ks) (k2 : ¬ (¬ x = 0) → mm_run mi tb df C xs cap P n0 m (pc + len) L st h kc ks) : mm_run mi tb df C xs cap P n0 m pc L (.int x :: st) h kc ks := ev_go hC hE ⟨k1, k2⟩
theorem ev_icmp_ne (hC : mm_Cm C) {off : Int} {x y : Int32} (hE : tb m pc = some (.if_icmp .ne off, len, a, b, c)) (k1 : ¬ x = y → mm_run mi tb df C xs cap P n0 m a L st h kc ks) (k2 : ¬ (¬ x = y) → mm_run mi tb df C xs cap P n0 m (pc + len) L st h kc ks) : mm_run mi tb df C xs cap P n0 m pc L (.int y :: .int x :: st) h kc ks := ev_go hC hE ⟨k1, k2⟩
theorem ev_if_lt (hC : mm_Cm C) {off : Int} {x : Int32} (hE : tb m pc = some (.ifCond .lt off, len, a, b, c)) (k1 : x < 0 → mm_run mi tb df C xs cap P n0 m a L st h kc ks) (k2 : ¬ (x < 0) → mm_run mi tb df C xs cap P n0 m (pc + len) L st h kc ks) : mm_run mi tb df C xs cap P n0 m pc L (.int x :: st) h kc ks := ev_go hC hE ⟨k1, k2⟩
theorem ev_icmp_lt (hC : mm_Cm C) {off : Int} {x y : Int32} (hE : tb m pc = some (.if_icmp .lt off, len, a, b, c)) (k1 : x < y → mm_run mi tb df C xs cap P n0 m a L st h kc ks) (k2 : ¬ (x < y) → mm_run mi tb df C xs cap P n0 m (pc + len) L st h kc ks) : mm_run mi tb df C xs cap P n0 m pc L (.int y :: .int x :: st) h kc ks := ev_go hC hE ⟨k1, k2⟩
theorem ev_if_ge (hC : mm_Cm C) {off : Int} {x : Int32} (hE : tb m pc = some (.ifCond .ge off, len, a, b, c)) (k1 : 0 ≤ x → mm_run mi tb df C xs cap P n0 m a L st h kc ks) (k2 : ¬ (0 ≤ x) → mm_run mi tb df C xs cap P n0 m (pc + len) L st h kc ks) : mm_run mi tb df C xs cap P n0 m pc L (.int x :: st) h kc ks := ev_go hC hE ⟨k1, k2⟩
theorem ev_icmp_ge (hC : mm_Cm C) {off : Int} {x y : Int32} (hE : tb m pc = some (.if_icmp .ge off, len, a, b, c)) (k1 : y ≤ x → mm_run mi tb df C xs cap P n0 m a L st h kc ks) (k2 : ¬ (y ≤ x) → mm_run mi tb df C xs cap P n0 m (pc + len) L st h kc ks) : mm_run mi tb df C xs cap P n0 m pc L (.int y :: .int x :: st) h kc ks := ev_go hC hE ⟨k1, k2⟩
theorem ev_if_gt (hC : mm_Cm C) {off : Int} {x : Int32} (hE : tb m pc = some (.ifCond .gt off, len, a, b, c)) (k1 : 0 < x → mm_run mi tb df C xs cap P n0 m a L st h kc ks) (k2 : ¬ (0 < x) → mm_run mi tb df C xs cap P n0 m (pc + len) L st h kc ks) : mm_run mi tb df C xs cap P n0 m pc L (.int x :: st) h kc ks := ev_go hC hE ⟨k1, k2⟩
theorem ev_icmp_gt (hC : mm_Cm C) {off : Int} {x y : Int32} (hE : tb m pc = some (.if_icmp .gt off, len, a, b, c)) (k1 : y < x → mm_run mi tb df C xs cap P n0 m a L st h kc ks) (k2 : ¬ (y < x) → mm_run mi tb df C xs cap P n0 m (pc + len) L st h kc ks) : mm_run mi tb df C xs cap P n0 m pc L (.int y :: .int x :: st) h kc ks := ev_go hC hE ⟨k1, k2⟩
theorem ev_if_le (hC : mm_Cm C) {off : Int} {x : Int32} (hE : tb m pc = some (.ifCond .le off, len, a, b, c)) (k1 : x ≤ 0 → mm_run mi tb df C xs cap P n0 m a L st h kc ks) (k2 : ¬ (x ≤ 0) → mm_run mi tb df C xs cap P n0 m (pc + len) L st h kc ks) : mm_run mi tb df C xs cap P n0 m pc L (.int x :: st) h kc ks := ev_go hC hE ⟨k1, k2⟩
theorem ev_icmp_le (hC : mm_Cm C) {off : Int} {x y : Int32} (hE : tb m pc = some (.if_icmp .le off, len, a, b, c)) (k1 : x ≤ y → mm_run mi tb df C xs cap P n0 m a L st h kc ks) (k2 : ¬ (x ≤ y) → mm_run mi tb df C xs cap P n0 m (pc + len) L st h kc ks) : mm_run mi tb df C xs cap P n0 m pc L (.int y :: .int x :: st) h kc ks := ev_go hC hE ⟨k1, k2⟩
theorem ev_goto (hC : mm_Cm C) {off : Int} (hE : tb m pc = some (.goto off, len, a, b, c)) (k : mm_run mi tb df C xs cap P n0 m a L st h kc ks) : mm_run mi tb df C xs cap P n0 m pc L st h kc ks := ev_go hC hE k
theorem ev_lookup (hC : mm_Cm C) {d : Int} {ps : Array (Int × Int)} {x : Int32} (t : Nat) (hE : tb m pc = some (.lookupswitch d ps, len, a, b, c)) (ht : (pc : Int) + Op.lookupswitch.offset ps.toList d x.toInt = (t : Int)) (k : mm_run mi tb df C xs cap P n0 m t L st h kc ks) : mm_run mi tb df C xs cap P n0 m pc L (.int x :: st) h kc ks := ev_go hC hE ⟨t, ht, k⟩
theorem ev_tableOut (hC : mm_Cm C) {d lo hi : Int} {offs : Array Int} {x : Int32} (t : Nat) (hE : tb m pc = some (.tableswitch d lo hi offs, len, a, b, c)) (hc : x.toInt < lo ∨ hi < x.toInt) (ht : (pc : Int) + d = (t : Int)) (k : mm_run mi tb df C xs cap P n0 m t L st h kc ks) : mm_run mi tb df C xs cap P n0 m pc L (.int x :: st) h kc ks := ev_go hC hE ⟨fun _ => ⟨t, ht, k⟩, fun h1 h2 => (hc.elim h1 h2).elim⟩
theorem ev_tableIn (hC : mm_Cm C) {d lo hi o : Int} {offs : Array Int} {x : Int32} (t : Nat) (hE : tb m pc = some (.tableswitch d lo hi offs, len, a, b, c)) (h1 : ¬ x.toInt < lo) (h2 : ¬ hi < x.toInt) (ho : offs[(x.toInt - lo).toNat]? = some o) (ht : (pc : Int) + o = (t : Int)) (k : mm_run mi tb df C xs cap P n0 m t L st h kc ks) : mm_run mi tb df C xs cap P n0 m pc L (.int x :: st) h kc ks := ev_go hC hE ⟨fun hc => (hc.elim h1 h2).elim, fun _ _ => ⟨o, t, ho, ht, k⟩⟩
theorem ev_getfield (hC : mm_Cm C) {i o : Nat} {fs : List Value} {v : Value} (hE : tb m pc = some (.getfield i, len, a, b, c)) (ho : h[o]? = some (.inr (a, fs))) (hv : fs[b]? = some v) (k : mm_run mi tb df C xs cap P n0 m (pc + len) L (v :: st) h kc ks) : mm_run mi tb df C xs cap P n0 m pc L (.ref o :: st) h kc ks := ev_go hC hE (by dsimp only [mm_ex, mm_s1, mm_s2, mm_sr, mm_sx, mm_sv, mm_lr, mm_li, mm_ob, mm_ar, mm_fd]; rw [ho]; dsimp only; rw [hv]; exact ⟨rfl, k⟩)
theorem ev_putfield (hC : mm_Cm C) {i o : Nat} {fs : List Value} {v : Value} (hE : tb m pc = some (.putfield i, len, a, b, c)) (ho : h[o]? = some (.inr (a, fs))) (hb : b < fs.length) (hf : mm_fit c v) (k : mm_run mi tb df C xs cap P n0 m (pc + len) L st (h.set o (.inr (a, fs.set b v))) kc ks) : mm_run mi tb df C xs cap P n0 m pc L (v :: .ref o :: st) h kc ks := ev_go hC hE (by dsimp only [mm_ex, mm_s1, mm_s2, mm_sr, mm_sx, mm_sv, mm_lr, mm_li, mm_ob, mm_ar, mm_fd]; rw [ho]; exact ⟨rfl, hb, hf, k⟩)
theorem ev_ialoadX (hC : mm_Cm C) {z : Nat} {i : Int32} (hE : tb m pc = some (.iaload, len, a, b, c)) (hi : vp_in i xs.1) (k : mm_run mi tb df C xs cap P n0 m (pc + len) L (.int (xs.2 i.toNatClampNeg) :: st) h kc ks) : mm_run mi tb df C xs cap P n0 m pc L (.int i :: .retAddr z :: st) h kc ks := ev_go hC hE ⟨hi, k⟩
theorem ev_iaload (hC : mm_Cm C) {o n : Nat} {f : Nat → Int32} {i : Int32} (hE : tb m pc = some (.iaload, len, a, b, c)) (ho : h[o]? = some (.inl (.int, n, f))) (hi : vp_in i n) (k : mm_run mi tb df C xs cap P n0 m (pc + len) L (.int (f i.toNatClampNeg) :: st) h kc ks) : mm_run mi tb df C xs cap P n0 m pc L (.int i :: .ref o :: st) h kc ks := ev_go hC hE (by dsimp only [mm_ex, mm_s1, mm_s2, mm_sr, mm_sx, mm_sv, mm_lr, mm_li, mm_ob, mm_ar, mm_fd]; rw [ho]; exact ⟨rfl, hi, k⟩)
theorem ev_baload (hC : mm_Cm C) {o n : Nat} {f : Nat → Int32} {i : Int32} (hE : tb m pc = some (.baload, len, a, b, c)) (ho : h[o]? = some (.inl (.boolean, n, f))) (hi : vp_in i n) (k : mm_run mi tb df C xs cap P n0 m (pc + len) L (.int (f i.toNatClampNeg) :: st) h kc ks) : mm_run mi tb df C xs cap P n0 m pc L (.int i :: .ref o :: st) h kc ks := ev_go hC hE (by dsimp only [mm_ex, mm_s1, mm_s2, mm_sr, mm_sx, mm_sv, mm_lr, mm_li, mm_ob, mm_ar, mm_fd]; rw [ho]; exact ⟨rfl, hi, k⟩)
theorem ev_caload (hC : mm_Cm C) {o n : Nat} {f : Nat → Int32} {i : Int32} (hE : tb m pc = some (.caload, len, a, b, c)) (ho : h[o]? = some (.inl (.char, n, f))) (hi : vp_in i n) (k : mm_run mi tb df C xs cap P n0 m (pc + len) L (.int (f i.toNatClampNeg) :: st) h kc ks) : mm_run mi tb df C xs cap P n0 m pc L (.int i :: .ref o :: st) h kc ks := ev_go hC hE (by dsimp only [mm_ex, mm_s1, mm_s2, mm_sr, mm_sx, mm_sv, mm_lr, mm_li, mm_ob, mm_ar, mm_fd]; rw [ho]; exact ⟨rfl, hi, k⟩)
theorem ev_iastore (hC : mm_Cm C) {o n : Nat} {f : Nat → Int32} {i x : Int32} (hE : tb m pc = some (.iastore, len, a, b, c)) (ho : h[o]? = some (.inl (.int, n, f))) (hi : vp_in i n) (k : mm_run mi tb df C xs cap P n0 m (pc + len) L st (h.set o (.inl (.int, n, upd f i.toNatClampNeg x))) kc ks) : mm_run mi tb df C xs cap P n0 m pc L (.int x :: .int i :: .ref o :: st) h kc ks := ev_go hC hE (by dsimp only [mm_ex, mm_s1, mm_s2, mm_sr, mm_sx, mm_sv, mm_lr, mm_li, mm_ob, mm_ar, mm_fd]; rw [ho]; exact ⟨rfl, hi, k⟩)
theorem ev_bastore (hC : mm_Cm C) {o n : Nat} {f : Nat → Int32} {i x : Int32} (hE : tb m pc = some (.bastore, len, a, b, c)) (ho : h[o]? = some (.inl (.boolean, n, f))) (hi : vp_in i n) (k : mm_run mi tb df C xs cap P n0 m (pc + len) L st (h.set o (.inl (.boolean, n, upd f i.toNatClampNeg (vp_nar .boolean x)))) kc ks) : mm_run mi tb df C xs cap P n0 m pc L (.int x :: .int i :: .ref o :: st) h kc ks := ev_go hC hE (by dsimp only [mm_ex, mm_s1, mm_s2, mm_sr, mm_sx, mm_sv, mm_lr, mm_li, mm_ob, mm_ar, mm_fd]; rw [ho]; exact ⟨rfl, hi, k⟩)
theorem ev_castore (hC : mm_Cm C) {o n : Nat} {f : Nat → Int32} {i x : Int32} (hE : tb m pc = some (.castore, len, a, b, c)) (ho : h[o]? = some (.inl (.char, n, f))) (hi : vp_in i n) (k : mm_run mi tb df C xs cap P n0 m (pc + len) L st (h.set o (.inl (.char, n, upd f i.toNatClampNeg (vp_nar .char x)))) kc ks) : mm_run mi tb df C xs cap P n0 m pc L (.int x :: .int i :: .ref o :: st) h kc ks := ev_go hC hE (by dsimp only [mm_ex, mm_s1, mm_s2, mm_sr, mm_sx, mm_sv, mm_lr, mm_li, mm_ob, mm_ar, mm_fd]; rw [ho]; exact ⟨rfl, hi, k⟩)
theorem ev_arraylengthX (hC : mm_Cm C) {z : Nat} (hE : tb m pc = some (.arraylength, len, a, b, c))  (k : mm_run mi tb df C xs cap P n0 m (pc + len) L (.int (Int32.ofNat xs.1) :: st) h kc ks) : mm_run mi tb df C xs cap P n0 m pc L (.retAddr z :: st) h kc ks := ev_go hC hE k
theorem ev_arraylength (hC : mm_Cm C) {o n : Nat} {ty : FieldType} {f : Nat → Int32} (hE : tb m pc = some (.arraylength, len, a, b, c)) (ho : h[o]? = some (.inl (ty, n, f))) (ht : ty = .int ∨ ty = .boolean ∨ ty = .char) (k : mm_run mi tb df C xs cap P n0 m (pc + len) L (.int (Int32.ofNat n) :: st) h kc ks) : mm_run mi tb df C xs cap P n0 m pc L (.ref o :: st) h kc ks := ev_go hC hE (by dsimp only [mm_ex, mm_s1, mm_s2, mm_sr, mm_sx, mm_sv, mm_lr, mm_li, mm_ob, mm_ar, mm_fd]; rw [ho]; exact ⟨ht, k⟩)
theorem ev_new (hC : mm_Cm C) {i : Nat} (hE : tb m pc = some (.new i, len, a, b, c)) (h1 : kc + 1 ≤ cap.1) (h2 : ks + b ≤ cap.2) (hw : (L.all (mm_wfo h.length) && st.all (mm_wfv h.length) && h.all (mm_wfc h.length)) = true) (k : mm_run mi tb df C xs cap P n0 m (pc + len) L (.ref h.length :: st) (h ++ [.inr (a, df a)]) (kc + 1) (ks + b)) : mm_run mi tb df C xs cap P n0 m pc L st h kc ks := ev_go hC hE ⟨h1, h2, hw, k⟩
theorem ev_newarray (hC : mm_Cm C) {ty : ArrayType} {n : Int32} (hE : tb m pc = some (.newarray ty, len, a, b, c)) (h0 : ¬ n < 0) (hn : n.toNatClampNeg ≤ 1000000) (h1 : kc + 1 ≤ cap.1) (h2 : ks + n.toNatClampNeg ≤ cap.2) (hw : (L.all (mm_wfo h.length) && st.all (mm_wfv h.length) && h.all (mm_wfc h.length)) = true) (k : mm_run mi tb df C xs cap P n0 m (pc + len) L (.ref h.length :: st) (h ++ [.inl (newarray.typeOf ty, n.toNatClampNeg, fun _ => 0)]) (kc + 1) (ks + n.toNatClampNeg)) : mm_run mi tb df C xs cap P n0 m pc L (.int n :: st) h kc ks := ev_go hC hE ⟨h0, hn, h1, h2, hw, k⟩
theorem ev_objinit (hC : mm_Cm C) {i x : Nat} (hE : tb m pc = some (.invokespecial i, len, a, 0, c)) (hc : mm_cat st) (k : mm_run mi tb df C xs cap P n0 m (pc + len) L st h kc ks) : mm_run mi tb df C xs cap P n0 m pc L (.ref x :: st) h kc ks := ev_go hC hE ⟨fun _ => ⟨hc, k⟩, fun z => absurd rfl z⟩
theorem ev_static (hC : mm_Cm C) {i : Nat} (hE : tb m pc = some (.invokestatic i, len, a, 1, c)) (h1 : mm_k (mi a) ≤ st.length) (h2 : mm_cat (st.drop (mm_k (mi a)))) (h3 : kc + mm_mc (mi a) ≤ cap.1) (h4 : ks + mm_ms (mi a) ≤ cap.2) (h5 : mm_mc (mi a) = 0 ∨ (L.all (mm_wfo h.length) && (st.drop (mm_k (mi a))).all (mm_wfv h.length)) = true) {Q : mm_H → Option Value → Prop} (hc : C a h (st.take (mm_k (mi a))).reverse Q) (k : ∀ h' v, Q h' v → mm_run mi tb df C xs cap P n0 m (pc + len) L (v.toList ++ st.drop (mm_k (mi a))) h' (kc + mm_mc (mi a)) (ks + mm_ms (mi a))) : mm_run mi tb df C xs cap P n0 m pc L st h kc ks := ev_go hC hE ⟨fun z => absurd z (by decide), fun _ => ⟨h1, h2, h3, h4, h5, hC _ _ _ _ _ k hc⟩⟩
theorem ev_virtual (hC : mm_Cm C) {i : Nat} (hE : tb m pc = some (.invokevirtual i, len, a, b, c)) (hr : mm_rcv h (mm_ci (mi a)) (st.take (mm_k (mi a))).reverse) (h1 : mm_k (mi a) ≤ st.length) (h2 : mm_cat (st.drop (mm_k (mi a)))) (h3 : kc + mm_mc (mi a) ≤ cap.1) (h4 : ks + mm_ms (mi a) ≤ cap.2) (h5 : mm_mc (mi a) = 0 ∨ (L.all (mm_wfo h.length) && (st.drop (mm_k (mi a))).all (mm_wfv h.length)) = true) {Q : mm_H → Option Value → Prop} (hc : C a h (st.take (mm_k (mi a))).reverse Q) (k : ∀ h' v, Q h' v → mm_run mi tb df C xs cap P n0 m (pc + len) L (v.toList ++ st.drop (mm_k (mi a))) h' (kc + mm_mc (mi a)) (ks + mm_ms (mi a))) : mm_run mi tb df C xs cap P n0 m pc L st h kc ks := ev_go hC hE ⟨hr, h1, h2, h3, h4, h5, hC _ _ _ _ _ k hc⟩
theorem ev_special (hC : mm_Cm C) {i : Nat} (hE : tb m pc = some (.invokespecial i, len, a, 1, c)) (hr : ∃ o As, (st.take (mm_k (mi a))).reverse = .ref o :: As) (h1 : mm_k (mi a) ≤ st.length) (h2 : mm_cat (st.drop (mm_k (mi a)))) (h3 : kc + mm_mc (mi a) ≤ cap.1) (h4 : ks + mm_ms (mi a) ≤ cap.2) (h5 : mm_mc (mi a) = 0 ∨ (L.all (mm_wfo h.length) && (st.drop (mm_k (mi a))).all (mm_wfv h.length)) = true) {Q : mm_H → Option Value → Prop} (hc : C a h (st.take (mm_k (mi a))).reverse Q) (k : ∀ h' v, Q h' v → mm_run mi tb df C xs cap P n0 m (pc + len) L (v.toList ++ st.drop (mm_k (mi a))) h' (kc + mm_mc (mi a)) (ks + mm_ms (mi a))) : mm_run mi tb df C xs cap P n0 m pc L st h kc ks := ev_go hC hE ⟨fun z => absurd z (by decide), fun _ => ⟨hr, h1, h2, h3, h4, h5, hC _ _ _ _ _ k hc⟩⟩
theorem ev_return (hC : mm_Cm C) (hE : tb m pc = some (.return_, len, a, b, c)) (hr : mm_r (mi m) = none) (j : Nat) (hj : n0 ≤ j) (k : P (h.take j) none kc ks) : mm_run mi tb df C xs cap P n0 m pc L [] h kc ks := ev_go hC hE ⟨rfl, hr, j, hj, k⟩
theorem ev_ireturn (hC : mm_Cm C) {v : Int32} {ty : FieldType} (hE : tb m pc = some (.ireturn, len, a, b, c)) (hr : mm_r (mi m) = some ty) (hv : narrow ty (.int v) = .int v) (j : Nat) (hj : n0 ≤ j) (k : P (h.take j) (some (.int v)) kc ks) : mm_run mi tb df C xs cap P n0 m pc L [.int v] h kc ks := ev_go hC hE ⟨rfl, ⟨ty, hr, hv⟩, j, hj, k⟩
end EV
end
section
/-! THE CLAIM OUT OF ONE WALK OF THE LAW'S BODY. Your part is whole_start (and what it stands on); all else here is the same for every law, but numbers. -/
def R_law : String := "ReplayedBeansLaw"
def lw_P (b : Addr) (xs : List Int32) (args : Array Value) (s : State) : Prop := args = #[.ref b] ∧ s.IntsAt b xs ∧ xs.length ≤ 3072 ∧ (Jvm.Cond.and given_1 narrow_1).before args s = true
def lw_Q (_ : Array Value) (s : State) (o : Outcome) (t : State) : Prop := o = .returned (some (.int 1)) ∧ Framed s o t [] 600000 7302250
def lw_Z (below : List Frame) (a : Array Value) (s : State) : State → Prop := fun t => ∃ o, t.status = .running ∧ Ended t below o ∧ lw_Q a s o t
/-- the law's own end, with 1 on the stack, nothing written that was there before, its room as the claim has it -/
theorem lw_ret {p : Program} {l : Launch} {e : Env} {s : State} {m : MethodId} {below : List Frame} {meth : Method} {c : Code} {b : Nat} (hx : p.tables.exec = Jvm.exec) (hb : c.code = code) (hr : meth.sig.returnType = ret) (hlocks : meth.locks = false) {pc : Nat} {H : Heap} {ls : Array Slot} (hdg : decode code pc = .ok (.ireturn, 1)) : W p l e room_1 s m #[Value.ref b] below meth c H [] 600000 7302250 (lw_Z below #[Value.ref b] s) (F0 m pc ls [.int 1]) := by
  intro T hT X
  obtain ⟨fs, hret, hrun, hended, hW, hframe⟩ := X.leave (v := some (.int 1)) (hlocks := hlocks) (fun h => by rw [hr] at h; cases h)
  have hmeth' : T.vm.method? m = some meth := X.method'
  refine ⟨T.setFrames fs, ?_, .returned (some (.int 1)), hrun, hended, rfl, ⟨_, rfl⟩, hW, hframe⟩
  jvm_step X.here [X.here.top, hx, hb, hdg, hmeth', hr, ret, narrow_b1]
  (try refine ⟨rfl, ?_⟩); (try refine ⟨rfl, ?_⟩)
  first | (intro acts; rw [hret _ acts rfl rfl rfl]) | rw [hret _ _ rfl rfl rfl]
  exact Steps.refl _
/-- what holds at the law's entry: the machine, the code, the tables' words (any of lw_tbl by 'hts w (by decide +kernel)'), the script of L ints xs at the cell b, what the Statement gives of the start (any of its parts by flat_of_before) -/
def lw_At (p : Program) (s : State) (m : MethodId) (meth : Method) (c : Code) (b L : Nat) (xs : Nat → Int32) : Prop :=
  p.tables.exec = Jvm.exec ∧ c.code = code ∧ meth.sig.returnType = ret ∧ c.maxLocals = 4 ∧ s.vm.findClass R_law = some m.cls ∧ (∀ w ∈ lw_tbl, w.before #[Value.ref b] s = true) ∧ va_X b L xs s s.heap ∧ b < s.heap.size ∧ meth.locks = false ∧ (Jvm.Cond.and given_1 narrow_1).before #[Value.ref b] s = true
/-- what is left to prove, over the small machine alone -/
def st_pure : Prop := ∀ (L : Nat) (xs : Nat → Int32), L ≤ 3072 → mm_run tmi ttb tdf (mm_call tmi ttb tdf (L, xs) 1000) (L, xs) (600000, 7302250) (fun _ r _ _ => r = some (.int 1)) 0 128 0 [some (.retAddr 0), none, none, none] [] [] 0 0
set_option maxHeartbeats 4000000 in
set_option maxRecDepth 100000 in
theorem st_whole (hpure : st_pure) {p : Program} {e : Env} {s : State} {m : MethodId} {below : List Frame} {meth : Method} {c : Code} (l : Launch) {b L : Nat} {xs : Nat → Int32} (hL : L ≤ 3072) (C0 : lw_At p s m meth c b L xs) : W p l e room_1 s m #[Value.ref b] below meth c s.heap [] 0 0 (lw_Z below #[Value.ref b] s) (entryFrame m ([Value.ref b] : List Value).toArray 4) := by
  obtain ⟨hx, hb, hr, hml, hown, hts, hX, hbl, hlocks, hgv⟩ := C0
  have hD0 : ∀ ci : Nat, ∃ x : ClassId × (Nat → Nat), ∀ q : vw_C, tcl[ci]? = some q → u_Kn s q.1 q.2.1 q.2.2 x.1 x.2 := by
    intro ci
    cases hq : tcl[ci]? with
    | none => exact ⟨(0, fun _ => 0), fun q h => by cases h⟩
    | some q =>
      obtain ⟨u1, -⟩ := mm_okc_spec (tk_cl ci q hq)
      obtain ⟨cC, iS, h⟩ := u_known (C := q.1) (T := q.2.1) (N := q.2.2) hts (fun w hw => tk_in w (u1 w hw)) (hts _ (tk_in _ (tc_inst q (List.mem_of_getElem? hq))))
      exact ⟨(cC, iS), fun q2 h2 => by cases h2; exact h⟩
  obtain ⟨f, hf⟩ := Classical.axiomOfChoice hD0
  obtain ⟨cI, kI, pI, i1, i2, i3⟩ := Cond.arrayClass_spec (hts _ (tk_in _ tc_arr.1))
  obtain ⟨cZ, kZ, pZ, z1, z2, z3⟩ := Cond.arrayClass_spec (hts _ (tk_in _ tc_arr.2.1))
  obtain ⟨cC, kC, pC, c1, c2, c3⟩ := Cond.arrayClass_spec (hts _ (tk_in _ tc_arr.2.2))
  let dA : FieldType → ClassId := fun ty => match ty with
    | .int => cI
    | .boolean => cZ
    | .char => cC
    | _ => 0
  let D : va_G := (fun ci => (f ci).1, fun ci => (f ci).2)
  have hKK : mm_KK D dA tcl tnF tnM s := by
    refine ⟨⟨fun ci q hq => hf ci q hq, fun k q hk => ?_⟩, fun q hq => va_Nw.of rfl (hts _ (tc_mF q hq)), fun q hq => va_Nw.of rfl (hts _ (tc_mM q hq))⟩
    match k, hk with
    | 0, hk => cases hk; exact ⟨fun n z => ⟨fun k h => (by cases h), kI, i2, pI, i3⟩, i1⟩
    | 1, hk => cases hk; exact ⟨fun n z => ⟨fun k h => (by cases h), kZ, z2, pZ, z3⟩, z1⟩
    | 2, hk => cases hk; exact ⟨fun n z => ⟨fun k h => (by cases h), kC, c2, pC, c3⟩, c1⟩
    | k + 3, hk => cases hk
  have hG : ∀ z, z < 128 → GoodIn lw_tbl (mm_ws tmi tws 128 z) := by
    intro z hz x hxz
    rcases List.mem_cons.mp hxz with rfl | hxz
    · exact ⟨tc_ok z hz, Or.inl rfl⟩
    · rcases List.mem_append.mp hxz with hxz | hxz
      · obtain ⟨i, hi, rfl⟩ := List.mem_map.mp hxz
        exact ⟨tc_ok i (List.mem_range.mp hi), Or.inl rfl⟩
      · rcases List.mem_cons.mp hxz with rfl | hxz
        · exact ⟨tc_oi, Or.inl rfl⟩
        · exact ⟨tk_in x hxz, good_of_word (tk_ws x hxz)⟩
  have Z : mm_Cx p l room_1 s m #[Value.ref b] meth c D dA tcl b (fun q => s.heap.size ≤ q) tmi tdf tws lw_tbl tnF tnM 128 128 1000 (L, xs) :=
    ⟨⟨hx, hb, hml, hown, hts⟩, tk_in, tc_oi, hG, fun y hy => tk_mi y (Nat.lt_succ_of_lt hy), tk_cl, hKK, fun q h => h, hX, hbl, Nat.not_le.mpr hbl, fun h => absurd h (by decide), by decide, by decide⟩
  have hmet := mm_met l D dA tcl b tmi ttb tdf tws tnF tnM 128 (L, xs) tk_ws (fun y hy => tk_mi y (Nat.lt_succ_of_lt hy)) tk_cl (fun w hw => tk_ok w (Nat.lt_succ_of_lt hw)) 1000
  have hl := lv_entry ([Value.ref b]) (n := 4) (Nat.le_of_ble_eq_true rfl)
  rw [lg_entry_eq]
  generalize (lg_sl ([Value.ref b]) ++ List.replicate (4 - (lg_sl ([Value.ref b])).length) Slot.unset).toArray = ls at hl ⊢
  have hl2 : lv_has ls 4 (mm_l b (fun _ => 0) [some (.retAddr 0), none, none, none]) := hl
  refine mm_run_go (Q := lw_Z below #[Value.ref b] s) (φ0 := fun _ => 0) Z hmet ?_ (tk_ok 128 (by decide)) (hpure L xs hL) (fun _ => 0) s.heap [] ls (fun _ _ => rfl) (fun _ => rfl) (Nat.le_refl _) (Nat.zero_le _) (Nat.zero_le _) (fun k q h => by cases h) ⟨fun i j p q h => (by cases h), fun k q h => (by cases h)⟩ va_S.rf hl2
  intro I v pc Lo h' kc ks hret hd hj φ' H locs ls' f0 g0 hn k1 k2 hP1 hD1 hS1 hl1
  obtain ⟨j, -, hv⟩ := hj
  subst hv
  rcases hret with ⟨-, h, -⟩ | ⟨x, ty, rfl, hxv, hrt, hnar⟩ | ⟨x, ty, -, h, -⟩
  · cases h
  · cases hxv
    refine va_forget (fun q hq => hS1.2.2 q hq) ?_
    refine W.widen (k := 600000) (n := 7302250) k1 k2 ?_
    exact lw_ret hx hb hr hlocks hd
  · cases h
end
section
/-! the heap behind the law's two constructors: which cell is which never changes; all that changes is the numbers S c k (cell c, place k) -/
abbrev Sv : Type := Nat → Nat → Int32
def hp (S : Sv) : mm_H := [.inr (0, [.ref 1, .ref 8, .ref 12, .ref 15, .ref 19, .ref 21, .ref 27, .ref 28]), .inr (1, [.ref 2, .ref 3, .ref 4, .ref 5, .ref 6, .ref 7]), .inl (.boolean, 4, S 2), .inl (.int, 4, S 3), .inl (.int, 4, S 4), .inl (.int, 12, S 5), .inl (.int, 12, S 6), .inl (.int, 12, S 7), .inr (2, [.ref 1, .ref 9, .ref 10, .ref 11, .int (S 8 4)]), .inl (.int, 24, S 9), .inl (.int, 72, S 10), .inl (.int, 48, S 11), .inr (3, [.ref 8, .ref 13, .ref 14, .int (S 12 3)]), .inl (.int, 24, S 13), .inl (.boolean, 24, S 14), .inr (4, [.ref 8, .ref 16, .ref 17, .ref 18, .int (S 15 4)]), .inl (.int, 24, S 16), .inl (.int, 24, S 17), .inl (.int, 24, S 18), .inr (5, [.ref 20, .int (S 19 1)]), .inl (.char, 300, S 20), .inr (6, [.ref 1, .ref 8, .ref 12, .ref 22, .ref 24, .ref 25, .ref 26, .int (S 21 7), .int (S 21 8), .int (S 21 9), .int (S 21 10)]), .inr (5, [.ref 23, .int (S 22 1)]), .inl (.char, 300, S 23), .inl (.int, 24, S 24), .inl (.int, 24, S 25), .inl (.boolean, 24, S 26), .inr (7, [.ref 19, .int (S 27 1), .int (S 27 2), .int (S 27 3)]), .inr (8, [.ref 8, .ref 19, .ref 29, .ref 30, .int (S 28 4), .int (S 28 5)]), .inl (.int, 100, S 29), .inl (.int, 300, S 30), .inr (9, [.ref 32, .ref 33, .ref 34, .ref 35, .ref 36, .ref 37, .int (S 31 6), .ref 38, .ref 39, .ref 40, .ref 41, .int (S 31 11), .ref 42, .int (S 31 13), .ref 43, .ref 44, .ref 45, .ref 46, .ref 47, .int (S 31 19), .int (S 31 20), .ref 48, .ref 49, .ref 50, .int (S 31 24), .int (S 31 25), .int (S 31 26), .int (S 31 27), .int (S 31 28), .int (S 31 29), .int (S 31 30), .int (S 31 31), .int (S 31 32), .ref 51, .int (S 31 34), .ref 52]), .inl (.boolean, 4, S 32), .inl (.int, 4, S 33), .inl (.int, 4, S 34), .inl (.int, 12, S 35), .inl (.int, 12, S 36), .inl (.int, 12, S 37), .inl (.int, 24, S 38), .inl (.int, 72, S 39), .inl (.int, 48, S 40), .inl (.int, 300, S 41), .inl (.int, 300, S 42), .inl (.boolean, 24, S 43), .inl (.int, 24, S 44), .inl (.int, 24, S 45), .inl (.int, 24, S 46), .inl (.boolean, 24, S 47), .inl (.int, 25, S 48), .inl (.int, 25, S 49), .inl (.int, 25, S 50), .inl (.int, 100, S 51), .inl (.int, 300, S 52)]
def us (S : Sv) (c j : Nat) (v : Int32) : Sv := fun a => if a = c then upd (S c) j v else S a
def uf (S : Sv) (c : Nat) (f : Nat → Int32) : Sv := fun a => if a = c then f else S a
def CS (xs : Nat × (Nat → Int32)) (d y : Nat) (S : Sv) (as : List Value) (K : Sv → Option Value → Prop) : Prop := mm_call tmi ttb tdf xs d y (hp S) as (fun h' v => ∃ S', h' = hp S' ∧ K S' v)
def RN (xs : Nat × (Nat → Int32)) (d y : Nat) (K : Sv → Option Value → Prop) (pc : Nat) (L : mm_L) (st : List Value) (S : Sv) : Prop := mm_run tmi ttb tdf (mm_call tmi ttb tdf xs d) xs (0, 0) (fun h' r _ _ => ∃ S', h' = hp S' ∧ K S' r) 53 y pc L st (hp S) 0 0
theorem cs_mono {xs : Nat × (Nat → Int32)} {d y : Nat} {S : Sv} {as : List Value} {K K' : Sv → Option Value → Prop} (h : CS xs d y S as K) (hK : ∀ S' v, K S' v → K' S' v) : CS xs d y S as K' := mm_call_mono d _ _ _ _ _ (fun h' v hv => by obtain ⟨S', e, k⟩ := hv; exact ⟨S', e, hK S' v k⟩) h
theorem cs_in {xs : Nat × (Nat → Int32)} {d y : Nat} {S : Sv} {as : List Value} {K : Sv → Option Value → Prop} {L : mm_L} (h1 : as.length = mm_k (tmi y)) (h2 : (as.all fun v => v.category == 1) = true) (h3 : (mm_mc (tmi y), mm_ms (tmi y)) = (0, 0)) (hL : mm_in0 (tmi y) as = L) (k : RN xs d y K 0 L [] S) : CS xs (d + 1) y S as K := ⟨h1, h2, by rw [h3, hL]; exact k⟩
theorem cs_d {d : Nat} (h : 1 ≤ d) : ∃ e, d = e + 1 := ⟨d - 1, by omega⟩
theorem nar_z {v : Int32} (h : v = 0 ∨ v = 1) : narrow .boolean (.int v) = .int v := by
  rcases h with rfl | rfl <;> decide
theorem in_nI {i : Int32} {j n : Nat} (hi : i = nI j) (hj : j < n) (hn : n ≤ 100000) : vp_in i n ∧ i.toNatClampNeg = j := by
  subst hi
  exact ⟨vp_in_nI hj (by omega), nI_clamp (by omega)⟩
section RNR
variable {xs : Nat × (Nat → Int32)} {d y : Nat} {K : Sv → Option Value → Prop} {pc len a b : Nat} {c : Int32} {L : mm_L} {st : List Value} {S : Sv}
theorem rn_iconst {i : Int} (hE : ttb y pc = some (.iconst i, len, a, b, c))  (k : RN xs d y K (pc + len) L (.int c :: st) S) : RN xs d y K pc L st S := ev_iconst (mm_call_mono d) hE k
theorem rn_bipush {i : Int} (hE : ttb y pc = some (.bipush i, len, a, b, c))  (k : RN xs d y K (pc + len) L (.int c :: st) S) : RN xs d y K pc L st S := ev_bipush (mm_call_mono d) hE k
theorem rn_sipush {i : Int} (hE : ttb y pc = some (.sipush i, len, a, b, c))  (k : RN xs d y K (pc + len) L (.int c :: st) S) : RN xs d y K pc L st S := ev_sipush (mm_call_mono d) hE k
theorem rn_ldc {i : Nat} (hE : ttb y pc = some (.ldc i, len, a, b, c))  (k : RN xs d y K (pc + len) L (.int c :: st) S) : RN xs d y K pc L st S := ev_ldc (mm_call_mono d) hE k
theorem rn_iload_n {i : Fin 4} {x : Int32} (hE : ttb y pc = some (.iload_n i, len, a, b, c)) (hl : L[a]? = some (some (.int x))) (k : RN xs d y K (pc + len) L (.int x :: st) S) : RN xs d y K pc L st S := ev_iload_n (mm_call_mono d) hE hl k
theorem rn_iload {i : Nat} {x : Int32} (hE : ttb y pc = some (.iload i, len, a, b, c)) (hl : L[a]? = some (some (.int x))) (k : RN xs d y K (pc + len) L (.int x :: st) S) : RN xs d y K pc L st S := ev_iload (mm_call_mono d) hE hl k
theorem rn_aload_n {i : Fin 4} {x : Nat} (hE : ttb y pc = some (.aload_n i, len, a, b, c)) (hl : L[a]? = some (some (.ref x))) (k : RN xs d y K (pc + len) L (.ref x :: st) S) : RN xs d y K pc L st S := ev_aload_n (mm_call_mono d) hE hl k
theorem rn_aload {i : Nat} {x : Nat} (hE : ttb y pc = some (.aload i, len, a, b, c)) (hl : L[a]? = some (some (.ref x))) (k : RN xs d y K (pc + len) L (.ref x :: st) S) : RN xs d y K pc L st S := ev_aload (mm_call_mono d) hE hl k
theorem rn_istore_n {i : Fin 4} {x : Int32} {L' : mm_L} (hE : ttb y pc = some (.istore_n i, len, a, b, c)) (hL : L.set a (some (.int x)) = L') (k : RN xs d y K (pc + len) L' st S) : RN xs d y K pc L (.int x :: st) S := ev_istore_n (mm_call_mono d) hE (by rw [hL]; exact k)
theorem rn_istore {i : Nat} {x : Int32} {L' : mm_L} (hE : ttb y pc = some (.istore i, len, a, b, c)) (hL : L.set a (some (.int x)) = L') (k : RN xs d y K (pc + len) L' st S) : RN xs d y K pc L (.int x :: st) S := ev_istore (mm_call_mono d) hE (by rw [hL]; exact k)
theorem rn_iinc {i : Nat} {n : Int} {x : Int32} {L' : mm_L} (hE : ttb y pc = some (.iinc i n, len, a, b, c)) (hl : L[a]? = some (some (.int x))) (hL : L.set a (some (.int (x + c))) = L') (k : RN xs d y K (pc + len) L' st S) : RN xs d y K pc L st S := ev_iinc (mm_call_mono d) hE hl (by rw [hL]; exact k)
theorem rn_iadd {x y1 : Int32} (hE : ttb y pc = some (.iadd, len, a, b, c))  (k : RN xs d y K (pc + len) L (.int (x + y1) :: st) S) : RN xs d y K pc L (.int y1 :: .int x :: st) S := ev_iadd (mm_call_mono d) hE k
theorem rn_isub {x y1 : Int32} (hE : ttb y pc = some (.isub, len, a, b, c))  (k : RN xs d y K (pc + len) L (.int (x - y1) :: st) S) : RN xs d y K pc L (.int y1 :: .int x :: st) S := ev_isub (mm_call_mono d) hE k
theorem rn_imul {x y1 : Int32} (hE : ttb y pc = some (.imul, len, a, b, c))  (k : RN xs d y K (pc + len) L (.int (x * y1) :: st) S) : RN xs d y K pc L (.int y1 :: .int x :: st) S := ev_imul (mm_call_mono d) hE k
theorem rn_iand {x y1 : Int32} (hE : ttb y pc = some (.iand, len, a, b, c))  (k : RN xs d y K (pc + len) L (.int (x &&& y1) :: st) S) : RN xs d y K pc L (.int y1 :: .int x :: st) S := ev_iand (mm_call_mono d) hE k
theorem rn_idiv {x y1 : Int32} (hE : ttb y pc = some (.idiv, len, a, b, c)) (hy : ¬ y1 = 0) (k : RN xs d y K (pc + len) L (.int (x / y1) :: st) S) : RN xs d y K pc L (.int y1 :: .int x :: st) S := ev_idiv (mm_call_mono d) hE hy k
theorem rn_irem {x y1 : Int32} (hE : ttb y pc = some (.irem, len, a, b, c)) (hy : ¬ y1 = 0) (k : RN xs d y K (pc + len) L (.int (x - x / y1 * y1) :: st) S) : RN xs d y K pc L (.int y1 :: .int x :: st) S := ev_irem (mm_call_mono d) hE hy k
theorem rn_ineg {x : Int32} (hE : ttb y pc = some (.ineg, len, a, b, c))  (k : RN xs d y K (pc + len) L (.int (-x) :: st) S) : RN xs d y K pc L (.int x :: st) S := ev_ineg (mm_call_mono d) hE k
theorem rn_i2c {x : Int32} (hE : ttb y pc = some (.i2c, len, a, b, c))  (k : RN xs d y K (pc + len) L (.int (x.toUInt32 % 65536).toInt32 :: st) S) : RN xs d y K pc L (.int x :: st) S := ev_i2c (mm_call_mono d) hE k
theorem rn_dup {v : Value} (hE : ttb y pc = some (.dup, len, a, b, c)) (hv : v.category = 1) (k : RN xs d y K (pc + len) L (v :: v :: st) S) : RN xs d y K pc L (v :: st) S := ev_dup (mm_call_mono d) hE hv k
theorem rn_pop {v : Value} (hE : ttb y pc = some (.pop, len, a, b, c)) (hv : v.category = 1) (k : RN xs d y K (pc + len) L st S) : RN xs d y K pc L (v :: st) S := ev_pop (mm_call_mono d) hE hv k
theorem rn_dup2 {v w : Value} (hE : ttb y pc = some (.dup2, len, a, b, c)) (hv : v.category = 1) (hw : w.category = 1) (k : RN xs d y K (pc + len) L (v :: w :: v :: w :: st) S) : RN xs d y K pc L (v :: w :: st) S := ev_dup2 (mm_call_mono d) hE hv hw k
theorem rn_if_eq {off : Int} {x : Int32} (hE : ttb y pc = some (.ifCond .eq off, len, a, b, c)) (k1 : x = 0 → RN xs d y K a L st S) (k2 : ¬ (x = 0) → RN xs d y K (pc + len) L st S) : RN xs d y K pc L (.int x :: st) S := ev_if_eq (mm_call_mono d) hE k1 k2
theorem rn_icmp_eq {off : Int} {x y1 : Int32} (hE : ttb y pc = some (.if_icmp .eq off, len, a, b, c)) (k1 : x = y1 → RN xs d y K a L st S) (k2 : ¬ (x = y1) → RN xs d y K (pc + len) L st S) : RN xs d y K pc L (.int y1 :: .int x :: st) S := ev_icmp_eq (mm_call_mono d) hE k1 k2
theorem rn_if_ne {off : Int} {x : Int32} (hE : ttb y pc = some (.ifCond .ne off, len, a, b, c)) (k1 : ¬ x = 0 → RN xs d y K a L st S) (k2 : ¬ (¬ x = 0) → RN xs d y K (pc + len) L st S) : RN xs d y K pc L (.int x :: st) S := ev_if_ne (mm_call_mono d) hE k1 k2
theorem rn_icmp_ne {off : Int} {x y1 : Int32} (hE : ttb y pc = some (.if_icmp .ne off, len, a, b, c)) (k1 : ¬ x = y1 → RN xs d y K a L st S) (k2 : ¬ (¬ x = y1) → RN xs d y K (pc + len) L st S) : RN xs d y K pc L (.int y1 :: .int x :: st) S := ev_icmp_ne (mm_call_mono d) hE k1 k2
theorem rn_if_lt {off : Int} {x : Int32} (hE : ttb y pc = some (.ifCond .lt off, len, a, b, c)) (k1 : x < 0 → RN xs d y K a L st S) (k2 : ¬ (x < 0) → RN xs d y K (pc + len) L st S) : RN xs d y K pc L (.int x :: st) S := ev_if_lt (mm_call_mono d) hE k1 k2
theorem rn_icmp_lt {off : Int} {x y1 : Int32} (hE : ttb y pc = some (.if_icmp .lt off, len, a, b, c)) (k1 : x < y1 → RN xs d y K a L st S) (k2 : ¬ (x < y1) → RN xs d y K (pc + len) L st S) : RN xs d y K pc L (.int y1 :: .int x :: st) S := ev_icmp_lt (mm_call_mono d) hE k1 k2
theorem rn_if_ge {off : Int} {x : Int32} (hE : ttb y pc = some (.ifCond .ge off, len, a, b, c)) (k1 : 0 ≤ x → RN xs d y K a L st S) (k2 : ¬ (0 ≤ x) → RN xs d y K (pc + len) L st S) : RN xs d y K pc L (.int x :: st) S := ev_if_ge (mm_call_mono d) hE k1 k2
theorem rn_icmp_ge {off : Int} {x y1 : Int32} (hE : ttb y pc = some (.if_icmp .ge off, len, a, b, c)) (k1 : y1 ≤ x → RN xs d y K a L st S) (k2 : ¬ (y1 ≤ x) → RN xs d y K (pc + len) L st S) : RN xs d y K pc L (.int y1 :: .int x :: st) S := ev_icmp_ge (mm_call_mono d) hE k1 k2
theorem rn_if_gt {off : Int} {x : Int32} (hE : ttb y pc = some (.ifCond .gt off, len, a, b, c)) (k1 : 0 < x → RN xs d y K a L st S) (k2 : ¬ (0 < x) → RN xs d y K (pc + len) L st S) : RN xs d y K pc L (.int x :: st) S := ev_if_gt (mm_call_mono d) hE k1 k2
theorem rn_icmp_gt {off : Int} {x y1 : Int32} (hE : ttb y pc = some (.if_icmp .gt off, len, a, b, c)) (k1 : y1 < x → RN xs d y K a L st S) (k2 : ¬ (y1 < x) → RN xs d y K (pc + len) L st S) : RN xs d y K pc L (.int y1 :: .int x :: st) S := ev_icmp_gt (mm_call_mono d) hE k1 k2
theorem rn_if_le {off : Int} {x : Int32} (hE : ttb y pc = some (.ifCond .le off, len, a, b, c)) (k1 : x ≤ 0 → RN xs d y K a L st S) (k2 : ¬ (x ≤ 0) → RN xs d y K (pc + len) L st S) : RN xs d y K pc L (.int x :: st) S := ev_if_le (mm_call_mono d) hE k1 k2
theorem rn_icmp_le {off : Int} {x y1 : Int32} (hE : ttb y pc = some (.if_icmp .le off, len, a, b, c)) (k1 : x ≤ y1 → RN xs d y K a L st S) (k2 : ¬ (x ≤ y1) → RN xs d y K (pc + len) L st S) : RN xs d y K pc L (.int y1 :: .int x :: st) S := ev_icmp_le (mm_call_mono d) hE k1 k2
theorem rn_goto {off : Int} (hE : ttb y pc = some (.goto off, len, a, b, c)) (k : RN xs d y K a L st S) : RN xs d y K pc L st S := ev_goto (mm_call_mono d) hE k
theorem rn_lookup {dd : Int} {ps : Array (Int × Int)} {x : Int32} (t : Nat) (hE : ttb y pc = some (.lookupswitch dd ps, len, a, b, c)) (ht : (pc : Int) + Op.lookupswitch.offset ps.toList dd x.toInt = (t : Int)) (k : RN xs d y K t L st S) : RN xs d y K pc L (.int x :: st) S := ev_lookup (mm_call_mono d) t hE ht k
theorem rn_tableOut {dd lo hi : Int} {offs : Array Int} {x : Int32} (t : Nat) (hE : ttb y pc = some (.tableswitch dd lo hi offs, len, a, b, c)) (hc : x.toInt < lo ∨ hi < x.toInt) (ht : (pc : Int) + dd = (t : Int)) (k : RN xs d y K t L st S) : RN xs d y K pc L (.int x :: st) S := ev_tableOut (mm_call_mono d) t hE hc ht k
theorem rn_tableIn {dd lo hi o : Int} {offs : Array Int} {x : Int32} (t : Nat) (hE : ttb y pc = some (.tableswitch dd lo hi offs, len, a, b, c)) (h1 : ¬ x.toInt < lo) (h2 : ¬ hi < x.toInt) (ho : offs[(x.toInt - lo).toNat]? = some o) (ht : (pc : Int) + o = (t : Int)) (k : RN xs d y K t L st S) : RN xs d y K pc L (.int x :: st) S := ev_tableIn (mm_call_mono d) t hE h1 h2 ho ht k
theorem rn_getfield {i o : Nat} {fs : List Value} {v : Value} (hE : ttb y pc = some (.getfield i, len, a, b, c)) (ho : (hp S)[o]? = some (.inr (a, fs))) (hv : fs[b]? = some v) (k : RN xs d y K (pc + len) L (v :: st) S) : RN xs d y K pc L (.ref o :: st) S := ev_getfield (mm_call_mono d) hE ho hv k
theorem rn_putfield {i o : Nat} {fs : List Value} {v : Value} {S' : Sv} (hE : ttb y pc = some (.putfield i, len, a, b, c)) (ho : (hp S)[o]? = some (.inr (a, fs))) (hb : b < fs.length) (hf : mm_fit c v) (hS : (hp S).set o (.inr (a, fs.set b v)) = hp S') (k : RN xs d y K (pc + len) L st S') : RN xs d y K pc L (v :: .ref o :: st) S := ev_putfield (mm_call_mono d) hE ho hb hf (by rw [hS]; exact k)
theorem rn_iaload {o n j : Nat} {f : Nat → Int32} {i : Int32} (hE : ttb y pc = some (.iaload, len, a, b, c)) (ho : (hp S)[o]? = some (.inl (.int, n, f))) (hn : n ≤ 100000) (hi : i = nI j) (hj : j < n) (k : RN xs d y K (pc + len) L (.int (f j) :: st) S) : RN xs d y K pc L (.int i :: .ref o :: st) S := ev_iaload (mm_call_mono d) hE ho (in_nI hi hj hn).1 (by rw [(in_nI hi hj hn).2]; exact k)
theorem rn_baload {o n j : Nat} {f : Nat → Int32} {i : Int32} (hE : ttb y pc = some (.baload, len, a, b, c)) (ho : (hp S)[o]? = some (.inl (.boolean, n, f))) (hn : n ≤ 100000) (hi : i = nI j) (hj : j < n) (k : RN xs d y K (pc + len) L (.int (f j) :: st) S) : RN xs d y K pc L (.int i :: .ref o :: st) S := ev_baload (mm_call_mono d) hE ho (in_nI hi hj hn).1 (by rw [(in_nI hi hj hn).2]; exact k)
theorem rn_caload {o n j : Nat} {f : Nat → Int32} {i : Int32} (hE : ttb y pc = some (.caload, len, a, b, c)) (ho : (hp S)[o]? = some (.inl (.char, n, f))) (hn : n ≤ 100000) (hi : i = nI j) (hj : j < n) (k : RN xs d y K (pc + len) L (.int (f j) :: st) S) : RN xs d y K pc L (.int i :: .ref o :: st) S := ev_caload (mm_call_mono d) hE ho (in_nI hi hj hn).1 (by rw [(in_nI hi hj hn).2]; exact k)
theorem rn_iastore {o n j : Nat} {f : Nat → Int32} {i x : Int32} {S' : Sv} (hE : ttb y pc = some (.iastore, len, a, b, c)) (ho : (hp S)[o]? = some (.inl (.int, n, f))) (hn : n ≤ 100000) (hi : i = nI j) (hj : j < n) (hS : (hp S).set o (.inl (.int, n, upd f j x)) = hp S') (k : RN xs d y K (pc + len) L st S') : RN xs d y K pc L (.int x :: .int i :: .ref o :: st) S := ev_iastore (mm_call_mono d) hE ho (in_nI hi hj hn).1 (by rw [(in_nI hi hj hn).2, hS]; exact k)
theorem rn_bastore {o n j : Nat} {f : Nat → Int32} {i x x' : Int32} {S' : Sv} (hE : ttb y pc = some (.bastore, len, a, b, c)) (ho : (hp S)[o]? = some (.inl (.boolean, n, f))) (hn : n ≤ 100000) (hi : i = nI j) (hj : j < n) (hx : vp_nar .boolean x = x') (hS : (hp S).set o (.inl (.boolean, n, upd f j x')) = hp S') (k : RN xs d y K (pc + len) L st S') : RN xs d y K pc L (.int x :: .int i :: .ref o :: st) S := ev_bastore (mm_call_mono d) hE ho (in_nI hi hj hn).1 (by rw [(in_nI hi hj hn).2, hx, hS]; exact k)
theorem rn_castore {o n j : Nat} {f : Nat → Int32} {i x x' : Int32} {S' : Sv} (hE : ttb y pc = some (.castore, len, a, b, c)) (ho : (hp S)[o]? = some (.inl (.char, n, f))) (hn : n ≤ 100000) (hi : i = nI j) (hj : j < n) (hx : vp_nar .char x = x') (hS : (hp S).set o (.inl (.char, n, upd f j x')) = hp S') (k : RN xs d y K (pc + len) L st S') : RN xs d y K pc L (.int x :: .int i :: .ref o :: st) S := ev_castore (mm_call_mono d) hE ho (in_nI hi hj hn).1 (by rw [(in_nI hi hj hn).2, hx, hS]; exact k)
theorem rn_arraylength {o n : Nat} {ty : FieldType} {f : Nat → Int32} (hE : ttb y pc = some (.arraylength, len, a, b, c)) (ho : (hp S)[o]? = some (.inl (ty, n, f))) (ht : ty = .int ∨ ty = .boolean ∨ ty = .char) (k : RN xs d y K (pc + len) L (.int (Int32.ofNat n) :: st) S) : RN xs d y K pc L (.ref o :: st) S := ev_arraylength (mm_call_mono d) hE ho ht k
theorem rn_virtual {i : Nat} (hE : ttb y pc = some (.invokevirtual i, len, a, b, c)) (hk : mm_k (tmi a) ≤ st.length) (hc : mm_cat (st.drop (mm_k (tmi a)))) (hm : mm_mc (tmi a) = 0) (hm2 : mm_ms (tmi a) = 0) {as rest : List Value} (has : (st.take (mm_k (tmi a))).reverse = as) (hrest : st.drop (mm_k (tmi a)) = rest) (hr : mm_rcv (hp S) (mm_ci (tmi a)) as) (k : CS xs d a S as (fun S' v => RN xs d y K (pc + len) L (v.toList ++ rest) S')) : RN xs d y K pc L st S := ev_virtual (mm_call_mono d) hE (by rw [has]; exact hr) hk hc (by rw [hm]; exact Nat.le_refl _) (by rw [hm2]; exact Nat.le_refl _) (Or.inl hm) (by rw [has]; exact k) (fun h' v hv => by obtain ⟨S', rfl, k⟩ := hv; rw [hm, hm2, hrest]; exact k)
theorem rn_static {i : Nat} (hE : ttb y pc = some (.invokestatic i, len, a, 1, c)) (hk : mm_k (tmi a) ≤ st.length) (hc : mm_cat (st.drop (mm_k (tmi a)))) (hm : mm_mc (tmi a) = 0) (hm2 : mm_ms (tmi a) = 0) {as rest : List Value} (has : (st.take (mm_k (tmi a))).reverse = as) (hrest : st.drop (mm_k (tmi a)) = rest) (k : CS xs d a S as (fun S' v => RN xs d y K (pc + len) L (v.toList ++ rest) S')) : RN xs d y K pc L st S := ev_static (mm_call_mono d) hE hk hc (by rw [hm]; exact Nat.le_refl _) (by rw [hm2]; exact Nat.le_refl _) (Or.inl hm) (by rw [has]; exact k) (fun h' v hv => by obtain ⟨S', rfl, k⟩ := hv; rw [hm, hm2, hrest]; exact k)
theorem rn_return (hE : ttb y pc = some (.return_, len, a, b, c)) (hr : mm_r (tmi y) = none) (k : K S none) : RN xs d y K pc L [] S := ev_return (mm_call_mono d) hE hr 53 (Nat.le_refl _) ⟨S, rfl, k⟩
theorem rn_ireturn {v : Int32} {ty : FieldType} (hE : ttb y pc = some (.ireturn, len, a, b, c)) (hr : mm_r (tmi y) = some ty) (hv : narrow ty (.int v) = .int v) (k : K S (some (.int v))) : RN xs d y K pc L [.int v] S := ev_ireturn (mm_call_mono d) hE hr hv 53 (Nat.le_refl _) ⟨S, rfl, k⟩
theorem rn_copy {i : Nat} {n dp sp : Int32} {o1 o0 n0 n1 nn : Nat} {f g : Nat → Int32} {ty : FieldType} {S' : Sv} (hE : ttb y pc = some (.invokestatic i, len, a, 0, c)) (ho0 : (hp S)[o0]? = some (.inl (ty, n0, f))) (ho1 : (hp S)[o1]? = some (.inl (ty, n1, g))) (hty : ty = .int ∨ ty = .boolean ∨ ty = .char) (hsp : sp = 0) (hdp : dp = 0) (hn : n = nI nn) (h0 : nn ≤ n0) (h1 : nn ≤ n1) (hb : n0 ≤ 100000) (hfit : ∀ i, i < nn → fits ty (.int (f i)) = true) (hc : mm_cat st) (hS : (hp S).set o1 (.inl (ty, n1, va_cpy f g 0 0 nn)) = hp S') (k : RN xs d y K (pc + len) L st S') : RN xs d y K pc L (.int n :: .int dp :: .ref o1 :: .int sp :: .ref o0 :: st) S := by
  subst hsp hdp hn
  have e1 : (nI nn).toNatClampNeg = nn := nI_clamp (by omega)
  have e0 : (0 : Int32).toNatClampNeg = 0 := sb_cl0
  refine ev_go (mm_call_mono d) hE ⟨fun _ => ?_, fun z => absurd rfl z⟩
  dsimp only [mm_s1, mm_s2, mm_sr, mm_ar]
  rw [ho0]
  dsimp only
  rw [ho1]
  refine ⟨hty, rfl, by decide, by decide, nI_pos (by omega), by rw [e0, e1]; show 0 + nn ≤ n0; omega, by rw [e0, e1]; show 0 + nn ≤ n1; omega, fun i hi => ?_, hc, ?_⟩
  · rw [e1] at hi
    rw [e0, Nat.zero_add]
    exact hfit i hi
  · rw [e0, e1, hS]
    exact k
end RNR
end
section
-- java/util/Arrays.fill([II)V (number 0)
def R_0_6_5 (xs : Nat × (Nat → Int32)) (d : Nat) (K : Sv → Option Value → Prop) (a1 a2 a3 : Int32) (S : Sv) : Prop := RN xs d 0 K 5 [some (.ref 6), some (.int a1), some (.int a2), some (.int a3)] [] S
def w_0_6_5 (xs : Nat × (Nat → Int32)) (d : Nat) (K : Sv → Option Value → Prop) (a1 a2 a3 : Int32) (S : Sv) : Prop :=
  (a3 ≤ a2 → (K S none)) ∧ (¬ (a3 ≤ a2) → (∃ j1 : Nat, j1 < 12 ∧ a2 = nI j1 ∧ (R_0_6_5 xs d K a1 (a2 + 1) a3 (us S 6 j1 a1))))
set_option maxRecDepth 100000 in
set_option maxHeartbeats 4000000 in
theorem h_0_6_5 {xs : Nat × (Nat → Int32)} {d : Nat} {K : Sv → Option Value → Prop} {a1 a2 a3 : Int32} {S : Sv} (h : w_0_6_5 xs d K a1 a2 a3 S) : R_0_6_5 xs d K a1 a2 a3 S := by
  unfold w_0_6_5 at h
  unfold R_0_6_5
  refine rn_iload_n rfl rfl ?_
  refine rn_iload_n rfl rfl ?_
  refine rn_icmp_ge rfl (fun hc => ?_) (fun hc => ?_)
  · replace h := h.1 hc
    exact rn_return rfl rfl h
  · replace h := h.2 hc
    refine rn_aload_n rfl rfl ?_
    refine rn_iload_n rfl rfl ?_
    refine rn_iload_n rfl rfl ?_
    obtain ⟨j1, hj1, ej1, h⟩ := h
    refine rn_iastore (j := j1) (S' := (us S 6 j1 a1)) rfl rfl (Nat.le_of_ble_eq_true rfl) ej1 hj1 rfl ?_
    refine rn_iinc rfl rfl rfl ?_
    refine rn_goto rfl ?_
    exact h
def w_0_6 (xs : Nat × (Nat → Int32)) (d : Nat) (K : Sv → Option Value → Prop) (a1 : Int32) (S : Sv) : Prop :=
  R_0_6_5 xs d K a1 0 12 S
set_option maxRecDepth 100000 in
set_option maxHeartbeats 4000000 in
theorem c_0_6 {xs : Nat × (Nat → Int32)} {d : Nat} {K : Sv → Option Value → Prop} {a1 : Int32} {S : Sv} (h : w_0_6 xs d K a1 S) : CS xs (d + 1) 0 S [.ref 6, .int a1] K := by
  unfold w_0_6 at h
  refine cs_in rfl rfl rfl rfl ?_
  refine rn_iconst rfl ?_
  refine rn_istore_n rfl rfl ?_
  refine rn_aload_n rfl rfl ?_
  refine rn_arraylength rfl rfl (Or.inl rfl) ?_
  refine rn_istore_n rfl rfl ?_
  exact h
-- java/util/Arrays.fill([II)V (number 0)
def R_0_7_5 (xs : Nat × (Nat → Int32)) (d : Nat) (K : Sv → Option Value → Prop) (a1 a2 a3 : Int32) (S : Sv) : Prop := RN xs d 0 K 5 [some (.ref 7), some (.int a1), some (.int a2), some (.int a3)] [] S
def w_0_7_5 (xs : Nat × (Nat → Int32)) (d : Nat) (K : Sv → Option Value → Prop) (a1 a2 a3 : Int32) (S : Sv) : Prop :=
  (a3 ≤ a2 → (K S none)) ∧ (¬ (a3 ≤ a2) → (∃ j1 : Nat, j1 < 12 ∧ a2 = nI j1 ∧ (R_0_7_5 xs d K a1 (a2 + 1) a3 (us S 7 j1 a1))))
set_option maxRecDepth 100000 in
set_option maxHeartbeats 4000000 in
theorem h_0_7_5 {xs : Nat × (Nat → Int32)} {d : Nat} {K : Sv → Option Value → Prop} {a1 a2 a3 : Int32} {S : Sv} (h : w_0_7_5 xs d K a1 a2 a3 S) : R_0_7_5 xs d K a1 a2 a3 S := by
  unfold w_0_7_5 at h
  unfold R_0_7_5
  refine rn_iload_n rfl rfl ?_
  refine rn_iload_n rfl rfl ?_
  refine rn_icmp_ge rfl (fun hc => ?_) (fun hc => ?_)
  · replace h := h.1 hc
    exact rn_return rfl rfl h
  · replace h := h.2 hc
    refine rn_aload_n rfl rfl ?_
    refine rn_iload_n rfl rfl ?_
    refine rn_iload_n rfl rfl ?_
    obtain ⟨j1, hj1, ej1, h⟩ := h
    refine rn_iastore (j := j1) (S' := (us S 7 j1 a1)) rfl rfl (Nat.le_of_ble_eq_true rfl) ej1 hj1 rfl ?_
    refine rn_iinc rfl rfl rfl ?_
    refine rn_goto rfl ?_
    exact h
def w_0_7 (xs : Nat × (Nat → Int32)) (d : Nat) (K : Sv → Option Value → Prop) (a1 : Int32) (S : Sv) : Prop :=
  R_0_7_5 xs d K a1 0 12 S
set_option maxRecDepth 100000 in
set_option maxHeartbeats 4000000 in
theorem c_0_7 {xs : Nat × (Nat → Int32)} {d : Nat} {K : Sv → Option Value → Prop} {a1 : Int32} {S : Sv} (h : w_0_7 xs d K a1 S) : CS xs (d + 1) 0 S [.ref 7, .int a1] K := by
  unfold w_0_7 at h
  refine cs_in rfl rfl rfl rfl ?_
  refine rn_iconst rfl ?_
  refine rn_istore_n rfl rfl ?_
  refine rn_aload_n rfl rfl ?_
  refine rn_arraylength rfl rfl (Or.inl rfl) ?_
  refine rn_istore_n rfl rfl ?_
  exact h
-- java/util/Arrays.fill([II)V (number 0)
def R_0_17_5 (xs : Nat × (Nat → Int32)) (d : Nat) (K : Sv → Option Value → Prop) (a1 a2 a3 : Int32) (S : Sv) : Prop := RN xs d 0 K 5 [some (.ref 17), some (.int a1), some (.int a2), some (.int a3)] [] S
def w_0_17_5 (xs : Nat × (Nat → Int32)) (d : Nat) (K : Sv → Option Value → Prop) (a1 a2 a3 : Int32) (S : Sv) : Prop :=
  (a3 ≤ a2 → (K S none)) ∧ (¬ (a3 ≤ a2) → (∃ j1 : Nat, j1 < 24 ∧ a2 = nI j1 ∧ (R_0_17_5 xs d K a1 (a2 + 1) a3 (us S 17 j1 a1))))
set_option maxRecDepth 100000 in
set_option maxHeartbeats 4000000 in
theorem h_0_17_5 {xs : Nat × (Nat → Int32)} {d : Nat} {K : Sv → Option Value → Prop} {a1 a2 a3 : Int32} {S : Sv} (h : w_0_17_5 xs d K a1 a2 a3 S) : R_0_17_5 xs d K a1 a2 a3 S := by
  unfold w_0_17_5 at h
  unfold R_0_17_5
  refine rn_iload_n rfl rfl ?_
  refine rn_iload_n rfl rfl ?_
  refine rn_icmp_ge rfl (fun hc => ?_) (fun hc => ?_)
  · replace h := h.1 hc
    exact rn_return rfl rfl h
  · replace h := h.2 hc
    refine rn_aload_n rfl rfl ?_
    refine rn_iload_n rfl rfl ?_
    refine rn_iload_n rfl rfl ?_
    obtain ⟨j1, hj1, ej1, h⟩ := h
    refine rn_iastore (j := j1) (S' := (us S 17 j1 a1)) rfl rfl (Nat.le_of_ble_eq_true rfl) ej1 hj1 rfl ?_
    refine rn_iinc rfl rfl rfl ?_
    refine rn_goto rfl ?_
    exact h
def w_0_17 (xs : Nat × (Nat → Int32)) (d : Nat) (K : Sv → Option Value → Prop) (a1 : Int32) (S : Sv) : Prop :=
  R_0_17_5 xs d K a1 0 24 S
set_option maxRecDepth 100000 in
set_option maxHeartbeats 4000000 in
theorem c_0_17 {xs : Nat × (Nat → Int32)} {d : Nat} {K : Sv → Option Value → Prop} {a1 : Int32} {S : Sv} (h : w_0_17 xs d K a1 S) : CS xs (d + 1) 0 S [.ref 17, .int a1] K := by
  unfold w_0_17 at h
  refine cs_in rfl rfl rfl rfl ?_
  refine rn_iconst rfl ?_
  refine rn_istore_n rfl rfl ?_
  refine rn_aload_n rfl rfl ?_
  refine rn_arraylength rfl rfl (Or.inl rfl) ?_
  refine rn_istore_n rfl rfl ?_
  exact h
-- java/util/Arrays.fill([II)V (number 0)
def R_0_18_5 (xs : Nat × (Nat → Int32)) (d : Nat) (K : Sv → Option Value → Prop) (a1 a2 a3 : Int32) (S : Sv) : Prop := RN xs d 0 K 5 [some (.ref 18), some (.int a1), some (.int a2), some (.int a3)] [] S
def w_0_18_5 (xs : Nat × (Nat → Int32)) (d : Nat) (K : Sv → Option Value → Prop) (a1 a2 a3 : Int32) (S : Sv) : Prop :=
  (a3 ≤ a2 → (K S none)) ∧ (¬ (a3 ≤ a2) → (∃ j1 : Nat, j1 < 24 ∧ a2 = nI j1 ∧ (R_0_18_5 xs d K a1 (a2 + 1) a3 (us S 18 j1 a1))))
set_option maxRecDepth 100000 in
set_option maxHeartbeats 4000000 in
theorem h_0_18_5 {xs : Nat × (Nat → Int32)} {d : Nat} {K : Sv → Option Value → Prop} {a1 a2 a3 : Int32} {S : Sv} (h : w_0_18_5 xs d K a1 a2 a3 S) : R_0_18_5 xs d K a1 a2 a3 S := by
  unfold w_0_18_5 at h
  unfold R_0_18_5
  refine rn_iload_n rfl rfl ?_
  refine rn_iload_n rfl rfl ?_
  refine rn_icmp_ge rfl (fun hc => ?_) (fun hc => ?_)
  · replace h := h.1 hc
    exact rn_return rfl rfl h
  · replace h := h.2 hc
    refine rn_aload_n rfl rfl ?_
    refine rn_iload_n rfl rfl ?_
    refine rn_iload_n rfl rfl ?_
    obtain ⟨j1, hj1, ej1, h⟩ := h
    refine rn_iastore (j := j1) (S' := (us S 18 j1 a1)) rfl rfl (Nat.le_of_ble_eq_true rfl) ej1 hj1 rfl ?_
    refine rn_iinc rfl rfl rfl ?_
    refine rn_goto rfl ?_
    exact h
def w_0_18 (xs : Nat × (Nat → Int32)) (d : Nat) (K : Sv → Option Value → Prop) (a1 : Int32) (S : Sv) : Prop :=
  R_0_18_5 xs d K a1 0 24 S
set_option maxRecDepth 100000 in
set_option maxHeartbeats 4000000 in
theorem c_0_18 {xs : Nat × (Nat → Int32)} {d : Nat} {K : Sv → Option Value → Prop} {a1 : Int32} {S : Sv} (h : w_0_18 xs d K a1 S) : CS xs (d + 1) 0 S [.ref 18, .int a1] K := by
  unfold w_0_18 at h
  refine cs_in rfl rfl rfl rfl ?_
  refine rn_iconst rfl ?_
  refine rn_istore_n rfl rfl ?_
  refine rn_aload_n rfl rfl ?_
  refine rn_arraylength rfl rfl (Or.inl rfl) ?_
  refine rn_istore_n rfl rfl ?_
  exact h
-- java/util/Arrays.fill([II)V (number 0)
def R_0_24_5 (xs : Nat × (Nat → Int32)) (d : Nat) (K : Sv → Option Value → Prop) (a1 a2 a3 : Int32) (S : Sv) : Prop := RN xs d 0 K 5 [some (.ref 24), some (.int a1), some (.int a2), some (.int a3)] [] S
def w_0_24_5 (xs : Nat × (Nat → Int32)) (d : Nat) (K : Sv → Option Value → Prop) (a1 a2 a3 : Int32) (S : Sv) : Prop :=
  (a3 ≤ a2 → (K S none)) ∧ (¬ (a3 ≤ a2) → (∃ j1 : Nat, j1 < 24 ∧ a2 = nI j1 ∧ (R_0_24_5 xs d K a1 (a2 + 1) a3 (us S 24 j1 a1))))
set_option maxRecDepth 100000 in
set_option maxHeartbeats 4000000 in
theorem h_0_24_5 {xs : Nat × (Nat → Int32)} {d : Nat} {K : Sv → Option Value → Prop} {a1 a2 a3 : Int32} {S : Sv} (h : w_0_24_5 xs d K a1 a2 a3 S) : R_0_24_5 xs d K a1 a2 a3 S := by
  unfold w_0_24_5 at h
  unfold R_0_24_5
  refine rn_iload_n rfl rfl ?_
  refine rn_iload_n rfl rfl ?_
  refine rn_icmp_ge rfl (fun hc => ?_) (fun hc => ?_)
  · replace h := h.1 hc
    exact rn_return rfl rfl h
  · replace h := h.2 hc
    refine rn_aload_n rfl rfl ?_
    refine rn_iload_n rfl rfl ?_
    refine rn_iload_n rfl rfl ?_
    obtain ⟨j1, hj1, ej1, h⟩ := h
    refine rn_iastore (j := j1) (S' := (us S 24 j1 a1)) rfl rfl (Nat.le_of_ble_eq_true rfl) ej1 hj1 rfl ?_
    refine rn_iinc rfl rfl rfl ?_
    refine rn_goto rfl ?_
    exact h
def w_0_24 (xs : Nat × (Nat → Int32)) (d : Nat) (K : Sv → Option Value → Prop) (a1 : Int32) (S : Sv) : Prop :=
  R_0_24_5 xs d K a1 0 24 S
set_option maxRecDepth 100000 in
set_option maxHeartbeats 4000000 in
theorem c_0_24 {xs : Nat × (Nat → Int32)} {d : Nat} {K : Sv → Option Value → Prop} {a1 : Int32} {S : Sv} (h : w_0_24 xs d K a1 S) : CS xs (d + 1) 0 S [.ref 24, .int a1] K := by
  unfold w_0_24 at h
  refine cs_in rfl rfl rfl rfl ?_
  refine rn_iconst rfl ?_
  refine rn_istore_n rfl rfl ?_
  refine rn_aload_n rfl rfl ?_
  refine rn_arraylength rfl rfl (Or.inl rfl) ?_
  refine rn_istore_n rfl rfl ?_
  exact h
-- java/util/Arrays.fill([II)V (number 0)
def R_0_29_5 (xs : Nat × (Nat → Int32)) (d : Nat) (K : Sv → Option Value → Prop) (a1 a2 a3 : Int32) (S : Sv) : Prop := RN xs d 0 K 5 [some (.ref 29), some (.int a1), some (.int a2), some (.int a3)] [] S
def w_0_29_5 (xs : Nat × (Nat → Int32)) (d : Nat) (K : Sv → Option Value → Prop) (a1 a2 a3 : Int32) (S : Sv) : Prop :=
  (a3 ≤ a2 → (K S none)) ∧ (¬ (a3 ≤ a2) → (∃ j1 : Nat, j1 < 100 ∧ a2 = nI j1 ∧ (R_0_29_5 xs d K a1 (a2 + 1) a3 (us S 29 j1 a1))))
set_option maxRecDepth 100000 in
set_option maxHeartbeats 4000000 in
theorem h_0_29_5 {xs : Nat × (Nat → Int32)} {d : Nat} {K : Sv → Option Value → Prop} {a1 a2 a3 : Int32} {S : Sv} (h : w_0_29_5 xs d K a1 a2 a3 S) : R_0_29_5 xs d K a1 a2 a3 S := by
  unfold w_0_29_5 at h
  unfold R_0_29_5
  refine rn_iload_n rfl rfl ?_
  refine rn_iload_n rfl rfl ?_
  refine rn_icmp_ge rfl (fun hc => ?_) (fun hc => ?_)
  · replace h := h.1 hc
    exact rn_return rfl rfl h
  · replace h := h.2 hc
    refine rn_aload_n rfl rfl ?_
    refine rn_iload_n rfl rfl ?_
    refine rn_iload_n rfl rfl ?_
    obtain ⟨j1, hj1, ej1, h⟩ := h
    refine rn_iastore (j := j1) (S' := (us S 29 j1 a1)) rfl rfl (Nat.le_of_ble_eq_true rfl) ej1 hj1 rfl ?_
    refine rn_iinc rfl rfl rfl ?_
    refine rn_goto rfl ?_
    exact h
def w_0_29 (xs : Nat × (Nat → Int32)) (d : Nat) (K : Sv → Option Value → Prop) (a1 : Int32) (S : Sv) : Prop :=
  R_0_29_5 xs d K a1 0 100 S
set_option maxRecDepth 100000 in
set_option maxHeartbeats 4000000 in
theorem c_0_29 {xs : Nat × (Nat → Int32)} {d : Nat} {K : Sv → Option Value → Prop} {a1 : Int32} {S : Sv} (h : w_0_29 xs d K a1 S) : CS xs (d + 1) 0 S [.ref 29, .int a1] K := by
  unfold w_0_29 at h
  refine cs_in rfl rfl rfl rfl ?_
  refine rn_iconst rfl ?_
  refine rn_istore_n rfl rfl ?_
  refine rn_aload_n rfl rfl ?_
  refine rn_arraylength rfl rfl (Or.inl rfl) ?_
  refine rn_istore_n rfl rfl ?_
  exact h
end
section
-- ReplayedBeans$Kinds.isDefined(I)Z (number 23)
def w_23 (xs : Nat × (Nat → Int32)) (d : Nat) (K : Sv → Option Value → Prop) (a1 : Int32) (S : Sv) : Prop :=
  (a1 < 0 → (K S (some (.int 0)))) ∧ (¬ (a1 < 0) → ((4 ≤ a1 → (K S (some (.int 0)))) ∧ (¬ (4 ≤ a1) → (∃ j1 : Nat, j1 < 4 ∧ a1 = nI j1 ∧ (((S 2 j1) = 0 → (K S (some (.int 0)))) ∧ (¬ ((S 2 j1) = 0) → (K S (some (.int 1)))))))))
set_option maxRecDepth 100000 in
set_option maxHeartbeats 4000000 in
theorem c_23 {xs : Nat × (Nat → Int32)} {d : Nat} {K : Sv → Option Value → Prop} {a1 : Int32} {S : Sv} (h : w_23 xs d K a1 S) : CS xs (d + 1) 23 S [.ref 1, .int a1] K := by
  unfold w_23 at h
  refine cs_in rfl rfl rfl rfl ?_
  refine rn_iload_n rfl rfl ?_
  refine rn_if_lt rfl (fun hc => ?_) (fun hc => ?_)
  · replace h := h.1 hc
    refine rn_iconst rfl ?_
    exact rn_ireturn rfl rfl (by decide) h
  · replace h := h.2 hc
    refine rn_iload_n rfl rfl ?_
    refine rn_iconst rfl ?_
    refine rn_icmp_ge rfl (fun hc => ?_) (fun hc => ?_)
    · replace h := h.1 hc
      refine rn_iconst rfl ?_
      exact rn_ireturn rfl rfl (by decide) h
    · replace h := h.2 hc
      refine rn_aload_n rfl rfl ?_
      refine rn_getfield rfl rfl rfl ?_
      refine rn_iload_n rfl rfl ?_
      obtain ⟨j1, hj1, ej1, h⟩ := h
      refine rn_baload (j := j1) rfl rfl (Nat.le_of_ble_eq_true rfl) ej1 hj1 ?_
      refine rn_if_eq rfl (fun hc => ?_) (fun hc => ?_)
      · replace h := h.1 hc
        refine rn_iconst rfl ?_
        exact rn_ireturn rfl rfl (by decide) h
      · replace h := h.2 hc
        refine rn_iconst rfl ?_
        refine rn_goto rfl ?_
        exact rn_ireturn rfl rfl (by decide) h
-- ReplayedBeans$Kinds.hasNumber(II)Z (number 24)
def w_24 (xs : Nat × (Nat → Int32)) (d : Nat) (K : Sv → Option Value → Prop) (a1 a2 : Int32) (S : Sv) : Prop :=
  (a1 < 0 → (K S (some (.int 0)))) ∧ (¬ (a1 < 0) → ((4 ≤ a1 → (K S (some (.int 0)))) ∧ (¬ (4 ≤ a1) → ((a2 < 0 → (K S (some (.int 0)))) ∧ (¬ (a2 < 0) → (∃ j1 : Nat, j1 < 4 ∧ a1 = nI j1 ∧ (((S 3 j1) ≤ a2 → (K S (some (.int 0)))) ∧ (¬ ((S 3 j1) ≤ a2) → (K S (some (.int 1)))))))))))
set_option maxRecDepth 100000 in
set_option maxHeartbeats 4000000 in
theorem c_24 {xs : Nat × (Nat → Int32)} {d : Nat} {K : Sv → Option Value → Prop} {a1 a2 : Int32} {S : Sv} (h : w_24 xs d K a1 a2 S) : CS xs (d + 1) 24 S [.ref 1, .int a1, .int a2] K := by
  unfold w_24 at h
  refine cs_in rfl rfl rfl rfl ?_
  refine rn_iload_n rfl rfl ?_
  refine rn_if_lt rfl (fun hc => ?_) (fun hc => ?_)
  · replace h := h.1 hc
    refine rn_iconst rfl ?_
    exact rn_ireturn rfl rfl (by decide) h
  · replace h := h.2 hc
    refine rn_iload_n rfl rfl ?_
    refine rn_iconst rfl ?_
    refine rn_icmp_ge rfl (fun hc => ?_) (fun hc => ?_)
    · replace h := h.1 hc
      refine rn_iconst rfl ?_
      exact rn_ireturn rfl rfl (by decide) h
    · replace h := h.2 hc
      refine rn_iload_n rfl rfl ?_
      refine rn_if_lt rfl (fun hc => ?_) (fun hc => ?_)
      · replace h := h.1 hc
        refine rn_iconst rfl ?_
        exact rn_ireturn rfl rfl (by decide) h
      · replace h := h.2 hc
        refine rn_iload_n rfl rfl ?_
        refine rn_aload_n rfl rfl ?_
        refine rn_getfield rfl rfl rfl ?_
        refine rn_iload_n rfl rfl ?_
        obtain ⟨j1, hj1, ej1, h⟩ := h
        refine rn_iaload (j := j1) rfl rfl (Nat.le_of_ble_eq_true rfl) ej1 hj1 ?_
        refine rn_icmp_ge rfl (fun hc => ?_) (fun hc => ?_)
        · replace h := h.1 hc
          refine rn_iconst rfl ?_
          exact rn_ireturn rfl rfl (by decide) h
        · replace h := h.2 hc
          refine rn_iconst rfl ?_
          refine rn_goto rfl ?_
          exact rn_ireturn rfl rfl (by decide) h
-- ReplayedBeans$Kinds.hasLink(II)Z (number 25)
def w_25 (xs : Nat × (Nat → Int32)) (d : Nat) (K : Sv → Option Value → Prop) (a1 a2 : Int32) (S : Sv) : Prop :=
  (a1 < 0 → (K S (some (.int 0)))) ∧ (¬ (a1 < 0) → ((4 ≤ a1 → (K S (some (.int 0)))) ∧ (¬ (4 ≤ a1) → ((a2 < 0 → (K S (some (.int 0)))) ∧ (¬ (a2 < 0) → (∃ j1 : Nat, j1 < 4 ∧ a1 = nI j1 ∧ (((S 4 j1) ≤ a2 → (K S (some (.int 0)))) ∧ (¬ ((S 4 j1) ≤ a2) → (K S (some (.int 1)))))))))))
set_option maxRecDepth 100000 in
set_option maxHeartbeats 4000000 in
theorem c_25 {xs : Nat × (Nat → Int32)} {d : Nat} {K : Sv → Option Value → Prop} {a1 a2 : Int32} {S : Sv} (h : w_25 xs d K a1 a2 S) : CS xs (d + 1) 25 S [.ref 1, .int a1, .int a2] K := by
  unfold w_25 at h
  refine cs_in rfl rfl rfl rfl ?_
  refine rn_iload_n rfl rfl ?_
  refine rn_if_lt rfl (fun hc => ?_) (fun hc => ?_)
  · replace h := h.1 hc
    refine rn_iconst rfl ?_
    exact rn_ireturn rfl rfl (by decide) h
  · replace h := h.2 hc
    refine rn_iload_n rfl rfl ?_
    refine rn_iconst rfl ?_
    refine rn_icmp_ge rfl (fun hc => ?_) (fun hc => ?_)
    · replace h := h.1 hc
      refine rn_iconst rfl ?_
      exact rn_ireturn rfl rfl (by decide) h
    · replace h := h.2 hc
      refine rn_iload_n rfl rfl ?_
      refine rn_if_lt rfl (fun hc => ?_) (fun hc => ?_)
      · replace h := h.1 hc
        refine rn_iconst rfl ?_
        exact rn_ireturn rfl rfl (by decide) h
      · replace h := h.2 hc
        refine rn_iload_n rfl rfl ?_
        refine rn_aload_n rfl rfl ?_
        refine rn_getfield rfl rfl rfl ?_
        refine rn_iload_n rfl rfl ?_
        obtain ⟨j1, hj1, ej1, h⟩ := h
        refine rn_iaload (j := j1) rfl rfl (Nat.le_of_ble_eq_true rfl) ej1 hj1 ?_
        refine rn_icmp_ge rfl (fun hc => ?_) (fun hc => ?_)
        · replace h := h.1 hc
          refine rn_iconst rfl ?_
          exact rn_ireturn rfl rfl (by decide) h
        · replace h := h.2 hc
          refine rn_iconst rfl ?_
          refine rn_goto rfl ?_
          exact rn_ireturn rfl rfl (by decide) h
-- ReplayedBeans$Kinds.introduce(III)Z (number 26)
def w_26 (xs : Nat × (Nat → Int32)) (d : Nat) (K : Sv → Option Value → Prop) (a1 a2 a3 : Int32) (S : Sv) : Prop :=
  (a1 < 0 → (K S (some (.int 0)))) ∧ (¬ (a1 < 0) → ((4 ≤ a1 → (K S (some (.int 0)))) ∧ (¬ (4 ≤ a1) → (∃ j1 : Nat, j1 < 4 ∧ a1 = nI j1 ∧ (((S 2 j1) = 0 → ((a2 < 0 → (K S (some (.int 0)))) ∧ (¬ (a2 < 0) → ((a2 ≤ 3 → ((a3 < 0 → (K S (some (.int 0)))) ∧ (¬ (a3 < 0) → ((a3 ≤ 2 → (∃ j2 : Nat, j2 < 4 ∧ a1 = nI j2 ∧ (∃ j3 : Nat, j3 < 4 ∧ a1 = nI j3 ∧ (∃ j4 : Nat, j4 < 4 ∧ a1 = nI j4 ∧ (K (us (us (us S 2 j2 1) 3 j3 a2) 4 j4 a3) (some (.int 1))))))) ∧ (¬ (a3 ≤ 2) → (K S (some (.int 0)))))))) ∧ (¬ (a2 ≤ 3) → (K S (some (.int 0)))))))) ∧ (¬ ((S 2 j1) = 0) → (K S (some (.int 0)))))))))
set_option maxRecDepth 100000 in
set_option maxHeartbeats 4000000 in
theorem c_26 {xs : Nat × (Nat → Int32)} {d : Nat} {K : Sv → Option Value → Prop} {a1 a2 a3 : Int32} {S : Sv} (h : w_26 xs d K a1 a2 a3 S) : CS xs (d + 1) 26 S [.ref 1, .int a1, .int a2, .int a3] K := by
  unfold w_26 at h
  refine cs_in rfl rfl rfl rfl ?_
  refine rn_iload_n rfl rfl ?_
  refine rn_if_lt rfl (fun hc => ?_) (fun hc => ?_)
  · replace h := h.1 hc
    refine rn_iconst rfl ?_
    exact rn_ireturn rfl rfl (by decide) h
  · replace h := h.2 hc
    refine rn_iload_n rfl rfl ?_
    refine rn_iconst rfl ?_
    refine rn_icmp_ge rfl (fun hc => ?_) (fun hc => ?_)
    · replace h := h.1 hc
      refine rn_iconst rfl ?_
      exact rn_ireturn rfl rfl (by decide) h
    · replace h := h.2 hc
      refine rn_aload_n rfl rfl ?_
      refine rn_getfield rfl rfl rfl ?_
      refine rn_iload_n rfl rfl ?_
      obtain ⟨j1, hj1, ej1, h⟩ := h
      refine rn_baload (j := j1) rfl rfl (Nat.le_of_ble_eq_true rfl) ej1 hj1 ?_
      refine rn_if_eq rfl (fun hc => ?_) (fun hc => ?_)
      · replace h := h.1 hc
        refine rn_iload_n rfl rfl ?_
        refine rn_if_lt rfl (fun hc => ?_) (fun hc => ?_)
        · replace h := h.1 hc
          refine rn_iconst rfl ?_
          exact rn_ireturn rfl rfl (by decide) h
        · replace h := h.2 hc
          refine rn_iload_n rfl rfl ?_
          refine rn_iconst rfl ?_
          refine rn_icmp_le rfl (fun hc => ?_) (fun hc => ?_)
          · replace h := h.1 hc
            refine rn_iload_n rfl rfl ?_
            refine rn_if_lt rfl (fun hc => ?_) (fun hc => ?_)
            · replace h := h.1 hc
              refine rn_iconst rfl ?_
              exact rn_ireturn rfl rfl (by decide) h
            · replace h := h.2 hc
              refine rn_iload_n rfl rfl ?_
              refine rn_iconst rfl ?_
              refine rn_icmp_le rfl (fun hc => ?_) (fun hc => ?_)
              · replace h := h.1 hc
                refine rn_aload_n rfl rfl ?_
                refine rn_getfield rfl rfl rfl ?_
                refine rn_iload_n rfl rfl ?_
                refine rn_iconst rfl ?_
                obtain ⟨j2, hj2, ej2, h⟩ := h
                refine rn_bastore (j := j2) (S' := (us S 2 j2 1)) rfl rfl (Nat.le_of_ble_eq_true rfl) ej2 hj2 (by decide) rfl ?_
                refine rn_aload_n rfl rfl ?_
                refine rn_getfield rfl rfl rfl ?_
                refine rn_iload_n rfl rfl ?_
                refine rn_iload_n rfl rfl ?_
                obtain ⟨j3, hj3, ej3, h⟩ := h
                refine rn_iastore (j := j3) (S' := (us (us S 2 j2 1) 3 j3 a2)) rfl rfl (Nat.le_of_ble_eq_true rfl) ej3 hj3 rfl ?_
                refine rn_aload_n rfl rfl ?_
                refine rn_getfield rfl rfl rfl ?_
                refine rn_iload_n rfl rfl ?_
                refine rn_iload_n rfl rfl ?_
                obtain ⟨j4, hj4, ej4, h⟩ := h
                refine rn_iastore (j := j4) (S' := (us (us (us S 2 j2 1) 3 j3 a2) 4 j4 a3)) rfl rfl (Nat.le_of_ble_eq_true rfl) ej4 hj4 rfl ?_
                refine rn_iconst rfl ?_
                exact rn_ireturn rfl rfl (by decide) h
              · replace h := h.2 hc
                refine rn_iconst rfl ?_
                exact rn_ireturn rfl rfl (by decide) h
          · replace h := h.2 hc
            refine rn_iconst rfl ?_
            exact rn_ireturn rfl rfl (by decide) h
      · replace h := h.2 hc
        refine rn_iconst rfl ?_
        exact rn_ireturn rfl rfl (by decide) h
-- ReplayedBeans$Kinds.bound(IIIII)Z (number 27)
def w_27 (xs : Nat × (Nat → Int32)) (d : Nat) (K : Sv → Option Value → Prop) (a1 a2 a3 a4 a5 : Int32) (S : Sv) : Prop :=
  CS xs d 24 S [.ref 1, .int a1, .int a2] (fun S1 v1 => ∃ r1 : Int32, v1 = some (.int r1) ∧ ((¬ r1 = 0 → ((a4 < (-99999) → (K S1 (some (.int 0)))) ∧ (¬ (a4 < (-99999)) → ((a5 ≤ 99999 → ((a3 < a4 → (K S1 (some (.int 0)))) ∧ (¬ (a3 < a4) → ((a3 ≤ a5 → (∃ j2 : Nat, j2 < 12 ∧ ((a1 * 3) + a2) = nI j2 ∧ (∃ j3 : Nat, j3 < 12 ∧ ((a1 * 3) + a2) = nI j3 ∧ (∃ j4 : Nat, j4 < 12 ∧ ((a1 * 3) + a2) = nI j4 ∧ (K (us (us (us S1 5 j2 a3) 6 j3 a4) 7 j4 a5) (some (.int 1))))))) ∧ (¬ (a3 ≤ a5) → (K S1 (some (.int 0)))))))) ∧ (¬ (a5 ≤ 99999) → (K S1 (some (.int 0)))))))) ∧ (¬ (¬ r1 = 0) → (K S1 (some (.int 0))))))
set_option maxRecDepth 100000 in
set_option maxHeartbeats 4000000 in
theorem c_27 {xs : Nat × (Nat → Int32)} {d : Nat} {K : Sv → Option Value → Prop} {a1 a2 a3 a4 a5 : Int32} {S : Sv} (h : w_27 xs d K a1 a2 a3 a4 a5 S) : CS xs (d + 1) 27 S [.ref 1, .int a1, .int a2, .int a3, .int a4, .int a5] K := by
  unfold w_27 at h
  refine cs_in rfl rfl rfl rfl ?_
  refine rn_aload_n rfl rfl ?_
  refine rn_iload_n rfl rfl ?_
  refine rn_iload_n rfl rfl ?_
  refine rn_virtual rfl (Nat.le_of_ble_eq_true rfl) (Nat.le_of_ble_eq_true rfl) rfl rfl (as := [.ref 1, .int a1, .int a2]) (rest := []) rfl rfl rfl (cs_mono h (fun S1 v1 h => ?_))
  obtain ⟨r1, rfl, h⟩ := h
  refine rn_if_ne rfl (fun hc => ?_) (fun hc => ?_)
  · replace h := h.1 hc
    refine rn_iload rfl rfl ?_
    refine rn_ldc rfl ?_
    refine rn_icmp_lt rfl (fun hc => ?_) (fun hc => ?_)
    · replace h := h.1 hc
      refine rn_iconst rfl ?_
      exact rn_ireturn rfl rfl (by decide) h
    · replace h := h.2 hc
      refine rn_iload rfl rfl ?_
      refine rn_ldc rfl ?_
      refine rn_icmp_le rfl (fun hc => ?_) (fun hc => ?_)
      · replace h := h.1 hc
        refine rn_iload_n rfl rfl ?_
        refine rn_iload rfl rfl ?_
        refine rn_icmp_lt rfl (fun hc => ?_) (fun hc => ?_)
        · replace h := h.1 hc
          refine rn_iconst rfl ?_
          exact rn_ireturn rfl rfl (by decide) h
        · replace h := h.2 hc
          refine rn_iload_n rfl rfl ?_
          refine rn_iload rfl rfl ?_
          refine rn_icmp_le rfl (fun hc => ?_) (fun hc => ?_)
          · replace h := h.1 hc
            refine rn_iload_n rfl rfl ?_
            refine rn_iconst rfl ?_
            refine rn_imul rfl ?_
            refine rn_iload_n rfl rfl ?_
            refine rn_iadd rfl ?_
            refine rn_istore rfl rfl ?_
            refine rn_aload_n rfl rfl ?_
            refine rn_getfield rfl rfl rfl ?_
            refine rn_iload rfl rfl ?_
            refine rn_iload_n rfl rfl ?_
            obtain ⟨j2, hj2, ej2, h⟩ := h
            refine rn_iastore (j := j2) (S' := (us S1 5 j2 a3)) rfl rfl (Nat.le_of_ble_eq_true rfl) ej2 hj2 rfl ?_
            refine rn_aload_n rfl rfl ?_
            refine rn_getfield rfl rfl rfl ?_
            refine rn_iload rfl rfl ?_
            refine rn_iload rfl rfl ?_
            obtain ⟨j3, hj3, ej3, h⟩ := h
            refine rn_iastore (j := j3) (S' := (us (us S1 5 j2 a3) 6 j3 a4)) rfl rfl (Nat.le_of_ble_eq_true rfl) ej3 hj3 rfl ?_
            refine rn_aload_n rfl rfl ?_
            refine rn_getfield rfl rfl rfl ?_
            refine rn_iload rfl rfl ?_
            refine rn_iload rfl rfl ?_
            obtain ⟨j4, hj4, ej4, h⟩ := h
            refine rn_iastore (j := j4) (S' := (us (us (us S1 5 j2 a3) 6 j3 a4) 7 j4 a5)) rfl rfl (Nat.le_of_ble_eq_true rfl) ej4 hj4 rfl ?_
            refine rn_iconst rfl ?_
            exact rn_ireturn rfl rfl (by decide) h
          · replace h := h.2 hc
            refine rn_iconst rfl ?_
            exact rn_ireturn rfl rfl (by decide) h
      · replace h := h.2 hc
        refine rn_iconst rfl ?_
        exact rn_ireturn rfl rfl (by decide) h
  · replace h := h.2 hc
    refine rn_iconst rfl ?_
    exact rn_ireturn rfl rfl (by decide) h
-- ReplayedBeans$Kinds.defaultOf(II)I (number 28)
def w_28 (xs : Nat × (Nat → Int32)) (d : Nat) (K : Sv → Option Value → Prop) (a1 a2 : Int32) (S : Sv) : Prop :=
  CS xs d 24 S [.ref 1, .int a1, .int a2] (fun S1 v1 => ∃ r1 : Int32, v1 = some (.int r1) ∧ ((r1 = 0 → (K S1 (some (.int 0)))) ∧ (¬ (r1 = 0) → (∃ j2 : Nat, j2 < 12 ∧ ((a1 * 3) + a2) = nI j2 ∧ (K S1 (some (.int (S1 5 j2))))))))
set_option maxRecDepth 100000 in
set_option maxHeartbeats 4000000 in
theorem c_28 {xs : Nat × (Nat → Int32)} {d : Nat} {K : Sv → Option Value → Prop} {a1 a2 : Int32} {S : Sv} (h : w_28 xs d K a1 a2 S) : CS xs (d + 1) 28 S [.ref 1, .int a1, .int a2] K := by
  unfold w_28 at h
  refine cs_in rfl rfl rfl rfl ?_
  refine rn_aload_n rfl rfl ?_
  refine rn_iload_n rfl rfl ?_
  refine rn_iload_n rfl rfl ?_
  refine rn_virtual rfl (Nat.le_of_ble_eq_true rfl) (Nat.le_of_ble_eq_true rfl) rfl rfl (as := [.ref 1, .int a1, .int a2]) (rest := []) rfl rfl rfl (cs_mono h (fun S1 v1 h => ?_))
  obtain ⟨r1, rfl, h⟩ := h
  refine rn_if_eq rfl (fun hc => ?_) (fun hc => ?_)
  · replace h := h.1 hc
    refine rn_iconst rfl ?_
    exact rn_ireturn rfl rfl rfl h
  · replace h := h.2 hc
    refine rn_aload_n rfl rfl ?_
    refine rn_getfield rfl rfl rfl ?_
    refine rn_iload_n rfl rfl ?_
    refine rn_iconst rfl ?_
    refine rn_imul rfl ?_
    refine rn_iload_n rfl rfl ?_
    refine rn_iadd rfl ?_
    obtain ⟨j2, hj2, ej2, h⟩ := h
    refine rn_iaload (j := j2) rfl rfl (Nat.le_of_ble_eq_true rfl) ej2 hj2 ?_
    refine rn_goto rfl ?_
    exact rn_ireturn rfl rfl rfl h
-- ReplayedBeans$Kinds.allows(III)Z (number 29)
def w_29 (xs : Nat × (Nat → Int32)) (d : Nat) (K : Sv → Option Value → Prop) (a1 a2 a3 : Int32) (S : Sv) : Prop :=
  CS xs d 24 S [.ref 1, .int a1, .int a2] (fun S1 v1 => ∃ r1 : Int32, v1 = some (.int r1) ∧ ((¬ r1 = 0 → (∃ j2 : Nat, j2 < 12 ∧ ((a1 * 3) + a2) = nI j2 ∧ ((a3 < (S1 6 j2) → (K S1 (some (.int 0)))) ∧ (¬ (a3 < (S1 6 j2)) → (∃ j3 : Nat, j3 < 12 ∧ ((a1 * 3) + a2) = nI j3 ∧ (((S1 7 j3) < a3 → (K S1 (some (.int 0)))) ∧ (¬ ((S1 7 j3) < a3) → (K S1 (some (.int 1)))))))))) ∧ (¬ (¬ r1 = 0) → (K S1 (some (.int 0))))))
set_option maxRecDepth 100000 in
set_option maxHeartbeats 4000000 in
theorem c_29 {xs : Nat × (Nat → Int32)} {d : Nat} {K : Sv → Option Value → Prop} {a1 a2 a3 : Int32} {S : Sv} (h : w_29 xs d K a1 a2 a3 S) : CS xs (d + 1) 29 S [.ref 1, .int a1, .int a2, .int a3] K := by
  unfold w_29 at h
  refine cs_in rfl rfl rfl rfl ?_
  refine rn_aload_n rfl rfl ?_
  refine rn_iload_n rfl rfl ?_
  refine rn_iload_n rfl rfl ?_
  refine rn_virtual rfl (Nat.le_of_ble_eq_true rfl) (Nat.le_of_ble_eq_true rfl) rfl rfl (as := [.ref 1, .int a1, .int a2]) (rest := []) rfl rfl rfl (cs_mono h (fun S1 v1 h => ?_))
  obtain ⟨r1, rfl, h⟩ := h
  refine rn_if_ne rfl (fun hc => ?_) (fun hc => ?_)
  · replace h := h.1 hc
    refine rn_iload_n rfl rfl ?_
    refine rn_iconst rfl ?_
    refine rn_imul rfl ?_
    refine rn_iload_n rfl rfl ?_
    refine rn_iadd rfl ?_
    refine rn_istore rfl rfl ?_
    refine rn_iload_n rfl rfl ?_
    refine rn_aload_n rfl rfl ?_
    refine rn_getfield rfl rfl rfl ?_
    refine rn_iload rfl rfl ?_
    obtain ⟨j2, hj2, ej2, h⟩ := h
    refine rn_iaload (j := j2) rfl rfl (Nat.le_of_ble_eq_true rfl) ej2 hj2 ?_
    refine rn_icmp_lt rfl (fun hc => ?_) (fun hc => ?_)
    · replace h := h.1 hc
      refine rn_iconst rfl ?_
      exact rn_ireturn rfl rfl (by decide) h
    · replace h := h.2 hc
      refine rn_iload_n rfl rfl ?_
      refine rn_aload_n rfl rfl ?_
      refine rn_getfield rfl rfl rfl ?_
      refine rn_iload rfl rfl ?_
      obtain ⟨j3, hj3, ej3, h⟩ := h
      refine rn_iaload (j := j3) rfl rfl (Nat.le_of_ble_eq_true rfl) ej3 hj3 ?_
      refine rn_icmp_gt rfl (fun hc => ?_) (fun hc => ?_)
      · replace h := h.1 hc
        refine rn_iconst rfl ?_
        exact rn_ireturn rfl rfl (by decide) h
      · replace h := h.2 hc
        refine rn_iconst rfl ?_
        refine rn_goto rfl ?_
        exact rn_ireturn rfl rfl (by decide) h
  · replace h := h.2 hc
    refine rn_iconst rfl ?_
    exact rn_ireturn rfl rfl (by decide) h
end
section
-- ReplayedBeans$Text.add(C)Z (number 49)
def w_49_19 (xs : Nat × (Nat → Int32)) (d : Nat) (K : Sv → Option Value → Prop) (a1 : Int32) (S : Sv) : Prop :=
  (a1 < 32 → (K S (some (.int 0)))) ∧ (¬ (a1 < 32) → ((126 < a1 → (K S (some (.int 0)))) ∧ (¬ (126 < a1) → (((S 19 1) < 300 → (∃ j1 : Nat, j1 < 300 ∧ (S 19 1) = nI j1 ∧ (K (us (us S 20 j1 (vp_nar .char a1)) 19 1 ((S 19 1) + 1)) (some (.int 1))))) ∧ (¬ ((S 19 1) < 300) → (K S (some (.int 0))))))))
set_option maxRecDepth 100000 in
set_option maxHeartbeats 4000000 in
theorem c_49_19 {xs : Nat × (Nat → Int32)} {d : Nat} {K : Sv → Option Value → Prop} {a1 : Int32} {S : Sv} (h : w_49_19 xs d K a1 S) : CS xs (d + 1) 49 S [.ref 19, .int a1] K := by
  unfold w_49_19 at h
  refine cs_in rfl rfl rfl rfl ?_
  refine rn_iload_n rfl rfl ?_
  refine rn_bipush rfl ?_
  refine rn_icmp_lt rfl (fun hc => ?_) (fun hc => ?_)
  · replace h := h.1 hc
    refine rn_iconst rfl ?_
    exact rn_ireturn rfl rfl (by decide) h
  · replace h := h.2 hc
    refine rn_iload_n rfl rfl ?_
    refine rn_bipush rfl ?_
    refine rn_icmp_gt rfl (fun hc => ?_) (fun hc => ?_)
    · replace h := h.1 hc
      refine rn_iconst rfl ?_
      exact rn_ireturn rfl rfl (by decide) h
    · replace h := h.2 hc
      refine rn_aload_n rfl rfl ?_
      refine rn_getfield rfl rfl rfl ?_
      refine rn_sipush rfl ?_
      refine rn_icmp_lt rfl (fun hc => ?_) (fun hc => ?_)
      · replace h := h.1 hc
        refine rn_aload_n rfl rfl ?_
        refine rn_getfield rfl rfl rfl ?_
        refine rn_aload_n rfl rfl ?_
        refine rn_getfield rfl rfl rfl ?_
        refine rn_iload_n rfl rfl ?_
        obtain ⟨j1, hj1, ej1, h⟩ := h
        refine rn_castore (j := j1) (S' := (us S 20 j1 (vp_nar .char a1))) rfl rfl (Nat.le_of_ble_eq_true rfl) ej1 hj1 rfl rfl ?_
        refine rn_aload_n rfl rfl ?_
        refine rn_dup rfl rfl ?_
        refine rn_getfield rfl rfl rfl ?_
        refine rn_iconst rfl ?_
        refine rn_iadd rfl ?_
        refine rn_putfield (S' := (us (us S 20 j1 (vp_nar .char a1)) 19 1 ((S 19 1) + 1))) rfl rfl (Nat.le_of_ble_eq_true rfl) (Or.inl rfl) rfl ?_
        refine rn_iconst rfl ?_
        exact rn_ireturn rfl rfl (by decide) h
      · replace h := h.2 hc
        refine rn_iconst rfl ?_
        exact rn_ireturn rfl rfl (by decide) h
-- ReplayedBeans$Text.add(C)Z (number 49)
def w_49_22 (xs : Nat × (Nat → Int32)) (d : Nat) (K : Sv → Option Value → Prop) (a1 : Int32) (S : Sv) : Prop :=
  (a1 < 32 → (K S (some (.int 0)))) ∧ (¬ (a1 < 32) → ((126 < a1 → (K S (some (.int 0)))) ∧ (¬ (126 < a1) → (((S 22 1) < 300 → (∃ j1 : Nat, j1 < 300 ∧ (S 22 1) = nI j1 ∧ (K (us (us S 23 j1 (vp_nar .char a1)) 22 1 ((S 22 1) + 1)) (some (.int 1))))) ∧ (¬ ((S 22 1) < 300) → (K S (some (.int 0))))))))
set_option maxRecDepth 100000 in
set_option maxHeartbeats 4000000 in
theorem c_49_22 {xs : Nat × (Nat → Int32)} {d : Nat} {K : Sv → Option Value → Prop} {a1 : Int32} {S : Sv} (h : w_49_22 xs d K a1 S) : CS xs (d + 1) 49 S [.ref 22, .int a1] K := by
  unfold w_49_22 at h
  refine cs_in rfl rfl rfl rfl ?_
  refine rn_iload_n rfl rfl ?_
  refine rn_bipush rfl ?_
  refine rn_icmp_lt rfl (fun hc => ?_) (fun hc => ?_)
  · replace h := h.1 hc
    refine rn_iconst rfl ?_
    exact rn_ireturn rfl rfl (by decide) h
  · replace h := h.2 hc
    refine rn_iload_n rfl rfl ?_
    refine rn_bipush rfl ?_
    refine rn_icmp_gt rfl (fun hc => ?_) (fun hc => ?_)
    · replace h := h.1 hc
      refine rn_iconst rfl ?_
      exact rn_ireturn rfl rfl (by decide) h
    · replace h := h.2 hc
      refine rn_aload_n rfl rfl ?_
      refine rn_getfield rfl rfl rfl ?_
      refine rn_sipush rfl ?_
      refine rn_icmp_lt rfl (fun hc => ?_) (fun hc => ?_)
      · replace h := h.1 hc
        refine rn_aload_n rfl rfl ?_
        refine rn_getfield rfl rfl rfl ?_
        refine rn_aload_n rfl rfl ?_
        refine rn_getfield rfl rfl rfl ?_
        refine rn_iload_n rfl rfl ?_
        obtain ⟨j1, hj1, ej1, h⟩ := h
        refine rn_castore (j := j1) (S' := (us S 23 j1 (vp_nar .char a1))) rfl rfl (Nat.le_of_ble_eq_true rfl) ej1 hj1 rfl rfl ?_
        refine rn_aload_n rfl rfl ?_
        refine rn_dup rfl rfl ?_
        refine rn_getfield rfl rfl rfl ?_
        refine rn_iconst rfl ?_
        refine rn_iadd rfl ?_
        refine rn_putfield (S' := (us (us S 23 j1 (vp_nar .char a1)) 22 1 ((S 22 1) + 1))) rfl rfl (Nat.le_of_ble_eq_true rfl) (Or.inl rfl) rfl ?_
        refine rn_iconst rfl ?_
        exact rn_ireturn rfl rfl (by decide) h
      · replace h := h.2 hc
        refine rn_iconst rfl ?_
        exact rn_ireturn rfl rfl (by decide) h
-- ReplayedBeans$Text.codeAt(I)I (number 50)
def w_50_19 (xs : Nat × (Nat → Int32)) (d : Nat) (K : Sv → Option Value → Prop) (a1 : Int32) (S : Sv) : Prop :=
  (a1 < 1 → (K S (some (.int (-1))))) ∧ (¬ (a1 < 1) → (((S 19 1) < a1 → (K S (some (.int (-1))))) ∧ (¬ ((S 19 1) < a1) → (∃ j1 : Nat, j1 < 300 ∧ (a1 - 1) = nI j1 ∧ (K S (some (.int (S 20 j1))))))))
set_option maxRecDepth 100000 in
set_option maxHeartbeats 4000000 in
theorem c_50_19 {xs : Nat × (Nat → Int32)} {d : Nat} {K : Sv → Option Value → Prop} {a1 : Int32} {S : Sv} (h : w_50_19 xs d K a1 S) : CS xs (d + 1) 50 S [.ref 19, .int a1] K := by
  unfold w_50_19 at h
  refine cs_in rfl rfl rfl rfl ?_
  refine rn_iload_n rfl rfl ?_
  refine rn_iconst rfl ?_
  refine rn_icmp_lt rfl (fun hc => ?_) (fun hc => ?_)
  · replace h := h.1 hc
    refine rn_iconst rfl ?_
    exact rn_ireturn rfl rfl rfl h
  · replace h := h.2 hc
    refine rn_iload_n rfl rfl ?_
    refine rn_aload_n rfl rfl ?_
    refine rn_getfield rfl rfl rfl ?_
    refine rn_icmp_gt rfl (fun hc => ?_) (fun hc => ?_)
    · replace h := h.1 hc
      refine rn_iconst rfl ?_
      exact rn_ireturn rfl rfl rfl h
    · replace h := h.2 hc
      refine rn_aload_n rfl rfl ?_
      refine rn_getfield rfl rfl rfl ?_
      refine rn_iload_n rfl rfl ?_
      refine rn_iconst rfl ?_
      refine rn_isub rfl ?_
      obtain ⟨j1, hj1, ej1, h⟩ := h
      refine rn_caload (j := j1) rfl rfl (Nat.le_of_ble_eq_true rfl) ej1 hj1 ?_
      refine rn_goto rfl ?_
      exact rn_ireturn rfl rfl rfl h
-- ReplayedBeans$Text.codeAt(I)I (number 50)
def w_50_22 (xs : Nat × (Nat → Int32)) (d : Nat) (K : Sv → Option Value → Prop) (a1 : Int32) (S : Sv) : Prop :=
  (a1 < 1 → (K S (some (.int (-1))))) ∧ (¬ (a1 < 1) → (((S 22 1) < a1 → (K S (some (.int (-1))))) ∧ (¬ ((S 22 1) < a1) → (∃ j1 : Nat, j1 < 300 ∧ (a1 - 1) = nI j1 ∧ (K S (some (.int (S 23 j1))))))))
set_option maxRecDepth 100000 in
set_option maxHeartbeats 4000000 in
theorem c_50_22 {xs : Nat × (Nat → Int32)} {d : Nat} {K : Sv → Option Value → Prop} {a1 : Int32} {S : Sv} (h : w_50_22 xs d K a1 S) : CS xs (d + 1) 50 S [.ref 22, .int a1] K := by
  unfold w_50_22 at h
  refine cs_in rfl rfl rfl rfl ?_
  refine rn_iload_n rfl rfl ?_
  refine rn_iconst rfl ?_
  refine rn_icmp_lt rfl (fun hc => ?_) (fun hc => ?_)
  · replace h := h.1 hc
    refine rn_iconst rfl ?_
    exact rn_ireturn rfl rfl rfl h
  · replace h := h.2 hc
    refine rn_iload_n rfl rfl ?_
    refine rn_aload_n rfl rfl ?_
    refine rn_getfield rfl rfl rfl ?_
    refine rn_icmp_gt rfl (fun hc => ?_) (fun hc => ?_)
    · replace h := h.1 hc
      refine rn_iconst rfl ?_
      exact rn_ireturn rfl rfl rfl h
    · replace h := h.2 hc
      refine rn_aload_n rfl rfl ?_
      refine rn_getfield rfl rfl rfl ?_
      refine rn_iload_n rfl rfl ?_
      refine rn_iconst rfl ?_
      refine rn_isub rfl ?_
      obtain ⟨j1, hj1, ej1, h⟩ := h
      refine rn_caload (j := j1) rfl rfl (Nat.le_of_ble_eq_true rfl) ej1 hj1 ?_
      refine rn_goto rfl ?_
      exact rn_ireturn rfl rfl rfl h
-- ReplayedBeans$Text.copyFrom(LReplayedBeans$Text;)V (number 51)
def w_51_19 (xs : Nat × (Nat → Int32)) (d : Nat) (K : Sv → Option Value → Prop) (S : Sv) : Prop :=
  ∃ j1 : Nat, (S 22 1) = nI j1 ∧ j1 ≤ 300 ∧ (∀ i, i < j1 → fits .char (.int (S 23 i)) = true) ∧ (K (us (uf S 20 (va_cpy (S 23) (S 20) 0 0 j1)) 19 1 ((uf S 20 (va_cpy (S 23) (S 20) 0 0 j1)) 22 1)) none)
set_option maxRecDepth 100000 in
set_option maxHeartbeats 4000000 in
theorem c_51_19 {xs : Nat × (Nat → Int32)} {d : Nat} {K : Sv → Option Value → Prop} {S : Sv} (h : w_51_19 xs d K S) : CS xs (d + 1) 51 S [.ref 19, .ref 22] K := by
  unfold w_51_19 at h
  refine cs_in rfl rfl rfl rfl ?_
  refine rn_aload_n rfl rfl ?_
  refine rn_getfield rfl rfl rfl ?_
  refine rn_iconst rfl ?_
  refine rn_aload_n rfl rfl ?_
  refine rn_getfield rfl rfl rfl ?_
  refine rn_iconst rfl ?_
  refine rn_aload_n rfl rfl ?_
  refine rn_getfield rfl rfl rfl ?_
  obtain ⟨j1, ej1, hj1, hf, h⟩ := h
  refine rn_copy (nn := j1) (S' := (uf S 20 (va_cpy (S 23) (S 20) 0 0 j1))) rfl rfl rfl (Or.inr (Or.inr rfl)) rfl rfl ej1 hj1 hj1 (Nat.le_of_ble_eq_true rfl) hf (Nat.le_of_ble_eq_true rfl) rfl ?_
  refine rn_aload_n rfl rfl ?_
  refine rn_aload_n rfl rfl ?_
  refine rn_getfield rfl rfl rfl ?_
  refine rn_putfield (S' := (us (uf S 20 (va_cpy (S 23) (S 20) 0 0 j1)) 19 1 ((uf S 20 (va_cpy (S 23) (S 20) 0 0 j1)) 22 1))) rfl rfl (Nat.le_of_ble_eq_true rfl) (Or.inl rfl) rfl ?_
  exact rn_return rfl rfl h
end
section
-- ReplayedBeans$Beans.isThere(I)Z (number 31)
def w_31 (xs : Nat × (Nat → Int32)) (d : Nat) (K : Sv → Option Value → Prop) (a1 : Int32) (S : Sv) : Prop :=
  (a1 < 0 → (K S (some (.int 0)))) ∧ (¬ (a1 < 0) → (((S 8 4) ≤ a1 → (K S (some (.int 0)))) ∧ (¬ ((S 8 4) ≤ a1) → (K S (some (.int 1))))))
set_option maxRecDepth 100000 in
set_option maxHeartbeats 4000000 in
theorem c_31 {xs : Nat × (Nat → Int32)} {d : Nat} {K : Sv → Option Value → Prop} {a1 : Int32} {S : Sv} (h : w_31 xs d K a1 S) : CS xs (d + 1) 31 S [.ref 8, .int a1] K := by
  unfold w_31 at h
  refine cs_in rfl rfl rfl rfl ?_
  refine rn_iload_n rfl rfl ?_
  refine rn_if_lt rfl (fun hc => ?_) (fun hc => ?_)
  · replace h := h.1 hc
    refine rn_iconst rfl ?_
    exact rn_ireturn rfl rfl (by decide) h
  · replace h := h.2 hc
    refine rn_iload_n rfl rfl ?_
    refine rn_aload_n rfl rfl ?_
    refine rn_getfield rfl rfl rfl ?_
    refine rn_icmp_ge rfl (fun hc => ?_) (fun hc => ?_)
    · replace h := h.1 hc
      refine rn_iconst rfl ?_
      exact rn_ireturn rfl rfl (by decide) h
    · replace h := h.2 hc
      refine rn_iconst rfl ?_
      refine rn_goto rfl ?_
      exact rn_ireturn rfl rfl (by decide) h
-- ReplayedBeans$Beans.add(I)I (number 32)
def R_32_36 (xs : Nat × (Nat → Int32)) (d : Nat) (K : Sv → Option Value → Prop) (a1 a2 a3 : Int32) (S : Sv) : Prop := RN xs d 32 K 36 [some (.ref 8), some (.int a1), some (.int a2), some (.int a3)] [] S
def R_32_68 (xs : Nat × (Nat → Int32)) (d : Nat) (K : Sv → Option Value → Prop) (a2 a3 : Int32) (S : Sv) : Prop := ∀ u1 : Option Value, RN xs d 32 K 68 [some (.ref 8), u1, some (.int a2), some (.int a3)] [] S
def w_32_36 (xs : Nat × (Nat → Int32)) (d : Nat) (K : Sv → Option Value → Prop) (a1 a2 a3 : Int32) (S : Sv) : Prop :=
  (3 ≤ a3 → (R_32_68 xs d K a2 0 S)) ∧ (¬ (3 ≤ a3) → (CS xs d 28 S [.ref 1, .int a1, .int a3] (fun S1 v1 => ∃ r1 : Int32, v1 = some (.int r1) ∧ (∃ j2 : Nat, j2 < 72 ∧ ((a2 * 3) + a3) = nI j2 ∧ (R_32_36 xs d K a1 a2 (a3 + 1) (us S1 10 j2 r1))))))
set_option maxRecDepth 100000 in
set_option maxHeartbeats 4000000 in
theorem h_32_36 {xs : Nat × (Nat → Int32)} {d : Nat} {K : Sv → Option Value → Prop} {a1 a2 a3 : Int32} {S : Sv} (h : w_32_36 xs d K a1 a2 a3 S) : R_32_36 xs d K a1 a2 a3 S := by
  unfold w_32_36 at h
  unfold R_32_36
  refine rn_iload_n rfl rfl ?_
  refine rn_iconst rfl ?_
  refine rn_icmp_ge rfl (fun hc => ?_) (fun hc => ?_)
  · replace h := h.1 hc
    refine rn_iconst rfl ?_
    refine rn_istore_n rfl rfl ?_
    exact h _
  · replace h := h.2 hc
    refine rn_aload_n rfl rfl ?_
    refine rn_getfield rfl rfl rfl ?_
    refine rn_iload_n rfl rfl ?_
    refine rn_iconst rfl ?_
    refine rn_imul rfl ?_
    refine rn_iload_n rfl rfl ?_
    refine rn_iadd rfl ?_
    refine rn_aload_n rfl rfl ?_
    refine rn_getfield rfl rfl rfl ?_
    refine rn_iload_n rfl rfl ?_
    refine rn_iload_n rfl rfl ?_
    refine rn_virtual rfl (Nat.le_of_ble_eq_true rfl) (Nat.le_of_ble_eq_true rfl) rfl rfl (as := [.ref 1, .int a1, .int a3]) (rest := [.int ((a2 * 3) + a3), .ref 10]) rfl rfl rfl (cs_mono h (fun S1 v1 h => ?_))
    obtain ⟨r1, rfl, h⟩ := h
    obtain ⟨j2, hj2, ej2, h⟩ := h
    refine rn_iastore (j := j2) (S' := (us S1 10 j2 r1)) rfl rfl (Nat.le_of_ble_eq_true rfl) ej2 hj2 rfl ?_
    refine rn_iinc rfl rfl rfl ?_
    refine rn_goto rfl ?_
    exact h
def w_32_68 (xs : Nat × (Nat → Int32)) (d : Nat) (K : Sv → Option Value → Prop) (a2 a3 : Int32) (S : Sv) : Prop :=
  (2 ≤ a3 → (K (us S 8 4 ((S 8 4) + 1)) (some (.int a2)))) ∧ (¬ (2 ≤ a3) → (∃ j1 : Nat, j1 < 48 ∧ ((a2 * 2) + a3) = nI j1 ∧ (R_32_68 xs d K a2 (a3 + 1) (us S 11 j1 (-1)))))
set_option maxRecDepth 100000 in
set_option maxHeartbeats 4000000 in
theorem h_32_68 {xs : Nat × (Nat → Int32)} {d : Nat} {K : Sv → Option Value → Prop} {a2 a3 : Int32} {S : Sv} (h : w_32_68 xs d K a2 a3 S) : R_32_68 xs d K a2 a3 S := by
  unfold w_32_68 at h
  unfold R_32_68
  intro u1
  refine rn_iload_n rfl rfl ?_
  refine rn_iconst rfl ?_
  refine rn_icmp_ge rfl (fun hc => ?_) (fun hc => ?_)
  · replace h := h.1 hc
    refine rn_aload_n rfl rfl ?_
    refine rn_dup rfl rfl ?_
    refine rn_getfield rfl rfl rfl ?_
    refine rn_iconst rfl ?_
    refine rn_iadd rfl ?_
    refine rn_putfield (S' := (us S 8 4 ((S 8 4) + 1))) rfl rfl (Nat.le_of_ble_eq_true rfl) (Or.inl rfl) rfl ?_
    refine rn_iload_n rfl rfl ?_
    exact rn_ireturn rfl rfl rfl h
  · replace h := h.2 hc
    refine rn_aload_n rfl rfl ?_
    refine rn_getfield rfl rfl rfl ?_
    refine rn_iload_n rfl rfl ?_
    refine rn_iconst rfl ?_
    refine rn_imul rfl ?_
    refine rn_iload_n rfl rfl ?_
    refine rn_iadd rfl ?_
    refine rn_iconst rfl ?_
    obtain ⟨j1, hj1, ej1, h⟩ := h
    refine rn_iastore (j := j1) (S' := (us S 11 j1 (-1))) rfl rfl (Nat.le_of_ble_eq_true rfl) ej1 hj1 rfl ?_
    refine rn_iinc rfl rfl rfl ?_
    refine rn_goto rfl ?_
    exact h _
def w_32 (xs : Nat × (Nat → Int32)) (d : Nat) (K : Sv → Option Value → Prop) (a1 : Int32) (S : Sv) : Prop :=
  CS xs d 23 S [.ref 1, .int a1] (fun S1 v1 => ∃ r1 : Int32, v1 = some (.int r1) ∧ ((r1 = 0 → (K S1 (some (.int (-1))))) ∧ (¬ (r1 = 0) → (((S1 8 4) < 24 → (∃ j2 : Nat, j2 < 24 ∧ (S1 8 4) = nI j2 ∧ (R_32_36 xs d K a1 (S1 8 4) 0 (us S1 9 j2 a1)))) ∧ (¬ ((S1 8 4) < 24) → (K S1 (some (.int (-1)))))))))
set_option maxRecDepth 100000 in
set_option maxHeartbeats 4000000 in
theorem c_32 {xs : Nat × (Nat → Int32)} {d : Nat} {K : Sv → Option Value → Prop} {a1 : Int32} {S : Sv} (h : w_32 xs d K a1 S) : CS xs (d + 1) 32 S [.ref 8, .int a1] K := by
  unfold w_32 at h
  refine cs_in rfl rfl rfl rfl ?_
  refine rn_aload_n rfl rfl ?_
  refine rn_getfield rfl rfl rfl ?_
  refine rn_iload_n rfl rfl ?_
  refine rn_virtual rfl (Nat.le_of_ble_eq_true rfl) (Nat.le_of_ble_eq_true rfl) rfl rfl (as := [.ref 1, .int a1]) (rest := []) rfl rfl rfl (cs_mono h (fun S1 v1 h => ?_))
  obtain ⟨r1, rfl, h⟩ := h
  refine rn_if_eq rfl (fun hc => ?_) (fun hc => ?_)
  · replace h := h.1 hc
    refine rn_iconst rfl ?_
    exact rn_ireturn rfl rfl rfl h
  · replace h := h.2 hc
    refine rn_aload_n rfl rfl ?_
    refine rn_getfield rfl rfl rfl ?_
    refine rn_bipush rfl ?_
    refine rn_icmp_lt rfl (fun hc => ?_) (fun hc => ?_)
    · replace h := h.1 hc
      refine rn_aload_n rfl rfl ?_
      refine rn_getfield rfl rfl rfl ?_
      refine rn_istore_n rfl rfl ?_
      refine rn_aload_n rfl rfl ?_
      refine rn_getfield rfl rfl rfl ?_
      refine rn_iload_n rfl rfl ?_
      refine rn_iload_n rfl rfl ?_
      obtain ⟨j2, hj2, ej2, h⟩ := h
      refine rn_iastore (j := j2) (S' := (us S1 9 j2 a1)) rfl rfl (Nat.le_of_ble_eq_true rfl) ej2 hj2 rfl ?_
      refine rn_iconst rfl ?_
      refine rn_istore_n rfl rfl ?_
      exact h
    · replace h := h.2 hc
      refine rn_iconst rfl ?_
      exact rn_ireturn rfl rfl rfl h
-- ReplayedBeans$Beans.removeAll()V (number 33)
def w_33 (xs : Nat × (Nat → Int32)) (d : Nat) (K : Sv → Option Value → Prop) (S : Sv) : Prop :=
  K (us S 8 4 0) none
set_option maxRecDepth 100000 in
set_option maxHeartbeats 4000000 in
theorem c_33 {xs : Nat × (Nat → Int32)} {d : Nat} {K : Sv → Option Value → Prop} {S : Sv} (h : w_33 xs d K S) : CS xs (d + 1) 33 S [.ref 8] K := by
  unfold w_33 at h
  refine cs_in rfl rfl rfl rfl ?_
  refine rn_aload_n rfl rfl ?_
  refine rn_iconst rfl ?_
  refine rn_putfield (S' := (us S 8 4 0)) rfl rfl (Nat.le_of_ble_eq_true rfl) (Or.inl rfl) rfl ?_
  exact rn_return rfl rfl h
-- ReplayedBeans$Beans.kindOf(I)I (number 34)
def w_34 (xs : Nat × (Nat → Int32)) (d : Nat) (K : Sv → Option Value → Prop) (a1 : Int32) (S : Sv) : Prop :=
  CS xs d 31 S [.ref 8, .int a1] (fun S1 v1 => ∃ r1 : Int32, v1 = some (.int r1) ∧ ((r1 = 0 → (K S1 (some (.int (-1))))) ∧ (¬ (r1 = 0) → (∃ j2 : Nat, j2 < 24 ∧ a1 = nI j2 ∧ (K S1 (some (.int (S1 9 j2))))))))
set_option maxRecDepth 100000 in
set_option maxHeartbeats 4000000 in
theorem c_34 {xs : Nat × (Nat → Int32)} {d : Nat} {K : Sv → Option Value → Prop} {a1 : Int32} {S : Sv} (h : w_34 xs d K a1 S) : CS xs (d + 1) 34 S [.ref 8, .int a1] K := by
  unfold w_34 at h
  refine cs_in rfl rfl rfl rfl ?_
  refine rn_aload_n rfl rfl ?_
  refine rn_iload_n rfl rfl ?_
  refine rn_virtual rfl (Nat.le_of_ble_eq_true rfl) (Nat.le_of_ble_eq_true rfl) rfl rfl (as := [.ref 8, .int a1]) (rest := []) rfl rfl rfl (cs_mono h (fun S1 v1 h => ?_))
  obtain ⟨r1, rfl, h⟩ := h
  refine rn_if_eq rfl (fun hc => ?_) (fun hc => ?_)
  · replace h := h.1 hc
    refine rn_iconst rfl ?_
    exact rn_ireturn rfl rfl rfl h
  · replace h := h.2 hc
    refine rn_aload_n rfl rfl ?_
    refine rn_getfield rfl rfl rfl ?_
    refine rn_iload_n rfl rfl ?_
    obtain ⟨j2, hj2, ej2, h⟩ := h
    refine rn_iaload (j := j2) rfl rfl (Nat.le_of_ble_eq_true rfl) ej2 hj2 ?_
    refine rn_goto rfl ?_
    exact rn_ireturn rfl rfl rfl h
-- ReplayedBeans$Beans.putNumber(III)Z (number 35)
def w_35 (xs : Nat × (Nat → Int32)) (d : Nat) (K : Sv → Option Value → Prop) (a1 a2 a3 : Int32) (S : Sv) : Prop :=
  CS xs d 34 S [.ref 8, .int a1] (fun S1 v1 => ∃ r1 : Int32, v1 = some (.int r1) ∧ (CS xs d 29 S1 [.ref 1, .int r1, .int a2, .int a3] (fun S2 v2 => ∃ r2 : Int32, v2 = some (.int r2) ∧ ((¬ r2 = 0 → (∃ j3 : Nat, j3 < 72 ∧ ((a1 * 3) + a2) = nI j3 ∧ (K (us S2 10 j3 a3) (some (.int 1))))) ∧ (¬ (¬ r2 = 0) → (K S2 (some (.int 0))))))))
set_option maxRecDepth 100000 in
set_option maxHeartbeats 4000000 in
theorem c_35 {xs : Nat × (Nat → Int32)} {d : Nat} {K : Sv → Option Value → Prop} {a1 a2 a3 : Int32} {S : Sv} (h : w_35 xs d K a1 a2 a3 S) : CS xs (d + 1) 35 S [.ref 8, .int a1, .int a2, .int a3] K := by
  unfold w_35 at h
  refine cs_in rfl rfl rfl rfl ?_
  refine rn_aload_n rfl rfl ?_
  refine rn_getfield rfl rfl rfl ?_
  refine rn_aload_n rfl rfl ?_
  refine rn_iload_n rfl rfl ?_
  refine rn_virtual rfl (Nat.le_of_ble_eq_true rfl) (Nat.le_of_ble_eq_true rfl) rfl rfl (as := [.ref 8, .int a1]) (rest := [.ref 1]) rfl rfl rfl (cs_mono h (fun S1 v1 h => ?_))
  obtain ⟨r1, rfl, h⟩ := h
  refine rn_iload_n rfl rfl ?_
  refine rn_iload_n rfl rfl ?_
  refine rn_virtual rfl (Nat.le_of_ble_eq_true rfl) (Nat.le_of_ble_eq_true rfl) rfl rfl (as := [.ref 1, .int r1, .int a2, .int a3]) (rest := []) rfl rfl rfl (cs_mono h (fun S2 v2 h => ?_))
  obtain ⟨r2, rfl, h⟩ := h
  refine rn_if_ne rfl (fun hc => ?_) (fun hc => ?_)
  · replace h := h.1 hc
    refine rn_aload_n rfl rfl ?_
    refine rn_getfield rfl rfl rfl ?_
    refine rn_iload_n rfl rfl ?_
    refine rn_iconst rfl ?_
    refine rn_imul rfl ?_
    refine rn_iload_n rfl rfl ?_
    refine rn_iadd rfl ?_
    refine rn_iload_n rfl rfl ?_
    obtain ⟨j3, hj3, ej3, h⟩ := h
    refine rn_iastore (j := j3) (S' := (us S2 10 j3 a3)) rfl rfl (Nat.le_of_ble_eq_true rfl) ej3 hj3 rfl ?_
    refine rn_iconst rfl ?_
    exact rn_ireturn rfl rfl (by decide) h
  · replace h := h.2 hc
    refine rn_iconst rfl ?_
    exact rn_ireturn rfl rfl (by decide) h
-- ReplayedBeans$Beans.putLink(III)Z (number 36)
def R_36_33 (xs : Nat × (Nat → Int32)) (d : Nat) (K : Sv → Option Value → Prop) (a1 a2 a3 : Int32) (S : Sv) : Prop := RN xs d 36 K 33 [some (.ref 8), some (.int a1), some (.int a2), some (.int a3)] [] S
def w_36_33 (xs : Nat × (Nat → Int32)) (d : Nat) (K : Sv → Option Value → Prop) (a1 a2 a3 : Int32) (S : Sv) : Prop :=
  ∃ j1 : Nat, j1 < 48 ∧ ((a1 * 2) + a2) = nI j1 ∧ (K (us S 11 j1 a3) (some (.int 1)))
set_option maxRecDepth 100000 in
set_option maxHeartbeats 4000000 in
theorem h_36_33 {xs : Nat × (Nat → Int32)} {d : Nat} {K : Sv → Option Value → Prop} {a1 a2 a3 : Int32} {S : Sv} (h : w_36_33 xs d K a1 a2 a3 S) : R_36_33 xs d K a1 a2 a3 S := by
  unfold w_36_33 at h
  unfold R_36_33
  refine rn_aload_n rfl rfl ?_
  refine rn_getfield rfl rfl rfl ?_
  refine rn_iload_n rfl rfl ?_
  refine rn_iconst rfl ?_
  refine rn_imul rfl ?_
  refine rn_iload_n rfl rfl ?_
  refine rn_iadd rfl ?_
  refine rn_iload_n rfl rfl ?_
  obtain ⟨j1, hj1, ej1, h⟩ := h
  refine rn_iastore (j := j1) (S' := (us S 11 j1 a3)) rfl rfl (Nat.le_of_ble_eq_true rfl) ej1 hj1 rfl ?_
  refine rn_iconst rfl ?_
  exact rn_ireturn rfl rfl (by decide) h
def w_36 (xs : Nat × (Nat → Int32)) (d : Nat) (K : Sv → Option Value → Prop) (a1 a2 a3 : Int32) (S : Sv) : Prop :=
  CS xs d 34 S [.ref 8, .int a1] (fun S1 v1 => ∃ r1 : Int32, v1 = some (.int r1) ∧ (CS xs d 25 S1 [.ref 1, .int r1, .int a2] (fun S2 v2 => ∃ r2 : Int32, v2 = some (.int r2) ∧ ((¬ r2 = 0 → ((a3 = (-1) → (R_36_33 xs d K a1 a2 a3 S2)) ∧ (¬ (a3 = (-1)) → (CS xs d 31 S2 [.ref 8, .int a3] (fun S3 v3 => ∃ r3 : Int32, v3 = some (.int r3) ∧ ((¬ r3 = 0 → (R_36_33 xs d K a1 a2 a3 S3)) ∧ (¬ (¬ r3 = 0) → (K S3 (some (.int 0)))))))))) ∧ (¬ (¬ r2 = 0) → (K S2 (some (.int 0))))))))
set_option maxRecDepth 100000 in
set_option maxHeartbeats 4000000 in
theorem c_36 {xs : Nat × (Nat → Int32)} {d : Nat} {K : Sv → Option Value → Prop} {a1 a2 a3 : Int32} {S : Sv} (h : w_36 xs d K a1 a2 a3 S) : CS xs (d + 1) 36 S [.ref 8, .int a1, .int a2, .int a3] K := by
  unfold w_36 at h
  refine cs_in rfl rfl rfl rfl ?_
  refine rn_aload_n rfl rfl ?_
  refine rn_getfield rfl rfl rfl ?_
  refine rn_aload_n rfl rfl ?_
  refine rn_iload_n rfl rfl ?_
  refine rn_virtual rfl (Nat.le_of_ble_eq_true rfl) (Nat.le_of_ble_eq_true rfl) rfl rfl (as := [.ref 8, .int a1]) (rest := [.ref 1]) rfl rfl rfl (cs_mono h (fun S1 v1 h => ?_))
  obtain ⟨r1, rfl, h⟩ := h
  refine rn_iload_n rfl rfl ?_
  refine rn_virtual rfl (Nat.le_of_ble_eq_true rfl) (Nat.le_of_ble_eq_true rfl) rfl rfl (as := [.ref 1, .int r1, .int a2]) (rest := []) rfl rfl rfl (cs_mono h (fun S2 v2 h => ?_))
  obtain ⟨r2, rfl, h⟩ := h
  refine rn_if_ne rfl (fun hc => ?_) (fun hc => ?_)
  · replace h := h.1 hc
    refine rn_iload_n rfl rfl ?_
    refine rn_iconst rfl ?_
    refine rn_icmp_eq rfl (fun hc => ?_) (fun hc => ?_)
    · replace h := h.1 hc
      exact h
    · replace h := h.2 hc
      refine rn_aload_n rfl rfl ?_
      refine rn_iload_n rfl rfl ?_
      refine rn_virtual rfl (Nat.le_of_ble_eq_true rfl) (Nat.le_of_ble_eq_true rfl) rfl rfl (as := [.ref 8, .int a3]) (rest := []) rfl rfl rfl (cs_mono h (fun S3 v3 h => ?_))
      obtain ⟨r3, rfl, h⟩ := h
      refine rn_if_ne rfl (fun hc => ?_) (fun hc => ?_)
      · replace h := h.1 hc
        exact h
      · replace h := h.2 hc
        refine rn_iconst rfl ?_
        exact rn_ireturn rfl rfl (by decide) h
  · replace h := h.2 hc
    refine rn_iconst rfl ?_
    exact rn_ireturn rfl rfl (by decide) h
-- ReplayedBeans$Beans.numberOf(II)I (number 37)
def w_37 (xs : Nat × (Nat → Int32)) (d : Nat) (K : Sv → Option Value → Prop) (a1 a2 : Int32) (S : Sv) : Prop :=
  CS xs d 34 S [.ref 8, .int a1] (fun S1 v1 => ∃ r1 : Int32, v1 = some (.int r1) ∧ (CS xs d 24 S1 [.ref 1, .int r1, .int a2] (fun S2 v2 => ∃ r2 : Int32, v2 = some (.int r2) ∧ ((r2 = 0 → (K S2 (some (.int 0)))) ∧ (¬ (r2 = 0) → (∃ j3 : Nat, j3 < 72 ∧ ((a1 * 3) + a2) = nI j3 ∧ (K S2 (some (.int (S2 10 j3))))))))))
set_option maxRecDepth 100000 in
set_option maxHeartbeats 4000000 in
theorem c_37 {xs : Nat × (Nat → Int32)} {d : Nat} {K : Sv → Option Value → Prop} {a1 a2 : Int32} {S : Sv} (h : w_37 xs d K a1 a2 S) : CS xs (d + 1) 37 S [.ref 8, .int a1, .int a2] K := by
  unfold w_37 at h
  refine cs_in rfl rfl rfl rfl ?_
  refine rn_aload_n rfl rfl ?_
  refine rn_getfield rfl rfl rfl ?_
  refine rn_aload_n rfl rfl ?_
  refine rn_iload_n rfl rfl ?_
  refine rn_virtual rfl (Nat.le_of_ble_eq_true rfl) (Nat.le_of_ble_eq_true rfl) rfl rfl (as := [.ref 8, .int a1]) (rest := [.ref 1]) rfl rfl rfl (cs_mono h (fun S1 v1 h => ?_))
  obtain ⟨r1, rfl, h⟩ := h
  refine rn_iload_n rfl rfl ?_
  refine rn_virtual rfl (Nat.le_of_ble_eq_true rfl) (Nat.le_of_ble_eq_true rfl) rfl rfl (as := [.ref 1, .int r1, .int a2]) (rest := []) rfl rfl rfl (cs_mono h (fun S2 v2 h => ?_))
  obtain ⟨r2, rfl, h⟩ := h
  refine rn_if_eq rfl (fun hc => ?_) (fun hc => ?_)
  · replace h := h.1 hc
    refine rn_iconst rfl ?_
    exact rn_ireturn rfl rfl rfl h
  · replace h := h.2 hc
    refine rn_aload_n rfl rfl ?_
    refine rn_getfield rfl rfl rfl ?_
    refine rn_iload_n rfl rfl ?_
    refine rn_iconst rfl ?_
    refine rn_imul rfl ?_
    refine rn_iload_n rfl rfl ?_
    refine rn_iadd rfl ?_
    obtain ⟨j3, hj3, ej3, h⟩ := h
    refine rn_iaload (j := j3) rfl rfl (Nat.le_of_ble_eq_true rfl) ej3 hj3 ?_
    refine rn_goto rfl ?_
    exact rn_ireturn rfl rfl rfl h
-- ReplayedBeans$Beans.linkOf(II)I (number 38)
def w_38 (xs : Nat × (Nat → Int32)) (d : Nat) (K : Sv → Option Value → Prop) (a1 a2 : Int32) (S : Sv) : Prop :=
  CS xs d 34 S [.ref 8, .int a1] (fun S1 v1 => ∃ r1 : Int32, v1 = some (.int r1) ∧ (CS xs d 25 S1 [.ref 1, .int r1, .int a2] (fun S2 v2 => ∃ r2 : Int32, v2 = some (.int r2) ∧ ((r2 = 0 → (K S2 (some (.int (-1))))) ∧ (¬ (r2 = 0) → (∃ j3 : Nat, j3 < 48 ∧ ((a1 * 2) + a2) = nI j3 ∧ (K S2 (some (.int (S2 11 j3))))))))))
set_option maxRecDepth 100000 in
set_option maxHeartbeats 4000000 in
theorem c_38 {xs : Nat × (Nat → Int32)} {d : Nat} {K : Sv → Option Value → Prop} {a1 a2 : Int32} {S : Sv} (h : w_38 xs d K a1 a2 S) : CS xs (d + 1) 38 S [.ref 8, .int a1, .int a2] K := by
  unfold w_38 at h
  refine cs_in rfl rfl rfl rfl ?_
  refine rn_aload_n rfl rfl ?_
  refine rn_getfield rfl rfl rfl ?_
  refine rn_aload_n rfl rfl ?_
  refine rn_iload_n rfl rfl ?_
  refine rn_virtual rfl (Nat.le_of_ble_eq_true rfl) (Nat.le_of_ble_eq_true rfl) rfl rfl (as := [.ref 8, .int a1]) (rest := [.ref 1]) rfl rfl rfl (cs_mono h (fun S1 v1 h => ?_))
  obtain ⟨r1, rfl, h⟩ := h
  refine rn_iload_n rfl rfl ?_
  refine rn_virtual rfl (Nat.le_of_ble_eq_true rfl) (Nat.le_of_ble_eq_true rfl) rfl rfl (as := [.ref 1, .int r1, .int a2]) (rest := []) rfl rfl rfl (cs_mono h (fun S2 v2 h => ?_))
  obtain ⟨r2, rfl, h⟩ := h
  refine rn_if_eq rfl (fun hc => ?_) (fun hc => ?_)
  · replace h := h.1 hc
    refine rn_iconst rfl ?_
    exact rn_ireturn rfl rfl rfl h
  · replace h := h.2 hc
    refine rn_aload_n rfl rfl ?_
    refine rn_getfield rfl rfl rfl ?_
    refine rn_iload_n rfl rfl ?_
    refine rn_iconst rfl ?_
    refine rn_imul rfl ?_
    refine rn_iload_n rfl rfl ?_
    refine rn_iadd rfl ?_
    obtain ⟨j3, hj3, ej3, h⟩ := h
    refine rn_iaload (j := j3) rfl rfl (Nat.le_of_ble_eq_true rfl) ej3 hj3 ?_
    refine rn_goto rfl ?_
    exact rn_ireturn rfl rfl rfl h
-- ReplayedBeans$Beans.sameKindAndNumbers(II)Z (number 39)
def R_39_17 (xs : Nat × (Nat → Int32)) (d : Nat) (K : Sv → Option Value → Prop) (a1 a2 a3 : Int32) (S : Sv) : Prop := RN xs d 39 K 17 [some (.ref 8), some (.int a1), some (.int a2), some (.int a3)] [] S
def w_39_17 (xs : Nat × (Nat → Int32)) (d : Nat) (K : Sv → Option Value → Prop) (a1 a2 a3 : Int32) (S : Sv) : Prop :=
  (3 ≤ a3 → (K S (some (.int 1)))) ∧ (¬ (3 ≤ a3) → (CS xs d 37 S [.ref 8, .int a1, .int a3] (fun S1 v1 => ∃ r1 : Int32, v1 = some (.int r1) ∧ (CS xs d 37 S1 [.ref 8, .int a2, .int a3] (fun S2 v2 => ∃ r2 : Int32, v2 = some (.int r2) ∧ ((r1 = r2 → (R_39_17 xs d K a1 a2 (a3 + 1) S2)) ∧ (¬ (r1 = r2) → (K S2 (some (.int 0))))))))))
set_option maxRecDepth 100000 in
set_option maxHeartbeats 4000000 in
theorem h_39_17 {xs : Nat × (Nat → Int32)} {d : Nat} {K : Sv → Option Value → Prop} {a1 a2 a3 : Int32} {S : Sv} (h : w_39_17 xs d K a1 a2 a3 S) : R_39_17 xs d K a1 a2 a3 S := by
  unfold w_39_17 at h
  unfold R_39_17
  refine rn_iload_n rfl rfl ?_
  refine rn_iconst rfl ?_
  refine rn_icmp_ge rfl (fun hc => ?_) (fun hc => ?_)
  · replace h := h.1 hc
    refine rn_iconst rfl ?_
    exact rn_ireturn rfl rfl (by decide) h
  · replace h := h.2 hc
    refine rn_aload_n rfl rfl ?_
    refine rn_iload_n rfl rfl ?_
    refine rn_iload_n rfl rfl ?_
    refine rn_virtual rfl (Nat.le_of_ble_eq_true rfl) (Nat.le_of_ble_eq_true rfl) rfl rfl (as := [.ref 8, .int a1, .int a3]) (rest := []) rfl rfl rfl (cs_mono h (fun S1 v1 h => ?_))
    obtain ⟨r1, rfl, h⟩ := h
    refine rn_aload_n rfl rfl ?_
    refine rn_iload_n rfl rfl ?_
    refine rn_iload_n rfl rfl ?_
    refine rn_virtual rfl (Nat.le_of_ble_eq_true rfl) (Nat.le_of_ble_eq_true rfl) rfl rfl (as := [.ref 8, .int a2, .int a3]) (rest := [.int r1]) rfl rfl rfl (cs_mono h (fun S2 v2 h => ?_))
    obtain ⟨r2, rfl, h⟩ := h
    refine rn_icmp_eq rfl (fun hc => ?_) (fun hc => ?_)
    · replace h := h.1 hc
      refine rn_iinc rfl rfl rfl ?_
      refine rn_goto rfl ?_
      exact h
    · replace h := h.2 hc
      refine rn_iconst rfl ?_
      exact rn_ireturn rfl rfl (by decide) h
def w_39 (xs : Nat × (Nat → Int32)) (d : Nat) (K : Sv → Option Value → Prop) (a1 a2 : Int32) (S : Sv) : Prop :=
  CS xs d 34 S [.ref 8, .int a1] (fun S1 v1 => ∃ r1 : Int32, v1 = some (.int r1) ∧ (CS xs d 34 S1 [.ref 8, .int a2] (fun S2 v2 => ∃ r2 : Int32, v2 = some (.int r2) ∧ ((r1 = r2 → (R_39_17 xs d K a1 a2 0 S2)) ∧ (¬ (r1 = r2) → (K S2 (some (.int 0))))))))
set_option maxRecDepth 100000 in
set_option maxHeartbeats 4000000 in
theorem c_39 {xs : Nat × (Nat → Int32)} {d : Nat} {K : Sv → Option Value → Prop} {a1 a2 : Int32} {S : Sv} (h : w_39 xs d K a1 a2 S) : CS xs (d + 1) 39 S [.ref 8, .int a1, .int a2] K := by
  unfold w_39 at h
  refine cs_in rfl rfl rfl rfl ?_
  refine rn_aload_n rfl rfl ?_
  refine rn_iload_n rfl rfl ?_
  refine rn_virtual rfl (Nat.le_of_ble_eq_true rfl) (Nat.le_of_ble_eq_true rfl) rfl rfl (as := [.ref 8, .int a1]) (rest := []) rfl rfl rfl (cs_mono h (fun S1 v1 h => ?_))
  obtain ⟨r1, rfl, h⟩ := h
  refine rn_aload_n rfl rfl ?_
  refine rn_iload_n rfl rfl ?_
  refine rn_virtual rfl (Nat.le_of_ble_eq_true rfl) (Nat.le_of_ble_eq_true rfl) rfl rfl (as := [.ref 8, .int a2]) (rest := [.int r1]) rfl rfl rfl (cs_mono h (fun S2 v2 h => ?_))
  obtain ⟨r2, rfl, h⟩ := h
  refine rn_icmp_eq rfl (fun hc => ?_) (fun hc => ?_)
  · replace h := h.1 hc
    refine rn_iconst rfl ?_
    refine rn_istore_n rfl rfl ?_
    exact h
  · replace h := h.2 hc
    refine rn_iconst rfl ?_
    exact rn_ireturn rfl rfl (by decide) h
end
section
-- ReplayedBeans$Reach.spreadFrom(I)V (number 41)
def R_41_2 (xs : Nat × (Nat → Int32)) (d : Nat) (K : Sv → Option Value → Prop) (a1 a2 : Int32) (S : Sv) : Prop := ∀ u3 : Option Value, RN xs d 41 K 2 [some (.ref 12), some (.int a1), some (.int a2), u3] [] S
def R_41_33 (xs : Nat × (Nat → Int32)) (d : Nat) (K : Sv → Option Value → Prop) (a2 : Int32) (S : Sv) : Prop := ∀ u1 u3 : Option Value, RN xs d 41 K 33 [some (.ref 12), u1, some (.int a2), u3] [] S
def R_41_49 (xs : Nat × (Nat → Int32)) (d : Nat) (K : Sv → Option Value → Prop) (a2 a3 : Int32) (S : Sv) : Prop := ∀ u1 : Option Value, RN xs d 41 K 49 [some (.ref 12), u1, some (.int a2), some (.int a3)] [] S
def w_41_2 (xs : Nat × (Nat → Int32)) (d : Nat) (K : Sv → Option Value → Prop) (a1 a2 : Int32) (S : Sv) : Prop :=
  (24 ≤ a2 → (CS xs d 42 (us S 12 3 0) [.ref 12, .int a1] (fun S1 v1 => v1 = none ∧ (R_41_33 xs d K 0 S1)))) ∧ (¬ (24 ≤ a2) → (∃ j2 : Nat, j2 < 24 ∧ a2 = nI j2 ∧ (R_41_2 xs d K a1 (a2 + 1) (us S 14 j2 0))))
set_option maxRecDepth 100000 in
set_option maxHeartbeats 4000000 in
theorem h_41_2 {xs : Nat × (Nat → Int32)} {d : Nat} {K : Sv → Option Value → Prop} {a1 a2 : Int32} {S : Sv} (h : w_41_2 xs d K a1 a2 S) : R_41_2 xs d K a1 a2 S := by
  unfold w_41_2 at h
  unfold R_41_2
  intro u3
  refine rn_iload_n rfl rfl ?_
  refine rn_bipush rfl ?_
  refine rn_icmp_ge rfl (fun hc => ?_) (fun hc => ?_)
  · replace h := h.1 hc
    refine rn_aload_n rfl rfl ?_
    refine rn_iconst rfl ?_
    refine rn_putfield (S' := (us S 12 3 0)) rfl rfl (Nat.le_of_ble_eq_true rfl) (Or.inl rfl) rfl ?_
    refine rn_aload_n rfl rfl ?_
    refine rn_iload_n rfl rfl ?_
    refine rn_virtual rfl (Nat.le_of_ble_eq_true rfl) (Nat.le_of_ble_eq_true rfl) rfl rfl (as := [.ref 12, .int a1]) (rest := []) rfl rfl rfl (cs_mono h (fun S1 v1 h => ?_))
    obtain ⟨rfl, h⟩ := h
    refine rn_iconst rfl ?_
    refine rn_istore_n rfl rfl ?_
    exact h _ _
  · replace h := h.2 hc
    refine rn_aload_n rfl rfl ?_
    refine rn_getfield rfl rfl rfl ?_
    refine rn_iload_n rfl rfl ?_
    refine rn_iconst rfl ?_
    obtain ⟨j2, hj2, ej2, h⟩ := h
    refine rn_bastore (j := j2) (S' := (us S 14 j2 0)) rfl rfl (Nat.le_of_ble_eq_true rfl) ej2 hj2 (by decide) rfl ?_
    refine rn_iinc rfl rfl rfl ?_
    refine rn_goto rfl ?_
    exact h _
def w_41_33 (xs : Nat × (Nat → Int32)) (d : Nat) (K : Sv → Option Value → Prop) (a2 : Int32) (S : Sv) : Prop :=
  (24 ≤ a2 → (K S none)) ∧ (¬ (24 ≤ a2) → (((S 12 3) ≤ a2 → (K S none)) ∧ (¬ ((S 12 3) ≤ a2) → (R_41_49 xs d K a2 0 S))))
set_option maxRecDepth 100000 in
set_option maxHeartbeats 4000000 in
theorem h_41_33 {xs : Nat × (Nat → Int32)} {d : Nat} {K : Sv → Option Value → Prop} {a2 : Int32} {S : Sv} (h : w_41_33 xs d K a2 S) : R_41_33 xs d K a2 S := by
  unfold w_41_33 at h
  unfold R_41_33
  intro u1 u3
  refine rn_iload_n rfl rfl ?_
  refine rn_bipush rfl ?_
  refine rn_icmp_ge rfl (fun hc => ?_) (fun hc => ?_)
  · replace h := h.1 hc
    exact rn_return rfl rfl h
  · replace h := h.2 hc
    refine rn_iload_n rfl rfl ?_
    refine rn_aload_n rfl rfl ?_
    refine rn_getfield rfl rfl rfl ?_
    refine rn_icmp_ge rfl (fun hc => ?_) (fun hc => ?_)
    · replace h := h.1 hc
      exact rn_return rfl rfl h
    · replace h := h.2 hc
      refine rn_iconst rfl ?_
      refine rn_istore_n rfl rfl ?_
      exact h _
def w_41_49 (xs : Nat × (Nat → Int32)) (d : Nat) (K : Sv → Option Value → Prop) (a2 a3 : Int32) (S : Sv) : Prop :=
  (2 ≤ a3 → (R_41_33 xs d K (a2 + 1) S)) ∧ (¬ (2 ≤ a3) → (∃ j1 : Nat, j1 < 24 ∧ a2 = nI j1 ∧ (CS xs d 38 S [.ref 8, .int (S 13 j1), .int a3] (fun S2 v2 => ∃ r2 : Int32, v2 = some (.int r2) ∧ (CS xs d 42 S2 [.ref 12, .int r2] (fun S3 v3 => v3 = none ∧ (R_41_49 xs d K a2 (a3 + 1) S3)))))))
set_option maxRecDepth 100000 in
set_option maxHeartbeats 4000000 in
theorem h_41_49 {xs : Nat × (Nat → Int32)} {d : Nat} {K : Sv → Option Value → Prop} {a2 a3 : Int32} {S : Sv} (h : w_41_49 xs d K a2 a3 S) : R_41_49 xs d K a2 a3 S := by
  unfold w_41_49 at h
  unfold R_41_49
  intro u1
  refine rn_iload_n rfl rfl ?_
  refine rn_iconst rfl ?_
  refine rn_icmp_ge rfl (fun hc => ?_) (fun hc => ?_)
  · replace h := h.1 hc
    refine rn_iinc rfl rfl rfl ?_
    refine rn_goto rfl ?_
    exact h _ _
  · replace h := h.2 hc
    refine rn_aload_n rfl rfl ?_
    refine rn_aload_n rfl rfl ?_
    refine rn_getfield rfl rfl rfl ?_
    refine rn_aload_n rfl rfl ?_
    refine rn_getfield rfl rfl rfl ?_
    refine rn_iload_n rfl rfl ?_
    obtain ⟨j1, hj1, ej1, h⟩ := h
    refine rn_iaload (j := j1) rfl rfl (Nat.le_of_ble_eq_true rfl) ej1 hj1 ?_
    refine rn_iload_n rfl rfl ?_
    refine rn_virtual rfl (Nat.le_of_ble_eq_true rfl) (Nat.le_of_ble_eq_true rfl) rfl rfl (as := [.ref 8, .int (S 13 j1), .int a3]) (rest := [.ref 12]) rfl rfl rfl (cs_mono h (fun S2 v2 h => ?_))
    obtain ⟨r2, rfl, h⟩ := h
    refine rn_virtual rfl (Nat.le_of_ble_eq_true rfl) (Nat.le_of_ble_eq_true rfl) rfl rfl (as := [.ref 12, .int r2]) (rest := []) rfl rfl rfl (cs_mono h (fun S3 v3 h => ?_))
    obtain ⟨rfl, h⟩ := h
    refine rn_iinc rfl rfl rfl ?_
    refine rn_goto rfl ?_
    exact h _
def w_41 (xs : Nat × (Nat → Int32)) (d : Nat) (K : Sv → Option Value → Prop) (a1 : Int32) (S : Sv) : Prop :=
  R_41_2 xs d K a1 0 S
set_option maxRecDepth 100000 in
set_option maxHeartbeats 4000000 in
theorem c_41 {xs : Nat × (Nat → Int32)} {d : Nat} {K : Sv → Option Value → Prop} {a1 : Int32} {S : Sv} (h : w_41 xs d K a1 S) : CS xs (d + 1) 41 S [.ref 12, .int a1] K := by
  unfold w_41 at h
  refine cs_in rfl rfl rfl rfl ?_
  refine rn_iconst rfl ?_
  refine rn_istore_n rfl rfl ?_
  exact h _
-- ReplayedBeans$Reach.visit(I)V (number 42)
def w_42 (xs : Nat × (Nat → Int32)) (d : Nat) (K : Sv → Option Value → Prop) (a1 : Int32) (S : Sv) : Prop :=
  CS xs d 31 S [.ref 8, .int a1] (fun S1 v1 => ∃ r1 : Int32, v1 = some (.int r1) ∧ ((r1 = 0 → (K S1 none)) ∧ (¬ (r1 = 0) → (∃ j2 : Nat, j2 < 24 ∧ a1 = nI j2 ∧ ((¬ (S1 14 j2) = 0 → (K S1 none)) ∧ (¬ (¬ (S1 14 j2) = 0) → (∃ j3 : Nat, j3 < 24 ∧ a1 = nI j3 ∧ (∃ j4 : Nat, j4 < 24 ∧ (S1 12 3) = nI j4 ∧ (K (us (us (us S1 14 j3 1) 13 j4 a1) 12 3 ((S1 12 3) + 1)) none)))))))))
set_option maxRecDepth 100000 in
set_option maxHeartbeats 4000000 in
theorem c_42 {xs : Nat × (Nat → Int32)} {d : Nat} {K : Sv → Option Value → Prop} {a1 : Int32} {S : Sv} (h : w_42 xs d K a1 S) : CS xs (d + 1) 42 S [.ref 12, .int a1] K := by
  unfold w_42 at h
  refine cs_in rfl rfl rfl rfl ?_
  refine rn_aload_n rfl rfl ?_
  refine rn_getfield rfl rfl rfl ?_
  refine rn_iload_n rfl rfl ?_
  refine rn_virtual rfl (Nat.le_of_ble_eq_true rfl) (Nat.le_of_ble_eq_true rfl) rfl rfl (as := [.ref 8, .int a1]) (rest := []) rfl rfl rfl (cs_mono h (fun S1 v1 h => ?_))
  obtain ⟨r1, rfl, h⟩ := h
  refine rn_if_eq rfl (fun hc => ?_) (fun hc => ?_)
  · replace h := h.1 hc
    exact rn_return rfl rfl h
  · replace h := h.2 hc
    refine rn_aload_n rfl rfl ?_
    refine rn_getfield rfl rfl rfl ?_
    refine rn_iload_n rfl rfl ?_
    obtain ⟨j2, hj2, ej2, h⟩ := h
    refine rn_baload (j := j2) rfl rfl (Nat.le_of_ble_eq_true rfl) ej2 hj2 ?_
    refine rn_if_ne rfl (fun hc => ?_) (fun hc => ?_)
    · replace h := h.1 hc
      exact rn_return rfl rfl h
    · replace h := h.2 hc
      refine rn_aload_n rfl rfl ?_
      refine rn_getfield rfl rfl rfl ?_
      refine rn_iload_n rfl rfl ?_
      refine rn_iconst rfl ?_
      obtain ⟨j3, hj3, ej3, h⟩ := h
      refine rn_bastore (j := j3) (S' := (us S1 14 j3 1)) rfl rfl (Nat.le_of_ble_eq_true rfl) ej3 hj3 (by decide) rfl ?_
      refine rn_aload_n rfl rfl ?_
      refine rn_getfield rfl rfl rfl ?_
      refine rn_aload_n rfl rfl ?_
      refine rn_getfield rfl rfl rfl ?_
      refine rn_iload_n rfl rfl ?_
      obtain ⟨j4, hj4, ej4, h⟩ := h
      refine rn_iastore (j := j4) (S' := (us (us S1 14 j3 1) 13 j4 a1)) rfl rfl (Nat.le_of_ble_eq_true rfl) ej4 hj4 rfl ?_
      refine rn_aload_n rfl rfl ?_
      refine rn_dup rfl rfl ?_
      refine rn_getfield rfl rfl rfl ?_
      refine rn_iconst rfl ?_
      refine rn_iadd rfl ?_
      refine rn_putfield (S' := (us (us (us S1 14 j3 1) 13 j4 a1) 12 3 ((S1 12 3) + 1))) rfl rfl (Nat.le_of_ble_eq_true rfl) (Or.inl rfl) rfl ?_
      exact rn_return rfl rfl h
end
section
-- ReplayedBeans$Pairing.pairsUp(II)Z (number 44)
def R_44_58 (xs : Nat × (Nat → Int32)) (d : Nat) (K : Sv → Option Value → Prop) (a3 : Int32) (S : Sv) : Prop := ∀ u1 u2 u4 : Option Value, RN xs d 44 K 58 [some (.ref 15), u1, u2, some (.int a3), u4] [] S
def w_44_58 (xs : Nat × (Nat → Int32)) (d : Nat) (K : Sv → Option Value → Prop) (a3 : Int32) (S : Sv) : Prop :=
  (24 ≤ a3 → (K S (some (.int 1)))) ∧ (¬ (24 ≤ a3) → (((S 15 4) ≤ a3 → (K S (some (.int 1)))) ∧ (¬ ((S 15 4) ≤ a3) → (∃ j1 : Nat, j1 < 24 ∧ a3 = nI j1 ∧ (∃ j2 : Nat, j2 < 24 ∧ (S 16 j1) = nI j2 ∧ (CS xs d 45 S [.ref 15, .int (S 16 j1), .int (S 17 j2)] (fun S3 v3 => ∃ r3 : Int32, v3 = some (.int r3) ∧ ((¬ r3 = 0 → (R_44_58 xs d K (a3 + 1) S3)) ∧ (¬ (¬ r3 = 0) → (K S3 (some (.int 0))))))))))))
set_option maxRecDepth 100000 in
set_option maxHeartbeats 4000000 in
theorem h_44_58 {xs : Nat × (Nat → Int32)} {d : Nat} {K : Sv → Option Value → Prop} {a3 : Int32} {S : Sv} (h : w_44_58 xs d K a3 S) : R_44_58 xs d K a3 S := by
  unfold w_44_58 at h
  unfold R_44_58
  intro u1 u2 u4
  refine rn_iload_n rfl rfl ?_
  refine rn_bipush rfl ?_
  refine rn_icmp_ge rfl (fun hc => ?_) (fun hc => ?_)
  · replace h := h.1 hc
    refine rn_iconst rfl ?_
    exact rn_ireturn rfl rfl (by decide) h
  · replace h := h.2 hc
    refine rn_iload_n rfl rfl ?_
    refine rn_aload_n rfl rfl ?_
    refine rn_getfield rfl rfl rfl ?_
    refine rn_icmp_ge rfl (fun hc => ?_) (fun hc => ?_)
    · replace h := h.1 hc
      refine rn_iconst rfl ?_
      exact rn_ireturn rfl rfl (by decide) h
    · replace h := h.2 hc
      refine rn_aload_n rfl rfl ?_
      refine rn_getfield rfl rfl rfl ?_
      refine rn_iload_n rfl rfl ?_
      obtain ⟨j1, hj1, ej1, h⟩ := h
      refine rn_iaload (j := j1) rfl rfl (Nat.le_of_ble_eq_true rfl) ej1 hj1 ?_
      refine rn_istore rfl rfl ?_
      refine rn_aload_n rfl rfl ?_
      refine rn_iload rfl rfl ?_
      refine rn_aload_n rfl rfl ?_
      refine rn_getfield rfl rfl rfl ?_
      refine rn_iload rfl rfl ?_
      obtain ⟨j2, hj2, ej2, h⟩ := h
      refine rn_iaload (j := j2) rfl rfl (Nat.le_of_ble_eq_true rfl) ej2 hj2 ?_
      refine rn_virtual rfl (Nat.le_of_ble_eq_true rfl) (Nat.le_of_ble_eq_true rfl) rfl rfl (as := [.ref 15, .int (S 16 j1), .int (S 17 j2)]) (rest := []) rfl rfl rfl (cs_mono h (fun S3 v3 h => ?_))
      obtain ⟨r3, rfl, h⟩ := h
      refine rn_if_ne rfl (fun hc => ?_) (fun hc => ?_)
      · replace h := h.1 hc
        refine rn_iinc rfl rfl rfl ?_
        refine rn_goto rfl ?_
        exact h _ _ _
      · replace h := h.2 hc
        refine rn_iconst rfl ?_
        exact rn_ireturn rfl rfl (by decide) h
def w_44 (xs : Nat × (Nat → Int32)) (d : Nat) (K : Sv → Option Value → Prop) (a1 a2 : Int32) (S : Sv) : Prop :=
  CS xs d 31 S [.ref 8, .int a1] (fun S1 v1 => ∃ r1 : Int32, v1 = some (.int r1) ∧ ((r1 = 0 → (K S1 (some (.int 0)))) ∧ (¬ (r1 = 0) → (CS xs d 31 S1 [.ref 8, .int a2] (fun S2 v2 => ∃ r2 : Int32, v2 = some (.int r2) ∧ ((¬ r2 = 0 → (CS xs d 0 S2 [.ref 17, .int (-1)] (fun S3 v3 => v3 = none ∧ (CS xs d 0 S3 [.ref 18, .int (-1)] (fun S4 v4 => v4 = none ∧ (CS xs d 47 (us S4 15 4 0) [.ref 15, .int a1, .int a2] (fun S5 v5 => ∃ r5 : Int32, v5 = some (.int r5) ∧ ((¬ r5 = 0 → (R_44_58 xs d K 0 S5)) ∧ (¬ (¬ r5 = 0) → (K S5 (some (.int 0)))))))))))) ∧ (¬ (¬ r2 = 0) → (K S2 (some (.int 0))))))))))
set_option maxRecDepth 100000 in
set_option maxHeartbeats 4000000 in
theorem c_44 {xs : Nat × (Nat → Int32)} {d : Nat} {K : Sv → Option Value → Prop} {a1 a2 : Int32} {S : Sv} (h : w_44 xs d K a1 a2 S) : CS xs (d + 1) 44 S [.ref 15, .int a1, .int a2] K := by
  unfold w_44 at h
  refine cs_in rfl rfl rfl rfl ?_
  refine rn_aload_n rfl rfl ?_
  refine rn_getfield rfl rfl rfl ?_
  refine rn_iload_n rfl rfl ?_
  refine rn_virtual rfl (Nat.le_of_ble_eq_true rfl) (Nat.le_of_ble_eq_true rfl) rfl rfl (as := [.ref 8, .int a1]) (rest := []) rfl rfl rfl (cs_mono h (fun S1 v1 h => ?_))
  obtain ⟨r1, rfl, h⟩ := h
  refine rn_if_eq rfl (fun hc => ?_) (fun hc => ?_)
  · replace h := h.1 hc
    refine rn_iconst rfl ?_
    exact rn_ireturn rfl rfl (by decide) h
  · replace h := h.2 hc
    refine rn_aload_n rfl rfl ?_
    refine rn_getfield rfl rfl rfl ?_
    refine rn_iload_n rfl rfl ?_
    refine rn_virtual rfl (Nat.le_of_ble_eq_true rfl) (Nat.le_of_ble_eq_true rfl) rfl rfl (as := [.ref 8, .int a2]) (rest := []) rfl rfl rfl (cs_mono h (fun S2 v2 h => ?_))
    obtain ⟨r2, rfl, h⟩ := h
    refine rn_if_ne rfl (fun hc => ?_) (fun hc => ?_)
    · replace h := h.1 hc
      refine rn_aload_n rfl rfl ?_
      refine rn_getfield rfl rfl rfl ?_
      refine rn_iconst rfl ?_
      refine rn_static rfl (Nat.le_of_ble_eq_true rfl) (Nat.le_of_ble_eq_true rfl) rfl rfl (as := [.ref 17, .int (-1)]) (rest := []) rfl rfl (cs_mono h (fun S3 v3 h => ?_))
      obtain ⟨rfl, h⟩ := h
      refine rn_aload_n rfl rfl ?_
      refine rn_getfield rfl rfl rfl ?_
      refine rn_iconst rfl ?_
      refine rn_static rfl (Nat.le_of_ble_eq_true rfl) (Nat.le_of_ble_eq_true rfl) rfl rfl (as := [.ref 18, .int (-1)]) (rest := []) rfl rfl (cs_mono h (fun S4 v4 h => ?_))
      obtain ⟨rfl, h⟩ := h
      refine rn_aload_n rfl rfl ?_
      refine rn_iconst rfl ?_
      refine rn_putfield (S' := (us S4 15 4 0)) rfl rfl (Nat.le_of_ble_eq_true rfl) (Or.inl rfl) rfl ?_
      refine rn_aload_n rfl rfl ?_
      refine rn_iload_n rfl rfl ?_
      refine rn_iload_n rfl rfl ?_
      refine rn_virtual rfl (Nat.le_of_ble_eq_true rfl) (Nat.le_of_ble_eq_true rfl) rfl rfl (as := [.ref 15, .int a1, .int a2]) (rest := []) rfl rfl rfl (cs_mono h (fun S5 v5 h => ?_))
      obtain ⟨r5, rfl, h⟩ := h
      refine rn_if_ne rfl (fun hc => ?_) (fun hc => ?_)
      · replace h := h.1 hc
        refine rn_iconst rfl ?_
        refine rn_istore_n rfl rfl ?_
        exact h _ _ _
      · replace h := h.2 hc
        refine rn_iconst rfl ?_
        exact rn_ireturn rfl rfl (by decide) h
    · replace h := h.2 hc
      refine rn_iconst rfl ?_
      exact rn_ireturn rfl rfl (by decide) h
-- ReplayedBeans$Pairing.linksPairUp(II)Z (number 45)
def R_45_2 (xs : Nat × (Nat → Int32)) (d : Nat) (K : Sv → Option Value → Prop) (a1 a2 a3 : Int32) (S : Sv) : Prop := RN xs d 45 K 2 [some (.ref 15), some (.int a1), some (.int a2), some (.int a3)] [] S
def w_45_2 (xs : Nat × (Nat → Int32)) (d : Nat) (K : Sv → Option Value → Prop) (a1 a2 a3 : Int32) (S : Sv) : Prop :=
  (2 ≤ a3 → (K S (some (.int 1)))) ∧ (¬ (2 ≤ a3) → (CS xs d 38 S [.ref 8, .int a1, .int a3] (fun S1 v1 => ∃ r1 : Int32, v1 = some (.int r1) ∧ (CS xs d 38 S1 [.ref 8, .int a2, .int a3] (fun S2 v2 => ∃ r2 : Int32, v2 = some (.int r2) ∧ (CS xs d 46 S2 [.ref 15, .int r1, .int r2] (fun S3 v3 => ∃ r3 : Int32, v3 = some (.int r3) ∧ ((¬ r3 = 0 → (R_45_2 xs d K a1 a2 (a3 + 1) S3)) ∧ (¬ (¬ r3 = 0) → (K S3 (some (.int 0))))))))))))
set_option maxRecDepth 100000 in
set_option maxHeartbeats 4000000 in
theorem h_45_2 {xs : Nat × (Nat → Int32)} {d : Nat} {K : Sv → Option Value → Prop} {a1 a2 a3 : Int32} {S : Sv} (h : w_45_2 xs d K a1 a2 a3 S) : R_45_2 xs d K a1 a2 a3 S := by
  unfold w_45_2 at h
  unfold R_45_2
  refine rn_iload_n rfl rfl ?_
  refine rn_iconst rfl ?_
  refine rn_icmp_ge rfl (fun hc => ?_) (fun hc => ?_)
  · replace h := h.1 hc
    refine rn_iconst rfl ?_
    exact rn_ireturn rfl rfl (by decide) h
  · replace h := h.2 hc
    refine rn_aload_n rfl rfl ?_
    refine rn_aload_n rfl rfl ?_
    refine rn_getfield rfl rfl rfl ?_
    refine rn_iload_n rfl rfl ?_
    refine rn_iload_n rfl rfl ?_
    refine rn_virtual rfl (Nat.le_of_ble_eq_true rfl) (Nat.le_of_ble_eq_true rfl) rfl rfl (as := [.ref 8, .int a1, .int a3]) (rest := [.ref 15]) rfl rfl rfl (cs_mono h (fun S1 v1 h => ?_))
    obtain ⟨r1, rfl, h⟩ := h
    refine rn_aload_n rfl rfl ?_
    refine rn_getfield rfl rfl rfl ?_
    refine rn_iload_n rfl rfl ?_
    refine rn_iload_n rfl rfl ?_
    refine rn_virtual rfl (Nat.le_of_ble_eq_true rfl) (Nat.le_of_ble_eq_true rfl) rfl rfl (as := [.ref 8, .int a2, .int a3]) (rest := [.int r1, .ref 15]) rfl rfl rfl (cs_mono h (fun S2 v2 h => ?_))
    obtain ⟨r2, rfl, h⟩ := h
    refine rn_virtual rfl (Nat.le_of_ble_eq_true rfl) (Nat.le_of_ble_eq_true rfl) rfl rfl (as := [.ref 15, .int r1, .int r2]) (rest := []) rfl rfl rfl (cs_mono h (fun S3 v3 h => ?_))
    obtain ⟨r3, rfl, h⟩ := h
    refine rn_if_ne rfl (fun hc => ?_) (fun hc => ?_)
    · replace h := h.1 hc
      refine rn_iinc rfl rfl rfl ?_
      refine rn_goto rfl ?_
      exact h
    · replace h := h.2 hc
      refine rn_iconst rfl ?_
      exact rn_ireturn rfl rfl (by decide) h
def w_45 (xs : Nat × (Nat → Int32)) (d : Nat) (K : Sv → Option Value → Prop) (a1 a2 : Int32) (S : Sv) : Prop :=
  R_45_2 xs d K a1 a2 0 S
set_option maxRecDepth 100000 in
set_option maxHeartbeats 4000000 in
theorem c_45 {xs : Nat × (Nat → Int32)} {d : Nat} {K : Sv → Option Value → Prop} {a1 a2 : Int32} {S : Sv} (h : w_45 xs d K a1 a2 S) : CS xs (d + 1) 45 S [.ref 15, .int a1, .int a2] K := by
  unfold w_45 at h
  refine cs_in rfl rfl rfl rfl ?_
  refine rn_iconst rfl ?_
  refine rn_istore_n rfl rfl ?_
  exact h
-- ReplayedBeans$Pairing.joinOrBothNone(II)Z (number 46)
def w_46 (xs : Nat × (Nat → Int32)) (d : Nat) (K : Sv → Option Value → Prop) (a1 a2 : Int32) (S : Sv) : Prop :=
  CS xs d 31 S [.ref 8, .int a1] (fun S1 v1 => ∃ r1 : Int32, v1 = some (.int r1) ∧ ((r1 = 0 → ((¬ a1 = a2 → (K S1 (some (.int 0)))) ∧ (¬ (¬ a1 = a2) → (K S1 (some (.int 1)))))) ∧ (¬ (r1 = 0) → (CS xs d 31 S1 [.ref 8, .int a2] (fun S2 v2 => ∃ r2 : Int32, v2 = some (.int r2) ∧ ((¬ r2 = 0 → (CS xs d 47 S2 [.ref 15, .int a1, .int a2] (fun S3 v3 => ∃ r3 : Int32, v3 = some (.int r3) ∧ ((r3 = 0 ∨ r3 = 1) ∧ K S3 (some (.int r3)))))) ∧ (¬ (¬ r2 = 0) → ((¬ a1 = a2 → (K S2 (some (.int 0)))) ∧ (¬ (¬ a1 = a2) → (K S2 (some (.int 1))))))))))))
set_option maxRecDepth 100000 in
set_option maxHeartbeats 4000000 in
theorem c_46 {xs : Nat × (Nat → Int32)} {d : Nat} {K : Sv → Option Value → Prop} {a1 a2 : Int32} {S : Sv} (h : w_46 xs d K a1 a2 S) : CS xs (d + 1) 46 S [.ref 15, .int a1, .int a2] K := by
  unfold w_46 at h
  refine cs_in rfl rfl rfl rfl ?_
  refine rn_aload_n rfl rfl ?_
  refine rn_getfield rfl rfl rfl ?_
  refine rn_iload_n rfl rfl ?_
  refine rn_virtual rfl (Nat.le_of_ble_eq_true rfl) (Nat.le_of_ble_eq_true rfl) rfl rfl (as := [.ref 8, .int a1]) (rest := []) rfl rfl rfl (cs_mono h (fun S1 v1 h => ?_))
  obtain ⟨r1, rfl, h⟩ := h
  refine rn_if_eq rfl (fun hc => ?_) (fun hc => ?_)
  · replace h := h.1 hc
    refine rn_iload_n rfl rfl ?_
    refine rn_iload_n rfl rfl ?_
    refine rn_icmp_ne rfl (fun hc => ?_) (fun hc => ?_)
    · replace h := h.1 hc
      refine rn_iconst rfl ?_
      exact rn_ireturn rfl rfl (by decide) h
    · replace h := h.2 hc
      refine rn_iconst rfl ?_
      refine rn_goto rfl ?_
      exact rn_ireturn rfl rfl (by decide) h
  · replace h := h.2 hc
    refine rn_aload_n rfl rfl ?_
    refine rn_getfield rfl rfl rfl ?_
    refine rn_iload_n rfl rfl ?_
    refine rn_virtual rfl (Nat.le_of_ble_eq_true rfl) (Nat.le_of_ble_eq_true rfl) rfl rfl (as := [.ref 8, .int a2]) (rest := []) rfl rfl rfl (cs_mono h (fun S2 v2 h => ?_))
    obtain ⟨r2, rfl, h⟩ := h
    refine rn_if_ne rfl (fun hc => ?_) (fun hc => ?_)
    · replace h := h.1 hc
      refine rn_aload_n rfl rfl ?_
      refine rn_iload_n rfl rfl ?_
      refine rn_iload_n rfl rfl ?_
      refine rn_virtual rfl (Nat.le_of_ble_eq_true rfl) (Nat.le_of_ble_eq_true rfl) rfl rfl (as := [.ref 15, .int a1, .int a2]) (rest := []) rfl rfl rfl (cs_mono h (fun S3 v3 h => ?_))
      obtain ⟨r3, rfl, h⟩ := h
      exact rn_ireturn rfl rfl (nar_z h.1) h.2
    · replace h := h.2 hc
      refine rn_iload_n rfl rfl ?_
      refine rn_iload_n rfl rfl ?_
      refine rn_icmp_ne rfl (fun hc => ?_) (fun hc => ?_)
      · replace h := h.1 hc
        refine rn_iconst rfl ?_
        exact rn_ireturn rfl rfl (by decide) h
      · replace h := h.2 hc
        refine rn_iconst rfl ?_
        refine rn_goto rfl ?_
        exact rn_ireturn rfl rfl (by decide) h
-- ReplayedBeans$Pairing.join(II)Z (number 47)
def w_47 (xs : Nat × (Nat → Int32)) (d : Nat) (K : Sv → Option Value → Prop) (a1 a2 : Int32) (S : Sv) : Prop :=
  ∃ j1 : Nat, j1 < 24 ∧ a1 = nI j1 ∧ ((¬ (S 17 j1) = (-1) → (∃ j2 : Nat, j2 < 24 ∧ a1 = nI j2 ∧ ((¬ (S 17 j2) = a2 → (K S (some (.int 0)))) ∧ (¬ (¬ (S 17 j2) = a2) → (K S (some (.int 1))))))) ∧ (¬ (¬ (S 17 j1) = (-1)) → (∃ j3 : Nat, j3 < 24 ∧ a2 = nI j3 ∧ (((S 18 j3) = (-1) → (CS xs d 39 S [.ref 8, .int a1, .int a2] (fun S4 v4 => ∃ r4 : Int32, v4 = some (.int r4) ∧ ((¬ r4 = 0 → (∃ j5 : Nat, j5 < 24 ∧ a1 = nI j5 ∧ (∃ j6 : Nat, j6 < 24 ∧ a2 = nI j6 ∧ (∃ j7 : Nat, j7 < 24 ∧ (S4 15 4) = nI j7 ∧ (K (us (us (us (us S4 17 j5 a2) 18 j6 a1) 16 j7 a1) 15 4 ((S4 15 4) + 1)) (some (.int 1))))))) ∧ (¬ (¬ r4 = 0) → (K S4 (some (.int 0)))))))) ∧ (¬ ((S 18 j3) = (-1)) → (∃ j8 : Nat, j8 < 24 ∧ a1 = nI j8 ∧ ((¬ (S 17 j8) = a2 → (K S (some (.int 0)))) ∧ (¬ (¬ (S 17 j8) = a2) → (K S (some (.int 1)))))))))))
set_option maxRecDepth 100000 in
set_option maxHeartbeats 4000000 in
theorem c_47 {xs : Nat × (Nat → Int32)} {d : Nat} {K : Sv → Option Value → Prop} {a1 a2 : Int32} {S : Sv} (h : w_47 xs d K a1 a2 S) : CS xs (d + 1) 47 S [.ref 15, .int a1, .int a2] K := by
  unfold w_47 at h
  refine cs_in rfl rfl rfl rfl ?_
  refine rn_aload_n rfl rfl ?_
  refine rn_getfield rfl rfl rfl ?_
  refine rn_iload_n rfl rfl ?_
  obtain ⟨j1, hj1, ej1, h⟩ := h
  refine rn_iaload (j := j1) rfl rfl (Nat.le_of_ble_eq_true rfl) ej1 hj1 ?_
  refine rn_iconst rfl ?_
  refine rn_icmp_ne rfl (fun hc => ?_) (fun hc => ?_)
  · replace h := h.1 hc
    refine rn_aload_n rfl rfl ?_
    refine rn_getfield rfl rfl rfl ?_
    refine rn_iload_n rfl rfl ?_
    obtain ⟨j2, hj2, ej2, h⟩ := h
    refine rn_iaload (j := j2) rfl rfl (Nat.le_of_ble_eq_true rfl) ej2 hj2 ?_
    refine rn_iload_n rfl rfl ?_
    refine rn_icmp_ne rfl (fun hc => ?_) (fun hc => ?_)
    · replace h := h.1 hc
      refine rn_iconst rfl ?_
      exact rn_ireturn rfl rfl (by decide) h
    · replace h := h.2 hc
      refine rn_iconst rfl ?_
      refine rn_goto rfl ?_
      exact rn_ireturn rfl rfl (by decide) h
  · replace h := h.2 hc
    refine rn_aload_n rfl rfl ?_
    refine rn_getfield rfl rfl rfl ?_
    refine rn_iload_n rfl rfl ?_
    obtain ⟨j3, hj3, ej3, h⟩ := h
    refine rn_iaload (j := j3) rfl rfl (Nat.le_of_ble_eq_true rfl) ej3 hj3 ?_
    refine rn_iconst rfl ?_
    refine rn_icmp_eq rfl (fun hc => ?_) (fun hc => ?_)
    · replace h := h.1 hc
      refine rn_aload_n rfl rfl ?_
      refine rn_getfield rfl rfl rfl ?_
      refine rn_iload_n rfl rfl ?_
      refine rn_iload_n rfl rfl ?_
      refine rn_virtual rfl (Nat.le_of_ble_eq_true rfl) (Nat.le_of_ble_eq_true rfl) rfl rfl (as := [.ref 8, .int a1, .int a2]) (rest := []) rfl rfl rfl (cs_mono h (fun S4 v4 h => ?_))
      obtain ⟨r4, rfl, h⟩ := h
      refine rn_if_ne rfl (fun hc => ?_) (fun hc => ?_)
      · replace h := h.1 hc
        refine rn_aload_n rfl rfl ?_
        refine rn_getfield rfl rfl rfl ?_
        refine rn_iload_n rfl rfl ?_
        refine rn_iload_n rfl rfl ?_
        obtain ⟨j5, hj5, ej5, h⟩ := h
        refine rn_iastore (j := j5) (S' := (us S4 17 j5 a2)) rfl rfl (Nat.le_of_ble_eq_true rfl) ej5 hj5 rfl ?_
        refine rn_aload_n rfl rfl ?_
        refine rn_getfield rfl rfl rfl ?_
        refine rn_iload_n rfl rfl ?_
        refine rn_iload_n rfl rfl ?_
        obtain ⟨j6, hj6, ej6, h⟩ := h
        refine rn_iastore (j := j6) (S' := (us (us S4 17 j5 a2) 18 j6 a1)) rfl rfl (Nat.le_of_ble_eq_true rfl) ej6 hj6 rfl ?_
        refine rn_aload_n rfl rfl ?_
        refine rn_getfield rfl rfl rfl ?_
        refine rn_aload_n rfl rfl ?_
        refine rn_getfield rfl rfl rfl ?_
        refine rn_iload_n rfl rfl ?_
        obtain ⟨j7, hj7, ej7, h⟩ := h
        refine rn_iastore (j := j7) (S' := (us (us (us S4 17 j5 a2) 18 j6 a1) 16 j7 a1)) rfl rfl (Nat.le_of_ble_eq_true rfl) ej7 hj7 rfl ?_
        refine rn_aload_n rfl rfl ?_
        refine rn_dup rfl rfl ?_
        refine rn_getfield rfl rfl rfl ?_
        refine rn_iconst rfl ?_
        refine rn_iadd rfl ?_
        refine rn_putfield (S' := (us (us (us (us S4 17 j5 a2) 18 j6 a1) 16 j7 a1) 15 4 ((S4 15 4) + 1))) rfl rfl (Nat.le_of_ble_eq_true rfl) (Or.inl rfl) rfl ?_
        refine rn_iconst rfl ?_
        exact rn_ireturn rfl rfl (by decide) h
      · replace h := h.2 hc
        refine rn_iconst rfl ?_
        exact rn_ireturn rfl rfl (by decide) h
    · replace h := h.2 hc
      refine rn_aload_n rfl rfl ?_
      refine rn_getfield rfl rfl rfl ?_
      refine rn_iload_n rfl rfl ?_
      obtain ⟨j8, hj8, ej8, h⟩ := h
      refine rn_iaload (j := j8) rfl rfl (Nat.le_of_ble_eq_true rfl) ej8 hj8 ?_
      refine rn_iload_n rfl rfl ?_
      refine rn_icmp_ne rfl (fun hc => ?_) (fun hc => ?_)
      · replace h := h.1 hc
        refine rn_iconst rfl ?_
        exact rn_ireturn rfl rfl (by decide) h
      · replace h := h.2 hc
        refine rn_iconst rfl ?_
        refine rn_goto rfl ?_
        exact rn_ireturn rfl rfl (by decide) h
end
section
-- ReplayedBeans$Writer.draftFrom(I)V (number 53)
def R_53_30 (xs : Nat × (Nat → Int32)) (d : Nat) (K : Sv → Option Value → Prop) (a1 a2 : Int32) (S : Sv) : Prop := RN xs d 53 K 30 [some (.ref 21), some (.int a1), some (.int a2)] [] S
def w_53_30 (xs : Nat × (Nat → Int32)) (d : Nat) (K : Sv → Option Value → Prop) (a1 a2 : Int32) (S : Sv) : Prop :=
  (24 ≤ a2 → (CS xs d 54 S [.ref 21] (fun S1 v1 => v1 = none ∧ (CS xs d 56 S1 [.ref 21, .int a1, .int 1] (fun S2 v2 => v2 = none ∧ (K S2 none)))))) ∧ (¬ (24 ≤ a2) → (∃ j3 : Nat, j3 < 24 ∧ a2 = nI j3 ∧ (R_53_30 xs d K a1 (a2 + 1) (us S 26 j3 0))))
set_option maxRecDepth 100000 in
set_option maxHeartbeats 4000000 in
theorem h_53_30 {xs : Nat × (Nat → Int32)} {d : Nat} {K : Sv → Option Value → Prop} {a1 a2 : Int32} {S : Sv} (h : w_53_30 xs d K a1 a2 S) : R_53_30 xs d K a1 a2 S := by
  unfold w_53_30 at h
  unfold R_53_30
  refine rn_iload_n rfl rfl ?_
  refine rn_bipush rfl ?_
  refine rn_icmp_ge rfl (fun hc => ?_) (fun hc => ?_)
  · replace h := h.1 hc
    refine rn_aload_n rfl rfl ?_
    refine rn_virtual rfl (Nat.le_of_ble_eq_true rfl) (Nat.le_of_ble_eq_true rfl) rfl rfl (as := [.ref 21]) (rest := []) rfl rfl rfl (cs_mono h (fun S1 v1 h => ?_))
    obtain ⟨rfl, h⟩ := h
    refine rn_aload_n rfl rfl ?_
    refine rn_iload_n rfl rfl ?_
    refine rn_iconst rfl ?_
    refine rn_virtual rfl (Nat.le_of_ble_eq_true rfl) (Nat.le_of_ble_eq_true rfl) rfl rfl (as := [.ref 21, .int a1, .int 1]) (rest := []) rfl rfl rfl (cs_mono h (fun S2 v2 h => ?_))
    obtain ⟨rfl, h⟩ := h
    exact rn_return rfl rfl h
  · replace h := h.2 hc
    refine rn_aload_n rfl rfl ?_
    refine rn_getfield rfl rfl rfl ?_
    refine rn_iload_n rfl rfl ?_
    refine rn_iconst rfl ?_
    obtain ⟨j3, hj3, ej3, h⟩ := h
    refine rn_bastore (j := j3) (S' := (us S 26 j3 0)) rfl rfl (Nat.le_of_ble_eq_true rfl) ej3 hj3 (by decide) rfl ?_
    refine rn_iinc rfl rfl rfl ?_
    refine rn_goto rfl ?_
    exact h
def w_53 (xs : Nat × (Nat → Int32)) (d : Nat) (K : Sv → Option Value → Prop) (a1 : Int32) (S : Sv) : Prop :=
  R_53_30 xs d K a1 0 (us (us (us (us (us S 22 1 0) 21 7 a1) 21 8 0) 21 9 0) 21 10 0)
set_option maxRecDepth 100000 in
set_option maxHeartbeats 4000000 in
theorem c_53 {xs : Nat × (Nat → Int32)} {d : Nat} {K : Sv → Option Value → Prop} {a1 : Int32} {S : Sv} (h : w_53 xs d K a1 S) : CS xs (d + 1) 53 S [.ref 21, .int a1] K := by
  unfold w_53 at h
  refine cs_in rfl rfl rfl rfl ?_
  refine rn_aload_n rfl rfl ?_
  refine rn_getfield rfl rfl rfl ?_
  refine rn_iconst rfl ?_
  refine rn_putfield (S' := (us S 22 1 0)) rfl rfl (Nat.le_of_ble_eq_true rfl) (Or.inl rfl) rfl ?_
  refine rn_aload_n rfl rfl ?_
  refine rn_iload_n rfl rfl ?_
  refine rn_putfield (S' := (us (us S 22 1 0) 21 7 a1)) rfl rfl (Nat.le_of_ble_eq_true rfl) (Or.inl rfl) rfl ?_
  refine rn_aload_n rfl rfl ?_
  refine rn_iconst rfl ?_
  refine rn_putfield (S' := (us (us (us S 22 1 0) 21 7 a1) 21 8 0)) rfl rfl (Nat.le_of_ble_eq_true rfl) (Or.inl rfl) rfl ?_
  refine rn_aload_n rfl rfl ?_
  refine rn_iconst rfl ?_
  refine rn_putfield (S' := (us (us (us (us S 22 1 0) 21 7 a1) 21 8 0) 21 9 0)) rfl rfl (Nat.le_of_ble_eq_true rfl) (Or.inr ⟨rfl, Or.inl rfl⟩) rfl ?_
  refine rn_aload_n rfl rfl ?_
  refine rn_iconst rfl ?_
  refine rn_putfield (S' := (us (us (us (us (us S 22 1 0) 21 7 a1) 21 8 0) 21 9 0) 21 10 0)) rfl rfl (Nat.le_of_ble_eq_true rfl) (Or.inr ⟨rfl, Or.inl rfl⟩) rfl ?_
  refine rn_iconst rfl ?_
  refine rn_istore_n rfl rfl ?_
  exact h
-- ReplayedBeans$Writer.countLinks()V (number 54)
def R_54_21 (xs : Nat × (Nat → Int32)) (d : Nat) (K : Sv → Option Value → Prop) (a1 : Int32) (S : Sv) : Prop := ∀ u2 u3 : Option Value, RN xs d 54 K 21 [some (.ref 21), some (.int a1), u2, u3] [] S
def R_54_34 (xs : Nat × (Nat → Int32)) (d : Nat) (K : Sv → Option Value → Prop) (a1 a2 : Int32) (S : Sv) : Prop := ∀ u3 : Option Value, RN xs d 54 K 34 [some (.ref 21), some (.int a1), some (.int a2), u3] [] S
def w_54_21 (xs : Nat × (Nat → Int32)) (d : Nat) (K : Sv → Option Value → Prop) (a1 : Int32) (S : Sv) : Prop :=
  ((S 12 3) ≤ a1 → (K S none)) ∧ (¬ ((S 12 3) ≤ a1) → (R_54_34 xs d K a1 0 S))
set_option maxRecDepth 100000 in
set_option maxHeartbeats 4000000 in
theorem h_54_21 {xs : Nat × (Nat → Int32)} {d : Nat} {K : Sv → Option Value → Prop} {a1 : Int32} {S : Sv} (h : w_54_21 xs d K a1 S) : R_54_21 xs d K a1 S := by
  unfold w_54_21 at h
  unfold R_54_21
  intro u2 u3
  refine rn_iload_n rfl rfl ?_
  refine rn_aload_n rfl rfl ?_
  refine rn_getfield rfl rfl rfl ?_
  refine rn_getfield rfl rfl rfl ?_
  refine rn_icmp_ge rfl (fun hc => ?_) (fun hc => ?_)
  · replace h := h.1 hc
    exact rn_return rfl rfl h
  · replace h := h.2 hc
    refine rn_iconst rfl ?_
    refine rn_istore_n rfl rfl ?_
    exact h _
def w_54_34 (xs : Nat × (Nat → Int32)) (d : Nat) (K : Sv → Option Value → Prop) (a1 a2 : Int32) (S : Sv) : Prop :=
  (2 ≤ a2 → (R_54_21 xs d K (a1 + 1) S)) ∧ (¬ (2 ≤ a2) → (∃ j1 : Nat, j1 < 24 ∧ a1 = nI j1 ∧ (CS xs d 38 S [.ref 8, .int (S 13 j1), .int a2] (fun S2 v2 => ∃ r2 : Int32, v2 = some (.int r2) ∧ (CS xs d 31 S2 [.ref 8, .int r2] (fun S3 v3 => ∃ r3 : Int32, v3 = some (.int r3) ∧ ((r3 = 0 → (R_54_34 xs d K a1 (a2 + 1) S3)) ∧ (¬ (r3 = 0) → (∃ j4 : Nat, j4 < 24 ∧ r2 = nI j4 ∧ (∃ j5 : Nat, j5 < 24 ∧ r2 = nI j5 ∧ (R_54_34 xs d K a1 (a2 + 1) (us S3 24 j5 ((S3 24 j4) + 1)))))))))))))
set_option maxRecDepth 100000 in
set_option maxHeartbeats 4000000 in
theorem h_54_34 {xs : Nat × (Nat → Int32)} {d : Nat} {K : Sv → Option Value → Prop} {a1 a2 : Int32} {S : Sv} (h : w_54_34 xs d K a1 a2 S) : R_54_34 xs d K a1 a2 S := by
  unfold w_54_34 at h
  unfold R_54_34
  intro u3
  refine rn_iload_n rfl rfl ?_
  refine rn_iconst rfl ?_
  refine rn_icmp_ge rfl (fun hc => ?_) (fun hc => ?_)
  · replace h := h.1 hc
    refine rn_iinc rfl rfl rfl ?_
    refine rn_goto rfl ?_
    exact h _ _
  · replace h := h.2 hc
    refine rn_aload_n rfl rfl ?_
    refine rn_getfield rfl rfl rfl ?_
    refine rn_aload_n rfl rfl ?_
    refine rn_getfield rfl rfl rfl ?_
    refine rn_getfield rfl rfl rfl ?_
    refine rn_iload_n rfl rfl ?_
    obtain ⟨j1, hj1, ej1, h⟩ := h
    refine rn_iaload (j := j1) rfl rfl (Nat.le_of_ble_eq_true rfl) ej1 hj1 ?_
    refine rn_iload_n rfl rfl ?_
    refine rn_virtual rfl (Nat.le_of_ble_eq_true rfl) (Nat.le_of_ble_eq_true rfl) rfl rfl (as := [.ref 8, .int (S 13 j1), .int a2]) (rest := []) rfl rfl rfl (cs_mono h (fun S2 v2 h => ?_))
    obtain ⟨r2, rfl, h⟩ := h
    refine rn_istore_n rfl rfl ?_
    refine rn_aload_n rfl rfl ?_
    refine rn_getfield rfl rfl rfl ?_
    refine rn_iload_n rfl rfl ?_
    refine rn_virtual rfl (Nat.le_of_ble_eq_true rfl) (Nat.le_of_ble_eq_true rfl) rfl rfl (as := [.ref 8, .int r2]) (rest := []) rfl rfl rfl (cs_mono h (fun S3 v3 h => ?_))
    obtain ⟨r3, rfl, h⟩ := h
    refine rn_if_eq rfl (fun hc => ?_) (fun hc => ?_)
    · replace h := h.1 hc
      refine rn_iinc rfl rfl rfl ?_
      refine rn_goto rfl ?_
      exact h _
    · replace h := h.2 hc
      refine rn_aload_n rfl rfl ?_
      refine rn_getfield rfl rfl rfl ?_
      refine rn_iload_n rfl rfl ?_
      refine rn_dup2 rfl rfl rfl ?_
      obtain ⟨j4, hj4, ej4, h⟩ := h
      refine rn_iaload (j := j4) rfl rfl (Nat.le_of_ble_eq_true rfl) ej4 hj4 ?_
      refine rn_iconst rfl ?_
      refine rn_iadd rfl ?_
      obtain ⟨j5, hj5, ej5, h⟩ := h
      refine rn_iastore (j := j5) (S' := (us S3 24 j5 ((S3 24 j4) + 1))) rfl rfl (Nat.le_of_ble_eq_true rfl) ej5 hj5 rfl ?_
      refine rn_iinc rfl rfl rfl ?_
      refine rn_goto rfl ?_
      exact h _
def w_54 (xs : Nat × (Nat → Int32)) (d : Nat) (K : Sv → Option Value → Prop) (S : Sv) : Prop :=
  CS xs d 0 S [.ref 24, .int 0] (fun S1 v1 => v1 = none ∧ (CS xs d 41 S1 [.ref 12, .int (S1 21 7)] (fun S2 v2 => v2 = none ∧ (R_54_21 xs d K 0 S2))))
set_option maxRecDepth 100000 in
set_option maxHeartbeats 4000000 in
theorem c_54 {xs : Nat × (Nat → Int32)} {d : Nat} {K : Sv → Option Value → Prop} {S : Sv} (h : w_54 xs d K S) : CS xs (d + 1) 54 S [.ref 21] K := by
  unfold w_54 at h
  refine cs_in rfl rfl rfl rfl ?_
  refine rn_aload_n rfl rfl ?_
  refine rn_getfield rfl rfl rfl ?_
  refine rn_iconst rfl ?_
  refine rn_static rfl (Nat.le_of_ble_eq_true rfl) (Nat.le_of_ble_eq_true rfl) rfl rfl (as := [.ref 24, .int 0]) (rest := []) rfl rfl (cs_mono h (fun S1 v1 h => ?_))
  obtain ⟨rfl, h⟩ := h
  refine rn_aload_n rfl rfl ?_
  refine rn_getfield rfl rfl rfl ?_
  refine rn_aload_n rfl rfl ?_
  refine rn_getfield rfl rfl rfl ?_
  refine rn_virtual rfl (Nat.le_of_ble_eq_true rfl) (Nat.le_of_ble_eq_true rfl) rfl rfl (as := [.ref 12, .int (S1 21 7)]) (rest := []) rfl rfl rfl (cs_mono h (fun S2 v2 h => ?_))
  obtain ⟨rfl, h⟩ := h
  refine rn_iconst rfl ?_
  refine rn_istore_n rfl rfl ?_
  exact h _ _
-- ReplayedBeans$Writer.isShared(I)Z (number 55)
def w_55 (xs : Nat × (Nat → Int32)) (d : Nat) (K : Sv → Option Value → Prop) (a1 : Int32) (S : Sv) : Prop :=
  ∃ j1 : Nat, j1 < 24 ∧ a1 = nI j1 ∧ ((¬ a1 = (S 21 7) → (((S 24 j1) < 2 → (K S (some (.int 0)))) ∧ (¬ ((S 24 j1) < 2) → (K S (some (.int 1)))))) ∧ (¬ (¬ a1 = (S 21 7)) → (((S 24 j1) < 1 → (K S (some (.int 0)))) ∧ (¬ ((S 24 j1) < 1) → (K S (some (.int 1)))))))
set_option maxRecDepth 100000 in
set_option maxHeartbeats 4000000 in
theorem c_55 {xs : Nat × (Nat → Int32)} {d : Nat} {K : Sv → Option Value → Prop} {a1 : Int32} {S : Sv} (h : w_55 xs d K a1 S) : CS xs (d + 1) 55 S [.ref 21, .int a1] K := by
  unfold w_55 at h
  refine cs_in rfl rfl rfl rfl ?_
  refine rn_aload_n rfl rfl ?_
  refine rn_getfield rfl rfl rfl ?_
  refine rn_iload_n rfl rfl ?_
  obtain ⟨j1, hj1, ej1, h⟩ := h
  refine rn_iaload (j := j1) rfl rfl (Nat.le_of_ble_eq_true rfl) ej1 hj1 ?_
  refine rn_iload_n rfl rfl ?_
  refine rn_aload_n rfl rfl ?_
  refine rn_getfield rfl rfl rfl ?_
  refine rn_icmp_ne rfl (fun hc => ?_) (fun hc => ?_)
  · replace h := h.1 hc
    refine rn_iconst rfl ?_
    refine rn_icmp_lt rfl (fun hc => ?_) (fun hc => ?_)
    · replace h := h.1 hc
      refine rn_iconst rfl ?_
      exact rn_ireturn rfl rfl (by decide) h
    · replace h := h.2 hc
      refine rn_iconst rfl ?_
      refine rn_goto rfl ?_
      exact rn_ireturn rfl rfl (by decide) h
  · replace h := h.2 hc
    refine rn_iconst rfl ?_
    refine rn_goto rfl ?_
    refine rn_icmp_lt rfl (fun hc => ?_) (fun hc => ?_)
    · replace h := h.1 hc
      refine rn_iconst rfl ?_
      exact rn_ireturn rfl rfl (by decide) h
    · replace h := h.2 hc
      refine rn_iconst rfl ?_
      refine rn_goto rfl ?_
      exact rn_ireturn rfl rfl (by decide) h
-- ReplayedBeans$Writer.putObject(II)V (number 56)
def R_56_92 (xs : Nat × (Nat → Int32)) (d : Nat) (K : Sv → Option Value → Prop) (a1 a2 a3 : Int32) (S : Sv) : Prop := ∀ u4 : Option Value, RN xs d 56 K 92 [some (.ref 21), some (.int a1), some (.int a2), some (.int a3), u4] [] S
def w_56_92 (xs : Nat × (Nat → Int32)) (d : Nat) (K : Sv → Option Value → Prop) (a1 a2 a3 : Int32) (S : Sv) : Prop :=
  (2 ≤ a3 → (CS xs d 60 S [.ref 21, .int 41] (fun S1 v1 => v1 = none ∧ (K S1 none)))) ∧ (¬ (2 ≤ a3) → (CS xs d 38 S [.ref 8, .int a1, .int a3] (fun S2 v2 => ∃ r2 : Int32, v2 = some (.int r2) ∧ (CS xs d 31 S2 [.ref 8, .int r2] (fun S3 v3 => ∃ r3 : Int32, v3 = some (.int r3) ∧ ((r3 = 0 → (R_56_92 xs d K a1 a2 (a3 + 1) S3)) ∧ (¬ (r3 = 0) → (CS xs d 58 S3 [.ref 21, .int a3, .int r2, .int a2] (fun S4 v4 => v4 = none ∧ (R_56_92 xs d K a1 a2 (a3 + 1) S4))))))))))
set_option maxRecDepth 100000 in
set_option maxHeartbeats 4000000 in
theorem h_56_92 {xs : Nat × (Nat → Int32)} {d : Nat} {K : Sv → Option Value → Prop} {a1 a2 a3 : Int32} {S : Sv} (h : w_56_92 xs d K a1 a2 a3 S) : R_56_92 xs d K a1 a2 a3 S := by
  unfold w_56_92 at h
  unfold R_56_92
  intro u4
  refine rn_iload_n rfl rfl ?_
  refine rn_iconst rfl ?_
  refine rn_icmp_ge rfl (fun hc => ?_) (fun hc => ?_)
  · replace h := h.1 hc
    refine rn_aload_n rfl rfl ?_
    refine rn_bipush rfl ?_
    refine rn_virtual rfl (Nat.le_of_ble_eq_true rfl) (Nat.le_of_ble_eq_true rfl) rfl rfl (as := [.ref 21, .int 41]) (rest := []) rfl rfl rfl (cs_mono h (fun S1 v1 h => ?_))
    obtain ⟨rfl, h⟩ := h
    exact rn_return rfl rfl h
  · replace h := h.2 hc
    refine rn_aload_n rfl rfl ?_
    refine rn_getfield rfl rfl rfl ?_
    refine rn_iload_n rfl rfl ?_
    refine rn_iload_n rfl rfl ?_
    refine rn_virtual rfl (Nat.le_of_ble_eq_true rfl) (Nat.le_of_ble_eq_true rfl) rfl rfl (as := [.ref 8, .int a1, .int a3]) (rest := []) rfl rfl rfl (cs_mono h (fun S2 v2 h => ?_))
    obtain ⟨r2, rfl, h⟩ := h
    refine rn_istore rfl rfl ?_
    refine rn_aload_n rfl rfl ?_
    refine rn_getfield rfl rfl rfl ?_
    refine rn_iload rfl rfl ?_
    refine rn_virtual rfl (Nat.le_of_ble_eq_true rfl) (Nat.le_of_ble_eq_true rfl) rfl rfl (as := [.ref 8, .int r2]) (rest := []) rfl rfl rfl (cs_mono h (fun S3 v3 h => ?_))
    obtain ⟨r3, rfl, h⟩ := h
    refine rn_if_eq rfl (fun hc => ?_) (fun hc => ?_)
    · replace h := h.1 hc
      refine rn_iinc rfl rfl rfl ?_
      refine rn_goto rfl ?_
      exact h _
    · replace h := h.2 hc
      refine rn_aload_n rfl rfl ?_
      refine rn_iload_n rfl rfl ?_
      refine rn_iload rfl rfl ?_
      refine rn_iload_n rfl rfl ?_
      refine rn_virtual rfl (Nat.le_of_ble_eq_true rfl) (Nat.le_of_ble_eq_true rfl) rfl rfl (as := [.ref 21, .int a3, .int r2, .int a2]) (rest := []) rfl rfl rfl (cs_mono h (fun S4 v4 h => ?_))
      obtain ⟨rfl, h⟩ := h
      refine rn_iinc rfl rfl rfl ?_
      refine rn_goto rfl ?_
      exact h _
def w_56 (xs : Nat × (Nat → Int32)) (d : Nat) (K : Sv → Option Value → Prop) (a1 a2 : Int32) (S : Sv) : Prop :=
  (a2 ≤ 10 → (∃ j1 : Nat, j1 < 24 ∧ a1 = nI j1 ∧ (CS xs d 60 (us S 26 j1 1) [.ref 21, .int 40] (fun S2 v2 => v2 = none ∧ (CS xs d 34 S2 [.ref 8, .int a1] (fun S3 v3 => ∃ r3 : Int32, v3 = some (.int r3) ∧ (CS xs d 60 S3 [.ref 21, .int ((97 + r3).toUInt32 % 65536).toInt32] (fun S4 v4 => v4 = none ∧ (CS xs d 55 S4 [.ref 21, .int a1] (fun S5 v5 => ∃ r5 : Int32, v5 = some (.int r5) ∧ ((r5 = 0 → (CS xs d 57 S5 [.ref 21, .int a1] (fun S6 v6 => v6 = none ∧ (R_56_92 xs d K a1 a2 0 S6)))) ∧ (¬ (r5 = 0) → (∃ j7 : Nat, j7 < 24 ∧ a1 = nI j7 ∧ (CS xs d 60 (us (us S5 25 j7 (S5 21 8)) 21 8 ((S5 21 8) + 1)) [.ref 21, .int 35] (fun S8 v8 => v8 = none ∧ (∃ j9 : Nat, j9 < 24 ∧ a1 = nI j9 ∧ (CS xs d 59 S8 [.ref 21, .int (S8 25 j9)] (fun S10 v10 => v10 = none ∧ (CS xs d 57 S10 [.ref 21, .int a1] (fun S11 v11 => v11 = none ∧ (R_56_92 xs d K a1 a2 0 S11))))))))))))))))))))) ∧ (¬ (a2 ≤ 10) → (K (us S 21 9 1) none))
set_option maxRecDepth 100000 in
set_option maxHeartbeats 4000000 in
theorem c_56 {xs : Nat × (Nat → Int32)} {d : Nat} {K : Sv → Option Value → Prop} {a1 a2 : Int32} {S : Sv} (h : w_56 xs d K a1 a2 S) : CS xs (d + 1) 56 S [.ref 21, .int a1, .int a2] K := by
  unfold w_56 at h
  refine cs_in rfl rfl rfl rfl ?_
  refine rn_iload_n rfl rfl ?_
  refine rn_bipush rfl ?_
  refine rn_icmp_le rfl (fun hc => ?_) (fun hc => ?_)
  · replace h := h.1 hc
    refine rn_aload_n rfl rfl ?_
    refine rn_getfield rfl rfl rfl ?_
    refine rn_iload_n rfl rfl ?_
    refine rn_iconst rfl ?_
    obtain ⟨j1, hj1, ej1, h⟩ := h
    refine rn_bastore (j := j1) (S' := (us S 26 j1 1)) rfl rfl (Nat.le_of_ble_eq_true rfl) ej1 hj1 (by decide) rfl ?_
    refine rn_aload_n rfl rfl ?_
    refine rn_bipush rfl ?_
    refine rn_virtual rfl (Nat.le_of_ble_eq_true rfl) (Nat.le_of_ble_eq_true rfl) rfl rfl (as := [.ref 21, .int 40]) (rest := []) rfl rfl rfl (cs_mono h (fun S2 v2 h => ?_))
    obtain ⟨rfl, h⟩ := h
    refine rn_aload_n rfl rfl ?_
    refine rn_bipush rfl ?_
    refine rn_aload_n rfl rfl ?_
    refine rn_getfield rfl rfl rfl ?_
    refine rn_iload_n rfl rfl ?_
    refine rn_virtual rfl (Nat.le_of_ble_eq_true rfl) (Nat.le_of_ble_eq_true rfl) rfl rfl (as := [.ref 8, .int a1]) (rest := [.int 97, .ref 21]) rfl rfl rfl (cs_mono h (fun S3 v3 h => ?_))
    obtain ⟨r3, rfl, h⟩ := h
    refine rn_iadd rfl ?_
    refine rn_i2c rfl ?_
    refine rn_virtual rfl (Nat.le_of_ble_eq_true rfl) (Nat.le_of_ble_eq_true rfl) rfl rfl (as := [.ref 21, .int ((97 + r3).toUInt32 % 65536).toInt32]) (rest := []) rfl rfl rfl (cs_mono h (fun S4 v4 h => ?_))
    obtain ⟨rfl, h⟩ := h
    refine rn_aload_n rfl rfl ?_
    refine rn_iload_n rfl rfl ?_
    refine rn_virtual rfl (Nat.le_of_ble_eq_true rfl) (Nat.le_of_ble_eq_true rfl) rfl rfl (as := [.ref 21, .int a1]) (rest := []) rfl rfl rfl (cs_mono h (fun S5 v5 h => ?_))
    obtain ⟨r5, rfl, h⟩ := h
    refine rn_if_eq rfl (fun hc => ?_) (fun hc => ?_)
    · replace h := h.1 hc
      refine rn_aload_n rfl rfl ?_
      refine rn_iload_n rfl rfl ?_
      refine rn_virtual rfl (Nat.le_of_ble_eq_true rfl) (Nat.le_of_ble_eq_true rfl) rfl rfl (as := [.ref 21, .int a1]) (rest := []) rfl rfl rfl (cs_mono h (fun S6 v6 h => ?_))
      obtain ⟨rfl, h⟩ := h
      refine rn_iconst rfl ?_
      refine rn_istore_n rfl rfl ?_
      exact h _
    · replace h := h.2 hc
      refine rn_aload_n rfl rfl ?_
      refine rn_getfield rfl rfl rfl ?_
      refine rn_iload_n rfl rfl ?_
      refine rn_aload_n rfl rfl ?_
      refine rn_getfield rfl rfl rfl ?_
      obtain ⟨j7, hj7, ej7, h⟩ := h
      refine rn_iastore (j := j7) (S' := (us S5 25 j7 (S5 21 8))) rfl rfl (Nat.le_of_ble_eq_true rfl) ej7 hj7 rfl ?_
      refine rn_aload_n rfl rfl ?_
      refine rn_dup rfl rfl ?_
      refine rn_getfield rfl rfl rfl ?_
      refine rn_iconst rfl ?_
      refine rn_iadd rfl ?_
      refine rn_putfield (S' := (us (us S5 25 j7 (S5 21 8)) 21 8 ((S5 21 8) + 1))) rfl rfl (Nat.le_of_ble_eq_true rfl) (Or.inl rfl) rfl ?_
      refine rn_aload_n rfl rfl ?_
      refine rn_bipush rfl ?_
      refine rn_virtual rfl (Nat.le_of_ble_eq_true rfl) (Nat.le_of_ble_eq_true rfl) rfl rfl (as := [.ref 21, .int 35]) (rest := []) rfl rfl rfl (cs_mono h (fun S8 v8 h => ?_))
      obtain ⟨rfl, h⟩ := h
      refine rn_aload_n rfl rfl ?_
      refine rn_aload_n rfl rfl ?_
      refine rn_getfield rfl rfl rfl ?_
      refine rn_iload_n rfl rfl ?_
      obtain ⟨j9, hj9, ej9, h⟩ := h
      refine rn_iaload (j := j9) rfl rfl (Nat.le_of_ble_eq_true rfl) ej9 hj9 ?_
      refine rn_virtual rfl (Nat.le_of_ble_eq_true rfl) (Nat.le_of_ble_eq_true rfl) rfl rfl (as := [.ref 21, .int (S8 25 j9)]) (rest := []) rfl rfl rfl (cs_mono h (fun S10 v10 h => ?_))
      obtain ⟨rfl, h⟩ := h
      refine rn_aload_n rfl rfl ?_
      refine rn_iload_n rfl rfl ?_
      refine rn_virtual rfl (Nat.le_of_ble_eq_true rfl) (Nat.le_of_ble_eq_true rfl) rfl rfl (as := [.ref 21, .int a1]) (rest := []) rfl rfl rfl (cs_mono h (fun S11 v11 h => ?_))
      obtain ⟨rfl, h⟩ := h
      refine rn_iconst rfl ?_
      refine rn_istore_n rfl rfl ?_
      exact h _
  · replace h := h.2 hc
    refine rn_aload_n rfl rfl ?_
    refine rn_iconst rfl ?_
    refine rn_putfield (S' := (us S 21 9 1)) rfl rfl (Nat.le_of_ble_eq_true rfl) (Or.inr ⟨rfl, Or.inr rfl⟩) rfl ?_
    exact rn_return rfl rfl h
-- ReplayedBeans$Writer.putNumbers(I)V (number 57)
def R_57_11 (xs : Nat × (Nat → Int32)) (d : Nat) (K : Sv → Option Value → Prop) (a1 a2 a3 : Int32) (S : Sv) : Prop := ∀ u4 : Option Value, RN xs d 57 K 11 [some (.ref 21), some (.int a1), some (.int a2), some (.int a3), u4] [] S
def w_57_11 (xs : Nat × (Nat → Int32)) (d : Nat) (K : Sv → Option Value → Prop) (a1 a2 a3 : Int32) (S : Sv) : Prop :=
  (3 ≤ a3 → (K S none)) ∧ (¬ (3 ≤ a3) → (CS xs d 37 S [.ref 8, .int a1, .int a3] (fun S1 v1 => ∃ r1 : Int32, v1 = some (.int r1) ∧ (CS xs d 28 S1 [.ref 1, .int a2, .int a3] (fun S2 v2 => ∃ r2 : Int32, v2 = some (.int r2) ∧ ((r1 = r2 → (R_57_11 xs d K a1 a2 (a3 + 1) S2)) ∧ (¬ (r1 = r2) → (CS xs d 60 S2 [.ref 21, .int ((120 + a3).toUInt32 % 65536).toInt32] (fun S3 v3 => v3 = none ∧ (CS xs d 60 S3 [.ref 21, .int 61] (fun S4 v4 => v4 = none ∧ (CS xs d 59 S4 [.ref 21, .int r1] (fun S5 v5 => v5 = none ∧ (R_57_11 xs d K a1 a2 (a3 + 1) S5))))))))))))))
set_option maxRecDepth 100000 in
set_option maxHeartbeats 4000000 in
theorem h_57_11 {xs : Nat × (Nat → Int32)} {d : Nat} {K : Sv → Option Value → Prop} {a1 a2 a3 : Int32} {S : Sv} (h : w_57_11 xs d K a1 a2 a3 S) : R_57_11 xs d K a1 a2 a3 S := by
  unfold w_57_11 at h
  unfold R_57_11
  intro u4
  refine rn_iload_n rfl rfl ?_
  refine rn_iconst rfl ?_
  refine rn_icmp_ge rfl (fun hc => ?_) (fun hc => ?_)
  · replace h := h.1 hc
    exact rn_return rfl rfl h
  · replace h := h.2 hc
    refine rn_aload_n rfl rfl ?_
    refine rn_getfield rfl rfl rfl ?_
    refine rn_iload_n rfl rfl ?_
    refine rn_iload_n rfl rfl ?_
    refine rn_virtual rfl (Nat.le_of_ble_eq_true rfl) (Nat.le_of_ble_eq_true rfl) rfl rfl (as := [.ref 8, .int a1, .int a3]) (rest := []) rfl rfl rfl (cs_mono h (fun S1 v1 h => ?_))
    obtain ⟨r1, rfl, h⟩ := h
    refine rn_istore rfl rfl ?_
    refine rn_iload rfl rfl ?_
    refine rn_aload_n rfl rfl ?_
    refine rn_getfield rfl rfl rfl ?_
    refine rn_iload_n rfl rfl ?_
    refine rn_iload_n rfl rfl ?_
    refine rn_virtual rfl (Nat.le_of_ble_eq_true rfl) (Nat.le_of_ble_eq_true rfl) rfl rfl (as := [.ref 1, .int a2, .int a3]) (rest := [.int r1]) rfl rfl rfl (cs_mono h (fun S2 v2 h => ?_))
    obtain ⟨r2, rfl, h⟩ := h
    refine rn_icmp_eq rfl (fun hc => ?_) (fun hc => ?_)
    · replace h := h.1 hc
      refine rn_iinc rfl rfl rfl ?_
      refine rn_goto rfl ?_
      exact h _
    · replace h := h.2 hc
      refine rn_aload_n rfl rfl ?_
      refine rn_bipush rfl ?_
      refine rn_iload_n rfl rfl ?_
      refine rn_iadd rfl ?_
      refine rn_i2c rfl ?_
      refine rn_virtual rfl (Nat.le_of_ble_eq_true rfl) (Nat.le_of_ble_eq_true rfl) rfl rfl (as := [.ref 21, .int ((120 + a3).toUInt32 % 65536).toInt32]) (rest := []) rfl rfl rfl (cs_mono h (fun S3 v3 h => ?_))
      obtain ⟨rfl, h⟩ := h
      refine rn_aload_n rfl rfl ?_
      refine rn_bipush rfl ?_
      refine rn_virtual rfl (Nat.le_of_ble_eq_true rfl) (Nat.le_of_ble_eq_true rfl) rfl rfl (as := [.ref 21, .int 61]) (rest := []) rfl rfl rfl (cs_mono h (fun S4 v4 h => ?_))
      obtain ⟨rfl, h⟩ := h
      refine rn_aload_n rfl rfl ?_
      refine rn_iload rfl rfl ?_
      refine rn_virtual rfl (Nat.le_of_ble_eq_true rfl) (Nat.le_of_ble_eq_true rfl) rfl rfl (as := [.ref 21, .int r1]) (rest := []) rfl rfl rfl (cs_mono h (fun S5 v5 h => ?_))
      obtain ⟨rfl, h⟩ := h
      refine rn_iinc rfl rfl rfl ?_
      refine rn_goto rfl ?_
      exact h _
def w_57 (xs : Nat × (Nat → Int32)) (d : Nat) (K : Sv → Option Value → Prop) (a1 : Int32) (S : Sv) : Prop :=
  CS xs d 34 S [.ref 8, .int a1] (fun S1 v1 => ∃ r1 : Int32, v1 = some (.int r1) ∧ (R_57_11 xs d K a1 r1 0 S1))
set_option maxRecDepth 100000 in
set_option maxHeartbeats 4000000 in
theorem c_57 {xs : Nat × (Nat → Int32)} {d : Nat} {K : Sv → Option Value → Prop} {a1 : Int32} {S : Sv} (h : w_57 xs d K a1 S) : CS xs (d + 1) 57 S [.ref 21, .int a1] K := by
  unfold w_57 at h
  refine cs_in rfl rfl rfl rfl ?_
  refine rn_aload_n rfl rfl ?_
  refine rn_getfield rfl rfl rfl ?_
  refine rn_iload_n rfl rfl ?_
  refine rn_virtual rfl (Nat.le_of_ble_eq_true rfl) (Nat.le_of_ble_eq_true rfl) rfl rfl (as := [.ref 8, .int a1]) (rest := []) rfl rfl rfl (cs_mono h (fun S1 v1 h => ?_))
  obtain ⟨r1, rfl, h⟩ := h
  refine rn_istore_n rfl rfl ?_
  refine rn_iconst rfl ?_
  refine rn_istore_n rfl rfl ?_
  exact h _
-- ReplayedBeans$Writer.putLinkStatement(III)V (number 58)
def w_58 (xs : Nat × (Nat → Int32)) (d : Nat) (K : Sv → Option Value → Prop) (a1 a2 a3 : Int32) (S : Sv) : Prop :=
  CS xs d 60 S [.ref 21, .int ((112 + a1).toUInt32 % 65536).toInt32] (fun S1 v1 => v1 = none ∧ (CS xs d 60 S1 [.ref 21, .int 61] (fun S2 v2 => v2 = none ∧ (∃ j3 : Nat, j3 < 24 ∧ a2 = nI j3 ∧ (((S2 26 j3) = 0 → (CS xs d 56 S2 [.ref 21, .int a2, .int (a3 + 1)] (fun S4 v4 => v4 = none ∧ (K S4 none)))) ∧ (¬ ((S2 26 j3) = 0) → (CS xs d 60 S2 [.ref 21, .int 64] (fun S5 v5 => v5 = none ∧ (∃ j6 : Nat, j6 < 24 ∧ a2 = nI j6 ∧ (CS xs d 59 S5 [.ref 21, .int (S5 25 j6)] (fun S7 v7 => v7 = none ∧ (K S7 none))))))))))))
set_option maxRecDepth 100000 in
set_option maxHeartbeats 4000000 in
theorem c_58 {xs : Nat × (Nat → Int32)} {d : Nat} {K : Sv → Option Value → Prop} {a1 a2 a3 : Int32} {S : Sv} (h : w_58 xs d K a1 a2 a3 S) : CS xs (d + 1) 58 S [.ref 21, .int a1, .int a2, .int a3] K := by
  unfold w_58 at h
  refine cs_in rfl rfl rfl rfl ?_
  refine rn_aload_n rfl rfl ?_
  refine rn_bipush rfl ?_
  refine rn_iload_n rfl rfl ?_
  refine rn_iadd rfl ?_
  refine rn_i2c rfl ?_
  refine rn_virtual rfl (Nat.le_of_ble_eq_true rfl) (Nat.le_of_ble_eq_true rfl) rfl rfl (as := [.ref 21, .int ((112 + a1).toUInt32 % 65536).toInt32]) (rest := []) rfl rfl rfl (cs_mono h (fun S1 v1 h => ?_))
  obtain ⟨rfl, h⟩ := h
  refine rn_aload_n rfl rfl ?_
  refine rn_bipush rfl ?_
  refine rn_virtual rfl (Nat.le_of_ble_eq_true rfl) (Nat.le_of_ble_eq_true rfl) rfl rfl (as := [.ref 21, .int 61]) (rest := []) rfl rfl rfl (cs_mono h (fun S2 v2 h => ?_))
  obtain ⟨rfl, h⟩ := h
  refine rn_aload_n rfl rfl ?_
  refine rn_getfield rfl rfl rfl ?_
  refine rn_iload_n rfl rfl ?_
  obtain ⟨j3, hj3, ej3, h⟩ := h
  refine rn_baload (j := j3) rfl rfl (Nat.le_of_ble_eq_true rfl) ej3 hj3 ?_
  refine rn_if_eq rfl (fun hc => ?_) (fun hc => ?_)
  · replace h := h.1 hc
    refine rn_aload_n rfl rfl ?_
    refine rn_iload_n rfl rfl ?_
    refine rn_iload_n rfl rfl ?_
    refine rn_iconst rfl ?_
    refine rn_iadd rfl ?_
    refine rn_virtual rfl (Nat.le_of_ble_eq_true rfl) (Nat.le_of_ble_eq_true rfl) rfl rfl (as := [.ref 21, .int a2, .int (a3 + 1)]) (rest := []) rfl rfl rfl (cs_mono h (fun S4 v4 h => ?_))
    obtain ⟨rfl, h⟩ := h
    exact rn_return rfl rfl h
  · replace h := h.2 hc
    refine rn_aload_n rfl rfl ?_
    refine rn_bipush rfl ?_
    refine rn_virtual rfl (Nat.le_of_ble_eq_true rfl) (Nat.le_of_ble_eq_true rfl) rfl rfl (as := [.ref 21, .int 64]) (rest := []) rfl rfl rfl (cs_mono h (fun S5 v5 h => ?_))
    obtain ⟨rfl, h⟩ := h
    refine rn_aload_n rfl rfl ?_
    refine rn_aload_n rfl rfl ?_
    refine rn_getfield rfl rfl rfl ?_
    refine rn_iload_n rfl rfl ?_
    obtain ⟨j6, hj6, ej6, h⟩ := h
    refine rn_iaload (j := j6) rfl rfl (Nat.le_of_ble_eq_true rfl) ej6 hj6 ?_
    refine rn_virtual rfl (Nat.le_of_ble_eq_true rfl) (Nat.le_of_ble_eq_true rfl) rfl rfl (as := [.ref 21, .int (S5 25 j6)]) (rest := []) rfl rfl rfl (cs_mono h (fun S7 v7 h => ?_))
    obtain ⟨rfl, h⟩ := h
    refine rn_goto rfl ?_
    exact rn_return rfl rfl h
-- ReplayedBeans$Writer.putWhole(I)V (number 59)
def R_59_10 (xs : Nat × (Nat → Int32)) (d : Nat) (K : Sv → Option Value → Prop) (a1 : Int32) (S : Sv) : Prop := ∀ u2 u3 u4 : Option Value, RN xs d 59 K 10 [some (.ref 21), some (.int a1), u2, u3, u4] [] S
def R_59_26 (xs : Nat × (Nat → Int32)) (d : Nat) (K : Sv → Option Value → Prop) (a2 a3 a4 : Int32) (S : Sv) : Prop := ∀ u1 : Option Value, RN xs d 59 K 26 [some (.ref 21), u1, some (.int a2), some (.int a3), some (.int a4)] [] S
def R_59_51 (xs : Nat × (Nat → Int32)) (d : Nat) (K : Sv → Option Value → Prop) (a2 a3 : Int32) (S : Sv) : Prop := ∀ u1 u4 : Option Value, RN xs d 59 K 51 [some (.ref 21), u1, some (.int a2), some (.int a3), u4] [] S
def w_59_10 (xs : Nat × (Nat → Int32)) (d : Nat) (K : Sv → Option Value → Prop) (a1 : Int32) (S : Sv) : Prop :=
  (0 ≤ a1 → (R_59_26 xs d K a1 1 1 S)) ∧ (¬ (0 ≤ a1) → (R_59_26 xs d K (-a1) 1 1 S))
set_option maxRecDepth 100000 in
set_option maxHeartbeats 4000000 in
theorem h_59_10 {xs : Nat × (Nat → Int32)} {d : Nat} {K : Sv → Option Value → Prop} {a1 : Int32} {S : Sv} (h : w_59_10 xs d K a1 S) : R_59_10 xs d K a1 S := by
  unfold w_59_10 at h
  unfold R_59_10
  intro u2 u3 u4
  refine rn_iload_n rfl rfl ?_
  refine rn_if_ge rfl (fun hc => ?_) (fun hc => ?_)
  · replace h := h.1 hc
    refine rn_iload_n rfl rfl ?_
    refine rn_istore_n rfl rfl ?_
    refine rn_iconst rfl ?_
    refine rn_istore_n rfl rfl ?_
    refine rn_iconst rfl ?_
    refine rn_istore rfl rfl ?_
    exact h _
  · replace h := h.2 hc
    refine rn_iload_n rfl rfl ?_
    refine rn_ineg rfl ?_
    refine rn_goto rfl ?_
    refine rn_istore_n rfl rfl ?_
    refine rn_iconst rfl ?_
    refine rn_istore_n rfl rfl ?_
    refine rn_iconst rfl ?_
    refine rn_istore rfl rfl ?_
    exact h _
def w_59_26 (xs : Nat × (Nat → Int32)) (d : Nat) (K : Sv → Option Value → Prop) (a2 a3 a4 : Int32) (S : Sv) : Prop :=
  (5 ≤ a4 → (R_59_51 xs d K a2 a3 S)) ∧ (¬ (5 ≤ a4) → (¬ a3 = 0 ∧ (((a2 / a3) < 10 → (R_59_51 xs d K a2 a3 S)) ∧ (¬ ((a2 / a3) < 10) → (R_59_26 xs d K a2 (a3 * 10) (a4 + 1) S)))))
set_option maxRecDepth 100000 in
set_option maxHeartbeats 4000000 in
theorem h_59_26 {xs : Nat × (Nat → Int32)} {d : Nat} {K : Sv → Option Value → Prop} {a2 a3 a4 : Int32} {S : Sv} (h : w_59_26 xs d K a2 a3 a4 S) : R_59_26 xs d K a2 a3 a4 S := by
  unfold w_59_26 at h
  unfold R_59_26
  intro u1
  refine rn_iload rfl rfl ?_
  refine rn_iconst rfl ?_
  refine rn_icmp_ge rfl (fun hc => ?_) (fun hc => ?_)
  · replace h := h.1 hc
    exact h _ _
  · replace h := h.2 hc
    refine rn_iload_n rfl rfl ?_
    refine rn_iload_n rfl rfl ?_
    obtain ⟨hy, h⟩ := h
    refine rn_idiv rfl hy ?_
    refine rn_bipush rfl ?_
    refine rn_icmp_lt rfl (fun hc => ?_) (fun hc => ?_)
    · replace h := h.1 hc
      exact h _ _
    · replace h := h.2 hc
      refine rn_iload_n rfl rfl ?_
      refine rn_bipush rfl ?_
      refine rn_imul rfl ?_
      refine rn_istore_n rfl rfl ?_
      refine rn_iinc rfl rfl rfl ?_
      refine rn_goto rfl ?_
      exact h _
def w_59_51 (xs : Nat × (Nat → Int32)) (d : Nat) (K : Sv → Option Value → Prop) (a2 a3 : Int32) (S : Sv) : Prop :=
  (a3 ≤ 0 → (K S none)) ∧ (¬ (a3 ≤ 0) → (¬ a3 = 0 ∧ (CS xs d 60 S [.ref 21, .int ((48 + ((a2 / a3) - (a2 / a3) / 10 * 10)).toUInt32 % 65536).toInt32] (fun S1 v1 => v1 = none ∧ (R_59_51 xs d K a2 (a3 / 10) S1)))))
set_option maxRecDepth 100000 in
set_option maxHeartbeats 4000000 in
theorem h_59_51 {xs : Nat × (Nat → Int32)} {d : Nat} {K : Sv → Option Value → Prop} {a2 a3 : Int32} {S : Sv} (h : w_59_51 xs d K a2 a3 S) : R_59_51 xs d K a2 a3 S := by
  unfold w_59_51 at h
  unfold R_59_51
  intro u1 u4
  refine rn_iload_n rfl rfl ?_
  refine rn_if_le rfl (fun hc => ?_) (fun hc => ?_)
  · replace h := h.1 hc
    exact rn_return rfl rfl h
  · replace h := h.2 hc
    refine rn_aload_n rfl rfl ?_
    refine rn_bipush rfl ?_
    refine rn_iload_n rfl rfl ?_
    refine rn_iload_n rfl rfl ?_
    obtain ⟨hy, h⟩ := h
    refine rn_idiv rfl hy ?_
    refine rn_bipush rfl ?_
    refine rn_irem rfl (by decide) ?_
    refine rn_iadd rfl ?_
    refine rn_i2c rfl ?_
    refine rn_virtual rfl (Nat.le_of_ble_eq_true rfl) (Nat.le_of_ble_eq_true rfl) rfl rfl (as := [.ref 21, .int ((48 + ((a2 / a3) - (a2 / a3) / 10 * 10)).toUInt32 % 65536).toInt32]) (rest := []) rfl rfl rfl (cs_mono h (fun S1 v1 h => ?_))
    obtain ⟨rfl, h⟩ := h
    refine rn_iload_n rfl rfl ?_
    refine rn_bipush rfl ?_
    refine rn_idiv rfl (by decide) ?_
    refine rn_istore_n rfl rfl ?_
    refine rn_goto rfl ?_
    exact h _ _
def w_59 (xs : Nat × (Nat → Int32)) (d : Nat) (K : Sv → Option Value → Prop) (a1 : Int32) (S : Sv) : Prop :=
  (0 ≤ a1 → (R_59_10 xs d K a1 S)) ∧ (¬ (0 ≤ a1) → (CS xs d 60 S [.ref 21, .int 45] (fun S1 v1 => v1 = none ∧ (R_59_10 xs d K a1 S1))))
set_option maxRecDepth 100000 in
set_option maxHeartbeats 4000000 in
theorem c_59 {xs : Nat × (Nat → Int32)} {d : Nat} {K : Sv → Option Value → Prop} {a1 : Int32} {S : Sv} (h : w_59 xs d K a1 S) : CS xs (d + 1) 59 S [.ref 21, .int a1] K := by
  unfold w_59 at h
  refine cs_in rfl rfl rfl rfl ?_
  refine rn_iload_n rfl rfl ?_
  refine rn_if_ge rfl (fun hc => ?_) (fun hc => ?_)
  · replace h := h.1 hc
    exact h _ _ _
  · replace h := h.2 hc
    refine rn_aload_n rfl rfl ?_
    refine rn_bipush rfl ?_
    refine rn_virtual rfl (Nat.le_of_ble_eq_true rfl) (Nat.le_of_ble_eq_true rfl) rfl rfl (as := [.ref 21, .int 45]) (rest := []) rfl rfl rfl (cs_mono h (fun S1 v1 h => ?_))
    obtain ⟨rfl, h⟩ := h
    exact h _ _ _
-- ReplayedBeans$Writer.put(C)V (number 60)
def w_60 (xs : Nat × (Nat → Int32)) (d : Nat) (K : Sv → Option Value → Prop) (a1 : Int32) (S : Sv) : Prop :=
  CS xs d 49 S [.ref 22, .int a1] (fun S1 v1 => ∃ r1 : Int32, v1 = some (.int r1) ∧ ((¬ r1 = 0 → (K S1 none)) ∧ (¬ (¬ r1 = 0) → (K (us S1 21 10 1) none))))
set_option maxRecDepth 100000 in
set_option maxHeartbeats 4000000 in
theorem c_60 {xs : Nat × (Nat → Int32)} {d : Nat} {K : Sv → Option Value → Prop} {a1 : Int32} {S : Sv} (h : w_60 xs d K a1 S) : CS xs (d + 1) 60 S [.ref 21, .int a1] K := by
  unfold w_60 at h
  refine cs_in rfl rfl rfl rfl ?_
  refine rn_aload_n rfl rfl ?_
  refine rn_getfield rfl rfl rfl ?_
  refine rn_iload_n rfl rfl ?_
  refine rn_virtual rfl (Nat.le_of_ble_eq_true rfl) (Nat.le_of_ble_eq_true rfl) rfl rfl (as := [.ref 22, .int a1]) (rest := []) rfl rfl rfl (cs_mono h (fun S1 v1 h => ?_))
  obtain ⟨r1, rfl, h⟩ := h
  refine rn_if_ne rfl (fun hc => ?_) (fun hc => ?_)
  · replace h := h.1 hc
    exact rn_return rfl rfl h
  · replace h := h.2 hc
    refine rn_aload_n rfl rfl ?_
    refine rn_iconst rfl ?_
    refine rn_putfield (S' := (us S1 21 10 1)) rfl rfl (Nat.le_of_ble_eq_true rfl) (Or.inr ⟨rfl, Or.inr rfl⟩) rfl ?_
    exact rn_return rfl rfl h
end
section
-- ReplayedBeans$Grammar.wrongPlace()I (number 62)
def R_62_17 (xs : Nat × (Nat → Int32)) (d : Nat) (K : Sv → Option Value → Prop) (a1 : Int32) (S : Sv) : Prop := RN xs d 62 K 17 [some (.ref 27), some (.int a1)] [] S
def w_62_17 (xs : Nat × (Nat → Int32)) (d : Nat) (K : Sv → Option Value → Prop) (a1 : Int32) (S : Sv) : Prop :=
  ((S 19 1) < a1 → ((¬ (S 27 1) = 10 → (K S (some (.int ((S 19 1) + 1))))) ∧ (¬ (¬ (S 27 1) = 10) → (K S (some (.int 0)))))) ∧ (¬ ((S 19 1) < a1) → (CS xs d 50 S [.ref 19, .int a1] (fun S1 v1 => ∃ r1 : Int32, v1 = some (.int r1) ∧ (CS xs d 63 S1 [.ref 27, .int r1] (fun S2 v2 => ∃ r2 : Int32, v2 = some (.int r2) ∧ ((¬ r2 = 11 → (R_62_17 xs d K (a1 + 1) (us S2 27 1 r2))) ∧ (¬ (¬ r2 = 11) → (K (us S2 27 1 r2) (some (.int a1))))))))))
set_option maxRecDepth 100000 in
set_option maxHeartbeats 4000000 in
theorem h_62_17 {xs : Nat × (Nat → Int32)} {d : Nat} {K : Sv → Option Value → Prop} {a1 : Int32} {S : Sv} (h : w_62_17 xs d K a1 S) : R_62_17 xs d K a1 S := by
  unfold w_62_17 at h
  unfold R_62_17
  refine rn_iload_n rfl rfl ?_
  refine rn_aload_n rfl rfl ?_
  refine rn_getfield rfl rfl rfl ?_
  refine rn_getfield rfl rfl rfl ?_
  refine rn_icmp_gt rfl (fun hc => ?_) (fun hc => ?_)
  · replace h := h.1 hc
    refine rn_aload_n rfl rfl ?_
    refine rn_getfield rfl rfl rfl ?_
    refine rn_bipush rfl ?_
    refine rn_icmp_ne rfl (fun hc => ?_) (fun hc => ?_)
    · replace h := h.1 hc
      refine rn_aload_n rfl rfl ?_
      refine rn_getfield rfl rfl rfl ?_
      refine rn_getfield rfl rfl rfl ?_
      refine rn_iconst rfl ?_
      refine rn_iadd rfl ?_
      exact rn_ireturn rfl rfl rfl h
    · replace h := h.2 hc
      refine rn_iconst rfl ?_
      refine rn_goto rfl ?_
      exact rn_ireturn rfl rfl rfl h
  · replace h := h.2 hc
    refine rn_aload_n rfl rfl ?_
    refine rn_aload_n rfl rfl ?_
    refine rn_aload_n rfl rfl ?_
    refine rn_getfield rfl rfl rfl ?_
    refine rn_iload_n rfl rfl ?_
    refine rn_virtual rfl (Nat.le_of_ble_eq_true rfl) (Nat.le_of_ble_eq_true rfl) rfl rfl (as := [.ref 19, .int a1]) (rest := [.ref 27, .ref 27]) rfl rfl rfl (cs_mono h (fun S1 v1 h => ?_))
    obtain ⟨r1, rfl, h⟩ := h
    refine rn_virtual rfl (Nat.le_of_ble_eq_true rfl) (Nat.le_of_ble_eq_true rfl) rfl rfl (as := [.ref 27, .int r1]) (rest := [.ref 27]) rfl rfl rfl (cs_mono h (fun S2 v2 h => ?_))
    obtain ⟨r2, rfl, h⟩ := h
    refine rn_putfield (S' := (us S2 27 1 r2)) rfl rfl (Nat.le_of_ble_eq_true rfl) (Or.inl rfl) rfl ?_
    refine rn_aload_n rfl rfl ?_
    refine rn_getfield rfl rfl rfl ?_
    refine rn_bipush rfl ?_
    refine rn_icmp_ne rfl (fun hc => ?_) (fun hc => ?_)
    · replace h := h.1 hc
      refine rn_iinc rfl rfl rfl ?_
      refine rn_goto rfl ?_
      exact h
    · replace h := h.2 hc
      refine rn_iload_n rfl rfl ?_
      exact rn_ireturn rfl rfl rfl h
def w_62 (xs : Nat × (Nat → Int32)) (d : Nat) (K : Sv → Option Value → Prop) (S : Sv) : Prop :=
  R_62_17 xs d K 1 (us (us (us S 27 1 0) 27 2 0) 27 3 0)
set_option maxRecDepth 100000 in
set_option maxHeartbeats 4000000 in
theorem c_62 {xs : Nat × (Nat → Int32)} {d : Nat} {K : Sv → Option Value → Prop} {S : Sv} (h : w_62 xs d K S) : CS xs (d + 1) 62 S [.ref 27] K := by
  unfold w_62 at h
  refine cs_in rfl rfl rfl rfl ?_
  refine rn_aload_n rfl rfl ?_
  refine rn_iconst rfl ?_
  refine rn_putfield (S' := (us S 27 1 0)) rfl rfl (Nat.le_of_ble_eq_true rfl) (Or.inl rfl) rfl ?_
  refine rn_aload_n rfl rfl ?_
  refine rn_iconst rfl ?_
  refine rn_putfield (S' := (us (us S 27 1 0) 27 2 0)) rfl rfl (Nat.le_of_ble_eq_true rfl) (Or.inl rfl) rfl ?_
  refine rn_aload_n rfl rfl ?_
  refine rn_iconst rfl ?_
  refine rn_putfield (S' := (us (us (us S 27 1 0) 27 2 0) 27 3 0)) rfl rfl (Nat.le_of_ble_eq_true rfl) (Or.inl rfl) rfl ?_
  refine rn_iconst rfl ?_
  refine rn_istore_n rfl rfl ?_
  exact h
-- ReplayedBeans$Grammar.dueAfter(I)I (number 63)
def w_63 (xs : Nat × (Nat → Int32)) (d : Nat) (K : Sv → Option Value → Prop) (a1 : Int32) (S : Sv) : Prop :=
  ((S 27 1) = 0 → ((¬ a1 = 40 → (K S (some (.int 11)))) ∧ (¬ (¬ a1 = 40) → (CS xs d 64 S [.ref 27] (fun S1 v1 => ∃ r1 : Int32, v1 = some (.int r1) ∧ (K S1 (some (.int r1)))))))) ∧ ((S 27 1) = 1 → ((a1 < 97 → (K S (some (.int 11)))) ∧ (¬ (a1 < 97) → ((100 < a1 → (K S (some (.int 11)))) ∧ (¬ (100 < a1) → (K S (some (.int 2)))))))) ∧ ((S 27 1) = 2 → ((¬ a1 = 35 → (CS xs d 68 S [.ref 27, .int a1] (fun S2 v2 => ∃ r2 : Int32, v2 = some (.int r2) ∧ (K S2 (some (.int r2)))))) ∧ (¬ (¬ a1 = 35) → (CS xs d 66 S [.ref 27] (fun S3 v3 => ∃ r3 : Int32, v3 = some (.int r3) ∧ (K S3 (some (.int r3)))))))) ∧ ((S 27 1) = 3 → (CS xs d 68 S [.ref 27, .int a1] (fun S4 v4 => ∃ r4 : Int32, v4 = some (.int r4) ∧ (K S4 (some (.int r4)))))) ∧ ((S 27 1) = 4 → ((¬ a1 = 61 → (K S (some (.int 11)))) ∧ (¬ (¬ a1 = 61) → (K S (some (.int 6)))))) ∧ ((S 27 1) = 5 → ((¬ a1 = 61 → (K S (some (.int 11)))) ∧ (¬ (¬ a1 = 61) → (K S (some (.int 7)))))) ∧ ((S 27 1) = 6 → ((¬ a1 = 45 → (CS xs d 67 (us S 27 3 5) [.ref 27, .int a1] (fun S5 v5 => ∃ r5 : Int32, v5 = some (.int r5) ∧ (K S5 (some (.int r5)))))) ∧ (¬ (¬ a1 = 45) → (K (us S 27 3 5) (some (.int 8)))))) ∧ ((S 27 1) = 7 → (CS xs d 69 S [.ref 27, .int a1] (fun S6 v6 => ∃ r6 : Int32, v6 = some (.int r6) ∧ (K S6 (some (.int r6)))))) ∧ ((S 27 1) = 8 → (CS xs d 67 S [.ref 27, .int a1] (fun S7 v7 => ∃ r7 : Int32, v7 = some (.int r7) ∧ (K S7 (some (.int r7)))))) ∧ ((S 27 1) = 9 → (CS xs d 70 S [.int a1] (fun S8 v8 => ∃ r8 : Int32, v8 = some (.int r8) ∧ ((r8 = 0 → (CS xs d 68 S8 [.ref 27, .int a1] (fun S9 v9 => ∃ r9 : Int32, v9 = some (.int r9) ∧ (K S9 (some (.int r9)))))) ∧ (¬ (r8 = 0) → (CS xs d 67 S8 [.ref 27, .int a1] (fun S10 v10 => ∃ r10 : Int32, v10 = some (.int r10) ∧ (K S10 (some (.int r10)))))))))) ∧ (((S 27 1).toInt < 0 ∨ 9 < (S 27 1).toInt) → (K S (some (.int 11))))
set_option maxRecDepth 100000 in
set_option maxHeartbeats 4000000 in
theorem c_63 {xs : Nat × (Nat → Int32)} {d : Nat} {K : Sv → Option Value → Prop} {a1 : Int32} {S : Sv} (h : w_63 xs d K a1 S) : CS xs (d + 1) 63 S [.ref 27, .int a1] K := by
  unfold w_63 at h
  refine cs_in rfl rfl rfl rfl ?_
  refine rn_aload_n rfl rfl ?_
  refine rn_getfield rfl rfl rfl ?_
  by_cases hc0 : (S 27 1) = 0
  · replace h := h.1 hc0
    rw [hc0]
    refine rn_tableIn 60 rfl (by decide) (by decide) rfl rfl ?_
    refine rn_iload_n rfl rfl ?_
    refine rn_bipush rfl ?_
    refine rn_icmp_ne rfl (fun hc => ?_) (fun hc => ?_)
    · replace h := h.1 hc
      refine rn_bipush rfl ?_
      exact rn_ireturn rfl rfl rfl h
    · replace h := h.2 hc
      refine rn_aload_n rfl rfl ?_
      refine rn_virtual rfl (Nat.le_of_ble_eq_true rfl) (Nat.le_of_ble_eq_true rfl) rfl rfl (as := [.ref 27]) (rest := []) rfl rfl rfl (cs_mono h (fun S1 v1 h => ?_))
      obtain ⟨r1, rfl, h⟩ := h
      refine rn_goto rfl ?_
      exact rn_ireturn rfl rfl rfl h
  by_cases hc1 : (S 27 1) = 1
  · replace h := h.2.1 hc1
    rw [hc1]
    refine rn_tableIn 76 rfl (by decide) (by decide) rfl rfl ?_
    refine rn_iload_n rfl rfl ?_
    refine rn_bipush rfl ?_
    refine rn_icmp_lt rfl (fun hc => ?_) (fun hc => ?_)
    · replace h := h.1 hc
      refine rn_bipush rfl ?_
      exact rn_ireturn rfl rfl rfl h
    · replace h := h.2 hc
      refine rn_iload_n rfl rfl ?_
      refine rn_bipush rfl ?_
      refine rn_icmp_gt rfl (fun hc => ?_) (fun hc => ?_)
      · replace h := h.1 hc
        refine rn_bipush rfl ?_
        exact rn_ireturn rfl rfl rfl h
      · replace h := h.2 hc
        refine rn_iconst rfl ?_
        refine rn_goto rfl ?_
        exact rn_ireturn rfl rfl rfl h
  by_cases hc2 : (S 27 1) = 2
  · replace h := h.2.2.1 hc2
    rw [hc2]
    refine rn_tableIn 95 rfl (by decide) (by decide) rfl rfl ?_
    refine rn_iload_n rfl rfl ?_
    refine rn_bipush rfl ?_
    refine rn_icmp_ne rfl (fun hc => ?_) (fun hc => ?_)
    · replace h := h.1 hc
      refine rn_aload_n rfl rfl ?_
      refine rn_iload_n rfl rfl ?_
      refine rn_virtual rfl (Nat.le_of_ble_eq_true rfl) (Nat.le_of_ble_eq_true rfl) rfl rfl (as := [.ref 27, .int a1]) (rest := []) rfl rfl rfl (cs_mono h (fun S2 v2 h => ?_))
      obtain ⟨r2, rfl, h⟩ := h
      exact rn_ireturn rfl rfl rfl h
    · replace h := h.2 hc
      refine rn_aload_n rfl rfl ?_
      refine rn_virtual rfl (Nat.le_of_ble_eq_true rfl) (Nat.le_of_ble_eq_true rfl) rfl rfl (as := [.ref 27]) (rest := []) rfl rfl rfl (cs_mono h (fun S3 v3 h => ?_))
      obtain ⟨r3, rfl, h⟩ := h
      refine rn_goto rfl ?_
      exact rn_ireturn rfl rfl rfl h
  by_cases hc3 : (S 27 1) = 3
  · replace h := h.2.2.2.1 hc3
    rw [hc3]
    refine rn_tableIn 114 rfl (by decide) (by decide) rfl rfl ?_
    refine rn_aload_n rfl rfl ?_
    refine rn_iload_n rfl rfl ?_
    refine rn_virtual rfl (Nat.le_of_ble_eq_true rfl) (Nat.le_of_ble_eq_true rfl) rfl rfl (as := [.ref 27, .int a1]) (rest := []) rfl rfl rfl (cs_mono h (fun S4 v4 h => ?_))
    obtain ⟨r4, rfl, h⟩ := h
    exact rn_ireturn rfl rfl rfl h
  by_cases hc4 : (S 27 1) = 4
  · replace h := h.2.2.2.2.1 hc4
    rw [hc4]
    refine rn_tableIn 120 rfl (by decide) (by decide) rfl rfl ?_
    refine rn_iload_n rfl rfl ?_
    refine rn_bipush rfl ?_
    refine rn_icmp_ne rfl (fun hc => ?_) (fun hc => ?_)
    · replace h := h.1 hc
      refine rn_bipush rfl ?_
      exact rn_ireturn rfl rfl rfl h
    · replace h := h.2 hc
      refine rn_bipush rfl ?_
      refine rn_goto rfl ?_
      exact rn_ireturn rfl rfl rfl h
  by_cases hc5 : (S 27 1) = 5
  · replace h := h.2.2.2.2.2.1 hc5
    rw [hc5]
    refine rn_tableIn 134 rfl (by decide) (by decide) rfl rfl ?_
    refine rn_iload_n rfl rfl ?_
    refine rn_bipush rfl ?_
    refine rn_icmp_ne rfl (fun hc => ?_) (fun hc => ?_)
    · replace h := h.1 hc
      refine rn_bipush rfl ?_
      exact rn_ireturn rfl rfl rfl h
    · replace h := h.2 hc
      refine rn_bipush rfl ?_
      refine rn_goto rfl ?_
      exact rn_ireturn rfl rfl rfl h
  by_cases hc6 : (S 27 1) = 6
  · replace h := h.2.2.2.2.2.2.1 hc6
    rw [hc6]
    refine rn_tableIn 148 rfl (by decide) (by decide) rfl rfl ?_
    refine rn_aload_n rfl rfl ?_
    refine rn_iconst rfl ?_
    refine rn_putfield (S' := (us S 27 3 5)) rfl rfl (Nat.le_of_ble_eq_true rfl) (Or.inl rfl) rfl ?_
    refine rn_iload_n rfl rfl ?_
    refine rn_bipush rfl ?_
    refine rn_icmp_ne rfl (fun hc => ?_) (fun hc => ?_)
    · replace h := h.1 hc
      refine rn_aload_n rfl rfl ?_
      refine rn_iload_n rfl rfl ?_
      refine rn_virtual rfl (Nat.le_of_ble_eq_true rfl) (Nat.le_of_ble_eq_true rfl) rfl rfl (as := [.ref 27, .int a1]) (rest := []) rfl rfl rfl (cs_mono h (fun S5 v5 h => ?_))
      obtain ⟨r5, rfl, h⟩ := h
      exact rn_ireturn rfl rfl rfl h
    · replace h := h.2 hc
      refine rn_bipush rfl ?_
      refine rn_goto rfl ?_
      exact rn_ireturn rfl rfl rfl h
  by_cases hc7 : (S 27 1) = 7
  · replace h := h.2.2.2.2.2.2.2.1 hc7
    rw [hc7]
    refine rn_tableIn 170 rfl (by decide) (by decide) rfl rfl ?_
    refine rn_aload_n rfl rfl ?_
    refine rn_iload_n rfl rfl ?_
    refine rn_virtual rfl (Nat.le_of_ble_eq_true rfl) (Nat.le_of_ble_eq_true rfl) rfl rfl (as := [.ref 27, .int a1]) (rest := []) rfl rfl rfl (cs_mono h (fun S6 v6 h => ?_))
    obtain ⟨r6, rfl, h⟩ := h
    exact rn_ireturn rfl rfl rfl h
  by_cases hc8 : (S 27 1) = 8
  · replace h := h.2.2.2.2.2.2.2.2.1 hc8
    rw [hc8]
    refine rn_tableIn 176 rfl (by decide) (by decide) rfl rfl ?_
    refine rn_aload_n rfl rfl ?_
    refine rn_iload_n rfl rfl ?_
    refine rn_virtual rfl (Nat.le_of_ble_eq_true rfl) (Nat.le_of_ble_eq_true rfl) rfl rfl (as := [.ref 27, .int a1]) (rest := []) rfl rfl rfl (cs_mono h (fun S7 v7 h => ?_))
    obtain ⟨r7, rfl, h⟩ := h
    exact rn_ireturn rfl rfl rfl h
  by_cases hc9 : (S 27 1) = 9
  · replace h := h.2.2.2.2.2.2.2.2.2.1 hc9
    rw [hc9]
    refine rn_tableIn 182 rfl (by decide) (by decide) rfl rfl ?_
    refine rn_iload_n rfl rfl ?_
    refine rn_static rfl (Nat.le_of_ble_eq_true rfl) (Nat.le_of_ble_eq_true rfl) rfl rfl (as := [.int a1]) (rest := []) rfl rfl (cs_mono h (fun S8 v8 h => ?_))
    obtain ⟨r8, rfl, h⟩ := h
    refine rn_if_eq rfl (fun hc => ?_) (fun hc => ?_)
    · replace h := h.1 hc
      refine rn_aload_n rfl rfl ?_
      refine rn_iload_n rfl rfl ?_
      refine rn_virtual rfl (Nat.le_of_ble_eq_true rfl) (Nat.le_of_ble_eq_true rfl) rfl rfl (as := [.ref 27, .int a1]) (rest := []) rfl rfl rfl (cs_mono h (fun S9 v9 h => ?_))
      obtain ⟨r9, rfl, h⟩ := h
      exact rn_ireturn rfl rfl rfl h
    · replace h := h.2 hc
      refine rn_aload_n rfl rfl ?_
      refine rn_iload_n rfl rfl ?_
      refine rn_virtual rfl (Nat.le_of_ble_eq_true rfl) (Nat.le_of_ble_eq_true rfl) rfl rfl (as := [.ref 27, .int a1]) (rest := []) rfl rfl rfl (cs_mono h (fun S10 v10 h => ?_))
      obtain ⟨r10, rfl, h⟩ := h
      refine rn_goto rfl ?_
      exact rn_ireturn rfl rfl rfl h
  have hout : (S 27 1).toInt < 0 ∨ 9 < (S 27 1).toInt := by
    rcases Int.lt_or_le (S 27 1).toInt 0 with hz | hz
    · exact Or.inl hz
    · rcases Int.lt_or_le 9 (S 27 1).toInt with hz2 | hz2
      · exact Or.inr hz2
      · exfalso
        have hq0 : ¬ (S 27 1).toInt = 0 := fun e => hc0 (Int32.toInt_inj.mp (e.trans (by decide)))
        have hq1 : ¬ (S 27 1).toInt = 1 := fun e => hc1 (Int32.toInt_inj.mp (e.trans (by decide)))
        have hq2 : ¬ (S 27 1).toInt = 2 := fun e => hc2 (Int32.toInt_inj.mp (e.trans (by decide)))
        have hq3 : ¬ (S 27 1).toInt = 3 := fun e => hc3 (Int32.toInt_inj.mp (e.trans (by decide)))
        have hq4 : ¬ (S 27 1).toInt = 4 := fun e => hc4 (Int32.toInt_inj.mp (e.trans (by decide)))
        have hq5 : ¬ (S 27 1).toInt = 5 := fun e => hc5 (Int32.toInt_inj.mp (e.trans (by decide)))
        have hq6 : ¬ (S 27 1).toInt = 6 := fun e => hc6 (Int32.toInt_inj.mp (e.trans (by decide)))
        have hq7 : ¬ (S 27 1).toInt = 7 := fun e => hc7 (Int32.toInt_inj.mp (e.trans (by decide)))
        have hq8 : ¬ (S 27 1).toInt = 8 := fun e => hc8 (Int32.toInt_inj.mp (e.trans (by decide)))
        have hq9 : ¬ (S 27 1).toInt = 9 := fun e => hc9 (Int32.toInt_inj.mp (e.trans (by decide)))
        omega
  replace h := h.2.2.2.2.2.2.2.2.2.2 hout
  refine rn_tableOut 203 rfl hout rfl ?_
  refine rn_bipush rfl ?_
  exact rn_ireturn rfl rfl rfl h
-- ReplayedBeans$Grammar.opened()I (number 64)
def w_64 (xs : Nat × (Nat → Int32)) (d : Nat) (K : Sv → Option Value → Prop) (S : Sv) : Prop :=
  ((S 27 2) < 10 → (K (us S 27 2 ((S 27 2) + 1)) (some (.int 1)))) ∧ (¬ ((S 27 2) < 10) → (K S (some (.int 11))))
set_option maxRecDepth 100000 in
set_option maxHeartbeats 4000000 in
theorem c_64 {xs : Nat × (Nat → Int32)} {d : Nat} {K : Sv → Option Value → Prop} {S : Sv} (h : w_64 xs d K S) : CS xs (d + 1) 64 S [.ref 27] K := by
  unfold w_64 at h
  refine cs_in rfl rfl rfl rfl ?_
  refine rn_aload_n rfl rfl ?_
  refine rn_getfield rfl rfl rfl ?_
  refine rn_bipush rfl ?_
  refine rn_icmp_lt rfl (fun hc => ?_) (fun hc => ?_)
  · replace h := h.1 hc
    refine rn_aload_n rfl rfl ?_
    refine rn_dup rfl rfl ?_
    refine rn_getfield rfl rfl rfl ?_
    refine rn_iconst rfl ?_
    refine rn_iadd rfl ?_
    refine rn_putfield (S' := (us S 27 2 ((S 27 2) + 1))) rfl rfl (Nat.le_of_ble_eq_true rfl) (Or.inl rfl) rfl ?_
    refine rn_iconst rfl ?_
    exact rn_ireturn rfl rfl rfl h
  · replace h := h.2 hc
    refine rn_bipush rfl ?_
    exact rn_ireturn rfl rfl rfl h
-- ReplayedBeans$Grammar.closed()I (number 65)
def w_65 (xs : Nat × (Nat → Int32)) (d : Nat) (K : Sv → Option Value → Prop) (S : Sv) : Prop :=
  (¬ ((S 27 2) - 1) = 0 → (K (us S 27 2 ((S 27 2) - 1)) (some (.int 3)))) ∧ (¬ (¬ ((S 27 2) - 1) = 0) → (K (us S 27 2 ((S 27 2) - 1)) (some (.int 10))))
set_option maxRecDepth 100000 in
set_option maxHeartbeats 4000000 in
theorem c_65 {xs : Nat × (Nat → Int32)} {d : Nat} {K : Sv → Option Value → Prop} {S : Sv} (h : w_65 xs d K S) : CS xs (d + 1) 65 S [.ref 27] K := by
  unfold w_65 at h
  refine cs_in rfl rfl rfl rfl ?_
  refine rn_aload_n rfl rfl ?_
  refine rn_dup rfl rfl ?_
  refine rn_getfield rfl rfl rfl ?_
  refine rn_iconst rfl ?_
  refine rn_isub rfl ?_
  refine rn_putfield (S' := (us S 27 2 ((S 27 2) - 1))) rfl rfl (Nat.le_of_ble_eq_true rfl) (Or.inl rfl) rfl ?_
  refine rn_aload_n rfl rfl ?_
  refine rn_getfield rfl rfl rfl ?_
  refine rn_if_ne rfl (fun hc => ?_) (fun hc => ?_)
  · replace h := h.1 hc
    refine rn_iconst rfl ?_
    exact rn_ireturn rfl rfl rfl h
  · replace h := h.2 hc
    refine rn_bipush rfl ?_
    refine rn_goto rfl ?_
    exact rn_ireturn rfl rfl rfl h
-- ReplayedBeans$Grammar.idDigits()I (number 66)
def w_66 (xs : Nat × (Nat → Int32)) (d : Nat) (K : Sv → Option Value → Prop) (S : Sv) : Prop :=
  K (us S 27 3 2) (some (.int 8))
set_option maxRecDepth 100000 in
set_option maxHeartbeats 4000000 in
theorem c_66 {xs : Nat × (Nat → Int32)} {d : Nat} {K : Sv → Option Value → Prop} {S : Sv} (h : w_66 xs d K S) : CS xs (d + 1) 66 S [.ref 27] K := by
  unfold w_66 at h
  refine cs_in rfl rfl rfl rfl ?_
  refine rn_aload_n rfl rfl ?_
  refine rn_iconst rfl ?_
  refine rn_putfield (S' := (us S 27 3 2)) rfl rfl (Nat.le_of_ble_eq_true rfl) (Or.inl rfl) rfl ?_
  refine rn_bipush rfl ?_
  exact rn_ireturn rfl rfl rfl h
-- ReplayedBeans$Grammar.afterDigit(I)I (number 67)
def w_67 (xs : Nat × (Nat → Int32)) (d : Nat) (K : Sv → Option Value → Prop) (a1 : Int32) (S : Sv) : Prop :=
  CS xs d 70 S [.int a1] (fun S1 v1 => ∃ r1 : Int32, v1 = some (.int r1) ∧ ((r1 = 0 → (K S1 (some (.int 11)))) ∧ (¬ (r1 = 0) → ((0 < (S1 27 3) → (K (us S1 27 3 ((S1 27 3) - 1)) (some (.int 9)))) ∧ (¬ (0 < (S1 27 3)) → (K S1 (some (.int 11))))))))
set_option maxRecDepth 100000 in
set_option maxHeartbeats 4000000 in
theorem c_67 {xs : Nat × (Nat → Int32)} {d : Nat} {K : Sv → Option Value → Prop} {a1 : Int32} {S : Sv} (h : w_67 xs d K a1 S) : CS xs (d + 1) 67 S [.ref 27, .int a1] K := by
  unfold w_67 at h
  refine cs_in rfl rfl rfl rfl ?_
  refine rn_iload_n rfl rfl ?_
  refine rn_static rfl (Nat.le_of_ble_eq_true rfl) (Nat.le_of_ble_eq_true rfl) rfl rfl (as := [.int a1]) (rest := []) rfl rfl (cs_mono h (fun S1 v1 h => ?_))
  obtain ⟨r1, rfl, h⟩ := h
  refine rn_if_eq rfl (fun hc => ?_) (fun hc => ?_)
  · replace h := h.1 hc
    refine rn_bipush rfl ?_
    exact rn_ireturn rfl rfl rfl h
  · replace h := h.2 hc
    refine rn_aload_n rfl rfl ?_
    refine rn_getfield rfl rfl rfl ?_
    refine rn_if_gt rfl (fun hc => ?_) (fun hc => ?_)
    · replace h := h.1 hc
      refine rn_aload_n rfl rfl ?_
      refine rn_dup rfl rfl ?_
      refine rn_getfield rfl rfl rfl ?_
      refine rn_iconst rfl ?_
      refine rn_isub rfl ?_
      refine rn_putfield (S' := (us S1 27 3 ((S1 27 3) - 1))) rfl rfl (Nat.le_of_ble_eq_true rfl) (Or.inl rfl) rfl ?_
      refine rn_bipush rfl ?_
      exact rn_ireturn rfl rfl rfl h
    · replace h := h.2 hc
      refine rn_bipush rfl ?_
      exact rn_ireturn rfl rfl rfl h
-- ReplayedBeans$Grammar.afterBody(I)I (number 68)
def w_68 (xs : Nat × (Nat → Int32)) (d : Nat) (K : Sv → Option Value → Prop) (a1 : Int32) (S : Sv) : Prop :=
  CS xs d 72 S [.int a1] (fun S1 v1 => ∃ r1 : Int32, v1 = some (.int r1) ∧ ((r1 = 0 → ((¬ a1 = 41 → (K S1 (some (.int 11)))) ∧ (¬ (¬ a1 = 41) → (CS xs d 65 S1 [.ref 27] (fun S2 v2 => ∃ r2 : Int32, v2 = some (.int r2) ∧ (K S2 (some (.int r2)))))))) ∧ (¬ (r1 = 0) → (CS xs d 71 S1 [.int a1] (fun S3 v3 => ∃ r3 : Int32, v3 = some (.int r3) ∧ ((r3 = 0 → (K S3 (some (.int 5)))) ∧ (¬ (r3 = 0) → (K S3 (some (.int 4))))))))))
set_option maxRecDepth 100000 in
set_option maxHeartbeats 4000000 in
theorem c_68 {xs : Nat × (Nat → Int32)} {d : Nat} {K : Sv → Option Value → Prop} {a1 : Int32} {S : Sv} (h : w_68 xs d K a1 S) : CS xs (d + 1) 68 S [.ref 27, .int a1] K := by
  unfold w_68 at h
  refine cs_in rfl rfl rfl rfl ?_
  refine rn_iload_n rfl rfl ?_
  refine rn_static rfl (Nat.le_of_ble_eq_true rfl) (Nat.le_of_ble_eq_true rfl) rfl rfl (as := [.int a1]) (rest := []) rfl rfl (cs_mono h (fun S1 v1 h => ?_))
  obtain ⟨r1, rfl, h⟩ := h
  refine rn_if_eq rfl (fun hc => ?_) (fun hc => ?_)
  · replace h := h.1 hc
    refine rn_iload_n rfl rfl ?_
    refine rn_bipush rfl ?_
    refine rn_icmp_ne rfl (fun hc => ?_) (fun hc => ?_)
    · replace h := h.1 hc
      refine rn_bipush rfl ?_
      exact rn_ireturn rfl rfl rfl h
    · replace h := h.2 hc
      refine rn_aload_n rfl rfl ?_
      refine rn_virtual rfl (Nat.le_of_ble_eq_true rfl) (Nat.le_of_ble_eq_true rfl) rfl rfl (as := [.ref 27]) (rest := []) rfl rfl rfl (cs_mono h (fun S2 v2 h => ?_))
      obtain ⟨r2, rfl, h⟩ := h
      refine rn_goto rfl ?_
      exact rn_ireturn rfl rfl rfl h
  · replace h := h.2 hc
    refine rn_iload_n rfl rfl ?_
    refine rn_static rfl (Nat.le_of_ble_eq_true rfl) (Nat.le_of_ble_eq_true rfl) rfl rfl (as := [.int a1]) (rest := []) rfl rfl (cs_mono h (fun S3 v3 h => ?_))
    obtain ⟨r3, rfl, h⟩ := h
    refine rn_if_eq rfl (fun hc => ?_) (fun hc => ?_)
    · replace h := h.1 hc
      refine rn_iconst rfl ?_
      exact rn_ireturn rfl rfl rfl h
    · replace h := h.2 hc
      refine rn_iconst rfl ?_
      refine rn_goto rfl ?_
      exact rn_ireturn rfl rfl rfl h
-- ReplayedBeans$Grammar.afterLinkValue(I)I (number 69)
def w_69 (xs : Nat × (Nat → Int32)) (d : Nat) (K : Sv → Option Value → Prop) (a1 : Int32) (S : Sv) : Prop :=
  (a1 = 40 → (CS xs d 64 S [.ref 27] (fun S1 v1 => ∃ r1 : Int32, v1 = some (.int r1) ∧ (K S1 (some (.int r1)))))) ∧ (a1 = 64 → (CS xs d 66 S [.ref 27] (fun S2 v2 => ∃ r2 : Int32, v2 = some (.int r2) ∧ (K S2 (some (.int r2)))))) ∧ (a1 = 126 → (K S (some (.int 3)))) ∧ (¬ a1 = 40 ∧ ¬ a1 = 64 ∧ ¬ a1 = 126 → (K S (some (.int 11))))
set_option maxRecDepth 100000 in
set_option maxHeartbeats 4000000 in
theorem c_69 {xs : Nat × (Nat → Int32)} {d : Nat} {K : Sv → Option Value → Prop} {a1 : Int32} {S : Sv} (h : w_69 xs d K a1 S) : CS xs (d + 1) 69 S [.ref 27, .int a1] K := by
  unfold w_69 at h
  refine cs_in rfl rfl rfl rfl ?_
  refine rn_iload_n rfl rfl ?_
  by_cases hc0 : a1 = 40
  · replace h := h.1 hc0
    rw [hc0]
    refine rn_lookup 36 rfl rfl ?_
    refine rn_aload_n rfl rfl ?_
    refine rn_virtual rfl (Nat.le_of_ble_eq_true rfl) (Nat.le_of_ble_eq_true rfl) rfl rfl (as := [.ref 27]) (rest := []) rfl rfl rfl (cs_mono h (fun S1 v1 h => ?_))
    obtain ⟨r1, rfl, h⟩ := h
    exact rn_ireturn rfl rfl rfl h
  by_cases hc1 : a1 = 64
  · replace h := h.2.1 hc1
    rw [hc1]
    refine rn_lookup 41 rfl rfl ?_
    refine rn_aload_n rfl rfl ?_
    refine rn_virtual rfl (Nat.le_of_ble_eq_true rfl) (Nat.le_of_ble_eq_true rfl) rfl rfl (as := [.ref 27]) (rest := []) rfl rfl rfl (cs_mono h (fun S2 v2 h => ?_))
    obtain ⟨r2, rfl, h⟩ := h
    exact rn_ireturn rfl rfl rfl h
  by_cases hc2 : a1 = 126
  · replace h := h.2.2.1 hc2
    rw [hc2]
    refine rn_lookup 46 rfl rfl ?_
    refine rn_iconst rfl ?_
    exact rn_ireturn rfl rfl rfl h
  replace h := h.2.2.2 ⟨hc0, hc1, hc2⟩
  have hsw : Op.lookupswitch.offset [(40, 35), (64, 40), (126, 45)] 47 a1.toInt = 47 := (lv_osw hc0 (by decide)).trans ((lv_osw hc1 (by decide)).trans ((lv_osw hc2 (by decide)).trans (rfl)))
  refine rn_lookup 48 rfl (by show ((1 : Nat) : Int) + Op.lookupswitch.offset [(40, 35), (64, 40), (126, 45)] 47 a1.toInt = _; rw [hsw]; rfl) ?_
  refine rn_bipush rfl ?_
  exact rn_ireturn rfl rfl rfl h
-- ReplayedBeans$Grammar.isDigit(I)Z (number 70)
def w_70 (xs : Nat × (Nat → Int32)) (d : Nat) (K : Sv → Option Value → Prop) (a0 : Int32) (S : Sv) : Prop :=
  (a0 < 48 → (K S (some (.int 0)))) ∧ (¬ (a0 < 48) → ((57 < a0 → (K S (some (.int 0)))) ∧ (¬ (57 < a0) → (K S (some (.int 1))))))
set_option maxRecDepth 100000 in
set_option maxHeartbeats 4000000 in
theorem c_70 {xs : Nat × (Nat → Int32)} {d : Nat} {K : Sv → Option Value → Prop} {a0 : Int32} {S : Sv} (h : w_70 xs d K a0 S) : CS xs (d + 1) 70 S [.int a0] K := by
  unfold w_70 at h
  refine cs_in rfl rfl rfl rfl ?_
  refine rn_iload_n rfl rfl ?_
  refine rn_bipush rfl ?_
  refine rn_icmp_lt rfl (fun hc => ?_) (fun hc => ?_)
  · replace h := h.1 hc
    refine rn_iconst rfl ?_
    exact rn_ireturn rfl rfl (by decide) h
  · replace h := h.2 hc
    refine rn_iload_n rfl rfl ?_
    refine rn_bipush rfl ?_
    refine rn_icmp_gt rfl (fun hc => ?_) (fun hc => ?_)
    · replace h := h.1 hc
      refine rn_iconst rfl ?_
      exact rn_ireturn rfl rfl (by decide) h
    · replace h := h.2 hc
      refine rn_iconst rfl ?_
      refine rn_goto rfl ?_
      exact rn_ireturn rfl rfl (by decide) h
-- ReplayedBeans$Grammar.isNumberLetter(I)Z (number 71)
def w_71 (xs : Nat × (Nat → Int32)) (d : Nat) (K : Sv → Option Value → Prop) (a0 : Int32) (S : Sv) : Prop :=
  (a0 < 120 → (K S (some (.int 0)))) ∧ (¬ (a0 < 120) → ((122 < a0 → (K S (some (.int 0)))) ∧ (¬ (122 < a0) → (K S (some (.int 1))))))
set_option maxRecDepth 100000 in
set_option maxHeartbeats 4000000 in
theorem c_71 {xs : Nat × (Nat → Int32)} {d : Nat} {K : Sv → Option Value → Prop} {a0 : Int32} {S : Sv} (h : w_71 xs d K a0 S) : CS xs (d + 1) 71 S [.int a0] K := by
  unfold w_71 at h
  refine cs_in rfl rfl rfl rfl ?_
  refine rn_iload_n rfl rfl ?_
  refine rn_bipush rfl ?_
  refine rn_icmp_lt rfl (fun hc => ?_) (fun hc => ?_)
  · replace h := h.1 hc
    refine rn_iconst rfl ?_
    exact rn_ireturn rfl rfl (by decide) h
  · replace h := h.2 hc
    refine rn_iload_n rfl rfl ?_
    refine rn_bipush rfl ?_
    refine rn_icmp_gt rfl (fun hc => ?_) (fun hc => ?_)
    · replace h := h.1 hc
      refine rn_iconst rfl ?_
      exact rn_ireturn rfl rfl (by decide) h
    · replace h := h.2 hc
      refine rn_iconst rfl ?_
      refine rn_goto rfl ?_
      exact rn_ireturn rfl rfl (by decide) h
-- ReplayedBeans$Grammar.isProperty(I)Z (number 72)
def w_72 (xs : Nat × (Nat → Int32)) (d : Nat) (K : Sv → Option Value → Prop) (a0 : Int32) (S : Sv) : Prop :=
  CS xs d 71 S [.int a0] (fun S1 v1 => ∃ r1 : Int32, v1 = some (.int r1) ∧ ((¬ r1 = 0 → (K S1 (some (.int 1)))) ∧ (¬ (¬ r1 = 0) → ((a0 = 112 → (K S1 (some (.int 1)))) ∧ (¬ (a0 = 112) → ((¬ a0 = 113 → (K S1 (some (.int 0)))) ∧ (¬ (¬ a0 = 113) → (K S1 (some (.int 1))))))))))
set_option maxRecDepth 100000 in
set_option maxHeartbeats 4000000 in
theorem c_72 {xs : Nat × (Nat → Int32)} {d : Nat} {K : Sv → Option Value → Prop} {a0 : Int32} {S : Sv} (h : w_72 xs d K a0 S) : CS xs (d + 1) 72 S [.int a0] K := by
  unfold w_72 at h
  refine cs_in rfl rfl rfl rfl ?_
  refine rn_iload_n rfl rfl ?_
  refine rn_static rfl (Nat.le_of_ble_eq_true rfl) (Nat.le_of_ble_eq_true rfl) rfl rfl (as := [.int a0]) (rest := []) rfl rfl (cs_mono h (fun S1 v1 h => ?_))
  obtain ⟨r1, rfl, h⟩ := h
  refine rn_if_ne rfl (fun hc => ?_) (fun hc => ?_)
  · replace h := h.1 hc
    refine rn_iconst rfl ?_
    refine rn_goto rfl ?_
    exact rn_ireturn rfl rfl (by decide) h
  · replace h := h.2 hc
    refine rn_iload_n rfl rfl ?_
    refine rn_bipush rfl ?_
    refine rn_icmp_eq rfl (fun hc => ?_) (fun hc => ?_)
    · replace h := h.1 hc
      refine rn_iconst rfl ?_
      refine rn_goto rfl ?_
      exact rn_ireturn rfl rfl (by decide) h
    · replace h := h.2 hc
      refine rn_iload_n rfl rfl ?_
      refine rn_bipush rfl ?_
      refine rn_icmp_ne rfl (fun hc => ?_) (fun hc => ?_)
      · replace h := h.1 hc
        refine rn_iconst rfl ?_
        exact rn_ireturn rfl rfl (by decide) h
      · replace h := h.2 hc
        refine rn_iconst rfl ?_
        refine rn_goto rfl ?_
        exact rn_ireturn rfl rfl (by decide) h
end
section
-- ReplayedBeans$Replay.run()I (number 74)
def w_74 (xs : Nat × (Nat → Int32)) (d : Nat) (K : Sv → Option Value → Prop) (S : Sv) : Prop :=
  CS xs d 0 S [.ref 29, .int (-1)] (fun S1 v1 => v1 = none ∧ (CS xs d 77 (us (us S1 28 4 0) 28 5 1) [.ref 28, .int 1] (fun S2 v2 => ∃ r2 : Int32, v2 = some (.int r2) ∧ (K S2 (some (.int r2))))))
set_option maxRecDepth 100000 in
set_option maxHeartbeats 4000000 in
theorem c_74 {xs : Nat × (Nat → Int32)} {d : Nat} {K : Sv → Option Value → Prop} {S : Sv} (h : w_74 xs d K S) : CS xs (d + 1) 74 S [.ref 28] K := by
  unfold w_74 at h
  refine cs_in rfl rfl rfl rfl ?_
  refine rn_aload_n rfl rfl ?_
  refine rn_getfield rfl rfl rfl ?_
  refine rn_iconst rfl ?_
  refine rn_static rfl (Nat.le_of_ble_eq_true rfl) (Nat.le_of_ble_eq_true rfl) rfl rfl (as := [.ref 29, .int (-1)]) (rest := []) rfl rfl (cs_mono h (fun S1 v1 h => ?_))
  obtain ⟨rfl, h⟩ := h
  refine rn_aload_n rfl rfl ?_
  refine rn_iconst rfl ?_
  refine rn_putfield (S' := (us S1 28 4 0)) rfl rfl (Nat.le_of_ble_eq_true rfl) (Or.inl rfl) rfl ?_
  refine rn_aload_n rfl rfl ?_
  refine rn_iconst rfl ?_
  refine rn_putfield (S' := (us (us S1 28 4 0) 28 5 1)) rfl rfl (Nat.le_of_ble_eq_true rfl) (Or.inl rfl) rfl ?_
  refine rn_aload_n rfl rfl ?_
  refine rn_iconst rfl ?_
  refine rn_virtual rfl (Nat.le_of_ble_eq_true rfl) (Nat.le_of_ble_eq_true rfl) rfl rfl (as := [.ref 28, .int 1]) (rest := []) rfl rfl rfl (cs_mono h (fun S2 v2 h => ?_))
  obtain ⟨r2, rfl, h⟩ := h
  exact rn_ireturn rfl rfl rfl h
-- ReplayedBeans$Replay.failedPlace(I)I (number 75)
def w_75 (xs : Nat × (Nat → Int32)) (d : Nat) (K : Sv → Option Value → Prop) (a1 : Int32) (S : Sv) : Prop :=
  (a1 < 0 → (K S (some (.int 0)))) ∧ (¬ (a1 < 0) → (((S 28 4) ≤ a1 → (K S (some (.int 0)))) ∧ (¬ ((S 28 4) ≤ a1) → (∃ j1 : Nat, j1 < 300 ∧ a1 = nI j1 ∧ (K S (some (.int (S 30 j1))))))))
set_option maxRecDepth 100000 in
set_option maxHeartbeats 4000000 in
theorem c_75 {xs : Nat × (Nat → Int32)} {d : Nat} {K : Sv → Option Value → Prop} {a1 : Int32} {S : Sv} (h : w_75 xs d K a1 S) : CS xs (d + 1) 75 S [.ref 28, .int a1] K := by
  unfold w_75 at h
  refine cs_in rfl rfl rfl rfl ?_
  refine rn_iload_n rfl rfl ?_
  refine rn_if_lt rfl (fun hc => ?_) (fun hc => ?_)
  · replace h := h.1 hc
    refine rn_iconst rfl ?_
    exact rn_ireturn rfl rfl rfl h
  · replace h := h.2 hc
    refine rn_iload_n rfl rfl ?_
    refine rn_aload_n rfl rfl ?_
    refine rn_getfield rfl rfl rfl ?_
    refine rn_icmp_ge rfl (fun hc => ?_) (fun hc => ?_)
    · replace h := h.1 hc
      refine rn_iconst rfl ?_
      exact rn_ireturn rfl rfl rfl h
    · replace h := h.2 hc
      refine rn_aload_n rfl rfl ?_
      refine rn_getfield rfl rfl rfl ?_
      refine rn_iload_n rfl rfl ?_
      obtain ⟨j1, hj1, ej1, h⟩ := h
      refine rn_iaload (j := j1) rfl rfl (Nat.le_of_ble_eq_true rfl) ej1 hj1 ?_
      refine rn_goto rfl ?_
      exact rn_ireturn rfl rfl rfl h
-- ReplayedBeans$Replay.fail(I)V (number 76)
def w_76 (xs : Nat × (Nat → Int32)) (d : Nat) (K : Sv → Option Value → Prop) (a1 : Int32) (S : Sv) : Prop :=
  (300 ≤ (S 28 4) → (K S none)) ∧ (¬ (300 ≤ (S 28 4)) → (∃ j1 : Nat, j1 < 300 ∧ (S 28 4) = nI j1 ∧ (K (us (us S 30 j1 a1) 28 4 ((S 28 4) + 1)) none)))
set_option maxRecDepth 100000 in
set_option maxHeartbeats 4000000 in
theorem c_76 {xs : Nat × (Nat → Int32)} {d : Nat} {K : Sv → Option Value → Prop} {a1 : Int32} {S : Sv} (h : w_76 xs d K a1 S) : CS xs (d + 1) 76 S [.ref 28, .int a1] K := by
  unfold w_76 at h
  refine cs_in rfl rfl rfl rfl ?_
  refine rn_aload_n rfl rfl ?_
  refine rn_getfield rfl rfl rfl ?_
  refine rn_sipush rfl ?_
  refine rn_icmp_ge rfl (fun hc => ?_) (fun hc => ?_)
  · replace h := h.1 hc
    exact rn_return rfl rfl h
  · replace h := h.2 hc
    refine rn_aload_n rfl rfl ?_
    refine rn_getfield rfl rfl rfl ?_
    refine rn_aload_n rfl rfl ?_
    refine rn_getfield rfl rfl rfl ?_
    refine rn_iload_n rfl rfl ?_
    obtain ⟨j1, hj1, ej1, h⟩ := h
    refine rn_iastore (j := j1) (S' := (us S 30 j1 a1)) rfl rfl (Nat.le_of_ble_eq_true rfl) ej1 hj1 rfl ?_
    refine rn_aload_n rfl rfl ?_
    refine rn_dup rfl rfl ?_
    refine rn_getfield rfl rfl rfl ?_
    refine rn_iconst rfl ?_
    refine rn_iadd rfl ?_
    refine rn_putfield (S' := (us (us S 30 j1 a1) 28 4 ((S 28 4) + 1))) rfl rfl (Nat.le_of_ble_eq_true rfl) (Or.inl rfl) rfl ?_
    exact rn_return rfl rfl h
-- ReplayedBeans$Replay.replayObject(I)I (number 77)
def R_77_45 (xs : Nat × (Nat → Int32)) (d : Nat) (K : Sv → Option Value → Prop) (a1 a2 : Int32) (S : Sv) : Prop := ∀ u3 : Option Value, RN xs d 77 K 45 [some (.ref 28), some (.int a1), some (.int a2), u3] [] S
def R_77_78 (xs : Nat × (Nat → Int32)) (d : Nat) (K : Sv → Option Value → Prop) (a1 a2 a3 : Int32) (S : Sv) : Prop := RN xs d 77 K 78 [some (.ref 28), some (.int a1), some (.int a2), some (.int a3)] [] S
def w_77_45 (xs : Nat × (Nat → Int32)) (d : Nat) (K : Sv → Option Value → Prop) (a1 a2 : Int32) (S : Sv) : Prop :=
  CS xs d 50 (us S 28 5 ((S 28 5) + 2)) [.ref 19, .int ((S 28 5) + 2)] (fun S1 v1 => ∃ r1 : Int32, v1 = some (.int r1) ∧ ((¬ r1 = 35 → (R_77_78 xs d K a1 a2 0 S1)) ∧ (¬ (¬ r1 = 35) → (CS xs d 78 S1 [.ref 28, .int a2] (fun S2 v2 => v2 = none ∧ (R_77_78 xs d K a1 a2 0 S2))))))
set_option maxRecDepth 100000 in
set_option maxHeartbeats 4000000 in
theorem h_77_45 {xs : Nat × (Nat → Int32)} {d : Nat} {K : Sv → Option Value → Prop} {a1 a2 : Int32} {S : Sv} (h : w_77_45 xs d K a1 a2 S) : R_77_45 xs d K a1 a2 S := by
  unfold w_77_45 at h
  unfold R_77_45
  intro u3
  refine rn_aload_n rfl rfl ?_
  refine rn_dup rfl rfl ?_
  refine rn_getfield rfl rfl rfl ?_
  refine rn_iconst rfl ?_
  refine rn_iadd rfl ?_
  refine rn_putfield (S' := (us S 28 5 ((S 28 5) + 2))) rfl rfl (Nat.le_of_ble_eq_true rfl) (Or.inl rfl) rfl ?_
  refine rn_aload_n rfl rfl ?_
  refine rn_getfield rfl rfl rfl ?_
  refine rn_aload_n rfl rfl ?_
  refine rn_getfield rfl rfl rfl ?_
  refine rn_virtual rfl (Nat.le_of_ble_eq_true rfl) (Nat.le_of_ble_eq_true rfl) rfl rfl (as := [.ref 19, .int ((S 28 5) + 2)]) (rest := []) rfl rfl rfl (cs_mono h (fun S1 v1 h => ?_))
  obtain ⟨r1, rfl, h⟩ := h
  refine rn_bipush rfl ?_
  refine rn_icmp_ne rfl (fun hc => ?_) (fun hc => ?_)
  · replace h := h.1 hc
    refine rn_iconst rfl ?_
    refine rn_istore_n rfl rfl ?_
    exact h
  · replace h := h.2 hc
    refine rn_aload_n rfl rfl ?_
    refine rn_iload_n rfl rfl ?_
    refine rn_virtual rfl (Nat.le_of_ble_eq_true rfl) (Nat.le_of_ble_eq_true rfl) rfl rfl (as := [.ref 28, .int a2]) (rest := []) rfl rfl rfl (cs_mono h (fun S2 v2 h => ?_))
    obtain ⟨rfl, h⟩ := h
    refine rn_iconst rfl ?_
    refine rn_istore_n rfl rfl ?_
    exact h
def w_77_78 (xs : Nat × (Nat → Int32)) (d : Nat) (K : Sv → Option Value → Prop) (a1 a2 a3 : Int32) (S : Sv) : Prop :=
  (300 ≤ a3 → (K (us S 28 5 ((S 28 5) + 1)) (some (.int a2)))) ∧ (¬ (300 ≤ a3) → (CS xs d 50 S [.ref 19, .int (S 28 5)] (fun S1 v1 => ∃ r1 : Int32, v1 = some (.int r1) ∧ (CS xs d 72 S1 [.int r1] (fun S2 v2 => ∃ r2 : Int32, v2 = some (.int r2) ∧ ((r2 = 0 → (K (us S2 28 5 ((S2 28 5) + 1)) (some (.int a2)))) ∧ (¬ (r2 = 0) → (CS xs d 79 S2 [.ref 28, .int a2, .int a1] (fun S3 v3 => v3 = none ∧ (R_77_78 xs d K a1 a2 (a3 + 1) S3))))))))))
set_option maxRecDepth 100000 in
set_option maxHeartbeats 4000000 in
theorem h_77_78 {xs : Nat × (Nat → Int32)} {d : Nat} {K : Sv → Option Value → Prop} {a1 a2 a3 : Int32} {S : Sv} (h : w_77_78 xs d K a1 a2 a3 S) : R_77_78 xs d K a1 a2 a3 S := by
  unfold w_77_78 at h
  unfold R_77_78
  refine rn_iload_n rfl rfl ?_
  refine rn_sipush rfl ?_
  refine rn_icmp_ge rfl (fun hc => ?_) (fun hc => ?_)
  · replace h := h.1 hc
    refine rn_aload_n rfl rfl ?_
    refine rn_dup rfl rfl ?_
    refine rn_getfield rfl rfl rfl ?_
    refine rn_iconst rfl ?_
    refine rn_iadd rfl ?_
    refine rn_putfield (S' := (us S 28 5 ((S 28 5) + 1))) rfl rfl (Nat.le_of_ble_eq_true rfl) (Or.inl rfl) rfl ?_
    refine rn_iload_n rfl rfl ?_
    exact rn_ireturn rfl rfl rfl h
  · replace h := h.2 hc
    refine rn_aload_n rfl rfl ?_
    refine rn_getfield rfl rfl rfl ?_
    refine rn_aload_n rfl rfl ?_
    refine rn_getfield rfl rfl rfl ?_
    refine rn_virtual rfl (Nat.le_of_ble_eq_true rfl) (Nat.le_of_ble_eq_true rfl) rfl rfl (as := [.ref 19, .int (S 28 5)]) (rest := []) rfl rfl rfl (cs_mono h (fun S1 v1 h => ?_))
    obtain ⟨r1, rfl, h⟩ := h
    refine rn_static rfl (Nat.le_of_ble_eq_true rfl) (Nat.le_of_ble_eq_true rfl) rfl rfl (as := [.int r1]) (rest := []) rfl rfl (cs_mono h (fun S2 v2 h => ?_))
    obtain ⟨r2, rfl, h⟩ := h
    refine rn_if_eq rfl (fun hc => ?_) (fun hc => ?_)
    · replace h := h.1 hc
      refine rn_aload_n rfl rfl ?_
      refine rn_dup rfl rfl ?_
      refine rn_getfield rfl rfl rfl ?_
      refine rn_iconst rfl ?_
      refine rn_iadd rfl ?_
      refine rn_putfield (S' := (us S2 28 5 ((S2 28 5) + 1))) rfl rfl (Nat.le_of_ble_eq_true rfl) (Or.inl rfl) rfl ?_
      refine rn_iload_n rfl rfl ?_
      exact rn_ireturn rfl rfl rfl h
    · replace h := h.2 hc
      refine rn_aload_n rfl rfl ?_
      refine rn_iload_n rfl rfl ?_
      refine rn_iload_n rfl rfl ?_
      refine rn_virtual rfl (Nat.le_of_ble_eq_true rfl) (Nat.le_of_ble_eq_true rfl) rfl rfl (as := [.ref 28, .int a2, .int a1]) (rest := []) rfl rfl rfl (cs_mono h (fun S3 v3 h => ?_))
      obtain ⟨rfl, h⟩ := h
      refine rn_iinc rfl rfl rfl ?_
      refine rn_goto rfl ?_
      exact h
def w_77 (xs : Nat × (Nat → Int32)) (d : Nat) (K : Sv → Option Value → Prop) (a1 : Int32) (S : Sv) : Prop :=
  (a1 ≤ 10 → (CS xs d 50 S [.ref 19, .int ((S 28 5) + 1)] (fun S1 v1 => ∃ r1 : Int32, v1 = some (.int r1) ∧ (CS xs d 32 S1 [.ref 8, .int (r1 - 97)] (fun S2 v2 => ∃ r2 : Int32, v2 = some (.int r2) ∧ ((¬ r2 = (-1) → (R_77_45 xs d K a1 r2 S2)) ∧ (¬ (¬ r2 = (-1)) → (CS xs d 76 S2 [.ref 28, .int (S2 28 5)] (fun S3 v3 => v3 = none ∧ (R_77_45 xs d K a1 r2 S3)))))))))) ∧ (¬ (a1 ≤ 10) → (K S (some (.int (-1)))))
set_option maxRecDepth 100000 in
set_option maxHeartbeats 4000000 in
theorem c_77 {xs : Nat × (Nat → Int32)} {d : Nat} {K : Sv → Option Value → Prop} {a1 : Int32} {S : Sv} (h : w_77 xs d K a1 S) : CS xs (d + 1) 77 S [.ref 28, .int a1] K := by
  unfold w_77 at h
  refine cs_in rfl rfl rfl rfl ?_
  refine rn_iload_n rfl rfl ?_
  refine rn_bipush rfl ?_
  refine rn_icmp_le rfl (fun hc => ?_) (fun hc => ?_)
  · replace h := h.1 hc
    refine rn_aload_n rfl rfl ?_
    refine rn_getfield rfl rfl rfl ?_
    refine rn_aload_n rfl rfl ?_
    refine rn_getfield rfl rfl rfl ?_
    refine rn_aload_n rfl rfl ?_
    refine rn_getfield rfl rfl rfl ?_
    refine rn_iconst rfl ?_
    refine rn_iadd rfl ?_
    refine rn_virtual rfl (Nat.le_of_ble_eq_true rfl) (Nat.le_of_ble_eq_true rfl) rfl rfl (as := [.ref 19, .int ((S 28 5) + 1)]) (rest := [.ref 8]) rfl rfl rfl (cs_mono h (fun S1 v1 h => ?_))
    obtain ⟨r1, rfl, h⟩ := h
    refine rn_bipush rfl ?_
    refine rn_isub rfl ?_
    refine rn_virtual rfl (Nat.le_of_ble_eq_true rfl) (Nat.le_of_ble_eq_true rfl) rfl rfl (as := [.ref 8, .int (r1 - 97)]) (rest := []) rfl rfl rfl (cs_mono h (fun S2 v2 h => ?_))
    obtain ⟨r2, rfl, h⟩ := h
    refine rn_istore_n rfl rfl ?_
    refine rn_iload_n rfl rfl ?_
    refine rn_iconst rfl ?_
    refine rn_icmp_ne rfl (fun hc => ?_) (fun hc => ?_)
    · replace h := h.1 hc
      exact h _
    · replace h := h.2 hc
      refine rn_aload_n rfl rfl ?_
      refine rn_aload_n rfl rfl ?_
      refine rn_getfield rfl rfl rfl ?_
      refine rn_virtual rfl (Nat.le_of_ble_eq_true rfl) (Nat.le_of_ble_eq_true rfl) rfl rfl (as := [.ref 28, .int (S2 28 5)]) (rest := []) rfl rfl rfl (cs_mono h (fun S3 v3 h => ?_))
      obtain ⟨rfl, h⟩ := h
      exact h _
  · replace h := h.2 hc
    refine rn_iconst rfl ?_
    exact rn_ireturn rfl rfl rfl h
-- ReplayedBeans$Replay.replayNaming(I)V (number 78)
def w_78 (xs : Nat × (Nat → Int32)) (d : Nat) (K : Sv → Option Value → Prop) (a1 : Int32) (S : Sv) : Prop :=
  CS xs d 83 (us S 28 5 ((S 28 5) + 1)) [.ref 28, .int 2] (fun S1 v1 => ∃ r1 : Int32, v1 = some (.int r1) ∧ ((a1 = (-1) → (CS xs d 76 S1 [.ref 28, .int (S 28 5)] (fun S2 v2 => v2 = none ∧ (K S2 none)))) ∧ (¬ (a1 = (-1)) → (∃ j3 : Nat, j3 < 100 ∧ r1 = nI j3 ∧ (((S1 29 j3) = (-1) → (∃ j4 : Nat, j4 < 100 ∧ r1 = nI j4 ∧ (K (us S1 29 j4 a1) none))) ∧ (¬ ((S1 29 j3) = (-1)) → (CS xs d 76 S1 [.ref 28, .int (S 28 5)] (fun S5 v5 => v5 = none ∧ (K S5 none)))))))))
set_option maxRecDepth 100000 in
set_option maxHeartbeats 4000000 in
theorem c_78 {xs : Nat × (Nat → Int32)} {d : Nat} {K : Sv → Option Value → Prop} {a1 : Int32} {S : Sv} (h : w_78 xs d K a1 S) : CS xs (d + 1) 78 S [.ref 28, .int a1] K := by
  unfold w_78 at h
  refine cs_in rfl rfl rfl rfl ?_
  refine rn_aload_n rfl rfl ?_
  refine rn_getfield rfl rfl rfl ?_
  refine rn_istore_n rfl rfl ?_
  refine rn_aload_n rfl rfl ?_
  refine rn_dup rfl rfl ?_
  refine rn_getfield rfl rfl rfl ?_
  refine rn_iconst rfl ?_
  refine rn_iadd rfl ?_
  refine rn_putfield (S' := (us S 28 5 ((S 28 5) + 1))) rfl rfl (Nat.le_of_ble_eq_true rfl) (Or.inl rfl) rfl ?_
  refine rn_aload_n rfl rfl ?_
  refine rn_iconst rfl ?_
  refine rn_virtual rfl (Nat.le_of_ble_eq_true rfl) (Nat.le_of_ble_eq_true rfl) rfl rfl (as := [.ref 28, .int 2]) (rest := []) rfl rfl rfl (cs_mono h (fun S1 v1 h => ?_))
  obtain ⟨r1, rfl, h⟩ := h
  refine rn_istore_n rfl rfl ?_
  refine rn_iload_n rfl rfl ?_
  refine rn_iconst rfl ?_
  refine rn_icmp_eq rfl (fun hc => ?_) (fun hc => ?_)
  · replace h := h.1 hc
    refine rn_aload_n rfl rfl ?_
    refine rn_iload_n rfl rfl ?_
    refine rn_virtual rfl (Nat.le_of_ble_eq_true rfl) (Nat.le_of_ble_eq_true rfl) rfl rfl (as := [.ref 28, .int (S 28 5)]) (rest := []) rfl rfl rfl (cs_mono h (fun S2 v2 h => ?_))
    obtain ⟨rfl, h⟩ := h
    refine rn_goto rfl ?_
    exact rn_return rfl rfl h
  · replace h := h.2 hc
    refine rn_aload_n rfl rfl ?_
    refine rn_getfield rfl rfl rfl ?_
    refine rn_iload_n rfl rfl ?_
    obtain ⟨j3, hj3, ej3, h⟩ := h
    refine rn_iaload (j := j3) rfl rfl (Nat.le_of_ble_eq_true rfl) ej3 hj3 ?_
    refine rn_iconst rfl ?_
    refine rn_icmp_eq rfl (fun hc => ?_) (fun hc => ?_)
    · replace h := h.1 hc
      refine rn_aload_n rfl rfl ?_
      refine rn_getfield rfl rfl rfl ?_
      refine rn_iload_n rfl rfl ?_
      refine rn_iload_n rfl rfl ?_
      obtain ⟨j4, hj4, ej4, h⟩ := h
      refine rn_iastore (j := j4) (S' := (us S1 29 j4 a1)) rfl rfl (Nat.le_of_ble_eq_true rfl) ej4 hj4 rfl ?_
      exact rn_return rfl rfl h
    · replace h := h.2 hc
      refine rn_aload_n rfl rfl ?_
      refine rn_iload_n rfl rfl ?_
      refine rn_virtual rfl (Nat.le_of_ble_eq_true rfl) (Nat.le_of_ble_eq_true rfl) rfl rfl (as := [.ref 28, .int (S 28 5)]) (rest := []) rfl rfl rfl (cs_mono h (fun S5 v5 h => ?_))
      obtain ⟨rfl, h⟩ := h
      refine rn_goto rfl ?_
      exact rn_return rfl rfl h
-- ReplayedBeans$Replay.replayStatement(II)V (number 79)
def w_79 (xs : Nat × (Nat → Int32)) (d : Nat) (K : Sv → Option Value → Prop) (a1 a2 : Int32) (S : Sv) : Prop :=
  CS xs d 50 S [.ref 19, .int (S 28 5)] (fun S1 v1 => ∃ r1 : Int32, v1 = some (.int r1) ∧ (CS xs d 71 (us S1 28 5 ((S1 28 5) + 2)) [.int r1] (fun S2 v2 => ∃ r2 : Int32, v2 = some (.int r2) ∧ ((r2 = 0 → (CS xs d 81 S2 [.ref 28, .int a2] (fun S3 v3 => ∃ r3 : Int32, v3 = some (.int r3) ∧ (CS xs d 36 S3 [.ref 8, .int a1, .int (r1 - 112), .int r3] (fun S4 v4 => ∃ r4 : Int32, v4 = some (.int r4) ∧ ((¬ r4 = 0 → (K S4 none)) ∧ (¬ (¬ r4 = 0) → (CS xs d 76 S4 [.ref 28, .int (S 28 5)] (fun S5 v5 => v5 = none ∧ (K S5 none)))))))))) ∧ (¬ (r2 = 0) → (CS xs d 80 S2 [.ref 28] (fun S6 v6 => ∃ r6 : Int32, v6 = some (.int r6) ∧ (CS xs d 35 S6 [.ref 8, .int a1, .int (r1 - 120), .int r6] (fun S7 v7 => ∃ r7 : Int32, v7 = some (.int r7) ∧ ((¬ r7 = 0 → (K S7 none)) ∧ (¬ (¬ r7 = 0) → (CS xs d 76 S7 [.ref 28, .int (S 28 5)] (fun S8 v8 => v8 = none ∧ (K S8 none))))))))))))))
set_option maxRecDepth 100000 in
set_option maxHeartbeats 4000000 in
theorem c_79 {xs : Nat × (Nat → Int32)} {d : Nat} {K : Sv → Option Value → Prop} {a1 a2 : Int32} {S : Sv} (h : w_79 xs d K a1 a2 S) : CS xs (d + 1) 79 S [.ref 28, .int a1, .int a2] K := by
  unfold w_79 at h
  refine cs_in rfl rfl rfl rfl ?_
  refine rn_aload_n rfl rfl ?_
  refine rn_getfield rfl rfl rfl ?_
  refine rn_istore_n rfl rfl ?_
  refine rn_aload_n rfl rfl ?_
  refine rn_getfield rfl rfl rfl ?_
  refine rn_aload_n rfl rfl ?_
  refine rn_getfield rfl rfl rfl ?_
  refine rn_virtual rfl (Nat.le_of_ble_eq_true rfl) (Nat.le_of_ble_eq_true rfl) rfl rfl (as := [.ref 19, .int (S 28 5)]) (rest := []) rfl rfl rfl (cs_mono h (fun S1 v1 h => ?_))
  obtain ⟨r1, rfl, h⟩ := h
  refine rn_istore rfl rfl ?_
  refine rn_aload_n rfl rfl ?_
  refine rn_dup rfl rfl ?_
  refine rn_getfield rfl rfl rfl ?_
  refine rn_iconst rfl ?_
  refine rn_iadd rfl ?_
  refine rn_putfield (S' := (us S1 28 5 ((S1 28 5) + 2))) rfl rfl (Nat.le_of_ble_eq_true rfl) (Or.inl rfl) rfl ?_
  refine rn_iload rfl rfl ?_
  refine rn_static rfl (Nat.le_of_ble_eq_true rfl) (Nat.le_of_ble_eq_true rfl) rfl rfl (as := [.int r1]) (rest := []) rfl rfl (cs_mono h (fun S2 v2 h => ?_))
  obtain ⟨r2, rfl, h⟩ := h
  refine rn_if_eq rfl (fun hc => ?_) (fun hc => ?_)
  · replace h := h.1 hc
    refine rn_aload_n rfl rfl ?_
    refine rn_getfield rfl rfl rfl ?_
    refine rn_iload_n rfl rfl ?_
    refine rn_iload rfl rfl ?_
    refine rn_bipush rfl ?_
    refine rn_isub rfl ?_
    refine rn_aload_n rfl rfl ?_
    refine rn_iload_n rfl rfl ?_
    refine rn_virtual rfl (Nat.le_of_ble_eq_true rfl) (Nat.le_of_ble_eq_true rfl) rfl rfl (as := [.ref 28, .int a2]) (rest := [.int (r1 - 112), .int a1, .ref 8]) rfl rfl rfl (cs_mono h (fun S3 v3 h => ?_))
    obtain ⟨r3, rfl, h⟩ := h
    refine rn_virtual rfl (Nat.le_of_ble_eq_true rfl) (Nat.le_of_ble_eq_true rfl) rfl rfl (as := [.ref 8, .int a1, .int (r1 - 112), .int r3]) (rest := []) rfl rfl rfl (cs_mono h (fun S4 v4 h => ?_))
    obtain ⟨r4, rfl, h⟩ := h
    refine rn_istore rfl rfl ?_
    refine rn_iload rfl rfl ?_
    refine rn_if_ne rfl (fun hc => ?_) (fun hc => ?_)
    · replace h := h.1 hc
      exact rn_return rfl rfl h
    · replace h := h.2 hc
      refine rn_aload_n rfl rfl ?_
      refine rn_iload_n rfl rfl ?_
      refine rn_virtual rfl (Nat.le_of_ble_eq_true rfl) (Nat.le_of_ble_eq_true rfl) rfl rfl (as := [.ref 28, .int (S 28 5)]) (rest := []) rfl rfl rfl (cs_mono h (fun S5 v5 h => ?_))
      obtain ⟨rfl, h⟩ := h
      exact rn_return rfl rfl h
  · replace h := h.2 hc
    refine rn_aload_n rfl rfl ?_
    refine rn_getfield rfl rfl rfl ?_
    refine rn_iload_n rfl rfl ?_
    refine rn_iload rfl rfl ?_
    refine rn_bipush rfl ?_
    refine rn_isub rfl ?_
    refine rn_aload_n rfl rfl ?_
    refine rn_virtual rfl (Nat.le_of_ble_eq_true rfl) (Nat.le_of_ble_eq_true rfl) rfl rfl (as := [.ref 28]) (rest := [.int (r1 - 120), .int a1, .ref 8]) rfl rfl rfl (cs_mono h (fun S6 v6 h => ?_))
    obtain ⟨r6, rfl, h⟩ := h
    refine rn_virtual rfl (Nat.le_of_ble_eq_true rfl) (Nat.le_of_ble_eq_true rfl) rfl rfl (as := [.ref 8, .int a1, .int (r1 - 120), .int r6]) (rest := []) rfl rfl rfl (cs_mono h (fun S7 v7 h => ?_))
    obtain ⟨r7, rfl, h⟩ := h
    refine rn_istore rfl rfl ?_
    refine rn_goto rfl ?_
    refine rn_iload rfl rfl ?_
    refine rn_if_ne rfl (fun hc => ?_) (fun hc => ?_)
    · replace h := h.1 hc
      exact rn_return rfl rfl h
    · replace h := h.2 hc
      refine rn_aload_n rfl rfl ?_
      refine rn_iload_n rfl rfl ?_
      refine rn_virtual rfl (Nat.le_of_ble_eq_true rfl) (Nat.le_of_ble_eq_true rfl) rfl rfl (as := [.ref 28, .int (S 28 5)]) (rest := []) rfl rfl rfl (cs_mono h (fun S8 v8 h => ?_))
      obtain ⟨rfl, h⟩ := h
      exact rn_return rfl rfl h
-- ReplayedBeans$Replay.replayNumber()I (number 80)
def R_80_36 (xs : Nat × (Nat → Int32)) (d : Nat) (K : Sv → Option Value → Prop) (a1 : Int32) (S : Sv) : Prop := ∀ u2 : Option Value, RN xs d 80 K 36 [some (.ref 28), some (.int a1), u2] [] S
def w_80_36 (xs : Nat × (Nat → Int32)) (d : Nat) (K : Sv → Option Value → Prop) (a1 : Int32) (S : Sv) : Prop :=
  CS xs d 83 S [.ref 28, .int 5] (fun S1 v1 => ∃ r1 : Int32, v1 = some (.int r1) ∧ ((a1 = 0 → (K S1 (some (.int r1)))) ∧ (¬ (a1 = 0) → (K S1 (some (.int (-r1)))))))
set_option maxRecDepth 100000 in
set_option maxHeartbeats 4000000 in
theorem h_80_36 {xs : Nat × (Nat → Int32)} {d : Nat} {K : Sv → Option Value → Prop} {a1 : Int32} {S : Sv} (h : w_80_36 xs d K a1 S) : R_80_36 xs d K a1 S := by
  unfold w_80_36 at h
  unfold R_80_36
  intro u2
  refine rn_aload_n rfl rfl ?_
  refine rn_iconst rfl ?_
  refine rn_virtual rfl (Nat.le_of_ble_eq_true rfl) (Nat.le_of_ble_eq_true rfl) rfl rfl (as := [.ref 28, .int 5]) (rest := []) rfl rfl rfl (cs_mono h (fun S1 v1 h => ?_))
  obtain ⟨r1, rfl, h⟩ := h
  refine rn_istore_n rfl rfl ?_
  refine rn_iload_n rfl rfl ?_
  refine rn_if_eq rfl (fun hc => ?_) (fun hc => ?_)
  · replace h := h.1 hc
    refine rn_iload_n rfl rfl ?_
    exact rn_ireturn rfl rfl rfl h
  · replace h := h.2 hc
    refine rn_iload_n rfl rfl ?_
    refine rn_ineg rfl ?_
    refine rn_goto rfl ?_
    exact rn_ireturn rfl rfl rfl h
def w_80 (xs : Nat × (Nat → Int32)) (d : Nat) (K : Sv → Option Value → Prop) (S : Sv) : Prop :=
  CS xs d 50 S [.ref 19, .int (S 28 5)] (fun S1 v1 => ∃ r1 : Int32, v1 = some (.int r1) ∧ ((¬ r1 = 45 → (R_80_36 xs d K 0 S1)) ∧ (¬ (¬ r1 = 45) → (R_80_36 xs d K 1 (us S1 28 5 ((S1 28 5) + 1))))))
set_option maxRecDepth 100000 in
set_option maxHeartbeats 4000000 in
theorem c_80 {xs : Nat × (Nat → Int32)} {d : Nat} {K : Sv → Option Value → Prop} {S : Sv} (h : w_80 xs d K S) : CS xs (d + 1) 80 S [.ref 28] K := by
  unfold w_80 at h
  refine cs_in rfl rfl rfl rfl ?_
  refine rn_aload_n rfl rfl ?_
  refine rn_getfield rfl rfl rfl ?_
  refine rn_aload_n rfl rfl ?_
  refine rn_getfield rfl rfl rfl ?_
  refine rn_virtual rfl (Nat.le_of_ble_eq_true rfl) (Nat.le_of_ble_eq_true rfl) rfl rfl (as := [.ref 19, .int (S 28 5)]) (rest := []) rfl rfl rfl (cs_mono h (fun S1 v1 h => ?_))
  obtain ⟨r1, rfl, h⟩ := h
  refine rn_bipush rfl ?_
  refine rn_icmp_ne rfl (fun hc => ?_) (fun hc => ?_)
  · replace h := h.1 hc
    refine rn_iconst rfl ?_
    refine rn_istore_n rfl rfl ?_
    refine rn_iload_n rfl rfl ?_
    refine rn_if_eq rfl (fun _ => ?_) (fun hc => absurd (by decide) hc)
    exact h _
  · replace h := h.2 hc
    refine rn_iconst rfl ?_
    refine rn_goto rfl ?_
    refine rn_istore_n rfl rfl ?_
    refine rn_iload_n rfl rfl ?_
    refine rn_if_eq rfl (fun hc => absurd hc (by decide)) (fun _ => ?_)
    refine rn_aload_n rfl rfl ?_
    refine rn_dup rfl rfl ?_
    refine rn_getfield rfl rfl rfl ?_
    refine rn_iconst rfl ?_
    refine rn_iadd rfl ?_
    refine rn_putfield (S' := (us S1 28 5 ((S1 28 5) + 1))) rfl rfl (Nat.le_of_ble_eq_true rfl) (Or.inl rfl) rfl ?_
    exact h _
-- ReplayedBeans$Replay.replayLinkValue(I)I (number 81)
def w_81 (xs : Nat × (Nat → Int32)) (d : Nat) (K : Sv → Option Value → Prop) (a1 : Int32) (S : Sv) : Prop :=
  CS xs d 50 S [.ref 19, .int (S 28 5)] (fun S1 v1 => ∃ r1 : Int32, v1 = some (.int r1) ∧ ((¬ r1 = 40 → ((¬ r1 = 64 → (K (us S1 28 5 ((S1 28 5) + 1)) (some (.int (-1))))) ∧ (¬ (¬ r1 = 64) → (CS xs d 83 (us S1 28 5 ((S1 28 5) + 1)) [.ref 28, .int 2] (fun S2 v2 => ∃ r2 : Int32, v2 = some (.int r2) ∧ (∃ j3 : Nat, j3 < 100 ∧ r2 = nI j3 ∧ (CS xs d 82 S2 [.ref 28, .int (S2 29 j3)] (fun S4 v4 => ∃ r4 : Int32, v4 = some (.int r4) ∧ (K S4 (some (.int r4))))))))))) ∧ (¬ (¬ r1 = 40) → (CS xs d 77 S1 [.ref 28, .int (a1 + 1)] (fun S5 v5 => ∃ r5 : Int32, v5 = some (.int r5) ∧ (CS xs d 82 S5 [.ref 28, .int r5] (fun S6 v6 => ∃ r6 : Int32, v6 = some (.int r6) ∧ (K S6 (some (.int r6))))))))))
set_option maxRecDepth 100000 in
set_option maxHeartbeats 4000000 in
theorem c_81 {xs : Nat × (Nat → Int32)} {d : Nat} {K : Sv → Option Value → Prop} {a1 : Int32} {S : Sv} (h : w_81 xs d K a1 S) : CS xs (d + 1) 81 S [.ref 28, .int a1] K := by
  unfold w_81 at h
  refine cs_in rfl rfl rfl rfl ?_
  refine rn_aload_n rfl rfl ?_
  refine rn_getfield rfl rfl rfl ?_
  refine rn_aload_n rfl rfl ?_
  refine rn_getfield rfl rfl rfl ?_
  refine rn_virtual rfl (Nat.le_of_ble_eq_true rfl) (Nat.le_of_ble_eq_true rfl) rfl rfl (as := [.ref 19, .int (S 28 5)]) (rest := []) rfl rfl rfl (cs_mono h (fun S1 v1 h => ?_))
  obtain ⟨r1, rfl, h⟩ := h
  refine rn_istore_n rfl rfl ?_
  refine rn_iload_n rfl rfl ?_
  refine rn_bipush rfl ?_
  refine rn_icmp_ne rfl (fun hc => ?_) (fun hc => ?_)
  · replace h := h.1 hc
    refine rn_aload_n rfl rfl ?_
    refine rn_dup rfl rfl ?_
    refine rn_getfield rfl rfl rfl ?_
    refine rn_iconst rfl ?_
    refine rn_iadd rfl ?_
    refine rn_putfield (S' := (us S1 28 5 ((S1 28 5) + 1))) rfl rfl (Nat.le_of_ble_eq_true rfl) (Or.inl rfl) rfl ?_
    refine rn_iload_n rfl rfl ?_
    refine rn_bipush rfl ?_
    refine rn_icmp_ne rfl (fun hc => ?_) (fun hc => ?_)
    · replace h := h.1 hc
      refine rn_iconst rfl ?_
      exact rn_ireturn rfl rfl rfl h
    · replace h := h.2 hc
      refine rn_aload_n rfl rfl ?_
      refine rn_aload_n rfl rfl ?_
      refine rn_getfield rfl rfl rfl ?_
      refine rn_aload_n rfl rfl ?_
      refine rn_iconst rfl ?_
      refine rn_virtual rfl (Nat.le_of_ble_eq_true rfl) (Nat.le_of_ble_eq_true rfl) rfl rfl (as := [.ref 28, .int 2]) (rest := [.ref 29, .ref 28]) rfl rfl rfl (cs_mono h (fun S2 v2 h => ?_))
      obtain ⟨r2, rfl, h⟩ := h
      obtain ⟨j3, hj3, ej3, h⟩ := h
      refine rn_iaload (j := j3) rfl rfl (Nat.le_of_ble_eq_true rfl) ej3 hj3 ?_
      refine rn_virtual rfl (Nat.le_of_ble_eq_true rfl) (Nat.le_of_ble_eq_true rfl) rfl rfl (as := [.ref 28, .int (S2 29 j3)]) (rest := []) rfl rfl rfl (cs_mono h (fun S4 v4 h => ?_))
      obtain ⟨r4, rfl, h⟩ := h
      exact rn_ireturn rfl rfl rfl h
  · replace h := h.2 hc
    refine rn_aload_n rfl rfl ?_
    refine rn_aload_n rfl rfl ?_
    refine rn_iload_n rfl rfl ?_
    refine rn_iconst rfl ?_
    refine rn_iadd rfl ?_
    refine rn_virtual rfl (Nat.le_of_ble_eq_true rfl) (Nat.le_of_ble_eq_true rfl) rfl rfl (as := [.ref 28, .int (a1 + 1)]) (rest := [.ref 28]) rfl rfl rfl (cs_mono h (fun S5 v5 h => ?_))
    obtain ⟨r5, rfl, h⟩ := h
    refine rn_virtual rfl (Nat.le_of_ble_eq_true rfl) (Nat.le_of_ble_eq_true rfl) rfl rfl (as := [.ref 28, .int r5]) (rest := []) rfl rfl rfl (cs_mono h (fun S6 v6 h => ?_))
    obtain ⟨r6, rfl, h⟩ := h
    exact rn_ireturn rfl rfl rfl h
-- ReplayedBeans$Replay.orFailed(I)I (number 82)
def w_82 (xs : Nat × (Nat → Int32)) (d : Nat) (K : Sv → Option Value → Prop) (a1 : Int32) (S : Sv) : Prop :=
  (¬ a1 = (-1) → (K S (some (.int a1)))) ∧ (¬ (¬ a1 = (-1)) → (K S (some (.int (-2)))))
set_option maxRecDepth 100000 in
set_option maxHeartbeats 4000000 in
theorem c_82 {xs : Nat × (Nat → Int32)} {d : Nat} {K : Sv → Option Value → Prop} {a1 : Int32} {S : Sv} (h : w_82 xs d K a1 S) : CS xs (d + 1) 82 S [.ref 28, .int a1] K := by
  unfold w_82 at h
  refine cs_in rfl rfl rfl rfl ?_
  refine rn_iload_n rfl rfl ?_
  refine rn_iconst rfl ?_
  refine rn_icmp_ne rfl (fun hc => ?_) (fun hc => ?_)
  · replace h := h.1 hc
    refine rn_iload_n rfl rfl ?_
    exact rn_ireturn rfl rfl rfl h
  · replace h := h.2 hc
    refine rn_bipush rfl ?_
    refine rn_goto rfl ?_
    exact rn_ireturn rfl rfl rfl h
-- ReplayedBeans$Replay.replayDigits(I)I (number 83)
def R_83_4 (xs : Nat × (Nat → Int32)) (d : Nat) (K : Sv → Option Value → Prop) (a1 a2 a3 : Int32) (S : Sv) : Prop := RN xs d 83 K 4 [some (.ref 28), some (.int a1), some (.int a2), some (.int a3)] [] S
def w_83_4 (xs : Nat × (Nat → Int32)) (d : Nat) (K : Sv → Option Value → Prop) (a1 a2 a3 : Int32) (S : Sv) : Prop :=
  (a1 ≤ a3 → (K S (some (.int a2)))) ∧ (¬ (a1 ≤ a3) → (CS xs d 50 S [.ref 19, .int (S 28 5)] (fun S1 v1 => ∃ r1 : Int32, v1 = some (.int r1) ∧ (CS xs d 70 S1 [.int r1] (fun S2 v2 => ∃ r2 : Int32, v2 = some (.int r2) ∧ ((r2 = 0 → (K S2 (some (.int a2)))) ∧ (¬ (r2 = 0) → (CS xs d 50 S2 [.ref 19, .int (S2 28 5)] (fun S3 v3 => ∃ r3 : Int32, v3 = some (.int r3) ∧ (R_83_4 xs d K a1 (((a2 * 10) + r3) - 48) (a3 + 1) (us S3 28 5 ((S3 28 5) + 1))))))))))))
set_option maxRecDepth 100000 in
set_option maxHeartbeats 4000000 in
theorem h_83_4 {xs : Nat × (Nat → Int32)} {d : Nat} {K : Sv → Option Value → Prop} {a1 a2 a3 : Int32} {S : Sv} (h : w_83_4 xs d K a1 a2 a3 S) : R_83_4 xs d K a1 a2 a3 S := by
  unfold w_83_4 at h
  unfold R_83_4
  refine rn_iload_n rfl rfl ?_
  refine rn_iload_n rfl rfl ?_
  refine rn_icmp_ge rfl (fun hc => ?_) (fun hc => ?_)
  · replace h := h.1 hc
    refine rn_iload_n rfl rfl ?_
    exact rn_ireturn rfl rfl rfl h
  · replace h := h.2 hc
    refine rn_aload_n rfl rfl ?_
    refine rn_getfield rfl rfl rfl ?_
    refine rn_aload_n rfl rfl ?_
    refine rn_getfield rfl rfl rfl ?_
    refine rn_virtual rfl (Nat.le_of_ble_eq_true rfl) (Nat.le_of_ble_eq_true rfl) rfl rfl (as := [.ref 19, .int (S 28 5)]) (rest := []) rfl rfl rfl (cs_mono h (fun S1 v1 h => ?_))
    obtain ⟨r1, rfl, h⟩ := h
    refine rn_static rfl (Nat.le_of_ble_eq_true rfl) (Nat.le_of_ble_eq_true rfl) rfl rfl (as := [.int r1]) (rest := []) rfl rfl (cs_mono h (fun S2 v2 h => ?_))
    obtain ⟨r2, rfl, h⟩ := h
    refine rn_if_eq rfl (fun hc => ?_) (fun hc => ?_)
    · replace h := h.1 hc
      refine rn_iload_n rfl rfl ?_
      exact rn_ireturn rfl rfl rfl h
    · replace h := h.2 hc
      refine rn_iload_n rfl rfl ?_
      refine rn_bipush rfl ?_
      refine rn_imul rfl ?_
      refine rn_aload_n rfl rfl ?_
      refine rn_getfield rfl rfl rfl ?_
      refine rn_aload_n rfl rfl ?_
      refine rn_getfield rfl rfl rfl ?_
      refine rn_virtual rfl (Nat.le_of_ble_eq_true rfl) (Nat.le_of_ble_eq_true rfl) rfl rfl (as := [.ref 19, .int (S2 28 5)]) (rest := [.int (a2 * 10)]) rfl rfl rfl (cs_mono h (fun S3 v3 h => ?_))
      obtain ⟨r3, rfl, h⟩ := h
      refine rn_iadd rfl ?_
      refine rn_bipush rfl ?_
      refine rn_isub rfl ?_
      refine rn_istore_n rfl rfl ?_
      refine rn_aload_n rfl rfl ?_
      refine rn_dup rfl rfl ?_
      refine rn_getfield rfl rfl rfl ?_
      refine rn_iconst rfl ?_
      refine rn_iadd rfl ?_
      refine rn_putfield (S' := (us S3 28 5 ((S3 28 5) + 1))) rfl rfl (Nat.le_of_ble_eq_true rfl) (Or.inl rfl) rfl ?_
      refine rn_iinc rfl rfl rfl ?_
      refine rn_goto rfl ?_
      exact h
def w_83 (xs : Nat × (Nat → Int32)) (d : Nat) (K : Sv → Option Value → Prop) (a1 : Int32) (S : Sv) : Prop :=
  R_83_4 xs d K a1 0 0 S
set_option maxRecDepth 100000 in
set_option maxHeartbeats 4000000 in
theorem c_83 {xs : Nat × (Nat → Int32)} {d : Nat} {K : Sv → Option Value → Prop} {a1 : Int32} {S : Sv} (h : w_83 xs d K a1 S) : CS xs (d + 1) 83 S [.ref 28, .int a1] K := by
  unfold w_83 at h
  refine cs_in rfl rfl rfl rfl ?_
  refine rn_iconst rfl ?_
  refine rn_istore_n rfl rfl ?_
  refine rn_iconst rfl ?_
  refine rn_istore_n rfl rfl ?_
  exact h
end
section
-- ReplayedBeans.define(III)Z (number 2)
def w_2 (xs : Nat × (Nat → Int32)) (d : Nat) (K : Sv → Option Value → Prop) (a1 a2 a3 : Int32) (S : Sv) : Prop :=
  CS xs d 26 S [.ref 1, .int a1, .int a2, .int a3] (fun S1 v1 => ∃ r1 : Int32, v1 = some (.int r1) ∧ ((r1 = 0 ∨ r1 = 1) ∧ K S1 (some (.int r1))))
set_option maxRecDepth 100000 in
set_option maxHeartbeats 4000000 in
theorem c_2 {xs : Nat × (Nat → Int32)} {d : Nat} {K : Sv → Option Value → Prop} {a1 a2 a3 : Int32} {S : Sv} (h : w_2 xs d K a1 a2 a3 S) : CS xs (d + 1) 2 S [.ref 0, .int a1, .int a2, .int a3] K := by
  unfold w_2 at h
  refine cs_in rfl rfl rfl rfl ?_
  refine rn_aload_n rfl rfl ?_
  refine rn_getfield rfl rfl rfl ?_
  refine rn_iload_n rfl rfl ?_
  refine rn_iload_n rfl rfl ?_
  refine rn_iload_n rfl rfl ?_
  refine rn_virtual rfl (Nat.le_of_ble_eq_true rfl) (Nat.le_of_ble_eq_true rfl) rfl rfl (as := [.ref 1, .int a1, .int a2, .int a3]) (rest := []) rfl rfl rfl (cs_mono h (fun S1 v1 h => ?_))
  obtain ⟨r1, rfl, h⟩ := h
  exact rn_ireturn rfl rfl (nar_z h.1) h.2
-- ReplayedBeans.values(IIIII)Z (number 3)
def w_3 (xs : Nat × (Nat → Int32)) (d : Nat) (K : Sv → Option Value → Prop) (a1 a2 a3 a4 a5 : Int32) (S : Sv) : Prop :=
  CS xs d 27 S [.ref 1, .int a1, .int a2, .int a3, .int a4, .int a5] (fun S1 v1 => ∃ r1 : Int32, v1 = some (.int r1) ∧ ((r1 = 0 ∨ r1 = 1) ∧ K S1 (some (.int r1))))
set_option maxRecDepth 100000 in
set_option maxHeartbeats 4000000 in
theorem c_3 {xs : Nat × (Nat → Int32)} {d : Nat} {K : Sv → Option Value → Prop} {a1 a2 a3 a4 a5 : Int32} {S : Sv} (h : w_3 xs d K a1 a2 a3 a4 a5 S) : CS xs (d + 1) 3 S [.ref 0, .int a1, .int a2, .int a3, .int a4, .int a5] K := by
  unfold w_3 at h
  refine cs_in rfl rfl rfl rfl ?_
  refine rn_aload_n rfl rfl ?_
  refine rn_getfield rfl rfl rfl ?_
  refine rn_iload_n rfl rfl ?_
  refine rn_iload_n rfl rfl ?_
  refine rn_iload_n rfl rfl ?_
  refine rn_iload rfl rfl ?_
  refine rn_iload rfl rfl ?_
  refine rn_virtual rfl (Nat.le_of_ble_eq_true rfl) (Nat.le_of_ble_eq_true rfl) rfl rfl (as := [.ref 1, .int a1, .int a2, .int a3, .int a4, .int a5]) (rest := []) rfl rfl rfl (cs_mono h (fun S1 v1 h => ?_))
  obtain ⟨r1, rfl, h⟩ := h
  exact rn_ireturn rfl rfl (nar_z h.1) h.2
-- ReplayedBeans.make(I)I (number 4)
def w_4 (xs : Nat × (Nat → Int32)) (d : Nat) (K : Sv → Option Value → Prop) (a1 : Int32) (S : Sv) : Prop :=
  CS xs d 32 S [.ref 8, .int a1] (fun S1 v1 => ∃ r1 : Int32, v1 = some (.int r1) ∧ (K S1 (some (.int r1))))
set_option maxRecDepth 100000 in
set_option maxHeartbeats 4000000 in
theorem c_4 {xs : Nat × (Nat → Int32)} {d : Nat} {K : Sv → Option Value → Prop} {a1 : Int32} {S : Sv} (h : w_4 xs d K a1 S) : CS xs (d + 1) 4 S [.ref 0, .int a1] K := by
  unfold w_4 at h
  refine cs_in rfl rfl rfl rfl ?_
  refine rn_aload_n rfl rfl ?_
  refine rn_getfield rfl rfl rfl ?_
  refine rn_iload_n rfl rfl ?_
  refine rn_virtual rfl (Nat.le_of_ble_eq_true rfl) (Nat.le_of_ble_eq_true rfl) rfl rfl (as := [.ref 8, .int a1]) (rest := []) rfl rfl rfl (cs_mono h (fun S1 v1 h => ?_))
  obtain ⟨r1, rfl, h⟩ := h
  exact rn_ireturn rfl rfl rfl h
-- ReplayedBeans.clear()V (number 5)
def w_5 (xs : Nat × (Nat → Int32)) (d : Nat) (K : Sv → Option Value → Prop) (S : Sv) : Prop :=
  CS xs d 33 S [.ref 8] (fun S1 v1 => v1 = none ∧ (K S1 none))
set_option maxRecDepth 100000 in
set_option maxHeartbeats 4000000 in
theorem c_5 {xs : Nat × (Nat → Int32)} {d : Nat} {K : Sv → Option Value → Prop} {S : Sv} (h : w_5 xs d K S) : CS xs (d + 1) 5 S [.ref 0] K := by
  unfold w_5 at h
  refine cs_in rfl rfl rfl rfl ?_
  refine rn_aload_n rfl rfl ?_
  refine rn_getfield rfl rfl rfl ?_
  refine rn_virtual rfl (Nat.le_of_ble_eq_true rfl) (Nat.le_of_ble_eq_true rfl) rfl rfl (as := [.ref 8]) (rest := []) rfl rfl rfl (cs_mono h (fun S1 v1 h => ?_))
  obtain ⟨rfl, h⟩ := h
  exact rn_return rfl rfl h
-- ReplayedBeans.count()I (number 6)
def w_6 (xs : Nat × (Nat → Int32)) (d : Nat) (K : Sv → Option Value → Prop) (S : Sv) : Prop :=
  K S (some (.int (S 8 4)))
set_option maxRecDepth 100000 in
set_option maxHeartbeats 4000000 in
theorem c_6 {xs : Nat × (Nat → Int32)} {d : Nat} {K : Sv → Option Value → Prop} {S : Sv} (h : w_6 xs d K S) : CS xs (d + 1) 6 S [.ref 0] K := by
  unfold w_6 at h
  refine cs_in rfl rfl rfl rfl ?_
  refine rn_aload_n rfl rfl ?_
  refine rn_getfield rfl rfl rfl ?_
  refine rn_getfield rfl rfl rfl ?_
  exact rn_ireturn rfl rfl rfl h
-- ReplayedBeans.kind(I)I (number 7)
def w_7 (xs : Nat × (Nat → Int32)) (d : Nat) (K : Sv → Option Value → Prop) (a1 : Int32) (S : Sv) : Prop :=
  CS xs d 34 S [.ref 8, .int a1] (fun S1 v1 => ∃ r1 : Int32, v1 = some (.int r1) ∧ (K S1 (some (.int r1))))
set_option maxRecDepth 100000 in
set_option maxHeartbeats 4000000 in
theorem c_7 {xs : Nat × (Nat → Int32)} {d : Nat} {K : Sv → Option Value → Prop} {a1 : Int32} {S : Sv} (h : w_7 xs d K a1 S) : CS xs (d + 1) 7 S [.ref 0, .int a1] K := by
  unfold w_7 at h
  refine cs_in rfl rfl rfl rfl ?_
  refine rn_aload_n rfl rfl ?_
  refine rn_getfield rfl rfl rfl ?_
  refine rn_iload_n rfl rfl ?_
  refine rn_virtual rfl (Nat.le_of_ble_eq_true rfl) (Nat.le_of_ble_eq_true rfl) rfl rfl (as := [.ref 8, .int a1]) (rest := []) rfl rfl rfl (cs_mono h (fun S1 v1 h => ?_))
  obtain ⟨r1, rfl, h⟩ := h
  exact rn_ireturn rfl rfl rfl h
-- ReplayedBeans.setNumber(III)Z (number 8)
def w_8 (xs : Nat × (Nat → Int32)) (d : Nat) (K : Sv → Option Value → Prop) (a1 a2 a3 : Int32) (S : Sv) : Prop :=
  CS xs d 35 S [.ref 8, .int a1, .int a2, .int a3] (fun S1 v1 => ∃ r1 : Int32, v1 = some (.int r1) ∧ ((r1 = 0 ∨ r1 = 1) ∧ K S1 (some (.int r1))))
set_option maxRecDepth 100000 in
set_option maxHeartbeats 4000000 in
theorem c_8 {xs : Nat × (Nat → Int32)} {d : Nat} {K : Sv → Option Value → Prop} {a1 a2 a3 : Int32} {S : Sv} (h : w_8 xs d K a1 a2 a3 S) : CS xs (d + 1) 8 S [.ref 0, .int a1, .int a2, .int a3] K := by
  unfold w_8 at h
  refine cs_in rfl rfl rfl rfl ?_
  refine rn_aload_n rfl rfl ?_
  refine rn_getfield rfl rfl rfl ?_
  refine rn_iload_n rfl rfl ?_
  refine rn_iload_n rfl rfl ?_
  refine rn_iload_n rfl rfl ?_
  refine rn_virtual rfl (Nat.le_of_ble_eq_true rfl) (Nat.le_of_ble_eq_true rfl) rfl rfl (as := [.ref 8, .int a1, .int a2, .int a3]) (rest := []) rfl rfl rfl (cs_mono h (fun S1 v1 h => ?_))
  obtain ⟨r1, rfl, h⟩ := h
  exact rn_ireturn rfl rfl (nar_z h.1) h.2
-- ReplayedBeans.setLink(III)Z (number 9)
def w_9 (xs : Nat × (Nat → Int32)) (d : Nat) (K : Sv → Option Value → Prop) (a1 a2 a3 : Int32) (S : Sv) : Prop :=
  CS xs d 36 S [.ref 8, .int a1, .int a2, .int a3] (fun S1 v1 => ∃ r1 : Int32, v1 = some (.int r1) ∧ ((r1 = 0 ∨ r1 = 1) ∧ K S1 (some (.int r1))))
set_option maxRecDepth 100000 in
set_option maxHeartbeats 4000000 in
theorem c_9 {xs : Nat × (Nat → Int32)} {d : Nat} {K : Sv → Option Value → Prop} {a1 a2 a3 : Int32} {S : Sv} (h : w_9 xs d K a1 a2 a3 S) : CS xs (d + 1) 9 S [.ref 0, .int a1, .int a2, .int a3] K := by
  unfold w_9 at h
  refine cs_in rfl rfl rfl rfl ?_
  refine rn_aload_n rfl rfl ?_
  refine rn_getfield rfl rfl rfl ?_
  refine rn_iload_n rfl rfl ?_
  refine rn_iload_n rfl rfl ?_
  refine rn_iload_n rfl rfl ?_
  refine rn_virtual rfl (Nat.le_of_ble_eq_true rfl) (Nat.le_of_ble_eq_true rfl) rfl rfl (as := [.ref 8, .int a1, .int a2, .int a3]) (rest := []) rfl rfl rfl (cs_mono h (fun S1 v1 h => ?_))
  obtain ⟨r1, rfl, h⟩ := h
  exact rn_ireturn rfl rfl (nar_z h.1) h.2
-- ReplayedBeans.number(II)I (number 10)
def w_10 (xs : Nat × (Nat → Int32)) (d : Nat) (K : Sv → Option Value → Prop) (a1 a2 : Int32) (S : Sv) : Prop :=
  CS xs d 37 S [.ref 8, .int a1, .int a2] (fun S1 v1 => ∃ r1 : Int32, v1 = some (.int r1) ∧ (K S1 (some (.int r1))))
set_option maxRecDepth 100000 in
set_option maxHeartbeats 4000000 in
theorem c_10 {xs : Nat × (Nat → Int32)} {d : Nat} {K : Sv → Option Value → Prop} {a1 a2 : Int32} {S : Sv} (h : w_10 xs d K a1 a2 S) : CS xs (d + 1) 10 S [.ref 0, .int a1, .int a2] K := by
  unfold w_10 at h
  refine cs_in rfl rfl rfl rfl ?_
  refine rn_aload_n rfl rfl ?_
  refine rn_getfield rfl rfl rfl ?_
  refine rn_iload_n rfl rfl ?_
  refine rn_iload_n rfl rfl ?_
  refine rn_virtual rfl (Nat.le_of_ble_eq_true rfl) (Nat.le_of_ble_eq_true rfl) rfl rfl (as := [.ref 8, .int a1, .int a2]) (rest := []) rfl rfl rfl (cs_mono h (fun S1 v1 h => ?_))
  obtain ⟨r1, rfl, h⟩ := h
  exact rn_ireturn rfl rfl rfl h
-- ReplayedBeans.link(II)I (number 11)
def w_11 (xs : Nat × (Nat → Int32)) (d : Nat) (K : Sv → Option Value → Prop) (a1 a2 : Int32) (S : Sv) : Prop :=
  CS xs d 38 S [.ref 8, .int a1, .int a2] (fun S1 v1 => ∃ r1 : Int32, v1 = some (.int r1) ∧ (K S1 (some (.int r1))))
set_option maxRecDepth 100000 in
set_option maxHeartbeats 4000000 in
theorem c_11 {xs : Nat × (Nat → Int32)} {d : Nat} {K : Sv → Option Value → Prop} {a1 a2 : Int32} {S : Sv} (h : w_11 xs d K a1 a2 S) : CS xs (d + 1) 11 S [.ref 0, .int a1, .int a2] K := by
  unfold w_11 at h
  refine cs_in rfl rfl rfl rfl ?_
  refine rn_aload_n rfl rfl ?_
  refine rn_getfield rfl rfl rfl ?_
  refine rn_iload_n rfl rfl ?_
  refine rn_iload_n rfl rfl ?_
  refine rn_virtual rfl (Nat.le_of_ble_eq_true rfl) (Nat.le_of_ble_eq_true rfl) rfl rfl (as := [.ref 8, .int a1, .int a2]) (rest := []) rfl rfl rfl (cs_mono h (fun S1 v1 h => ?_))
  obtain ⟨r1, rfl, h⟩ := h
  exact rn_ireturn rfl rfl rfl h
-- ReplayedBeans.reachable(I)I (number 12)
def w_12 (xs : Nat × (Nat → Int32)) (d : Nat) (K : Sv → Option Value → Prop) (a1 : Int32) (S : Sv) : Prop :=
  CS xs d 41 S [.ref 12, .int a1] (fun S1 v1 => v1 = none ∧ (K S1 (some (.int (S1 12 3)))))
set_option maxRecDepth 100000 in
set_option maxHeartbeats 4000000 in
theorem c_12 {xs : Nat × (Nat → Int32)} {d : Nat} {K : Sv → Option Value → Prop} {a1 : Int32} {S : Sv} (h : w_12 xs d K a1 S) : CS xs (d + 1) 12 S [.ref 0, .int a1] K := by
  unfold w_12 at h
  refine cs_in rfl rfl rfl rfl ?_
  refine rn_aload_n rfl rfl ?_
  refine rn_getfield rfl rfl rfl ?_
  refine rn_iload_n rfl rfl ?_
  refine rn_virtual rfl (Nat.le_of_ble_eq_true rfl) (Nat.le_of_ble_eq_true rfl) rfl rfl (as := [.ref 12, .int a1]) (rest := []) rfl rfl rfl (cs_mono h (fun S1 v1 h => ?_))
  obtain ⟨rfl, h⟩ := h
  refine rn_aload_n rfl rfl ?_
  refine rn_getfield rfl rfl rfl ?_
  refine rn_getfield rfl rfl rfl ?_
  exact rn_ireturn rfl rfl rfl h
-- ReplayedBeans.alike(II)Z (number 13)
def w_13 (xs : Nat × (Nat → Int32)) (d : Nat) (K : Sv → Option Value → Prop) (a1 a2 : Int32) (S : Sv) : Prop :=
  CS xs d 44 S [.ref 15, .int a1, .int a2] (fun S1 v1 => ∃ r1 : Int32, v1 = some (.int r1) ∧ ((r1 = 0 ∨ r1 = 1) ∧ K S1 (some (.int r1))))
set_option maxRecDepth 100000 in
set_option maxHeartbeats 4000000 in
theorem c_13 {xs : Nat × (Nat → Int32)} {d : Nat} {K : Sv → Option Value → Prop} {a1 a2 : Int32} {S : Sv} (h : w_13 xs d K a1 a2 S) : CS xs (d + 1) 13 S [.ref 0, .int a1, .int a2] K := by
  unfold w_13 at h
  refine cs_in rfl rfl rfl rfl ?_
  refine rn_aload_n rfl rfl ?_
  refine rn_getfield rfl rfl rfl ?_
  refine rn_iload_n rfl rfl ?_
  refine rn_iload_n rfl rfl ?_
  refine rn_virtual rfl (Nat.le_of_ble_eq_true rfl) (Nat.le_of_ble_eq_true rfl) rfl rfl (as := [.ref 15, .int a1, .int a2]) (rest := []) rfl rfl rfl (cs_mono h (fun S1 v1 h => ?_))
  obtain ⟨r1, rfl, h⟩ := h
  exact rn_ireturn rfl rfl (nar_z h.1) h.2
-- ReplayedBeans.write(I)I (number 14)
def w_14 (xs : Nat × (Nat → Int32)) (d : Nat) (K : Sv → Option Value → Prop) (a1 : Int32) (S : Sv) : Prop :=
  CS xs d 31 S [.ref 8, .int a1] (fun S1 v1 => ∃ r1 : Int32, v1 = some (.int r1) ∧ ((¬ r1 = 0 → (CS xs d 53 S1 [.ref 21, .int a1] (fun S2 v2 => v2 = none ∧ (((S2 21 9) = 0 → (((S2 21 10) = 0 → (CS xs d 51 S2 [.ref 19, .ref 22] (fun S3 v3 => v3 = none ∧ (K S3 (some (.int (S3 19 1))))))) ∧ (¬ ((S2 21 10) = 0) → (K S2 (some (.int (-3))))))) ∧ (¬ ((S2 21 9) = 0) → (K S2 (some (.int (-2))))))))) ∧ (¬ (¬ r1 = 0) → (K S1 (some (.int (-1)))))))
set_option maxRecDepth 100000 in
set_option maxHeartbeats 4000000 in
theorem c_14 {xs : Nat × (Nat → Int32)} {d : Nat} {K : Sv → Option Value → Prop} {a1 : Int32} {S : Sv} (h : w_14 xs d K a1 S) : CS xs (d + 1) 14 S [.ref 0, .int a1] K := by
  unfold w_14 at h
  refine cs_in rfl rfl rfl rfl ?_
  refine rn_aload_n rfl rfl ?_
  refine rn_getfield rfl rfl rfl ?_
  refine rn_iload_n rfl rfl ?_
  refine rn_virtual rfl (Nat.le_of_ble_eq_true rfl) (Nat.le_of_ble_eq_true rfl) rfl rfl (as := [.ref 8, .int a1]) (rest := []) rfl rfl rfl (cs_mono h (fun S1 v1 h => ?_))
  obtain ⟨r1, rfl, h⟩ := h
  refine rn_if_ne rfl (fun hc => ?_) (fun hc => ?_)
  · replace h := h.1 hc
    refine rn_aload_n rfl rfl ?_
    refine rn_getfield rfl rfl rfl ?_
    refine rn_iload_n rfl rfl ?_
    refine rn_virtual rfl (Nat.le_of_ble_eq_true rfl) (Nat.le_of_ble_eq_true rfl) rfl rfl (as := [.ref 21, .int a1]) (rest := []) rfl rfl rfl (cs_mono h (fun S2 v2 h => ?_))
    obtain ⟨rfl, h⟩ := h
    refine rn_aload_n rfl rfl ?_
    refine rn_getfield rfl rfl rfl ?_
    refine rn_getfield rfl rfl rfl ?_
    refine rn_if_eq rfl (fun hc => ?_) (fun hc => ?_)
    · replace h := h.1 hc
      refine rn_aload_n rfl rfl ?_
      refine rn_getfield rfl rfl rfl ?_
      refine rn_getfield rfl rfl rfl ?_
      refine rn_if_eq rfl (fun hc => ?_) (fun hc => ?_)
      · replace h := h.1 hc
        refine rn_aload_n rfl rfl ?_
        refine rn_getfield rfl rfl rfl ?_
        refine rn_aload_n rfl rfl ?_
        refine rn_getfield rfl rfl rfl ?_
        refine rn_getfield rfl rfl rfl ?_
        refine rn_virtual rfl (Nat.le_of_ble_eq_true rfl) (Nat.le_of_ble_eq_true rfl) rfl rfl (as := [.ref 19, .ref 22]) (rest := []) rfl rfl rfl (cs_mono h (fun S3 v3 h => ?_))
        obtain ⟨rfl, h⟩ := h
        refine rn_aload_n rfl rfl ?_
        refine rn_getfield rfl rfl rfl ?_
        refine rn_getfield rfl rfl rfl ?_
        exact rn_ireturn rfl rfl rfl h
      · replace h := h.2 hc
        refine rn_bipush rfl ?_
        exact rn_ireturn rfl rfl rfl h
    · replace h := h.2 hc
      refine rn_bipush rfl ?_
      exact rn_ireturn rfl rfl rfl h
  · replace h := h.2 hc
    refine rn_iconst rfl ?_
    exact rn_ireturn rfl rfl rfl h
-- ReplayedBeans.type(C)Z (number 15)
def w_15 (xs : Nat × (Nat → Int32)) (d : Nat) (K : Sv → Option Value → Prop) (a1 : Int32) (S : Sv) : Prop :=
  CS xs d 49 S [.ref 19, .int a1] (fun S1 v1 => ∃ r1 : Int32, v1 = some (.int r1) ∧ ((r1 = 0 ∨ r1 = 1) ∧ K S1 (some (.int r1))))
set_option maxRecDepth 100000 in
set_option maxHeartbeats 4000000 in
theorem c_15 {xs : Nat × (Nat → Int32)} {d : Nat} {K : Sv → Option Value → Prop} {a1 : Int32} {S : Sv} (h : w_15 xs d K a1 S) : CS xs (d + 1) 15 S [.ref 0, .int a1] K := by
  unfold w_15 at h
  refine cs_in rfl rfl rfl rfl ?_
  refine rn_aload_n rfl rfl ?_
  refine rn_getfield rfl rfl rfl ?_
  refine rn_iload_n rfl rfl ?_
  refine rn_virtual rfl (Nat.le_of_ble_eq_true rfl) (Nat.le_of_ble_eq_true rfl) rfl rfl (as := [.ref 19, .int a1]) (rest := []) rfl rfl rfl (cs_mono h (fun S1 v1 h => ?_))
  obtain ⟨r1, rfl, h⟩ := h
  exact rn_ireturn rfl rfl (nar_z h.1) h.2
-- ReplayedBeans.wipe()V (number 16)
def w_16 (xs : Nat × (Nat → Int32)) (d : Nat) (K : Sv → Option Value → Prop) (S : Sv) : Prop :=
  K (us S 19 1 0) none
set_option maxRecDepth 100000 in
set_option maxHeartbeats 4000000 in
theorem c_16 {xs : Nat × (Nat → Int32)} {d : Nat} {K : Sv → Option Value → Prop} {S : Sv} (h : w_16 xs d K S) : CS xs (d + 1) 16 S [.ref 0] K := by
  unfold w_16 at h
  refine cs_in rfl rfl rfl rfl ?_
  refine rn_aload_n rfl rfl ?_
  refine rn_getfield rfl rfl rfl ?_
  refine rn_iconst rfl ?_
  refine rn_putfield (S' := (us S 19 1 0)) rfl rfl (Nat.le_of_ble_eq_true rfl) (Or.inl rfl) rfl ?_
  exact rn_return rfl rfl h
-- ReplayedBeans.length()I (number 17)
def w_17 (xs : Nat × (Nat → Int32)) (d : Nat) (K : Sv → Option Value → Prop) (S : Sv) : Prop :=
  K S (some (.int (S 19 1)))
set_option maxRecDepth 100000 in
set_option maxHeartbeats 4000000 in
theorem c_17 {xs : Nat × (Nat → Int32)} {d : Nat} {K : Sv → Option Value → Prop} {S : Sv} (h : w_17 xs d K S) : CS xs (d + 1) 17 S [.ref 0] K := by
  unfold w_17 at h
  refine cs_in rfl rfl rfl rfl ?_
  refine rn_aload_n rfl rfl ?_
  refine rn_getfield rfl rfl rfl ?_
  refine rn_getfield rfl rfl rfl ?_
  exact rn_ireturn rfl rfl rfl h
-- ReplayedBeans.at(I)I (number 18)
def w_18 (xs : Nat × (Nat → Int32)) (d : Nat) (K : Sv → Option Value → Prop) (a1 : Int32) (S : Sv) : Prop :=
  CS xs d 50 S [.ref 19, .int a1] (fun S1 v1 => ∃ r1 : Int32, v1 = some (.int r1) ∧ (K S1 (some (.int r1))))
set_option maxRecDepth 100000 in
set_option maxHeartbeats 4000000 in
theorem c_18 {xs : Nat × (Nat → Int32)} {d : Nat} {K : Sv → Option Value → Prop} {a1 : Int32} {S : Sv} (h : w_18 xs d K a1 S) : CS xs (d + 1) 18 S [.ref 0, .int a1] K := by
  unfold w_18 at h
  refine cs_in rfl rfl rfl rfl ?_
  refine rn_aload_n rfl rfl ?_
  refine rn_getfield rfl rfl rfl ?_
  refine rn_iload_n rfl rfl ?_
  refine rn_virtual rfl (Nat.le_of_ble_eq_true rfl) (Nat.le_of_ble_eq_true rfl) rfl rfl (as := [.ref 19, .int a1]) (rest := []) rfl rfl rfl (cs_mono h (fun S1 v1 h => ?_))
  obtain ⟨r1, rfl, h⟩ := h
  exact rn_ireturn rfl rfl rfl h
-- ReplayedBeans.read()I (number 19)
def w_19 (xs : Nat × (Nat → Int32)) (d : Nat) (K : Sv → Option Value → Prop) (S : Sv) : Prop :=
  CS xs d 62 S [.ref 27] (fun S1 v1 => ∃ r1 : Int32, v1 = some (.int r1) ∧ ((r1 = 0 → (CS xs d 74 S1 [.ref 28] (fun S2 v2 => ∃ r2 : Int32, v2 = some (.int r2) ∧ (K S2 (some (.int r2)))))) ∧ (¬ (r1 = 0) → (K S1 (some (.int ((-1000) - r1)))))))
set_option maxRecDepth 100000 in
set_option maxHeartbeats 4000000 in
theorem c_19 {xs : Nat × (Nat → Int32)} {d : Nat} {K : Sv → Option Value → Prop} {S : Sv} (h : w_19 xs d K S) : CS xs (d + 1) 19 S [.ref 0] K := by
  unfold w_19 at h
  refine cs_in rfl rfl rfl rfl ?_
  refine rn_aload_n rfl rfl ?_
  refine rn_getfield rfl rfl rfl ?_
  refine rn_virtual rfl (Nat.le_of_ble_eq_true rfl) (Nat.le_of_ble_eq_true rfl) rfl rfl (as := [.ref 27]) (rest := []) rfl rfl rfl (cs_mono h (fun S1 v1 h => ?_))
  obtain ⟨r1, rfl, h⟩ := h
  refine rn_istore_n rfl rfl ?_
  refine rn_iload_n rfl rfl ?_
  refine rn_if_eq rfl (fun hc => ?_) (fun hc => ?_)
  · replace h := h.1 hc
    refine rn_aload_n rfl rfl ?_
    refine rn_getfield rfl rfl rfl ?_
    refine rn_virtual rfl (Nat.le_of_ble_eq_true rfl) (Nat.le_of_ble_eq_true rfl) rfl rfl (as := [.ref 28]) (rest := []) rfl rfl rfl (cs_mono h (fun S2 v2 h => ?_))
    obtain ⟨r2, rfl, h⟩ := h
    exact rn_ireturn rfl rfl rfl h
  · replace h := h.2 hc
    refine rn_sipush rfl ?_
    refine rn_iload_n rfl rfl ?_
    refine rn_isub rfl ?_
    exact rn_ireturn rfl rfl rfl h
-- ReplayedBeans.failures()I (number 20)
def w_20 (xs : Nat × (Nat → Int32)) (d : Nat) (K : Sv → Option Value → Prop) (S : Sv) : Prop :=
  K S (some (.int (S 28 4)))
set_option maxRecDepth 100000 in
set_option maxHeartbeats 4000000 in
theorem c_20 {xs : Nat × (Nat → Int32)} {d : Nat} {K : Sv → Option Value → Prop} {S : Sv} (h : w_20 xs d K S) : CS xs (d + 1) 20 S [.ref 0] K := by
  unfold w_20 at h
  refine cs_in rfl rfl rfl rfl ?_
  refine rn_aload_n rfl rfl ?_
  refine rn_getfield rfl rfl rfl ?_
  refine rn_getfield rfl rfl rfl ?_
  exact rn_ireturn rfl rfl rfl h
-- ReplayedBeans.failure(I)I (number 21)
def w_21 (xs : Nat × (Nat → Int32)) (d : Nat) (K : Sv → Option Value → Prop) (a1 : Int32) (S : Sv) : Prop :=
  CS xs d 75 S [.ref 28, .int a1] (fun S1 v1 => ∃ r1 : Int32, v1 = some (.int r1) ∧ (K S1 (some (.int r1))))
set_option maxRecDepth 100000 in
set_option maxHeartbeats 4000000 in
theorem c_21 {xs : Nat × (Nat → Int32)} {d : Nat} {K : Sv → Option Value → Prop} {a1 : Int32} {S : Sv} (h : w_21 xs d K a1 S) : CS xs (d + 1) 21 S [.ref 0, .int a1] K := by
  unfold w_21 at h
  refine cs_in rfl rfl rfl rfl ?_
  refine rn_aload_n rfl rfl ?_
  refine rn_getfield rfl rfl rfl ?_
  refine rn_iload_n rfl rfl ?_
  refine rn_virtual rfl (Nat.le_of_ble_eq_true rfl) (Nat.le_of_ble_eq_true rfl) rfl rfl (as := [.ref 28, .int a1]) (rest := []) rfl rfl rfl (cs_mono h (fun S1 v1 h => ?_))
  obtain ⟨r1, rfl, h⟩ := h
  exact rn_ireturn rfl rfl rfl h
end
