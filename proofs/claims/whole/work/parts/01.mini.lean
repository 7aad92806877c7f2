/-! The small machine: what a method does over cells that are numbered by the order in which they were made. One theorem (mm_met) ties it to the machine itself: what the small machine comes to, the method comes to. -/
abbrev mm_C : Type := (FieldType × Nat × (Nat → Int32)) ⊕ (Nat × List Value)
abbrev mm_H : Type := List mm_C
/-- an instruction, its length, two numbers, an int: what the tables made of its operands -/
abbrev mm_E : Type := Instr × Nat × Nat × Nat × Int32
/-- a method: name, bytes, locals, return type, how many arguments (with the receiver), its class's number, cells and slots that it may make -/
abbrev mm_M : Type := MethodName × ByteArray × Nat × Option FieldType × Nat × Nat × Nat × Nat
abbrev mm_y (M : mm_M) : MethodName := M.1
abbrev mm_b (M : mm_M) : ByteArray := M.2.1
abbrev mm_n (M : mm_M) : Nat := M.2.2.1
abbrev mm_r (M : mm_M) : Option FieldType := M.2.2.2.1
abbrev mm_k (M : mm_M) : Nat := M.2.2.2.2.1
abbrev mm_ci (M : mm_M) : Nat := M.2.2.2.2.2.1
abbrev mm_mc (M : mm_M) : Nat := M.2.2.2.2.2.2.1
abbrev mm_ms (M : mm_M) : Nat := M.2.2.2.2.2.2.2
abbrev mm_L : Type := List (Option Value)
/-- a value of the small machine in the machine: cells by their addresses; retAddr stands for the script -/
def mm_v (b : Nat) (φ : Nat → Nat) (v : Value) : Value := match v with
  | .ref k => .ref (φ k)
  | .retAddr _ => .ref b
  | w => w
def mm_c (b : Nat) (φ : Nat → Nat) (dA : FieldType → ClassId) (c : mm_C) : va_E := match c with
  | .inl q => .inl (dA q.1, q.2.1, .inl q.2.2)
  | .inr q => .inr (q.1, q.2.map (mm_v b φ))
def mm_w (b : Nat) (φ : Nat → Nat) (dA : FieldType → ClassId) (h : mm_H) : va_W := h.mapIdx (fun i c => (φ i, mm_c b φ dA c))
def mm_l (b : Nat) (φ : Nat → Nat) (L : mm_L) : List (Nat × Value) := (List.range L.length).filterMap (fun i => match L[i]? with
  | some (some v) => if v.category = 1 then some (i, mm_v b φ v) else none
  | _ => none)
def mm_wfv (n : Nat) (v : Value) : Bool := match v with
  | .ref k => Nat.blt k n
  | _ => true
def mm_wfo (n : Nat) (o : Option Value) : Bool := match o with
  | some v => mm_wfv n v
  | none => true
def mm_wfc (n : Nat) (c : mm_C) : Bool := match c with
  | .inl _ => true
  | .inr q => q.2.all (mm_wfv n)
def mm_cat (st : List Value) : Prop := (st.map fun v => v.category).sum ≤ 8
/-- may a field of this kind (0 int, 1 boolean, 3 a reference) keep the value? -/
def mm_fit (c : Int32) (v : Value) : Prop := match v with
  | .int x => c = 0 ∨ (c = 1 ∧ (x = 0 ∨ x = 1))
  | .ref _ => c = 3
  | .null => c = 3
  | _ => False
def mm_cz (cnd : Jvm.ClassFile.Cond) (x : Int32) : Prop := match cnd with
  | .eq => x = 0
  | .ne => ¬ x = 0
  | .lt => x < 0
  | .ge => 0 ≤ x
  | .gt => 0 < x
  | .le => x ≤ 0
def mm_cc (cnd : Jvm.ClassFile.Cond) (x y : Int32) : Prop := match cnd with
  | .eq => x = y
  | .ne => ¬ x = y
  | .lt => x < y
  | .ge => y ≤ x
  | .gt => y < x
  | .le => x ≤ y
abbrev mm_K : Type := Nat → mm_L → List Value → mm_H → Nat → Nat → Prop
/-- a call: arguments off the stack, the callee, on with what it came to -/
def mm_cl (mi : Nat → mm_M) (C : Nat → mm_H → List Value → (mm_H → Option Value → Prop) → Prop) (cap : Nat × Nat) (K : mm_K) (y nx : Nat) (L : mm_L) (st : List Value) (h : mm_H) (kc ks : Nat) : Prop :=
  mm_k (mi y) ≤ st.length ∧ mm_cat (st.drop (mm_k (mi y))) ∧ kc + mm_mc (mi y) ≤ cap.1 ∧ ks + mm_ms (mi y) ≤ cap.2 ∧ (mm_mc (mi y) = 0 ∨ (L.all (mm_wfo h.length) && (st.drop (mm_k (mi y))).all (mm_wfv h.length)) = true) ∧
  C y h (st.take (mm_k (mi y))).reverse (fun h' v => K nx L (v.toList ++ st.drop (mm_k (mi y))) h' (kc + mm_mc (mi y)) (ks + mm_ms (mi y)))
def mm_rcv (h : mm_H) (ci : Nat) (as : List Value) : Prop := match as with
  | .ref o :: _ => (match h[o]? with
    | some (.inr q) => q.1 = ci
    | _ => False)
  | _ => False
/-! what lies on the stack, in a local, in a cell -/
def mm_s1 (st : List Value) (k : Int32 → List Value → Prop) : Prop := match st with
  | .int x :: r => k x r
  | _ => False
def mm_s2 (st : List Value) (k : Int32 → Int32 → List Value → Prop) : Prop := match st with
  | .int y :: .int x :: r => k y x r
  | _ => False
def mm_sr (st : List Value) (k : Nat → List Value → Prop) : Prop := match st with
  | .ref o :: r => k o r
  | _ => False
def mm_sv (st : List Value) (k : Value → List Value → Prop) : Prop := match st with
  | v :: r => k v r
  | [] => False
def mm_sx (st : List Value) (k : List Value → Prop) (k0 : Nat → List Value → Prop) : Prop := match st with
  | .retAddr _ :: r => k r
  | .ref o :: r => k0 o r
  | _ => False
def mm_li (L : mm_L) (a : Nat) (k : Int32 → Prop) : Prop := match L[a]? with
  | some (some (.int x)) => k x
  | _ => False
def mm_lr (L : mm_L) (a : Nat) (k : Value → Prop) : Prop := match L[a]? with
  | some (some (.ref x)) => k (.ref x)
  | some (some (.retAddr x)) => k (.retAddr x)
  | _ => False
def mm_ob (h : mm_H) (o : Nat) (k : Nat → List Value → Prop) : Prop := match h[o]? with
  | some (.inr q) => k q.1 q.2
  | _ => False
def mm_ar (h : mm_H) (o : Nat) (k : FieldType → Nat → (Nat → Int32) → Prop) : Prop := match h[o]? with
  | some (.inl q) => k q.1 q.2.1 q.2.2
  | _ => False
def mm_fd (fs : List Value) (b : Nat) (k : Value → Prop) : Prop := match fs[b]? with
  | some v => k v
  | none => False
theorem mm_s1_inv {st : List Value} {k : Int32 → List Value → Prop} (h : mm_s1 st k) : ∃ x r, st = .int x :: r ∧ k x r := by
  unfold mm_s1 at h
  split at h
  · exact ⟨_, _, rfl, h⟩
  · exact h.elim
theorem mm_s2_inv {st : List Value} {k : Int32 → Int32 → List Value → Prop} (h : mm_s2 st k) : ∃ y x r, st = .int y :: .int x :: r ∧ k y x r := by
  unfold mm_s2 at h
  split at h
  · exact ⟨_, _, _, rfl, h⟩
  · exact h.elim
theorem mm_sr_inv {st : List Value} {k : Nat → List Value → Prop} (h : mm_sr st k) : ∃ o r, st = .ref o :: r ∧ k o r := by
  unfold mm_sr at h
  split at h
  · exact ⟨_, _, rfl, h⟩
  · exact h.elim
theorem mm_sv_inv {st : List Value} {k : Value → List Value → Prop} (h : mm_sv st k) : ∃ v r, st = v :: r ∧ k v r := by
  unfold mm_sv at h
  split at h
  · exact ⟨_, _, rfl, h⟩
  · exact h.elim
theorem mm_sx_inv {st : List Value} {k : List Value → Prop} {k0 : Nat → List Value → Prop} (h : mm_sx st k k0) : (∃ z r, st = .retAddr z :: r ∧ k r) ∨ (∃ o r, st = .ref o :: r ∧ k0 o r) := by
  unfold mm_sx at h
  split at h
  · exact Or.inl ⟨_, _, rfl, h⟩
  · exact Or.inr ⟨_, _, rfl, h⟩
  · exact h.elim
theorem mm_li_inv {L : mm_L} {a : Nat} {k : Int32 → Prop} (h : mm_li L a k) : ∃ x, L[a]? = some (some (.int x)) ∧ k x := by
  unfold mm_li at h
  split at h
  · rename_i x hx
    exact ⟨x, hx, h⟩
  · exact h.elim
theorem mm_lr_inv {L : mm_L} {a : Nat} {k : Value → Prop} (h : mm_lr L a k) : ∃ v, L[a]? = some (some v) ∧ ((∃ x, v = .ref x) ∨ ∃ x, v = .retAddr x) ∧ k v := by
  unfold mm_lr at h
  split at h
  · rename_i x hx
    exact ⟨_, hx, Or.inl ⟨x, rfl⟩, h⟩
  · rename_i x hx
    exact ⟨_, hx, Or.inr ⟨x, rfl⟩, h⟩
  · exact h.elim
theorem mm_ob_inv {h : mm_H} {o : Nat} {k : Nat → List Value → Prop} (hh : mm_ob h o k) : ∃ ci fs, h[o]? = some (.inr (ci, fs)) ∧ k ci fs := by
  unfold mm_ob at hh
  split at hh
  · rename_i q hq
    exact ⟨q.1, q.2, hq, hh⟩
  · exact hh.elim
theorem mm_ar_inv {h : mm_H} {o : Nat} {k : FieldType → Nat → (Nat → Int32) → Prop} (hh : mm_ar h o k) : ∃ ty n f, h[o]? = some (.inl (ty, n, f)) ∧ k ty n f := by
  unfold mm_ar at hh
  split at hh
  · rename_i q hq
    exact ⟨q.1, q.2.1, q.2.2, hq, hh⟩
  · exact hh.elim
theorem mm_fd_inv {fs : List Value} {b : Nat} {k : Value → Prop} (h : mm_fd fs b k) : ∃ v, fs[b]? = some v ∧ k v := by
  unfold mm_fd at h
  split at h
  · rename_i v hv
    exact ⟨v, hv, h⟩
  · exact h.elim
/-- one instruction: K is what comes behind it, P what holds at the method's end -/
def mm_ex (mi : Nat → mm_M) (df : Nat → List Value) (C : Nat → mm_H → List Value → (mm_H → Option Value → Prop) → Prop) (xs : Nat × (Nat → Int32)) (cap : Nat × Nat) (P : mm_H → Option Value → Nat → Nat → Prop) (n0 m : Nat) (K : mm_K) (I : Instr) (len a b : Nat) (c : Int32) (pc : Nat) (L : mm_L) (st : List Value) (h : mm_H) (kc ks : Nat) : Prop :=
  match I with
  | .iconst _ => K (pc + len) L (.int c :: st) h kc ks
  | .bipush _ => K (pc + len) L (.int c :: st) h kc ks
  | .sipush _ => K (pc + len) L (.int c :: st) h kc ks
  | .ldc _ => K (pc + len) L (.int c :: st) h kc ks
  | .iload_n _ => mm_li L a fun x => K (pc + len) L (.int x :: st) h kc ks
  | .iload _ => mm_li L a fun x => K (pc + len) L (.int x :: st) h kc ks
  | .aload_n _ => mm_lr L a fun v => K (pc + len) L (v :: st) h kc ks
  | .aload _ => mm_lr L a fun v => K (pc + len) L (v :: st) h kc ks
  | .istore_n _ => mm_s1 st fun x r => K (pc + len) (L.set a (some (.int x))) r h kc ks
  | .istore _ => mm_s1 st fun x r => K (pc + len) (L.set a (some (.int x))) r h kc ks
  | .astore_n _ => mm_sr st fun x r => K (pc + len) (L.set a (some (.ref x))) r h kc ks
  | .astore _ => mm_sr st fun x r => K (pc + len) (L.set a (some (.ref x))) r h kc ks
  | .iinc _ _ => mm_li L a fun x => K (pc + len) (L.set a (some (.int (x + c)))) st h kc ks
  | .iadd => mm_s2 st fun y x r => K (pc + len) L (.int (x + y) :: r) h kc ks
  | .isub => mm_s2 st fun y x r => K (pc + len) L (.int (x - y) :: r) h kc ks
  | .imul => mm_s2 st fun y x r => K (pc + len) L (.int (x * y) :: r) h kc ks
  | .iand => mm_s2 st fun y x r => K (pc + len) L (.int (x &&& y) :: r) h kc ks
  | .ior => mm_s2 st fun y x r => K (pc + len) L (.int (x ||| y) :: r) h kc ks
  | .ixor => mm_s2 st fun y x r => K (pc + len) L (.int (x ^^^ y) :: r) h kc ks
  | .ishl => mm_s2 st fun y x r => K (pc + len) L (.int (x <<< (y &&& 31)) :: r) h kc ks
  | .ishr => mm_s2 st fun y x r => K (pc + len) L (.int (x >>> (y &&& 31)) :: r) h kc ks
  | .idiv => mm_s2 st fun y x r => ¬ y = 0 ∧ K (pc + len) L (.int (x / y) :: r) h kc ks
  | .irem => mm_s2 st fun y x r => ¬ y = 0 ∧ K (pc + len) L (.int (x - x / y * y) :: r) h kc ks
  | .ineg => mm_s1 st fun x r => K (pc + len) L (.int (-x) :: r) h kc ks
  | .i2c => mm_s1 st fun x r => K (pc + len) L (.int (x.toUInt32 % 65536).toInt32 :: r) h kc ks
  | .dup => mm_sv st fun v r => v.category = 1 ∧ K (pc + len) L (v :: v :: r) h kc ks
  | .pop => mm_sv st fun v r => v.category = 1 ∧ K (pc + len) L r h kc ks
  | .dup_x1 => mm_sv st fun v r => mm_sv r fun w r => v.category = 1 ∧ w.category = 1 ∧ K (pc + len) L (v :: w :: v :: r) h kc ks
  | .dup2 => mm_sv st fun v r => mm_sv r fun w r => v.category = 1 ∧ w.category = 1 ∧ K (pc + len) L (v :: w :: v :: w :: r) h kc ks
  | .dup_x2 => mm_sv st fun v r => mm_sv r fun w r => mm_sv r fun z r => v.category = 1 ∧ w.category = 1 ∧ z.category = 1 ∧ K (pc + len) L (v :: w :: z :: v :: r) h kc ks
  | .ifCond cnd _ => mm_s1 st fun x r => (mm_cz cnd x → K a L r h kc ks) ∧ (¬ mm_cz cnd x → K (pc + len) L r h kc ks)
  | .if_icmp cnd _ => mm_s2 st fun y x r => (mm_cc cnd x y → K a L r h kc ks) ∧ (¬ mm_cc cnd x y → K (pc + len) L r h kc ks)
  | .goto _ => K a L st h kc ks
  | .lookupswitch d ps => mm_s1 st fun x r => ∃ t : Nat, (pc : Int) + Op.lookupswitch.offset ps.toList d x.toInt = (t : Int) ∧ K t L r h kc ks
  | .tableswitch d lo hi offs => mm_s1 st fun x r => (x.toInt < lo ∨ hi < x.toInt → ∃ t : Nat, (pc : Int) + d = (t : Int) ∧ K t L r h kc ks) ∧ (¬ x.toInt < lo → ¬ hi < x.toInt → ∃ (o : Int) (t : Nat), offs[(x.toInt - lo).toNat]? = some o ∧ (pc : Int) + o = (t : Int) ∧ K t L r h kc ks)
  | .getfield _ => mm_sr st fun o r => mm_ob h o fun ci fs => mm_fd fs b fun v => ci = a ∧ K (pc + len) L (v :: r) h kc ks
  | .putfield _ => mm_sv st fun v r => mm_sr r fun o r => mm_ob h o fun ci fs => ci = a ∧ b < fs.length ∧ mm_fit c v ∧ K (pc + len) L r (h.set o (.inr (ci, fs.set b v))) kc ks
  | .iaload => mm_s1 st fun i r => mm_sx r (fun r => vp_in i xs.1 ∧ K (pc + len) L (.int (xs.2 i.toNatClampNeg) :: r) h kc ks) (fun o r => mm_ar h o fun ty n f => ty = .int ∧ vp_in i n ∧ K (pc + len) L (.int (f i.toNatClampNeg) :: r) h kc ks)
  | .baload => mm_s1 st fun i r => mm_sr r fun o r => mm_ar h o fun ty n f => ty = .boolean ∧ vp_in i n ∧ K (pc + len) L (.int (f i.toNatClampNeg) :: r) h kc ks
  | .caload => mm_s1 st fun i r => mm_sr r fun o r => mm_ar h o fun ty n f => ty = .char ∧ vp_in i n ∧ K (pc + len) L (.int (f i.toNatClampNeg) :: r) h kc ks
  | .iastore => mm_s2 st fun x i r => mm_sr r fun o r => mm_ar h o fun ty n f => ty = .int ∧ vp_in i n ∧ K (pc + len) L r (h.set o (.inl (.int, n, upd f i.toNatClampNeg x))) kc ks
  | .bastore => mm_s2 st fun x i r => mm_sr r fun o r => mm_ar h o fun ty n f => ty = .boolean ∧ vp_in i n ∧ K (pc + len) L r (h.set o (.inl (.boolean, n, upd f i.toNatClampNeg (vp_nar .boolean x)))) kc ks
  | .castore => mm_s2 st fun x i r => mm_sr r fun o r => mm_ar h o fun ty n f => ty = .char ∧ vp_in i n ∧ K (pc + len) L r (h.set o (.inl (.char, n, upd f i.toNatClampNeg (vp_nar .char x)))) kc ks
  | .arraylength => mm_sx st (fun r => K (pc + len) L (.int (Int32.ofNat xs.1) :: r) h kc ks) (fun o r => mm_ar h o fun ty n _ => (ty = .int ∨ ty = .boolean ∨ ty = .char) ∧ K (pc + len) L (.int (Int32.ofNat n) :: r) h kc ks)
  | .new _ => kc + 1 ≤ cap.1 ∧ ks + b ≤ cap.2 ∧ (L.all (mm_wfo h.length) && st.all (mm_wfv h.length) && h.all (mm_wfc h.length)) = true ∧ K (pc + len) L (.ref h.length :: st) (h ++ [.inr (a, df a)]) (kc + 1) (ks + b)
  | .newarray ty => mm_s1 st fun n r => ¬ n < 0 ∧ n.toNatClampNeg ≤ 1000000 ∧ kc + 1 ≤ cap.1 ∧ ks + n.toNatClampNeg ≤ cap.2 ∧ (L.all (mm_wfo h.length) && r.all (mm_wfv h.length) && h.all (mm_wfc h.length)) = true ∧ K (pc + len) L (.ref h.length :: r) (h ++ [.inl (newarray.typeOf ty, n.toNatClampNeg, fun _ => 0)]) (kc + 1) (ks + n.toNatClampNeg)
  | .invokespecial _ => (b = 0 → mm_sr st fun _ r => mm_cat r ∧ K (pc + len) L r h kc ks) ∧ (¬ b = 0 → (∃ o As, (st.take (mm_k (mi a))).reverse = .ref o :: As) ∧ mm_cl mi C cap K a (pc + len) L st h kc ks)
  | .invokevirtual _ => mm_rcv h (mm_ci (mi a)) (st.take (mm_k (mi a))).reverse ∧ mm_cl mi C cap K a (pc + len) L st h kc ks
  | .invokestatic _ => (b = 0 → mm_s2 st fun n dp r => mm_sr r fun o1 r => mm_s1 r fun sp r => mm_sr r fun o0 r => mm_ar h o0 fun ty n0 f => mm_ar h o1 fun ty1 n1 g => (ty = .int ∨ ty = .boolean ∨ ty = .char) ∧ ty1 = ty ∧ ¬ sp < 0 ∧ ¬ dp < 0 ∧ ¬ n < 0 ∧ sp.toNatClampNeg + n.toNatClampNeg ≤ n0 ∧ dp.toNatClampNeg + n.toNatClampNeg ≤ n1 ∧ (∀ i, i < n.toNatClampNeg → fits ty (.int (f (sp.toNatClampNeg + i))) = true) ∧ mm_cat r ∧ K (pc + len) L r (h.set o1 (.inl (ty, n1, va_cpy f g sp.toNatClampNeg dp.toNatClampNeg n.toNatClampNeg))) kc ks) ∧ (¬ b = 0 → mm_cl mi C cap K a (pc + len) L st h kc ks)
  | .return_ => st = [] ∧ mm_r (mi m) = none ∧ ∃ j, n0 ≤ j ∧ P (h.take j) none kc ks
  | .ireturn => mm_s1 st fun v r => r = [] ∧ (∃ ty, mm_r (mi m) = some ty ∧ narrow ty (.int v) = .int v) ∧ ∃ j, n0 ≤ j ∧ P (h.take j) (some (.int v)) kc ks
  | .areturn => mm_sr st fun v r => r = [] ∧ (∃ ty, mm_r (mi m) = some ty ∧ ((∃ n, ty = .object n) ∨ ∃ t, ty = .array t)) ∧ ∃ j, n0 ≤ j ∧ P (h.take j) (some (.ref v)) kc ks
  | _ => False
def mm_one (mi : Nat → mm_M) (tb : Nat → Nat → Option mm_E) (df : Nat → List Value) (C : Nat → mm_H → List Value → (mm_H → Option Value → Prop) → Prop) (xs : Nat × (Nat → Int32)) (cap : Nat × Nat) (P : mm_H → Option Value → Nat → Nat → Prop) (n0 m : Nat) (K : mm_K) (pc : Nat) (L : mm_L) (st : List Value) (h : mm_H) (kc ks : Nat) : Prop :=
  match tb m pc with
  | none => False
  | some E => mm_ex mi df C xs cap P n0 m K E.1 E.2.1 E.2.2.1 E.2.2.2.1 E.2.2.2.2 pc L st h kc ks
/-- the least that the instructions close -/
def mm_run (mi : Nat → mm_M) (tb : Nat → Nat → Option mm_E) (df : Nat → List Value) (C : Nat → mm_H → List Value → (mm_H → Option Value → Prop) → Prop) (xs : Nat × (Nat → Int32)) (cap : Nat × Nat) (P : mm_H → Option Value → Nat → Nat → Prop) (n0 m : Nat) : mm_K := fun pc L st h kc ks =>
  ∀ X : mm_K, (∀ pc L st h kc ks, mm_one mi tb df C xs cap P n0 m X pc L st h kc ks → X pc L st h kc ks) → X pc L st h kc ks
def mm_in0 (M : mm_M) (as : List Value) : mm_L := as.map some ++ List.replicate (mm_n M - as.length) none
/-- what method y comes to, with at most d frames on top of one another -/
def mm_call (mi : Nat → mm_M) (tb : Nat → Nat → Option mm_E) (df : Nat → List Value) (xs : Nat × (Nat → Int32)) : Nat → Nat → mm_H → List Value → (mm_H → Option Value → Prop) → Prop
  | 0 => fun _ _ _ _ => False
  | d + 1 => fun y h as P => as.length = mm_k (mi y) ∧ (as.all fun v => v.category == 1) = true ∧ mm_run mi tb df (mm_call mi tb df xs d) xs (mm_mc (mi y), mm_ms (mi y)) (fun h' r _ _ => P h' r) h.length y 0 (mm_in0 (mi y) as) [] h 0 0
def mm_Cm (C : Nat → mm_H → List Value → (mm_H → Option Value → Prop) → Prop) : Prop := ∀ y h as P P', (∀ h' v, P h' v → P' h' v) → C y h as P → C y h as P'
theorem mm_cl_mono {mi : Nat → mm_M} {C : Nat → mm_H → List Value → (mm_H → Option Value → Prop) → Prop} {cap : Nat × Nat} {K K' : mm_K} {y nx : Nat} {L : mm_L} {st : List Value} {h : mm_H} {kc ks : Nat} (hC : mm_Cm C) (hK : ∀ pc L st h kc ks, K pc L st h kc ks → K' pc L st h kc ks) (hE : mm_cl mi C cap K y nx L st h kc ks) : mm_cl mi C cap K' y nx L st h kc ks := by
  obtain ⟨e1, e2, e3, e4, e5, e6⟩ := hE
  exact ⟨e1, e2, e3, e4, e5, hC _ _ _ _ _ (fun h' v hv => hK _ _ _ _ _ _ hv) e6⟩
set_option maxHeartbeats 4000000 in
theorem mm_ex_mono {mi : Nat → mm_M} {df : Nat → List Value} {C : Nat → mm_H → List Value → (mm_H → Option Value → Prop) → Prop} {xs : Nat × (Nat → Int32)} {cap : Nat × Nat} {P P' : mm_H → Option Value → Nat → Nat → Prop} {n0 m : Nat} {K K' : mm_K} (hC : mm_Cm C) (hP : ∀ h v kc ks, P h v kc ks → P' h v kc ks) (hK : ∀ pc L st h kc ks, K pc L st h kc ks → K' pc L st h kc ks) {I : Instr} {len a b : Nat} {c : Int32} {pc : Nat} {L : mm_L} {st : List Value} {h : mm_H} {kc ks : Nat} (hE : mm_ex mi df C xs cap P n0 m K I len a b c pc L st h kc ks) : mm_ex mi df C xs cap P' n0 m K' I len a b c pc L st h kc ks := by
  cases I with
  | iconst z0 =>
    dsimp only [mm_ex] at hE ⊢
    exact hK _ _ _ _ _ _ hE
  | bipush z0 =>
    dsimp only [mm_ex] at hE ⊢
    exact hK _ _ _ _ _ _ hE
  | sipush z0 =>
    dsimp only [mm_ex] at hE ⊢
    exact hK _ _ _ _ _ _ hE
  | ldc z0 =>
    dsimp only [mm_ex] at hE ⊢
    exact hK _ _ _ _ _ _ hE
  | iload_n z0 =>
    dsimp only [mm_ex] at hE ⊢
    obtain ⟨x, h1, hE1⟩ := mm_li_inv hE
    show mm_li L a _
    unfold mm_li
    rw [h1]
    exact hK _ _ _ _ _ _ hE1
  | iload z0 =>
    dsimp only [mm_ex] at hE ⊢
    obtain ⟨x, h1, hE2⟩ := mm_li_inv hE
    show mm_li L a _
    unfold mm_li
    rw [h1]
    exact hK _ _ _ _ _ _ hE2
  | aload_n z0 =>
    dsimp only [mm_ex] at hE ⊢
    obtain ⟨v, h1, h2, hE3⟩ := mm_lr_inv hE
    show mm_lr L a _
    unfold mm_lr
    rw [h1]
    rcases h2 with ⟨x, rfl⟩ | ⟨x, rfl⟩ <;> exact hK _ _ _ _ _ _ hE3
  | aload z0 =>
    dsimp only [mm_ex] at hE ⊢
    obtain ⟨v, h1, h2, hE4⟩ := mm_lr_inv hE
    show mm_lr L a _
    unfold mm_lr
    rw [h1]
    rcases h2 with ⟨x, rfl⟩ | ⟨x, rfl⟩ <;> exact hK _ _ _ _ _ _ hE4
  | istore_n z0 =>
    dsimp only [mm_ex] at hE ⊢
    obtain ⟨x, r, rfl, hE5⟩ := mm_s1_inv hE
    exact hK _ _ _ _ _ _ hE5
  | istore z0 =>
    dsimp only [mm_ex] at hE ⊢
    obtain ⟨x, r, rfl, hE6⟩ := mm_s1_inv hE
    exact hK _ _ _ _ _ _ hE6
  | astore_n z0 =>
    dsimp only [mm_ex] at hE ⊢
    obtain ⟨x, r, rfl, hE7⟩ := mm_sr_inv hE
    exact hK _ _ _ _ _ _ hE7
  | astore z0 =>
    dsimp only [mm_ex] at hE ⊢
    obtain ⟨x, r, rfl, hE8⟩ := mm_sr_inv hE
    exact hK _ _ _ _ _ _ hE8
  | iinc z0 z1 =>
    dsimp only [mm_ex] at hE ⊢
    obtain ⟨x, h1, hE9⟩ := mm_li_inv hE
    show mm_li L a _
    unfold mm_li
    rw [h1]
    exact hK _ _ _ _ _ _ hE9
  | iadd =>
    dsimp only [mm_ex] at hE ⊢
    obtain ⟨y, x, r, rfl, hE10⟩ := mm_s2_inv hE
    exact hK _ _ _ _ _ _ hE10
  | isub =>
    dsimp only [mm_ex] at hE ⊢
    obtain ⟨y, x, r, rfl, hE11⟩ := mm_s2_inv hE
    exact hK _ _ _ _ _ _ hE11
  | imul =>
    dsimp only [mm_ex] at hE ⊢
    obtain ⟨y, x, r, rfl, hE12⟩ := mm_s2_inv hE
    exact hK _ _ _ _ _ _ hE12
  | iand =>
    dsimp only [mm_ex] at hE ⊢
    obtain ⟨y, x, r, rfl, hE13⟩ := mm_s2_inv hE
    exact hK _ _ _ _ _ _ hE13
  | ior =>
    dsimp only [mm_ex] at hE ⊢
    obtain ⟨y, x, r, rfl, hE14⟩ := mm_s2_inv hE
    exact hK _ _ _ _ _ _ hE14
  | ixor =>
    dsimp only [mm_ex] at hE ⊢
    obtain ⟨y, x, r, rfl, hE15⟩ := mm_s2_inv hE
    exact hK _ _ _ _ _ _ hE15
  | ishl =>
    dsimp only [mm_ex] at hE ⊢
    obtain ⟨y, x, r, rfl, hE16⟩ := mm_s2_inv hE
    exact hK _ _ _ _ _ _ hE16
  | ishr =>
    dsimp only [mm_ex] at hE ⊢
    obtain ⟨y, x, r, rfl, hE17⟩ := mm_s2_inv hE
    exact hK _ _ _ _ _ _ hE17
  | idiv =>
    dsimp only [mm_ex] at hE ⊢
    obtain ⟨y, x, r, rfl, h1, hE18⟩ := mm_s2_inv hE
    exact ⟨h1, hK _ _ _ _ _ _ hE18⟩
  | irem =>
    dsimp only [mm_ex] at hE ⊢
    obtain ⟨y, x, r, rfl, h1, hE19⟩ := mm_s2_inv hE
    exact ⟨h1, hK _ _ _ _ _ _ hE19⟩
  | ineg =>
    dsimp only [mm_ex] at hE ⊢
    obtain ⟨x, r, rfl, hE20⟩ := mm_s1_inv hE
    exact hK _ _ _ _ _ _ hE20
  | i2c =>
    dsimp only [mm_ex] at hE ⊢
    obtain ⟨x, r, rfl, hE21⟩ := mm_s1_inv hE
    exact hK _ _ _ _ _ _ hE21
  | dup =>
    dsimp only [mm_ex] at hE ⊢
    obtain ⟨v, r, rfl, h1, hE22⟩ := mm_sv_inv hE
    exact ⟨h1, hK _ _ _ _ _ _ hE22⟩
  | pop =>
    dsimp only [mm_ex] at hE ⊢
    obtain ⟨v, r, rfl, h1, hE23⟩ := mm_sv_inv hE
    exact ⟨h1, hK _ _ _ _ _ _ hE23⟩
  | dup_x1 =>
    dsimp only [mm_ex] at hE ⊢
    obtain ⟨v, r, rfl, hE24⟩ := mm_sv_inv hE
    obtain ⟨v2, r, rfl, h1, h2, hE25⟩ := mm_sv_inv hE24
    exact ⟨h1, h2, hK _ _ _ _ _ _ hE25⟩
  | dup2 =>
    dsimp only [mm_ex] at hE ⊢
    obtain ⟨v, r, rfl, hE26⟩ := mm_sv_inv hE
    obtain ⟨v2, r, rfl, h1, h2, hE27⟩ := mm_sv_inv hE26
    exact ⟨h1, h2, hK _ _ _ _ _ _ hE27⟩
  | dup_x2 =>
    dsimp only [mm_ex] at hE ⊢
    obtain ⟨v, r, rfl, hE28⟩ := mm_sv_inv hE
    obtain ⟨v2, r, rfl, hE29⟩ := mm_sv_inv hE28
    obtain ⟨v3, r, rfl, h1, h2, h3, hE30⟩ := mm_sv_inv hE29
    exact ⟨h1, h2, h3, hK _ _ _ _ _ _ hE30⟩
  | ifCond z0 z1 =>
    dsimp only [mm_ex] at hE ⊢
    obtain ⟨x, r, rfl, h1, h2⟩ := mm_s1_inv hE
    exact ⟨fun z => hK _ _ _ _ _ _ (h1 z), fun z => hK _ _ _ _ _ _ (h2 z)⟩
  | if_icmp z0 z1 =>
    dsimp only [mm_ex] at hE ⊢
    obtain ⟨y, x, r, rfl, h1, h2⟩ := mm_s2_inv hE
    exact ⟨fun z => hK _ _ _ _ _ _ (h1 z), fun z => hK _ _ _ _ _ _ (h2 z)⟩
  | goto z0 =>
    dsimp only [mm_ex] at hE ⊢
    exact hK _ _ _ _ _ _ hE
  | lookupswitch z0 z1 =>
    dsimp only [mm_ex] at hE ⊢
    obtain ⟨x, r, rfl, q, h1, hE31⟩ := mm_s1_inv hE
    exact ⟨q, h1, hK _ _ _ _ _ _ hE31⟩
  | tableswitch z0 z1 z2 z3 =>
    dsimp only [mm_ex] at hE ⊢
    obtain ⟨x, r, rfl, h1, h2⟩ := mm_s1_inv hE
    exact ⟨fun z => (h1 z).imp fun q hq => ⟨hq.1, hK _ _ _ _ _ _ hq.2⟩, fun z z' => (h2 z z').imp fun o ho => ho.imp fun q hq => ⟨hq.1, hq.2.1, hK _ _ _ _ _ _ hq.2.2⟩⟩
  | getfield z0 =>
    dsimp only [mm_ex] at hE ⊢
    obtain ⟨o, r, rfl, hE32⟩ := mm_sr_inv hE
    obtain ⟨ci, fs, h1, hE33⟩ := mm_ob_inv hE32
    obtain ⟨v, h2, h3, hE34⟩ := mm_fd_inv hE33
    dsimp only [mm_s1, mm_s2, mm_sr, mm_sx, mm_sv]
    show mm_ob h o _
    unfold mm_ob
    rw [h1]
    show mm_fd fs b _
    unfold mm_fd
    rw [h2]
    exact ⟨h3, hK _ _ _ _ _ _ hE34⟩
  | putfield z0 =>
    dsimp only [mm_ex] at hE ⊢
    obtain ⟨v, r, rfl, hE35⟩ := mm_sv_inv hE
    obtain ⟨o, r, rfl, hE36⟩ := mm_sr_inv hE35
    obtain ⟨ci, fs, h1, h2, h3, h4, hE37⟩ := mm_ob_inv hE36
    dsimp only [mm_s1, mm_s2, mm_sr, mm_sx, mm_sv]
    show mm_ob h o _
    unfold mm_ob
    rw [h1]
    exact ⟨h2, h3, h4, hK _ _ _ _ _ _ hE37⟩
  | iaload =>
    dsimp only [mm_ex] at hE ⊢
    obtain ⟨i, r, rfl, hE38⟩ := mm_s1_inv hE
    rcases mm_sx_inv hE38 with ⟨z, r, rfl, h1, hE39⟩ | ⟨o, r, rfl, hE39⟩
    · exact ⟨h1, hK _ _ _ _ _ _ hE39⟩
    · obtain ⟨ty, n, f, h1, h2, h3, hE40⟩ := mm_ar_inv hE39
      dsimp only [mm_s1, mm_s2, mm_sr, mm_sx, mm_sv]
      show mm_ar h o _
      unfold mm_ar
      rw [h1]
      exact ⟨h2, h3, hK _ _ _ _ _ _ hE40⟩
  | baload =>
    dsimp only [mm_ex] at hE ⊢
    obtain ⟨i, r, rfl, hE41⟩ := mm_s1_inv hE
    obtain ⟨o, r, rfl, hE42⟩ := mm_sr_inv hE41
    obtain ⟨ty, n, f, h1, h2, h3, hE43⟩ := mm_ar_inv hE42
    dsimp only [mm_s1, mm_s2, mm_sr, mm_sx, mm_sv]
    show mm_ar h o _
    unfold mm_ar
    rw [h1]
    exact ⟨h2, h3, hK _ _ _ _ _ _ hE43⟩
  | caload =>
    dsimp only [mm_ex] at hE ⊢
    obtain ⟨i, r, rfl, hE44⟩ := mm_s1_inv hE
    obtain ⟨o, r, rfl, hE45⟩ := mm_sr_inv hE44
    obtain ⟨ty, n, f, h1, h2, h3, hE46⟩ := mm_ar_inv hE45
    dsimp only [mm_s1, mm_s2, mm_sr, mm_sx, mm_sv]
    show mm_ar h o _
    unfold mm_ar
    rw [h1]
    exact ⟨h2, h3, hK _ _ _ _ _ _ hE46⟩
  | iastore =>
    dsimp only [mm_ex] at hE ⊢
    obtain ⟨x, i, r, rfl, hE47⟩ := mm_s2_inv hE
    obtain ⟨o, r, rfl, hE48⟩ := mm_sr_inv hE47
    obtain ⟨ty, n, f, h1, h2, h3, hE49⟩ := mm_ar_inv hE48
    dsimp only [mm_s1, mm_s2, mm_sr, mm_sx, mm_sv]
    show mm_ar h o _
    unfold mm_ar
    rw [h1]
    exact ⟨h2, h3, hK _ _ _ _ _ _ hE49⟩
  | bastore =>
    dsimp only [mm_ex] at hE ⊢
    obtain ⟨x, i, r, rfl, hE50⟩ := mm_s2_inv hE
    obtain ⟨o, r, rfl, hE51⟩ := mm_sr_inv hE50
    obtain ⟨ty, n, f, h1, h2, h3, hE52⟩ := mm_ar_inv hE51
    dsimp only [mm_s1, mm_s2, mm_sr, mm_sx, mm_sv]
    show mm_ar h o _
    unfold mm_ar
    rw [h1]
    exact ⟨h2, h3, hK _ _ _ _ _ _ hE52⟩
  | castore =>
    dsimp only [mm_ex] at hE ⊢
    obtain ⟨x, i, r, rfl, hE53⟩ := mm_s2_inv hE
    obtain ⟨o, r, rfl, hE54⟩ := mm_sr_inv hE53
    obtain ⟨ty, n, f, h1, h2, h3, hE55⟩ := mm_ar_inv hE54
    dsimp only [mm_s1, mm_s2, mm_sr, mm_sx, mm_sv]
    show mm_ar h o _
    unfold mm_ar
    rw [h1]
    exact ⟨h2, h3, hK _ _ _ _ _ _ hE55⟩
  | arraylength =>
    dsimp only [mm_ex] at hE ⊢
    rcases mm_sx_inv hE with ⟨z, r, rfl, hE56⟩ | ⟨o, r, rfl, hE56⟩
    · exact hK _ _ _ _ _ _ hE56
    · obtain ⟨ty, n, f, h1, h2, hE57⟩ := mm_ar_inv hE56
      dsimp only [mm_s1, mm_s2, mm_sr, mm_sx, mm_sv]
      show mm_ar h o _
      unfold mm_ar
      rw [h1]
      exact ⟨h2, hK _ _ _ _ _ _ hE57⟩
  | new z0 =>
    dsimp only [mm_ex] at hE ⊢
    obtain ⟨h1, h2, h3, hE58⟩ := hE
    exact ⟨h1, h2, h3, hK _ _ _ _ _ _ hE58⟩
  | newarray z0 =>
    dsimp only [mm_ex] at hE ⊢
    obtain ⟨n, r, rfl, h1, h2, h3, h4, h5, hE59⟩ := mm_s1_inv hE
    exact ⟨h1, h2, h3, h4, h5, hK _ _ _ _ _ _ hE59⟩
  | invokespecial z0 =>
    dsimp only [mm_ex] at hE ⊢
    obtain ⟨h1, h2⟩ := hE
    refine ⟨fun z => ?_, fun z => ⟨(h2 z).1, mm_cl_mono hC hK (h2 z).2⟩⟩
    obtain ⟨o, r, rfl, h3, hE60⟩ := mm_sr_inv (h1 z)
    exact ⟨h3, hK _ _ _ _ _ _ hE60⟩
  | invokevirtual z0 =>
    dsimp only [mm_ex] at hE ⊢
    exact ⟨hE.1, mm_cl_mono hC hK hE.2⟩
  | invokestatic z0 =>
    dsimp only [mm_ex] at hE ⊢
    obtain ⟨h1, h2⟩ := hE
    refine ⟨fun z => ?_, fun z => mm_cl_mono hC hK (h2 z)⟩
    obtain ⟨n, dp, r, rfl, hE61⟩ := mm_s2_inv (h1 z)
    obtain ⟨o1, r, rfl, hE62⟩ := mm_sr_inv hE61
    obtain ⟨sp, r, rfl, hE63⟩ := mm_s1_inv hE62
    obtain ⟨o0, r, rfl, hE64⟩ := mm_sr_inv hE63
    obtain ⟨ty, m0, f, h3, hE65⟩ := mm_ar_inv hE64
    obtain ⟨ty1, m1, g, h4, hE66⟩ := mm_ar_inv hE65
    obtain ⟨j1, j2, j3, j4, j5, j6, j7, j8, j9, hE67⟩ := hE66
    dsimp only [mm_s1, mm_s2, mm_sr, mm_sx, mm_sv]
    show mm_ar h o0 _
    unfold mm_ar
    rw [h3]
    dsimp only
    rw [h4]
    exact ⟨j1, j2, j3, j4, j5, j6, j7, j8, j9, hK _ _ _ _ _ _ hE67⟩
  | return_ =>
    dsimp only [mm_ex] at hE ⊢
    obtain ⟨h1, h2, j, h3, h4⟩ := hE
    exact ⟨h1, h2, j, h3, hP _ _ _ _ h4⟩
  | ireturn =>
    dsimp only [mm_ex] at hE ⊢
    obtain ⟨x, r, rfl, h1, h2, j, h3, h4⟩ := mm_s1_inv hE
    exact ⟨h1, h2, j, h3, hP _ _ _ _ h4⟩
  | areturn =>
    dsimp only [mm_ex] at hE ⊢
    obtain ⟨x, r, rfl, h1, h2, j, h3, h4⟩ := mm_sr_inv hE
    exact ⟨h1, h2, j, h3, hP _ _ _ _ h4⟩
  | _ => exact hE
theorem mm_one_mono {mi : Nat → mm_M} {tb : Nat → Nat → Option mm_E} {df : Nat → List Value} {C : Nat → mm_H → List Value → (mm_H → Option Value → Prop) → Prop} {xs : Nat × (Nat → Int32)} {cap : Nat × Nat} {P P' : mm_H → Option Value → Nat → Nat → Prop} {n0 m : Nat} {K K' : mm_K} (hC : mm_Cm C) (hP : ∀ h v kc ks, P h v kc ks → P' h v kc ks) (hK : ∀ pc L st h kc ks, K pc L st h kc ks → K' pc L st h kc ks) {pc : Nat} {L : mm_L} {st : List Value} {h : mm_H} {kc ks : Nat} (hE : mm_one mi tb df C xs cap P n0 m K pc L st h kc ks) : mm_one mi tb df C xs cap P' n0 m K' pc L st h kc ks := by
  unfold mm_one at hE ⊢
  split at hE
  · exact hE.elim
  · exact mm_ex_mono hC hP hK hE
theorem mm_run_in {mi : Nat → mm_M} {tb : Nat → Nat → Option mm_E} {df : Nat → List Value} {C : Nat → mm_H → List Value → (mm_H → Option Value → Prop) → Prop} {xs : Nat × (Nat → Int32)} {cap : Nat × Nat} {P : mm_H → Option Value → Nat → Nat → Prop} {n0 m : Nat} (hC : mm_Cm C) {pc : Nat} {L : mm_L} {st : List Value} {h : mm_H} {kc ks : Nat} (hE : mm_one mi tb df C xs cap P n0 m (mm_run mi tb df C xs cap P n0 m) pc L st h kc ks) : mm_run mi tb df C xs cap P n0 m pc L st h kc ks :=
  fun X hX => hX _ _ _ _ _ _ (mm_one_mono hC (fun _ _ _ _ h => h) (fun _ _ _ _ _ _ hr => hr X hX) hE)
theorem mm_run_mono {mi : Nat → mm_M} {tb : Nat → Nat → Option mm_E} {df : Nat → List Value} {C : Nat → mm_H → List Value → (mm_H → Option Value → Prop) → Prop} {xs : Nat × (Nat → Int32)} {cap : Nat × Nat} {P P' : mm_H → Option Value → Nat → Nat → Prop} {n0 m : Nat} (hC : mm_Cm C) (hP : ∀ h v kc ks, P h v kc ks → P' h v kc ks) {pc : Nat} {L : mm_L} {st : List Value} {h : mm_H} {kc ks : Nat} (hE : mm_run mi tb df C xs cap P n0 m pc L st h kc ks) : mm_run mi tb df C xs cap P' n0 m pc L st h kc ks :=
  fun X hX => hE X (fun _ _ _ _ _ _ h1 => hX _ _ _ _ _ _ (mm_one_mono hC hP (fun _ _ _ _ _ _ h => h) h1))
theorem mm_call_mono {mi : Nat → mm_M} {tb : Nat → Nat → Option mm_E} {df : Nat → List Value} {xs : Nat × (Nat → Int32)} : ∀ d, mm_Cm (mm_call mi tb df xs d)
  | 0, _, _, _, _, _, _, h => h
  | d + 1, _, _, _, _, _, hP, h => ⟨h.1, h.2.1, mm_run_mono (mm_call_mono d) (fun h' v _ _ hv => hP h' v hv) h.2.2⟩
