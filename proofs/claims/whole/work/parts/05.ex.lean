section MX
variable {p : Program} {l : Launch} {e : Env} {R : Room} {s : State} {m : MethodId} {args : Array Value} {below : List Frame} {meth : Method} {c : Code} {Q : State → Prop}
variable {D : va_G} {dA : FieldType → ClassId} {cl : List vw_C} {b : Nat} {A : Nat → Prop} {φ0 : Nat → Nat} {n0 : Nat}
variable {mi : Nat → mm_M} {tb : Nat → Nat → Option mm_E} {df : Nat → List Value} {WS Ts : List Cond} {nF : List mm_F} {nM : List mm_N} {nm w d : Nat} {xs : Nat × (Nat → Int32)}
/-- all that a walk of a method's body stands on, and that does not change in it -/
def mm_Cx (p : Program) (l : Launch) (R : Room) (s : State) (m : MethodId) (args : Array Value) (meth : Method) (c : Code) (D : va_G) (dA : FieldType → ClassId) (cl : List vw_C) (b : Nat) (A : Nat → Prop) (mi : Nat → mm_M) (df : Nat → List Value) (WS Ts : List Cond) (nF : List mm_F) (nM : List mm_N) (nm w d : Nat) (xs : Nat × (Nat → Int32)) : Prop :=
  (p.tables.exec = Jvm.exec ∧ c.code = mm_b (mi w) ∧ c.maxLocals = mm_n (mi w) ∧ s.vm.findClass (mm_y (mi w)).cls = some m.cls ∧ ∀ x ∈ Ts, x.before args s = true) ∧ (∀ x ∈ WS, x ∈ Ts) ∧ Cond.code objectInit ⟨#[0xb1]⟩ 1 none ∈ Ts ∧ (∀ y, y < nm → GoodIn Ts (mm_ws mi WS nm y)) ∧ (∀ y, y < nm → mm_okm (mi y) = true) ∧ (∀ ci q, cl[ci]? = some q → mm_okc WS (df ci) q = true) ∧
  mm_KK D dA cl nF nM s ∧ (∀ q, s.heap.size ≤ q → A q) ∧ va_X b xs.1 xs.2 s s.heap ∧ b < s.heap.size ∧ ¬ A b ∧ ((mm_y (mi w)).name = "<init>" → meth.name = "<init>") ∧ d + 1 ≤ R.frames ∧ 60 * d + 60 ≤ R.locals
theorem mm_x_iconst (Z : mm_Cx p l R s m args meth c D dA cl b A mi df WS Ts nF nM nm w d xs) {K : mm_K} (hK : ∀ pc L st h kc ks, K pc L st h kc ks → mm_Go p l e R s m args below meth c Q D dA cl b A φ0 n0 (mm_n (mi w)) pc L st h kc ks) {len a bb pc kc ks : Nat} {k : Int32} {L : mm_L} {st : List Value} {h : mm_H} {n : Int} (hok : mm_ok mi cl WS nF nM nm w pc (.iconst n, len, a, bb, k) = true) (hE : K (pc + len) L (.int k :: st) h kc ks) : mm_Go p l e R s m args below meth c Q D dA cl b A φ0 n0 (mm_n (mi w)) pc L st h kc ks := by
  obtain ⟨⟨hx, hb, hml, hown, hts⟩, hWT, hoi, hG, hmi, hcl, hKK, hA, hX, hbl, hbA, hin, hRf, hRl⟩ := Z
  simp only [mm_ok, mm_sd, Bool.and_eq_true, decide_eq_true_eq] at hok
  obtain ⟨hd, h1, h2⟩ := hok
  subst h1
  intro φ H locs ls f0 g0 hn k1 k2 hP hD hS hl
  exact lv_iconst hx hb hd h2 (hK _ _ _ _ _ _ hE φ H locs ls f0 g0 hn k1 k2 hP hD hS hl)
theorem mm_x_bipush (Z : mm_Cx p l R s m args meth c D dA cl b A mi df WS Ts nF nM nm w d xs) {K : mm_K} (hK : ∀ pc L st h kc ks, K pc L st h kc ks → mm_Go p l e R s m args below meth c Q D dA cl b A φ0 n0 (mm_n (mi w)) pc L st h kc ks) {len a bb pc kc ks : Nat} {k : Int32} {L : mm_L} {st : List Value} {h : mm_H} {n : Int} (hok : mm_ok mi cl WS nF nM nm w pc (.bipush n, len, a, bb, k) = true) (hE : K (pc + len) L (.int k :: st) h kc ks) : mm_Go p l e R s m args below meth c Q D dA cl b A φ0 n0 (mm_n (mi w)) pc L st h kc ks := by
  obtain ⟨⟨hx, hb, hml, hown, hts⟩, hWT, hoi, hG, hmi, hcl, hKK, hA, hX, hbl, hbA, hin, hRf, hRl⟩ := Z
  simp only [mm_ok, mm_sd, Bool.and_eq_true, decide_eq_true_eq] at hok
  obtain ⟨hd, h1, h2⟩ := hok
  subst h1
  intro φ H locs ls f0 g0 hn k1 k2 hP hD hS hl
  exact lv_bipush hx hb hd h2 (hK _ _ _ _ _ _ hE φ H locs ls f0 g0 hn k1 k2 hP hD hS hl)
theorem mm_x_sipush (Z : mm_Cx p l R s m args meth c D dA cl b A mi df WS Ts nF nM nm w d xs) {K : mm_K} (hK : ∀ pc L st h kc ks, K pc L st h kc ks → mm_Go p l e R s m args below meth c Q D dA cl b A φ0 n0 (mm_n (mi w)) pc L st h kc ks) {len a bb pc kc ks : Nat} {k : Int32} {L : mm_L} {st : List Value} {h : mm_H} {n : Int} (hok : mm_ok mi cl WS nF nM nm w pc (.sipush n, len, a, bb, k) = true) (hE : K (pc + len) L (.int k :: st) h kc ks) : mm_Go p l e R s m args below meth c Q D dA cl b A φ0 n0 (mm_n (mi w)) pc L st h kc ks := by
  obtain ⟨⟨hx, hb, hml, hown, hts⟩, hWT, hoi, hG, hmi, hcl, hKK, hA, hX, hbl, hbA, hin, hRf, hRl⟩ := Z
  simp only [mm_ok, mm_sd, Bool.and_eq_true, decide_eq_true_eq] at hok
  obtain ⟨hd, h1, h2⟩ := hok
  subst h1
  intro φ H locs ls f0 g0 hn k1 k2 hP hD hS hl
  exact lv_sipush hx hb hd h2 (hK _ _ _ _ _ _ hE φ H locs ls f0 g0 hn k1 k2 hP hD hS hl)
theorem mm_x_ldc (Z : mm_Cx p l R s m args meth c D dA cl b A mi df WS Ts nF nM nm w d xs) {K : mm_K} (hK : ∀ pc L st h kc ks, K pc L st h kc ks → mm_Go p l e R s m args below meth c Q D dA cl b A φ0 n0 (mm_n (mi w)) pc L st h kc ks) {len a bb pc kc ks : Nat} {k : Int32} {L : mm_L} {st : List Value} {h : mm_H} {i : Nat} (hok : mm_ok mi cl WS nF nM nm w pc (.ldc i, len, a, bb, k) = true) (hE : K (pc + len) L (.int k :: st) h kc ks) : mm_Go p l e R s m args below meth c Q D dA cl b A φ0 n0 (mm_n (mi w)) pc L st h kc ks := by
  obtain ⟨⟨hx, hb, hml, hown, hts⟩, hWT, hoi, hG, hmi, hcl, hKK, hA, hX, hbl, hbA, hin, hRf, hRl⟩ := Z
  simp only [mm_ok, mm_sd, Bool.and_eq_true, decide_eq_true_eq] at hok
  obtain ⟨hd, h1, h2⟩ := hok
  subst h1
  intro φ H locs ls f0 g0 hn k1 k2 hP hD hS hl
  exact lv_ldc hx hb hown (hts _ (hWT _ h2)) hd (hK _ _ _ _ _ _ hE φ H locs ls f0 g0 hn k1 k2 hP hD hS hl)
theorem mm_x_iload_n (Z : mm_Cx p l R s m args meth c D dA cl b A mi df WS Ts nF nM nm w d xs) {K : mm_K} (hK : ∀ pc L st h kc ks, K pc L st h kc ks → mm_Go p l e R s m args below meth c Q D dA cl b A φ0 n0 (mm_n (mi w)) pc L st h kc ks) {len a bb pc kc ks : Nat} {k : Int32} {L : mm_L} {st : List Value} {h : mm_H} {i : Fin 4} (hok : mm_ok mi cl WS nF nM nm w pc (.iload_n i, len, a, bb, k) = true) (hE : mm_li L a fun x => K (pc + len) L (.int x :: st) h kc ks) : mm_Go p l e R s m args below meth c Q D dA cl b A φ0 n0 (mm_n (mi w)) pc L st h kc ks := by
  obtain ⟨⟨hx, hb, hml, hown, hts⟩, hWT, hoi, hG, hmi, hcl, hKK, hA, hX, hbl, hbA, hin, hRf, hRl⟩ := Z
  simp only [mm_ok, mm_sd, Bool.and_eq_true, decide_eq_true_eq] at hok
  obtain ⟨hd, h1, h2⟩ := hok
  subst h1
  obtain ⟨x, hx1, hE1⟩ := mm_li_inv hE
  intro φ H locs ls f0 g0 hn k1 k2 hP hD hS hl
  exact lv_iload_n (x := x) hx hb hd h2 (mm_lget hl hx1 rfl) (hK _ _ _ _ _ _ hE1 φ H locs ls f0 g0 hn k1 k2 hP hD hS hl)
theorem mm_x_iload (Z : mm_Cx p l R s m args meth c D dA cl b A mi df WS Ts nF nM nm w d xs) {K : mm_K} (hK : ∀ pc L st h kc ks, K pc L st h kc ks → mm_Go p l e R s m args below meth c Q D dA cl b A φ0 n0 (mm_n (mi w)) pc L st h kc ks) {len a bb pc kc ks : Nat} {k : Int32} {L : mm_L} {st : List Value} {h : mm_H} {i : Nat} (hok : mm_ok mi cl WS nF nM nm w pc (.iload i, len, a, bb, k) = true) (hE : mm_li L a fun x => K (pc + len) L (.int x :: st) h kc ks) : mm_Go p l e R s m args below meth c Q D dA cl b A φ0 n0 (mm_n (mi w)) pc L st h kc ks := by
  obtain ⟨⟨hx, hb, hml, hown, hts⟩, hWT, hoi, hG, hmi, hcl, hKK, hA, hX, hbl, hbA, hin, hRf, hRl⟩ := Z
  simp only [mm_ok, mm_sd, Bool.and_eq_true, decide_eq_true_eq] at hok
  obtain ⟨hd, h1, h2⟩ := hok
  subst h1
  subst h2
  obtain ⟨x, hx1, hE2⟩ := mm_li_inv hE
  intro φ H locs ls f0 g0 hn k1 k2 hP hD hS hl
  exact lv_iload (x := x) hx hb hd (mm_lget hl hx1 rfl) (hK _ _ _ _ _ _ hE2 φ H locs ls f0 g0 hn k1 k2 hP hD hS hl)
theorem mm_x_aload_n (Z : mm_Cx p l R s m args meth c D dA cl b A mi df WS Ts nF nM nm w d xs) {K : mm_K} (hK : ∀ pc L st h kc ks, K pc L st h kc ks → mm_Go p l e R s m args below meth c Q D dA cl b A φ0 n0 (mm_n (mi w)) pc L st h kc ks) {len a bb pc kc ks : Nat} {k : Int32} {L : mm_L} {st : List Value} {h : mm_H} {i : Fin 4} (hok : mm_ok mi cl WS nF nM nm w pc (.aload_n i, len, a, bb, k) = true) (hE : mm_lr L a fun v => K (pc + len) L (v :: st) h kc ks) : mm_Go p l e R s m args below meth c Q D dA cl b A φ0 n0 (mm_n (mi w)) pc L st h kc ks := by
  obtain ⟨⟨hx, hb, hml, hown, hts⟩, hWT, hoi, hG, hmi, hcl, hKK, hA, hX, hbl, hbA, hin, hRf, hRl⟩ := Z
  simp only [mm_ok, mm_sd, Bool.and_eq_true, decide_eq_true_eq] at hok
  obtain ⟨hd, h1, h2⟩ := hok
  subst h1
  obtain ⟨v, hx1, hv, hE3⟩ := mm_lr_inv hE
  intro φ H locs ls f0 g0 hn k1 k2 hP hD hS hl
  rcases hv with ⟨x, rfl⟩ | ⟨x, rfl⟩
  · exact lv_aload_n (x := φ x) hx hb hd h2 (mm_lget hl hx1 rfl) (hK _ _ _ _ _ _ hE3 φ H locs ls f0 g0 hn k1 k2 hP hD hS hl)
  · exact lv_aload_n (x := b) hx hb hd h2 (mm_lget hl hx1 rfl) (hK _ _ _ _ _ _ hE3 φ H locs ls f0 g0 hn k1 k2 hP hD hS hl)
theorem mm_x_aload (Z : mm_Cx p l R s m args meth c D dA cl b A mi df WS Ts nF nM nm w d xs) {K : mm_K} (hK : ∀ pc L st h kc ks, K pc L st h kc ks → mm_Go p l e R s m args below meth c Q D dA cl b A φ0 n0 (mm_n (mi w)) pc L st h kc ks) {len a bb pc kc ks : Nat} {k : Int32} {L : mm_L} {st : List Value} {h : mm_H} {i : Nat} (hok : mm_ok mi cl WS nF nM nm w pc (.aload i, len, a, bb, k) = true) (hE : mm_lr L a fun v => K (pc + len) L (v :: st) h kc ks) : mm_Go p l e R s m args below meth c Q D dA cl b A φ0 n0 (mm_n (mi w)) pc L st h kc ks := by
  obtain ⟨⟨hx, hb, hml, hown, hts⟩, hWT, hoi, hG, hmi, hcl, hKK, hA, hX, hbl, hbA, hin, hRf, hRl⟩ := Z
  simp only [mm_ok, mm_sd, Bool.and_eq_true, decide_eq_true_eq] at hok
  obtain ⟨hd, h1, h2⟩ := hok
  subst h1
  subst h2
  obtain ⟨v, hx1, hv, hE4⟩ := mm_lr_inv hE
  intro φ H locs ls f0 g0 hn k1 k2 hP hD hS hl
  rcases hv with ⟨x, rfl⟩ | ⟨x, rfl⟩
  · exact lv_aload (x := φ x) hx hb hd (mm_lget hl hx1 rfl) (hK _ _ _ _ _ _ hE4 φ H locs ls f0 g0 hn k1 k2 hP hD hS hl)
  · exact lv_aload (x := b) hx hb hd (mm_lget hl hx1 rfl) (hK _ _ _ _ _ _ hE4 φ H locs ls f0 g0 hn k1 k2 hP hD hS hl)
theorem mm_x_istore_n (Z : mm_Cx p l R s m args meth c D dA cl b A mi df WS Ts nF nM nm w d xs) {K : mm_K} (hK : ∀ pc L st h kc ks, K pc L st h kc ks → mm_Go p l e R s m args below meth c Q D dA cl b A φ0 n0 (mm_n (mi w)) pc L st h kc ks) {len a bb pc kc ks : Nat} {k : Int32} {L : mm_L} {st : List Value} {h : mm_H} {i : Fin 4} (hok : mm_ok mi cl WS nF nM nm w pc (.istore_n i, len, a, bb, k) = true) (hE : mm_s1 st fun x r => K (pc + len) (L.set a (some (.int x))) r h kc ks) : mm_Go p l e R s m args below meth c Q D dA cl b A φ0 n0 (mm_n (mi w)) pc L st h kc ks := by
  obtain ⟨⟨hx, hb, hml, hown, hts⟩, hWT, hoi, hG, hmi, hcl, hKK, hA, hX, hbl, hbA, hin, hRf, hRl⟩ := Z
  simp only [mm_ok, mm_sd, Bool.and_eq_true, decide_eq_true_eq] at hok
  obtain ⟨hd, h1, h2, h3⟩ := hok
  subst h1
  obtain ⟨x, r, rfl, hE5⟩ := mm_s1_inv hE
  intro φ H locs ls f0 g0 hn k1 k2 hP hD hS hl
  exact lv_istore_n hx hb hd h2 hl h3 rfl (fun ls' hl' => hK _ _ _ _ _ _ hE5 φ H locs ls' f0 g0 hn k1 k2 hP hD hS (mm_lsub hl' mm_lset))
theorem mm_x_istore (Z : mm_Cx p l R s m args meth c D dA cl b A mi df WS Ts nF nM nm w d xs) {K : mm_K} (hK : ∀ pc L st h kc ks, K pc L st h kc ks → mm_Go p l e R s m args below meth c Q D dA cl b A φ0 n0 (mm_n (mi w)) pc L st h kc ks) {len a bb pc kc ks : Nat} {k : Int32} {L : mm_L} {st : List Value} {h : mm_H} {i : Nat} (hok : mm_ok mi cl WS nF nM nm w pc (.istore i, len, a, bb, k) = true) (hE : mm_s1 st fun x r => K (pc + len) (L.set a (some (.int x))) r h kc ks) : mm_Go p l e R s m args below meth c Q D dA cl b A φ0 n0 (mm_n (mi w)) pc L st h kc ks := by
  obtain ⟨⟨hx, hb, hml, hown, hts⟩, hWT, hoi, hG, hmi, hcl, hKK, hA, hX, hbl, hbA, hin, hRf, hRl⟩ := Z
  simp only [mm_ok, mm_sd, Bool.and_eq_true, decide_eq_true_eq] at hok
  obtain ⟨hd, h1, h2, h3⟩ := hok
  subst h1
  subst h2
  obtain ⟨x, r, rfl, hE6⟩ := mm_s1_inv hE
  intro φ H locs ls f0 g0 hn k1 k2 hP hD hS hl
  exact lv_istore hx hb hd hl h3 rfl (fun ls' hl' => hK _ _ _ _ _ _ hE6 φ H locs ls' f0 g0 hn k1 k2 hP hD hS (mm_lsub hl' mm_lset))
theorem mm_x_astore_n (Z : mm_Cx p l R s m args meth c D dA cl b A mi df WS Ts nF nM nm w d xs) {K : mm_K} (hK : ∀ pc L st h kc ks, K pc L st h kc ks → mm_Go p l e R s m args below meth c Q D dA cl b A φ0 n0 (mm_n (mi w)) pc L st h kc ks) {len a bb pc kc ks : Nat} {k : Int32} {L : mm_L} {st : List Value} {h : mm_H} {i : Fin 4} (hok : mm_ok mi cl WS nF nM nm w pc (.astore_n i, len, a, bb, k) = true) (hE : mm_sr st fun x r => K (pc + len) (L.set a (some (.ref x))) r h kc ks) : mm_Go p l e R s m args below meth c Q D dA cl b A φ0 n0 (mm_n (mi w)) pc L st h kc ks := by
  obtain ⟨⟨hx, hb, hml, hown, hts⟩, hWT, hoi, hG, hmi, hcl, hKK, hA, hX, hbl, hbA, hin, hRf, hRl⟩ := Z
  simp only [mm_ok, mm_sd, Bool.and_eq_true, decide_eq_true_eq] at hok
  obtain ⟨hd, h1, h2, h3⟩ := hok
  subst h1
  obtain ⟨x, r, rfl, hE7⟩ := mm_sr_inv hE
  intro φ H locs ls f0 g0 hn k1 k2 hP hD hS hl
  exact lv_astore_n hx hb hd h2 hl h3 rfl (fun ls' hl' => hK _ _ _ _ _ _ hE7 φ H locs ls' f0 g0 hn k1 k2 hP hD hS (mm_lsub hl' mm_lset))
theorem mm_x_astore (Z : mm_Cx p l R s m args meth c D dA cl b A mi df WS Ts nF nM nm w d xs) {K : mm_K} (hK : ∀ pc L st h kc ks, K pc L st h kc ks → mm_Go p l e R s m args below meth c Q D dA cl b A φ0 n0 (mm_n (mi w)) pc L st h kc ks) {len a bb pc kc ks : Nat} {k : Int32} {L : mm_L} {st : List Value} {h : mm_H} {i : Nat} (hok : mm_ok mi cl WS nF nM nm w pc (.astore i, len, a, bb, k) = true) (hE : mm_sr st fun x r => K (pc + len) (L.set a (some (.ref x))) r h kc ks) : mm_Go p l e R s m args below meth c Q D dA cl b A φ0 n0 (mm_n (mi w)) pc L st h kc ks := by
  obtain ⟨⟨hx, hb, hml, hown, hts⟩, hWT, hoi, hG, hmi, hcl, hKK, hA, hX, hbl, hbA, hin, hRf, hRl⟩ := Z
  simp only [mm_ok, mm_sd, Bool.and_eq_true, decide_eq_true_eq] at hok
  obtain ⟨hd, h1, h2, h3⟩ := hok
  subst h1
  subst h2
  obtain ⟨x, r, rfl, hE8⟩ := mm_sr_inv hE
  intro φ H locs ls f0 g0 hn k1 k2 hP hD hS hl
  exact lv_astore hx hb hd hl h3 rfl (fun ls' hl' => hK _ _ _ _ _ _ hE8 φ H locs ls' f0 g0 hn k1 k2 hP hD hS (mm_lsub hl' mm_lset))
theorem mm_x_iinc (Z : mm_Cx p l R s m args meth c D dA cl b A mi df WS Ts nF nM nm w d xs) {K : mm_K} (hK : ∀ pc L st h kc ks, K pc L st h kc ks → mm_Go p l e R s m args below meth c Q D dA cl b A φ0 n0 (mm_n (mi w)) pc L st h kc ks) {len a bb pc kc ks : Nat} {k : Int32} {L : mm_L} {st : List Value} {h : mm_H} {i : Nat} {n : Int} (hok : mm_ok mi cl WS nF nM nm w pc (.iinc i n, len, a, bb, k) = true) (hE : mm_li L a fun x => K (pc + len) (L.set a (some (.int (x + k)))) st h kc ks) : mm_Go p l e R s m args below meth c Q D dA cl b A φ0 n0 (mm_n (mi w)) pc L st h kc ks := by
  obtain ⟨⟨hx, hb, hml, hown, hts⟩, hWT, hoi, hG, hmi, hcl, hKK, hA, hX, hbl, hbA, hin, hRf, hRl⟩ := Z
  simp only [mm_ok, mm_sd, Bool.and_eq_true, decide_eq_true_eq] at hok
  obtain ⟨hd, h1, h2, h3, h4⟩ := hok
  subst h1
  subst h2
  obtain ⟨x, hx1, hE9⟩ := mm_li_inv hE
  intro φ H locs ls f0 g0 hn k1 k2 hP hD hS hl
  obtain ⟨j, hj⟩ := List.getElem?_of_mem (mm_l_mem (b := b) (φ := φ) (q := (i, Value.int x)).mpr ⟨.int x, hx1, rfl, rfl⟩)
  exact lv_iinc (k := j) hx hb hd hl hj (by rw [h4]) h3 rfl (fun ls' hl' => hK _ _ _ _ _ _ hE9 φ H locs ls' f0 g0 hn k1 k2 hP hD hS (mm_lsub hl' mm_lset))
theorem mm_x_iadd (Z : mm_Cx p l R s m args meth c D dA cl b A mi df WS Ts nF nM nm w d xs) {K : mm_K} (hK : ∀ pc L st h kc ks, K pc L st h kc ks → mm_Go p l e R s m args below meth c Q D dA cl b A φ0 n0 (mm_n (mi w)) pc L st h kc ks) {len a bb pc kc ks : Nat} {k : Int32} {L : mm_L} {st : List Value} {h : mm_H}  (hok : mm_ok mi cl WS nF nM nm w pc (.iadd, len, a, bb, k) = true) (hE : mm_s2 st fun y x r => K (pc + len) L (.int (x + y) :: r) h kc ks) : mm_Go p l e R s m args below meth c Q D dA cl b A φ0 n0 (mm_n (mi w)) pc L st h kc ks := by
  obtain ⟨⟨hx, hb, hml, hown, hts⟩, hWT, hoi, hG, hmi, hcl, hKK, hA, hX, hbl, hbA, hin, hRf, hRl⟩ := Z
  simp only [mm_ok, mm_sd, Bool.and_eq_true, decide_eq_true_eq] at hok
  obtain ⟨hd, h1⟩ := hok
  subst h1
  obtain ⟨y, x, r, rfl, hE10⟩ := mm_s2_inv hE
  intro φ H locs ls f0 g0 hn k1 k2 hP hD hS hl
  exact lv_iadd hx hb hd (hK _ _ _ _ _ _ hE10 φ H locs ls f0 g0 hn k1 k2 hP hD hS hl)
theorem mm_x_isub (Z : mm_Cx p l R s m args meth c D dA cl b A mi df WS Ts nF nM nm w d xs) {K : mm_K} (hK : ∀ pc L st h kc ks, K pc L st h kc ks → mm_Go p l e R s m args below meth c Q D dA cl b A φ0 n0 (mm_n (mi w)) pc L st h kc ks) {len a bb pc kc ks : Nat} {k : Int32} {L : mm_L} {st : List Value} {h : mm_H}  (hok : mm_ok mi cl WS nF nM nm w pc (.isub, len, a, bb, k) = true) (hE : mm_s2 st fun y x r => K (pc + len) L (.int (x - y) :: r) h kc ks) : mm_Go p l e R s m args below meth c Q D dA cl b A φ0 n0 (mm_n (mi w)) pc L st h kc ks := by
  obtain ⟨⟨hx, hb, hml, hown, hts⟩, hWT, hoi, hG, hmi, hcl, hKK, hA, hX, hbl, hbA, hin, hRf, hRl⟩ := Z
  simp only [mm_ok, mm_sd, Bool.and_eq_true, decide_eq_true_eq] at hok
  obtain ⟨hd, h1⟩ := hok
  subst h1
  obtain ⟨y, x, r, rfl, hE11⟩ := mm_s2_inv hE
  intro φ H locs ls f0 g0 hn k1 k2 hP hD hS hl
  exact lv_isub hx hb hd (hK _ _ _ _ _ _ hE11 φ H locs ls f0 g0 hn k1 k2 hP hD hS hl)
theorem mm_x_imul (Z : mm_Cx p l R s m args meth c D dA cl b A mi df WS Ts nF nM nm w d xs) {K : mm_K} (hK : ∀ pc L st h kc ks, K pc L st h kc ks → mm_Go p l e R s m args below meth c Q D dA cl b A φ0 n0 (mm_n (mi w)) pc L st h kc ks) {len a bb pc kc ks : Nat} {k : Int32} {L : mm_L} {st : List Value} {h : mm_H}  (hok : mm_ok mi cl WS nF nM nm w pc (.imul, len, a, bb, k) = true) (hE : mm_s2 st fun y x r => K (pc + len) L (.int (x * y) :: r) h kc ks) : mm_Go p l e R s m args below meth c Q D dA cl b A φ0 n0 (mm_n (mi w)) pc L st h kc ks := by
  obtain ⟨⟨hx, hb, hml, hown, hts⟩, hWT, hoi, hG, hmi, hcl, hKK, hA, hX, hbl, hbA, hin, hRf, hRl⟩ := Z
  simp only [mm_ok, mm_sd, Bool.and_eq_true, decide_eq_true_eq] at hok
  obtain ⟨hd, h1⟩ := hok
  subst h1
  obtain ⟨y, x, r, rfl, hE12⟩ := mm_s2_inv hE
  intro φ H locs ls f0 g0 hn k1 k2 hP hD hS hl
  exact lv_imul hx hb hd (hK _ _ _ _ _ _ hE12 φ H locs ls f0 g0 hn k1 k2 hP hD hS hl)
theorem mm_x_iand (Z : mm_Cx p l R s m args meth c D dA cl b A mi df WS Ts nF nM nm w d xs) {K : mm_K} (hK : ∀ pc L st h kc ks, K pc L st h kc ks → mm_Go p l e R s m args below meth c Q D dA cl b A φ0 n0 (mm_n (mi w)) pc L st h kc ks) {len a bb pc kc ks : Nat} {k : Int32} {L : mm_L} {st : List Value} {h : mm_H}  (hok : mm_ok mi cl WS nF nM nm w pc (.iand, len, a, bb, k) = true) (hE : mm_s2 st fun y x r => K (pc + len) L (.int (x &&& y) :: r) h kc ks) : mm_Go p l e R s m args below meth c Q D dA cl b A φ0 n0 (mm_n (mi w)) pc L st h kc ks := by
  obtain ⟨⟨hx, hb, hml, hown, hts⟩, hWT, hoi, hG, hmi, hcl, hKK, hA, hX, hbl, hbA, hin, hRf, hRl⟩ := Z
  simp only [mm_ok, mm_sd, Bool.and_eq_true, decide_eq_true_eq] at hok
  obtain ⟨hd, h1⟩ := hok
  subst h1
  obtain ⟨y, x, r, rfl, hE13⟩ := mm_s2_inv hE
  intro φ H locs ls f0 g0 hn k1 k2 hP hD hS hl
  exact lv_iand hx hb hd (hK _ _ _ _ _ _ hE13 φ H locs ls f0 g0 hn k1 k2 hP hD hS hl)
theorem mm_x_ior (Z : mm_Cx p l R s m args meth c D dA cl b A mi df WS Ts nF nM nm w d xs) {K : mm_K} (hK : ∀ pc L st h kc ks, K pc L st h kc ks → mm_Go p l e R s m args below meth c Q D dA cl b A φ0 n0 (mm_n (mi w)) pc L st h kc ks) {len a bb pc kc ks : Nat} {k : Int32} {L : mm_L} {st : List Value} {h : mm_H}  (hok : mm_ok mi cl WS nF nM nm w pc (.ior, len, a, bb, k) = true) (hE : mm_s2 st fun y x r => K (pc + len) L (.int (x ||| y) :: r) h kc ks) : mm_Go p l e R s m args below meth c Q D dA cl b A φ0 n0 (mm_n (mi w)) pc L st h kc ks := by
  obtain ⟨⟨hx, hb, hml, hown, hts⟩, hWT, hoi, hG, hmi, hcl, hKK, hA, hX, hbl, hbA, hin, hRf, hRl⟩ := Z
  simp only [mm_ok, mm_sd, Bool.and_eq_true, decide_eq_true_eq] at hok
  obtain ⟨hd, h1⟩ := hok
  subst h1
  obtain ⟨y, x, r, rfl, hE14⟩ := mm_s2_inv hE
  intro φ H locs ls f0 g0 hn k1 k2 hP hD hS hl
  exact lv_ior hx hb hd (hK _ _ _ _ _ _ hE14 φ H locs ls f0 g0 hn k1 k2 hP hD hS hl)
theorem mm_x_ixor (Z : mm_Cx p l R s m args meth c D dA cl b A mi df WS Ts nF nM nm w d xs) {K : mm_K} (hK : ∀ pc L st h kc ks, K pc L st h kc ks → mm_Go p l e R s m args below meth c Q D dA cl b A φ0 n0 (mm_n (mi w)) pc L st h kc ks) {len a bb pc kc ks : Nat} {k : Int32} {L : mm_L} {st : List Value} {h : mm_H}  (hok : mm_ok mi cl WS nF nM nm w pc (.ixor, len, a, bb, k) = true) (hE : mm_s2 st fun y x r => K (pc + len) L (.int (x ^^^ y) :: r) h kc ks) : mm_Go p l e R s m args below meth c Q D dA cl b A φ0 n0 (mm_n (mi w)) pc L st h kc ks := by
  obtain ⟨⟨hx, hb, hml, hown, hts⟩, hWT, hoi, hG, hmi, hcl, hKK, hA, hX, hbl, hbA, hin, hRf, hRl⟩ := Z
  simp only [mm_ok, mm_sd, Bool.and_eq_true, decide_eq_true_eq] at hok
  obtain ⟨hd, h1⟩ := hok
  subst h1
  obtain ⟨y, x, r, rfl, hE15⟩ := mm_s2_inv hE
  intro φ H locs ls f0 g0 hn k1 k2 hP hD hS hl
  exact lv_ixor hx hb hd (hK _ _ _ _ _ _ hE15 φ H locs ls f0 g0 hn k1 k2 hP hD hS hl)
theorem mm_x_ishl (Z : mm_Cx p l R s m args meth c D dA cl b A mi df WS Ts nF nM nm w d xs) {K : mm_K} (hK : ∀ pc L st h kc ks, K pc L st h kc ks → mm_Go p l e R s m args below meth c Q D dA cl b A φ0 n0 (mm_n (mi w)) pc L st h kc ks) {len a bb pc kc ks : Nat} {k : Int32} {L : mm_L} {st : List Value} {h : mm_H}  (hok : mm_ok mi cl WS nF nM nm w pc (.ishl, len, a, bb, k) = true) (hE : mm_s2 st fun y x r => K (pc + len) L (.int (x <<< (y &&& 31)) :: r) h kc ks) : mm_Go p l e R s m args below meth c Q D dA cl b A φ0 n0 (mm_n (mi w)) pc L st h kc ks := by
  obtain ⟨⟨hx, hb, hml, hown, hts⟩, hWT, hoi, hG, hmi, hcl, hKK, hA, hX, hbl, hbA, hin, hRf, hRl⟩ := Z
  simp only [mm_ok, mm_sd, Bool.and_eq_true, decide_eq_true_eq] at hok
  obtain ⟨hd, h1⟩ := hok
  subst h1
  obtain ⟨y, x, r, rfl, hE16⟩ := mm_s2_inv hE
  intro φ H locs ls f0 g0 hn k1 k2 hP hD hS hl
  exact lv_ishl hx hb hd (hK _ _ _ _ _ _ hE16 φ H locs ls f0 g0 hn k1 k2 hP hD hS hl)
theorem mm_x_ishr (Z : mm_Cx p l R s m args meth c D dA cl b A mi df WS Ts nF nM nm w d xs) {K : mm_K} (hK : ∀ pc L st h kc ks, K pc L st h kc ks → mm_Go p l e R s m args below meth c Q D dA cl b A φ0 n0 (mm_n (mi w)) pc L st h kc ks) {len a bb pc kc ks : Nat} {k : Int32} {L : mm_L} {st : List Value} {h : mm_H}  (hok : mm_ok mi cl WS nF nM nm w pc (.ishr, len, a, bb, k) = true) (hE : mm_s2 st fun y x r => K (pc + len) L (.int (x >>> (y &&& 31)) :: r) h kc ks) : mm_Go p l e R s m args below meth c Q D dA cl b A φ0 n0 (mm_n (mi w)) pc L st h kc ks := by
  obtain ⟨⟨hx, hb, hml, hown, hts⟩, hWT, hoi, hG, hmi, hcl, hKK, hA, hX, hbl, hbA, hin, hRf, hRl⟩ := Z
  simp only [mm_ok, mm_sd, Bool.and_eq_true, decide_eq_true_eq] at hok
  obtain ⟨hd, h1⟩ := hok
  subst h1
  obtain ⟨y, x, r, rfl, hE17⟩ := mm_s2_inv hE
  intro φ H locs ls f0 g0 hn k1 k2 hP hD hS hl
  exact lv_ishr hx hb hd (hK _ _ _ _ _ _ hE17 φ H locs ls f0 g0 hn k1 k2 hP hD hS hl)
theorem mm_x_idiv (Z : mm_Cx p l R s m args meth c D dA cl b A mi df WS Ts nF nM nm w d xs) {K : mm_K} (hK : ∀ pc L st h kc ks, K pc L st h kc ks → mm_Go p l e R s m args below meth c Q D dA cl b A φ0 n0 (mm_n (mi w)) pc L st h kc ks) {len a bb pc kc ks : Nat} {k : Int32} {L : mm_L} {st : List Value} {h : mm_H}  (hok : mm_ok mi cl WS nF nM nm w pc (.idiv, len, a, bb, k) = true) (hE : mm_s2 st fun y x r => ¬ y = 0 ∧ K (pc + len) L (.int (x / y) :: r) h kc ks) : mm_Go p l e R s m args below meth c Q D dA cl b A φ0 n0 (mm_n (mi w)) pc L st h kc ks := by
  obtain ⟨⟨hx, hb, hml, hown, hts⟩, hWT, hoi, hG, hmi, hcl, hKK, hA, hX, hbl, hbA, hin, hRf, hRl⟩ := Z
  simp only [mm_ok, mm_sd, Bool.and_eq_true, decide_eq_true_eq] at hok
  obtain ⟨hd, h1⟩ := hok
  subst h1
  obtain ⟨y, x, r, rfl, hy, hE18⟩ := mm_s2_inv hE
  intro φ H locs ls f0 g0 hn k1 k2 hP hD hS hl
  exact lv_idiv hx hb hd hy (hK _ _ _ _ _ _ hE18 φ H locs ls f0 g0 hn k1 k2 hP hD hS hl)
theorem mm_x_irem (Z : mm_Cx p l R s m args meth c D dA cl b A mi df WS Ts nF nM nm w d xs) {K : mm_K} (hK : ∀ pc L st h kc ks, K pc L st h kc ks → mm_Go p l e R s m args below meth c Q D dA cl b A φ0 n0 (mm_n (mi w)) pc L st h kc ks) {len a bb pc kc ks : Nat} {k : Int32} {L : mm_L} {st : List Value} {h : mm_H}  (hok : mm_ok mi cl WS nF nM nm w pc (.irem, len, a, bb, k) = true) (hE : mm_s2 st fun y x r => ¬ y = 0 ∧ K (pc + len) L (.int (x - x / y * y) :: r) h kc ks) : mm_Go p l e R s m args below meth c Q D dA cl b A φ0 n0 (mm_n (mi w)) pc L st h kc ks := by
  obtain ⟨⟨hx, hb, hml, hown, hts⟩, hWT, hoi, hG, hmi, hcl, hKK, hA, hX, hbl, hbA, hin, hRf, hRl⟩ := Z
  simp only [mm_ok, mm_sd, Bool.and_eq_true, decide_eq_true_eq] at hok
  obtain ⟨hd, h1⟩ := hok
  subst h1
  obtain ⟨y, x, r, rfl, hy, hE19⟩ := mm_s2_inv hE
  intro φ H locs ls f0 g0 hn k1 k2 hP hD hS hl
  exact lv_irem hx hb hd hy (hK _ _ _ _ _ _ hE19 φ H locs ls f0 g0 hn k1 k2 hP hD hS hl)
theorem mm_x_ineg (Z : mm_Cx p l R s m args meth c D dA cl b A mi df WS Ts nF nM nm w d xs) {K : mm_K} (hK : ∀ pc L st h kc ks, K pc L st h kc ks → mm_Go p l e R s m args below meth c Q D dA cl b A φ0 n0 (mm_n (mi w)) pc L st h kc ks) {len a bb pc kc ks : Nat} {k : Int32} {L : mm_L} {st : List Value} {h : mm_H}  (hok : mm_ok mi cl WS nF nM nm w pc (.ineg, len, a, bb, k) = true) (hE : mm_s1 st fun x r => K (pc + len) L (.int (-x) :: r) h kc ks) : mm_Go p l e R s m args below meth c Q D dA cl b A φ0 n0 (mm_n (mi w)) pc L st h kc ks := by
  obtain ⟨⟨hx, hb, hml, hown, hts⟩, hWT, hoi, hG, hmi, hcl, hKK, hA, hX, hbl, hbA, hin, hRf, hRl⟩ := Z
  simp only [mm_ok, mm_sd, Bool.and_eq_true, decide_eq_true_eq] at hok
  obtain ⟨hd, h1⟩ := hok
  subst h1
  obtain ⟨x, r, rfl, hE20⟩ := mm_s1_inv hE
  intro φ H locs ls f0 g0 hn k1 k2 hP hD hS hl
  exact lv_ineg hx hb hd (hK _ _ _ _ _ _ hE20 φ H locs ls f0 g0 hn k1 k2 hP hD hS hl)
theorem mm_x_i2c (Z : mm_Cx p l R s m args meth c D dA cl b A mi df WS Ts nF nM nm w d xs) {K : mm_K} (hK : ∀ pc L st h kc ks, K pc L st h kc ks → mm_Go p l e R s m args below meth c Q D dA cl b A φ0 n0 (mm_n (mi w)) pc L st h kc ks) {len a bb pc kc ks : Nat} {k : Int32} {L : mm_L} {st : List Value} {h : mm_H}  (hok : mm_ok mi cl WS nF nM nm w pc (.i2c, len, a, bb, k) = true) (hE : mm_s1 st fun x r => K (pc + len) L (.int (x.toUInt32 % 65536).toInt32 :: r) h kc ks) : mm_Go p l e R s m args below meth c Q D dA cl b A φ0 n0 (mm_n (mi w)) pc L st h kc ks := by
  obtain ⟨⟨hx, hb, hml, hown, hts⟩, hWT, hoi, hG, hmi, hcl, hKK, hA, hX, hbl, hbA, hin, hRf, hRl⟩ := Z
  simp only [mm_ok, mm_sd, Bool.and_eq_true, decide_eq_true_eq] at hok
  obtain ⟨hd, h1⟩ := hok
  subst h1
  obtain ⟨x, r, rfl, hE21⟩ := mm_s1_inv hE
  intro φ H locs ls f0 g0 hn k1 k2 hP hD hS hl
  exact lv_i2c hx hb hd rfl (hK _ _ _ _ _ _ hE21 φ H locs ls f0 g0 hn k1 k2 hP hD hS hl)
theorem mm_x_dup (Z : mm_Cx p l R s m args meth c D dA cl b A mi df WS Ts nF nM nm w d xs) {K : mm_K} (hK : ∀ pc L st h kc ks, K pc L st h kc ks → mm_Go p l e R s m args below meth c Q D dA cl b A φ0 n0 (mm_n (mi w)) pc L st h kc ks) {len a bb pc kc ks : Nat} {k : Int32} {L : mm_L} {st : List Value} {h : mm_H}  (hok : mm_ok mi cl WS nF nM nm w pc (.dup, len, a, bb, k) = true) (hE : mm_sv st fun v r => v.category = 1 ∧ K (pc + len) L (v :: v :: r) h kc ks) : mm_Go p l e R s m args below meth c Q D dA cl b A φ0 n0 (mm_n (mi w)) pc L st h kc ks := by
  obtain ⟨⟨hx, hb, hml, hown, hts⟩, hWT, hoi, hG, hmi, hcl, hKK, hA, hX, hbl, hbA, hin, hRf, hRl⟩ := Z
  simp only [mm_ok, mm_sd, Bool.and_eq_true, decide_eq_true_eq] at hok
  obtain ⟨hd, h1⟩ := hok
  subst h1
  obtain ⟨v, r, rfl, c1, hE22⟩ := mm_sv_inv hE
  intro φ H locs ls f0 g0 hn k1 k2 hP hD hS hl
  exact lv_dup hx hb hd (by rw [mm_v_cat]; exact c1) (hK _ _ _ _ _ _ hE22 φ H locs ls f0 g0 hn k1 k2 hP hD hS hl)
theorem mm_x_pop (Z : mm_Cx p l R s m args meth c D dA cl b A mi df WS Ts nF nM nm w d xs) {K : mm_K} (hK : ∀ pc L st h kc ks, K pc L st h kc ks → mm_Go p l e R s m args below meth c Q D dA cl b A φ0 n0 (mm_n (mi w)) pc L st h kc ks) {len a bb pc kc ks : Nat} {k : Int32} {L : mm_L} {st : List Value} {h : mm_H}  (hok : mm_ok mi cl WS nF nM nm w pc (.pop, len, a, bb, k) = true) (hE : mm_sv st fun v r => v.category = 1 ∧ K (pc + len) L r h kc ks) : mm_Go p l e R s m args below meth c Q D dA cl b A φ0 n0 (mm_n (mi w)) pc L st h kc ks := by
  obtain ⟨⟨hx, hb, hml, hown, hts⟩, hWT, hoi, hG, hmi, hcl, hKK, hA, hX, hbl, hbA, hin, hRf, hRl⟩ := Z
  simp only [mm_ok, mm_sd, Bool.and_eq_true, decide_eq_true_eq] at hok
  obtain ⟨hd, h1⟩ := hok
  subst h1
  obtain ⟨v, r, rfl, c1, hE23⟩ := mm_sv_inv hE
  intro φ H locs ls f0 g0 hn k1 k2 hP hD hS hl
  exact lv_pop hx hb hd (by rw [mm_v_cat]; exact c1) (hK _ _ _ _ _ _ hE23 φ H locs ls f0 g0 hn k1 k2 hP hD hS hl)
theorem mm_x_dup_x1 (Z : mm_Cx p l R s m args meth c D dA cl b A mi df WS Ts nF nM nm w d xs) {K : mm_K} (hK : ∀ pc L st h kc ks, K pc L st h kc ks → mm_Go p l e R s m args below meth c Q D dA cl b A φ0 n0 (mm_n (mi w)) pc L st h kc ks) {len a bb pc kc ks : Nat} {k : Int32} {L : mm_L} {st : List Value} {h : mm_H}  (hok : mm_ok mi cl WS nF nM nm w pc (.dup_x1, len, a, bb, k) = true) (hE : mm_sv st fun v r => mm_sv r fun w r => v.category = 1 ∧ w.category = 1 ∧ K (pc + len) L (v :: w :: v :: r) h kc ks) : mm_Go p l e R s m args below meth c Q D dA cl b A φ0 n0 (mm_n (mi w)) pc L st h kc ks := by
  obtain ⟨⟨hx, hb, hml, hown, hts⟩, hWT, hoi, hG, hmi, hcl, hKK, hA, hX, hbl, hbA, hin, hRf, hRl⟩ := Z
  simp only [mm_ok, mm_sd, Bool.and_eq_true, decide_eq_true_eq] at hok
  obtain ⟨hd, h1⟩ := hok
  subst h1
  obtain ⟨v, r, rfl, hE24⟩ := mm_sv_inv hE
  obtain ⟨v2, r, rfl, c1, c2, hE25⟩ := mm_sv_inv hE24
  intro φ H locs ls f0 g0 hn k1 k2 hP hD hS hl
  exact lv_dup_x1 hx hb hd (by rw [mm_v_cat]; exact c1) (by rw [mm_v_cat]; exact c2) (hK _ _ _ _ _ _ hE25 φ H locs ls f0 g0 hn k1 k2 hP hD hS hl)
theorem mm_x_dup2 (Z : mm_Cx p l R s m args meth c D dA cl b A mi df WS Ts nF nM nm w d xs) {K : mm_K} (hK : ∀ pc L st h kc ks, K pc L st h kc ks → mm_Go p l e R s m args below meth c Q D dA cl b A φ0 n0 (mm_n (mi w)) pc L st h kc ks) {len a bb pc kc ks : Nat} {k : Int32} {L : mm_L} {st : List Value} {h : mm_H}  (hok : mm_ok mi cl WS nF nM nm w pc (.dup2, len, a, bb, k) = true) (hE : mm_sv st fun v r => mm_sv r fun w r => v.category = 1 ∧ w.category = 1 ∧ K (pc + len) L (v :: w :: v :: w :: r) h kc ks) : mm_Go p l e R s m args below meth c Q D dA cl b A φ0 n0 (mm_n (mi w)) pc L st h kc ks := by
  obtain ⟨⟨hx, hb, hml, hown, hts⟩, hWT, hoi, hG, hmi, hcl, hKK, hA, hX, hbl, hbA, hin, hRf, hRl⟩ := Z
  simp only [mm_ok, mm_sd, Bool.and_eq_true, decide_eq_true_eq] at hok
  obtain ⟨hd, h1⟩ := hok
  subst h1
  obtain ⟨v, r, rfl, hE26⟩ := mm_sv_inv hE
  obtain ⟨v2, r, rfl, c1, c2, hE27⟩ := mm_sv_inv hE26
  intro φ H locs ls f0 g0 hn k1 k2 hP hD hS hl
  exact lv_dup2_11 hx hb hd (by rw [mm_v_cat]; exact c1) (by rw [mm_v_cat]; exact c2) (hK _ _ _ _ _ _ hE27 φ H locs ls f0 g0 hn k1 k2 hP hD hS hl)
theorem mm_x_dup_x2 (Z : mm_Cx p l R s m args meth c D dA cl b A mi df WS Ts nF nM nm w d xs) {K : mm_K} (hK : ∀ pc L st h kc ks, K pc L st h kc ks → mm_Go p l e R s m args below meth c Q D dA cl b A φ0 n0 (mm_n (mi w)) pc L st h kc ks) {len a bb pc kc ks : Nat} {k : Int32} {L : mm_L} {st : List Value} {h : mm_H}  (hok : mm_ok mi cl WS nF nM nm w pc (.dup_x2, len, a, bb, k) = true) (hE : mm_sv st fun v r => mm_sv r fun w r => mm_sv r fun z r => v.category = 1 ∧ w.category = 1 ∧ z.category = 1 ∧ K (pc + len) L (v :: w :: z :: v :: r) h kc ks) : mm_Go p l e R s m args below meth c Q D dA cl b A φ0 n0 (mm_n (mi w)) pc L st h kc ks := by
  obtain ⟨⟨hx, hb, hml, hown, hts⟩, hWT, hoi, hG, hmi, hcl, hKK, hA, hX, hbl, hbA, hin, hRf, hRl⟩ := Z
  simp only [mm_ok, mm_sd, Bool.and_eq_true, decide_eq_true_eq] at hok
  obtain ⟨hd, h1⟩ := hok
  subst h1
  obtain ⟨v, r, rfl, hE28⟩ := mm_sv_inv hE
  obtain ⟨v2, r, rfl, hE29⟩ := mm_sv_inv hE28
  obtain ⟨v3, r, rfl, c1, c2, c3, hE30⟩ := mm_sv_inv hE29
  intro φ H locs ls f0 g0 hn k1 k2 hP hD hS hl
  exact lv_dup_x2 hx hb hd (by rw [mm_v_cat]; exact c1) (by rw [mm_v_cat]; exact c2) (by rw [mm_v_cat]; exact c3) (hK _ _ _ _ _ _ hE30 φ H locs ls f0 g0 hn k1 k2 hP hD hS hl)
theorem mm_x_ifCond (Z : mm_Cx p l R s m args meth c D dA cl b A mi df WS Ts nF nM nm w d xs) {K : mm_K} (hK : ∀ pc L st h kc ks, K pc L st h kc ks → mm_Go p l e R s m args below meth c Q D dA cl b A φ0 n0 (mm_n (mi w)) pc L st h kc ks) {len a bb pc kc ks : Nat} {k : Int32} {L : mm_L} {st : List Value} {h : mm_H} {cnd : Jvm.ClassFile.Cond} {off : Int} (hok : mm_ok mi cl WS nF nM nm w pc (.ifCond cnd off, len, a, bb, k) = true) (hE : mm_s1 st fun x r => (mm_cz cnd x → K a L r h kc ks) ∧ (¬ mm_cz cnd x → K (pc + len) L r h kc ks)) : mm_Go p l e R s m args below meth c Q D dA cl b A φ0 n0 (mm_n (mi w)) pc L st h kc ks := by
  obtain ⟨⟨hx, hb, hml, hown, hts⟩, hWT, hoi, hG, hmi, hcl, hKK, hA, hX, hbl, hbA, hin, hRf, hRl⟩ := Z
  simp only [mm_ok, mm_sd, Bool.and_eq_true, decide_eq_true_eq] at hok
  obtain ⟨hd, h1, h2⟩ := hok
  subst h1
  obtain ⟨x, r, rfl, hE31⟩ := mm_s1_inv hE
  intro φ H locs ls f0 g0 hn k1 k2 hP hD hS hl
  cases cnd with
  | eq => exact lv_if_eq hx hb hd h2 (fun hc => (hK _ _ _ _ _ _ (hE.1 hc) φ H locs ls f0 g0 hn k1 k2 hP hD hS hl)) (fun hc => (hK _ _ _ _ _ _ (hE.2 hc) φ H locs ls f0 g0 hn k1 k2 hP hD hS hl))
  | ne => exact lv_if_ne hx hb hd h2 (fun hc => (hK _ _ _ _ _ _ (hE.1 hc) φ H locs ls f0 g0 hn k1 k2 hP hD hS hl)) (fun hc => (hK _ _ _ _ _ _ (hE.2 (fun hn2 => hn2 hc)) φ H locs ls f0 g0 hn k1 k2 hP hD hS hl))
  | lt => exact lv_if_lt hx hb hd h2 (fun hc => (hK _ _ _ _ _ _ (hE.1 hc) φ H locs ls f0 g0 hn k1 k2 hP hD hS hl)) (fun hc => (hK _ _ _ _ _ _ (hE.2 hc) φ H locs ls f0 g0 hn k1 k2 hP hD hS hl))
  | ge => exact lv_if_ge hx hb hd h2 (fun hc => (hK _ _ _ _ _ _ (hE.1 hc) φ H locs ls f0 g0 hn k1 k2 hP hD hS hl)) (fun hc => (hK _ _ _ _ _ _ (hE.2 hc) φ H locs ls f0 g0 hn k1 k2 hP hD hS hl))
  | gt => exact lv_if_gt hx hb hd h2 (fun hc => (hK _ _ _ _ _ _ (hE.1 hc) φ H locs ls f0 g0 hn k1 k2 hP hD hS hl)) (fun hc => (hK _ _ _ _ _ _ (hE.2 hc) φ H locs ls f0 g0 hn k1 k2 hP hD hS hl))
  | le => exact lv_if_le hx hb hd h2 (fun hc => (hK _ _ _ _ _ _ (hE.1 hc) φ H locs ls f0 g0 hn k1 k2 hP hD hS hl)) (fun hc => (hK _ _ _ _ _ _ (hE.2 hc) φ H locs ls f0 g0 hn k1 k2 hP hD hS hl))
theorem mm_x_if_icmp (Z : mm_Cx p l R s m args meth c D dA cl b A mi df WS Ts nF nM nm w d xs) {K : mm_K} (hK : ∀ pc L st h kc ks, K pc L st h kc ks → mm_Go p l e R s m args below meth c Q D dA cl b A φ0 n0 (mm_n (mi w)) pc L st h kc ks) {len a bb pc kc ks : Nat} {k : Int32} {L : mm_L} {st : List Value} {h : mm_H} {cnd : Jvm.ClassFile.Cond} {off : Int} (hok : mm_ok mi cl WS nF nM nm w pc (.if_icmp cnd off, len, a, bb, k) = true) (hE : mm_s2 st fun y x r => (mm_cc cnd x y → K a L r h kc ks) ∧ (¬ mm_cc cnd x y → K (pc + len) L r h kc ks)) : mm_Go p l e R s m args below meth c Q D dA cl b A φ0 n0 (mm_n (mi w)) pc L st h kc ks := by
  obtain ⟨⟨hx, hb, hml, hown, hts⟩, hWT, hoi, hG, hmi, hcl, hKK, hA, hX, hbl, hbA, hin, hRf, hRl⟩ := Z
  simp only [mm_ok, mm_sd, Bool.and_eq_true, decide_eq_true_eq] at hok
  obtain ⟨hd, h1, h2⟩ := hok
  subst h1
  obtain ⟨y, x, r, rfl, hE32⟩ := mm_s2_inv hE
  intro φ H locs ls f0 g0 hn k1 k2 hP hD hS hl
  cases cnd with
  | eq => exact lv_icmp_eq hx hb hd h2 (fun hc => (hK _ _ _ _ _ _ (hE.1 hc) φ H locs ls f0 g0 hn k1 k2 hP hD hS hl)) (fun hc => (hK _ _ _ _ _ _ (hE.2 hc) φ H locs ls f0 g0 hn k1 k2 hP hD hS hl))
  | ne => exact lv_icmp_ne hx hb hd h2 (fun hc => (hK _ _ _ _ _ _ (hE.1 hc) φ H locs ls f0 g0 hn k1 k2 hP hD hS hl)) (fun hc => (hK _ _ _ _ _ _ (hE.2 (fun hn2 => hn2 hc)) φ H locs ls f0 g0 hn k1 k2 hP hD hS hl))
  | lt => exact lv_icmp_lt hx hb hd h2 (fun hc => (hK _ _ _ _ _ _ (hE.1 hc) φ H locs ls f0 g0 hn k1 k2 hP hD hS hl)) (fun hc => (hK _ _ _ _ _ _ (hE.2 hc) φ H locs ls f0 g0 hn k1 k2 hP hD hS hl))
  | ge => exact lv_icmp_ge hx hb hd h2 (fun hc => (hK _ _ _ _ _ _ (hE.1 hc) φ H locs ls f0 g0 hn k1 k2 hP hD hS hl)) (fun hc => (hK _ _ _ _ _ _ (hE.2 hc) φ H locs ls f0 g0 hn k1 k2 hP hD hS hl))
  | gt => exact lv_icmp_gt hx hb hd h2 (fun hc => (hK _ _ _ _ _ _ (hE.1 hc) φ H locs ls f0 g0 hn k1 k2 hP hD hS hl)) (fun hc => (hK _ _ _ _ _ _ (hE.2 hc) φ H locs ls f0 g0 hn k1 k2 hP hD hS hl))
  | le => exact lv_icmp_le hx hb hd h2 (fun hc => (hK _ _ _ _ _ _ (hE.1 hc) φ H locs ls f0 g0 hn k1 k2 hP hD hS hl)) (fun hc => (hK _ _ _ _ _ _ (hE.2 hc) φ H locs ls f0 g0 hn k1 k2 hP hD hS hl))
theorem mm_x_goto (Z : mm_Cx p l R s m args meth c D dA cl b A mi df WS Ts nF nM nm w d xs) {K : mm_K} (hK : ∀ pc L st h kc ks, K pc L st h kc ks → mm_Go p l e R s m args below meth c Q D dA cl b A φ0 n0 (mm_n (mi w)) pc L st h kc ks) {len a bb pc kc ks : Nat} {k : Int32} {L : mm_L} {st : List Value} {h : mm_H} {off : Int} (hok : mm_ok mi cl WS nF nM nm w pc (.goto off, len, a, bb, k) = true) (hE : K a L st h kc ks) : mm_Go p l e R s m args below meth c Q D dA cl b A φ0 n0 (mm_n (mi w)) pc L st h kc ks := by
  obtain ⟨⟨hx, hb, hml, hown, hts⟩, hWT, hoi, hG, hmi, hcl, hKK, hA, hX, hbl, hbA, hin, hRf, hRl⟩ := Z
  simp only [mm_ok, mm_sd, Bool.and_eq_true, decide_eq_true_eq] at hok
  obtain ⟨hd, h1, h2⟩ := hok
  subst h1
  intro φ H locs ls f0 g0 hn k1 k2 hP hD hS hl
  exact lv_goto hx hb hd h2 (hK _ _ _ _ _ _ hE φ H locs ls f0 g0 hn k1 k2 hP hD hS hl)
theorem mm_x_lookupswitch (Z : mm_Cx p l R s m args meth c D dA cl b A mi df WS Ts nF nM nm w d xs) {K : mm_K} (hK : ∀ pc L st h kc ks, K pc L st h kc ks → mm_Go p l e R s m args below meth c Q D dA cl b A φ0 n0 (mm_n (mi w)) pc L st h kc ks) {len a bb pc kc ks : Nat} {k : Int32} {L : mm_L} {st : List Value} {h : mm_H} {dd : Int} {ps : Array (Int × Int)} (hok : mm_ok mi cl WS nF nM nm w pc (.lookupswitch dd ps, len, a, bb, k) = true) (hE : mm_s1 st fun x r => ∃ t : Nat, (pc : Int) + Op.lookupswitch.offset ps.toList dd x.toInt = (t : Int) ∧ K t L r h kc ks) : mm_Go p l e R s m args below meth c Q D dA cl b A φ0 n0 (mm_n (mi w)) pc L st h kc ks := by
  obtain ⟨⟨hx, hb, hml, hown, hts⟩, hWT, hoi, hG, hmi, hcl, hKK, hA, hX, hbl, hbA, hin, hRf, hRl⟩ := Z
  simp only [mm_ok, mm_sd, Bool.and_eq_true, decide_eq_true_eq] at hok
  obtain ⟨hd, h1⟩ := hok
  obtain ⟨x, r, rfl, t, ht, hE33⟩ := mm_s1_inv hE
  intro φ H locs ls f0 g0 hn k1 k2 hP hD hS hl
  exact lv_lookup hx hb hd h1 rfl ht (hK _ _ _ _ _ _ hE33 φ H locs ls f0 g0 hn k1 k2 hP hD hS hl)
theorem mm_x_tableswitch (Z : mm_Cx p l R s m args meth c D dA cl b A mi df WS Ts nF nM nm w d xs) {K : mm_K} (hK : ∀ pc L st h kc ks, K pc L st h kc ks → mm_Go p l e R s m args below meth c Q D dA cl b A φ0 n0 (mm_n (mi w)) pc L st h kc ks) {len a bb pc kc ks : Nat} {k : Int32} {L : mm_L} {st : List Value} {h : mm_H} {dd lo hi : Int} {offs : Array Int} (hok : mm_ok mi cl WS nF nM nm w pc (.tableswitch dd lo hi offs, len, a, bb, k) = true) (hE : mm_s1 st fun x r => (x.toInt < lo ∨ hi < x.toInt → ∃ t : Nat, (pc : Int) + dd = (t : Int) ∧ K t L r h kc ks) ∧ (¬ x.toInt < lo → ¬ hi < x.toInt → ∃ (o : Int) (t : Nat), offs[(x.toInt - lo).toNat]? = some o ∧ (pc : Int) + o = (t : Int) ∧ K t L r h kc ks)) : mm_Go p l e R s m args below meth c Q D dA cl b A φ0 n0 (mm_n (mi w)) pc L st h kc ks := by
  obtain ⟨⟨hx, hb, hml, hown, hts⟩, hWT, hoi, hG, hmi, hcl, hKK, hA, hX, hbl, hbA, hin, hRf, hRl⟩ := Z
  simp only [mm_ok, mm_sd, Bool.and_eq_true, decide_eq_true_eq] at hok
  obtain ⟨hd, h1⟩ := hok
  obtain ⟨x, r, rfl, hE34⟩ := mm_s1_inv hE
  intro φ H locs ls f0 g0 hn k1 k2 hP hD hS hl
  by_cases hc : x.toInt < lo ∨ hi < x.toInt
  · obtain ⟨t, ht, hE35⟩ := hE34.1 hc
    exact lv_tableOut hx hb hd hc ht (hK _ _ _ _ _ _ hE35 φ H locs ls f0 g0 hn k1 k2 hP hD hS hl)
  · obtain ⟨o, t, ho, ht, hE36⟩ := hE34.2 (fun z => hc (Or.inl z)) (fun z => hc (Or.inr z))
    exact lv_tableIn hx hb hd (fun z => hc (Or.inl z)) (fun z => hc (Or.inr z)) ho ht (hK _ _ _ _ _ _ hE36 φ H locs ls f0 g0 hn k1 k2 hP hD hS hl)
theorem mm_x_getfield (Z : mm_Cx p l R s m args meth c D dA cl b A mi df WS Ts nF nM nm w d xs) {K : mm_K} (hK : ∀ pc L st h kc ks, K pc L st h kc ks → mm_Go p l e R s m args below meth c Q D dA cl b A φ0 n0 (mm_n (mi w)) pc L st h kc ks) {len a bb pc kc ks : Nat} {k : Int32} {L : mm_L} {st : List Value} {h : mm_H} {i : Nat} (hok : mm_ok mi cl WS nF nM nm w pc (.getfield i, len, a, bb, k) = true) (hE : mm_sr st fun o r => mm_ob h o fun ci fs => mm_fd fs bb fun v => ci = a ∧ K (pc + len) L (v :: r) h kc ks) : mm_Go p l e R s m args below meth c Q D dA cl b A φ0 n0 (mm_n (mi w)) pc L st h kc ks := by
  obtain ⟨⟨hx, hb, hml, hown, hts⟩, hWT, hoi, hG, hmi, hcl, hKK, hA, hX, hbl, hbA, hin, hRf, hRl⟩ := Z
  simp only [mm_ok, mm_sd, Bool.and_eq_true, decide_eq_true_eq] at hok
  obtain ⟨hd, h1, hfl⟩ := hok
  subst h1
  obtain ⟨o, r, rfl, hE37⟩ := mm_sr_inv hE
  obtain ⟨ci, fs, ho, hE38⟩ := mm_ob_inv hE37
  obtain ⟨v, hv, rfl, hE39⟩ := mm_fd_inv hE38
  unfold mm_fl at hfl
  split at hfl
  · cases hfl
  · rename_i q hq
    simp only [Bool.and_eq_true, decide_eq_true_eq, mm_lk, Bool.or_eq_true, List.any_eq_true] at hfl
    obtain ⟨hk, hlk⟩ := hfl
    obtain ⟨u1, u2, u3, u4, u5⟩ := mm_okc_spec (hcl _ _ hq)
    intro φ H locs ls f0 g0 hn k1 k2 hP hD hS hl
    have hfv : (fs.map (mm_v b φ))[bb]? = some (mm_v b φ v) := by rw [List.getElem?_map, hv]; rfl
    rcases hlk with hlk | ⟨q2, hq2, e1, e2, e3, e4, e5⟩
    · exact va_get (C := q.1) (T := q.2.1) (N := q.2.2) hx hb hts (fun x h9 => hWT _ (u1 x h9)) hown hKK.1 hP o (mm_w_at ho) hq bb hk (hts _ (hWT _ hlk)) (fun _ h9 => h9) hfv hd (hK _ _ _ _ _ _ hE39 φ H locs ls f0 g0 hn k1 k2 hP hD hS hl)
    · have hz := hKK.2.1 q2 hq2
      rw [e1, e2, e3, e4, e5] at hz
      exact va_getN (C := q.1) (T := q.2.1) (N := q.2.2) hx hb hts (fun x h9 => hWT _ (u1 x h9)) hown hKK.1 hP o (mm_w_at ho) hq bb hk (va_Nw.use rfl hz) (fun _ h9 => h9) hfv hd (hK _ _ _ _ _ _ hE39 φ H locs ls f0 g0 hn k1 k2 hP hD hS hl)
theorem mm_x_putfield (Z : mm_Cx p l R s m args meth c D dA cl b A mi df WS Ts nF nM nm w d xs) {K : mm_K} (hK : ∀ pc L st h kc ks, K pc L st h kc ks → mm_Go p l e R s m args below meth c Q D dA cl b A φ0 n0 (mm_n (mi w)) pc L st h kc ks) {len a bb pc kc ks : Nat} {k : Int32} {L : mm_L} {st : List Value} {h : mm_H} {i : Nat} (hok : mm_ok mi cl WS nF nM nm w pc (.putfield i, len, a, bb, k) = true) (hE : mm_sv st fun v r => mm_sr r fun o r => mm_ob h o fun ci fs => ci = a ∧ bb < fs.length ∧ mm_fit k v ∧ K (pc + len) L r (h.set o (.inr (ci, fs.set bb v))) kc ks) : mm_Go p l e R s m args below meth c Q D dA cl b A φ0 n0 (mm_n (mi w)) pc L st h kc ks := by
  obtain ⟨⟨hx, hb, hml, hown, hts⟩, hWT, hoi, hG, hmi, hcl, hKK, hA, hX, hbl, hbA, hin, hRf, hRl⟩ := Z
  simp only [mm_ok, mm_sd, Bool.and_eq_true, decide_eq_true_eq] at hok
  obtain ⟨hd, h1, hfl⟩ := hok
  subst h1
  obtain ⟨v, r, rfl, hE40⟩ := mm_sv_inv hE
  obtain ⟨o, r, rfl, hE41⟩ := mm_sr_inv hE40
  obtain ⟨ci, fs, ho, rfl, hlen, hfit, hE42⟩ := mm_ob_inv hE41
  unfold mm_fp at hfl
  split at hfl
  · cases hfl
  · rename_i q hq
    simp only [Bool.and_eq_true, decide_eq_true_eq] at hfl
    obtain ⟨⟨hk, hty⟩, hlk⟩ := hfl
    obtain ⟨u1, u2, u3, u4, u5⟩ := mm_okc_spec (hcl _ _ hq)
    split at hty
    · cases hty
    · rename_i ty hpd
      intro φ H locs ls f0 g0 hn k1 k2 hP hD hS hl
      obtain ⟨n1, n2⟩ := mm_fit_ok (b := b) (φ := φ) hfit hty
      have hset : (mm_w b φ dA h).set o (φ o, .inr (ci, (fs.map (mm_v b φ)).set bb (mm_v b φ v))) = mm_w b φ dA (h.set o (.inr (ci, fs.set bb v))) := by
        rw [← mm_w_set]
        show _ = (mm_w b φ dA h).set o (φ o, .inr (ci, (fs.set bb v).map (mm_v b φ)))
        rw [List.map_set]
      have kk : ∀ (H1 : Heap) (locs1 : List Loc), va_P D cl ((mm_w b φ dA h).set o (φ o, .inr (ci, (fs.map (mm_v b φ)).set bb (mm_v b φ v)))) H1 → va_D A ((mm_w b φ dA h).set o (φ o, .inr (ci, (fs.map (mm_v b φ)).set bb (mm_v b φ v)))) → va_S A s.heap H1 locs1 → W p l e R s m args below meth c H1 locs1 kc ks Q (F0 m (pc + 3) ls (r.map (mm_v b φ))) := by
        intro H1 locs1 hP1 hD1 hS1
        rw [hset] at hP1 hD1
        exact hK _ _ _ _ _ _ hE42 φ H1 locs1 ls f0 g0 (by rw [List.length_set]; exact hn) k1 k2 hP1 hD1 hS1 hl
      have hl2 : bb < (fs.map (mm_v b φ)).length := by rw [List.length_map]; exact hlen
      split at hlk
      · rename_i hfin
        simp only [Bool.and_eq_true, decide_eq_true_eq] at hlk
        exact va_putF (C := q.1) (T := q.2.1) (N := q.2.2) hx hb hts (fun x h9 => hWT _ (u1 x h9)) _ u2 u3 hown hKK.1 hP hD hS o (mm_w_at ho) hq bb hk (hts _ (hWT _ hlk.2)) (fun _ h9 => h9) hfin (hin hlk.1.1) hlk.1.2 hpd n1 n2 hl2 hd kk
      · rename_i hfin
        have hfin : (q.2.1 bb).2.2.2 = false := by simpa using hfin
        simp only [mm_lk, Bool.or_eq_true, decide_eq_true_eq, List.any_eq_true] at hlk
        rcases hlk with hlk | ⟨q2, hq2, e1, e2, e3, e4, e5⟩
        · exact va_put (C := q.1) (T := q.2.1) (N := q.2.2) hx hb hts (fun x h9 => hWT _ (u1 x h9)) _ u2 u3 hown hKK.1 hP hD hS o (mm_w_at ho) hq bb hk (hts _ (hWT _ hlk)) (fun _ h9 => h9) hfin hpd n1 n2 hl2 hd kk
        · have hz := hKK.2.1 q2 hq2
          rw [e1, e2, e3, e4, e5] at hz
          exact va_putN (C := q.1) (T := q.2.1) (N := q.2.2) hx hb hts (fun x h9 => hWT _ (u1 x h9)) _ u2 u3 hown hKK.1 hP hD hS o (mm_w_at ho) hq bb hk (va_Nw.use rfl hz) (fun _ h9 => h9) hfin hpd n1 n2 hl2 hd kk
theorem mm_x_iaload (Z : mm_Cx p l R s m args meth c D dA cl b A mi df WS Ts nF nM nm w d xs) {K : mm_K} (hK : ∀ pc L st h kc ks, K pc L st h kc ks → mm_Go p l e R s m args below meth c Q D dA cl b A φ0 n0 (mm_n (mi w)) pc L st h kc ks) {len a bb pc kc ks : Nat} {k : Int32} {L : mm_L} {st : List Value} {h : mm_H}  (hok : mm_ok mi cl WS nF nM nm w pc (.iaload, len, a, bb, k) = true) (hE : mm_s1 st fun i r => mm_sx r (fun r => vp_in i xs.1 ∧ K (pc + len) L (.int (xs.2 i.toNatClampNeg) :: r) h kc ks) (fun o r => mm_ar h o fun ty n f => ty = .int ∧ vp_in i n ∧ K (pc + len) L (.int (f i.toNatClampNeg) :: r) h kc ks)) : mm_Go p l e R s m args below meth c Q D dA cl b A φ0 n0 (mm_n (mi w)) pc L st h kc ks := by
  obtain ⟨⟨hx, hb, hml, hown, hts⟩, hWT, hoi, hG, hmi, hcl, hKK, hA, hX, hbl, hbA, hin, hRf, hRl⟩ := Z
  simp only [mm_ok, mm_sd, Bool.and_eq_true, decide_eq_true_eq] at hok
  obtain ⟨hd, h1⟩ := hok
  subst h1
  obtain ⟨i, r, rfl, hE43⟩ := mm_s1_inv hE
  intro φ H locs ls f0 g0 hn k1 k2 hP hD hS hl
  rcases mm_sx_inv hE43 with ⟨z, r, rfl, hi, hE44⟩ | ⟨o, r, rfl, hE44⟩
  · exact va_sld (A := A) hx hb hX hbl hbA hS hi hd (hK _ _ _ _ _ _ hE44 φ H locs ls f0 g0 hn k1 k2 hP hD hS hl)
  · obtain ⟨ty, n, f, ho, rfl, hi, hE45⟩ := mm_ar_inv hE44
    exact va_iald hx hb hKK.1 hP o 0 (mm_w_at ho) mm_tyI hi hd (hK _ _ _ _ _ _ hE45 φ H locs ls f0 g0 hn k1 k2 hP hD hS hl)
theorem mm_x_baload (Z : mm_Cx p l R s m args meth c D dA cl b A mi df WS Ts nF nM nm w d xs) {K : mm_K} (hK : ∀ pc L st h kc ks, K pc L st h kc ks → mm_Go p l e R s m args below meth c Q D dA cl b A φ0 n0 (mm_n (mi w)) pc L st h kc ks) {len a bb pc kc ks : Nat} {k : Int32} {L : mm_L} {st : List Value} {h : mm_H}  (hok : mm_ok mi cl WS nF nM nm w pc (.baload, len, a, bb, k) = true) (hE : mm_s1 st fun i r => mm_sr r fun o r => mm_ar h o fun ty n f => ty = .boolean ∧ vp_in i n ∧ K (pc + len) L (.int (f i.toNatClampNeg) :: r) h kc ks) : mm_Go p l e R s m args below meth c Q D dA cl b A φ0 n0 (mm_n (mi w)) pc L st h kc ks := by
  obtain ⟨⟨hx, hb, hml, hown, hts⟩, hWT, hoi, hG, hmi, hcl, hKK, hA, hX, hbl, hbA, hin, hRf, hRl⟩ := Z
  simp only [mm_ok, mm_sd, Bool.and_eq_true, decide_eq_true_eq] at hok
  obtain ⟨hd, h1⟩ := hok
  subst h1
  obtain ⟨i, r, rfl, hE46⟩ := mm_s1_inv hE
  obtain ⟨o, r, rfl, hE47⟩ := mm_sr_inv hE46
  obtain ⟨ty, n, f, ho, rfl, hi, hE48⟩ := mm_ar_inv hE47
  intro φ H locs ls f0 g0 hn k1 k2 hP hD hS hl
  exact va_zald hx hb hKK.1 hP o 1 (mm_w_at ho) mm_tyZ hi hd (hK _ _ _ _ _ _ hE48 φ H locs ls f0 g0 hn k1 k2 hP hD hS hl)
theorem mm_x_caload (Z : mm_Cx p l R s m args meth c D dA cl b A mi df WS Ts nF nM nm w d xs) {K : mm_K} (hK : ∀ pc L st h kc ks, K pc L st h kc ks → mm_Go p l e R s m args below meth c Q D dA cl b A φ0 n0 (mm_n (mi w)) pc L st h kc ks) {len a bb pc kc ks : Nat} {k : Int32} {L : mm_L} {st : List Value} {h : mm_H}  (hok : mm_ok mi cl WS nF nM nm w pc (.caload, len, a, bb, k) = true) (hE : mm_s1 st fun i r => mm_sr r fun o r => mm_ar h o fun ty n f => ty = .char ∧ vp_in i n ∧ K (pc + len) L (.int (f i.toNatClampNeg) :: r) h kc ks) : mm_Go p l e R s m args below meth c Q D dA cl b A φ0 n0 (mm_n (mi w)) pc L st h kc ks := by
  obtain ⟨⟨hx, hb, hml, hown, hts⟩, hWT, hoi, hG, hmi, hcl, hKK, hA, hX, hbl, hbA, hin, hRf, hRl⟩ := Z
  simp only [mm_ok, mm_sd, Bool.and_eq_true, decide_eq_true_eq] at hok
  obtain ⟨hd, h1⟩ := hok
  subst h1
  obtain ⟨i, r, rfl, hE49⟩ := mm_s1_inv hE
  obtain ⟨o, r, rfl, hE50⟩ := mm_sr_inv hE49
  obtain ⟨ty, n, f, ho, rfl, hi, hE51⟩ := mm_ar_inv hE50
  intro φ H locs ls f0 g0 hn k1 k2 hP hD hS hl
  exact va_cald hx hb hKK.1 hP o 2 (mm_w_at ho) mm_tyC hi hd (hK _ _ _ _ _ _ hE51 φ H locs ls f0 g0 hn k1 k2 hP hD hS hl)
theorem mm_x_iastore (Z : mm_Cx p l R s m args meth c D dA cl b A mi df WS Ts nF nM nm w d xs) {K : mm_K} (hK : ∀ pc L st h kc ks, K pc L st h kc ks → mm_Go p l e R s m args below meth c Q D dA cl b A φ0 n0 (mm_n (mi w)) pc L st h kc ks) {len a bb pc kc ks : Nat} {k : Int32} {L : mm_L} {st : List Value} {h : mm_H}  (hok : mm_ok mi cl WS nF nM nm w pc (.iastore, len, a, bb, k) = true) (hE : mm_s2 st fun x i r => mm_sr r fun o r => mm_ar h o fun ty n f => ty = .int ∧ vp_in i n ∧ K (pc + len) L r (h.set o (.inl (.int, n, upd f i.toNatClampNeg x))) kc ks) : mm_Go p l e R s m args below meth c Q D dA cl b A φ0 n0 (mm_n (mi w)) pc L st h kc ks := by
  obtain ⟨⟨hx, hb, hml, hown, hts⟩, hWT, hoi, hG, hmi, hcl, hKK, hA, hX, hbl, hbA, hin, hRf, hRl⟩ := Z
  simp only [mm_ok, mm_sd, Bool.and_eq_true, decide_eq_true_eq] at hok
  obtain ⟨hd, h1⟩ := hok
  subst h1
  obtain ⟨x, i, r, rfl, hE52⟩ := mm_s2_inv hE
  obtain ⟨o, r, rfl, hE53⟩ := mm_sr_inv hE52
  obtain ⟨ty, n, f, ho, rfl, hi, hE54⟩ := mm_ar_inv hE53
  intro φ H locs ls f0 g0 hn k1 k2 hP hD hS hl
  have hset := mm_w_set (b := b) (φ := φ) (dA := dA) (h := h) (o := o) (c := .inl (.int, n, upd f i.toNatClampNeg x))
  exact va_iast hx hb hKK.1 hP hD hS o 0 (mm_w_at ho) mm_tyI hi hd (fun H1 locs1 hP1 hD1 hS1 => hK _ _ _ _ _ _ hE54 φ H1 locs1 ls f0 g0 (by rw [List.length_set]; exact hn) k1 k2 (by rw [← hset]; exact hP1) (by rw [← hset]; exact hD1) hS1 hl)
theorem mm_x_bastore (Z : mm_Cx p l R s m args meth c D dA cl b A mi df WS Ts nF nM nm w d xs) {K : mm_K} (hK : ∀ pc L st h kc ks, K pc L st h kc ks → mm_Go p l e R s m args below meth c Q D dA cl b A φ0 n0 (mm_n (mi w)) pc L st h kc ks) {len a bb pc kc ks : Nat} {k : Int32} {L : mm_L} {st : List Value} {h : mm_H}  (hok : mm_ok mi cl WS nF nM nm w pc (.bastore, len, a, bb, k) = true) (hE : mm_s2 st fun x i r => mm_sr r fun o r => mm_ar h o fun ty n f => ty = .boolean ∧ vp_in i n ∧ K (pc + len) L r (h.set o (.inl (.boolean, n, upd f i.toNatClampNeg (vp_nar .boolean x)))) kc ks) : mm_Go p l e R s m args below meth c Q D dA cl b A φ0 n0 (mm_n (mi w)) pc L st h kc ks := by
  obtain ⟨⟨hx, hb, hml, hown, hts⟩, hWT, hoi, hG, hmi, hcl, hKK, hA, hX, hbl, hbA, hin, hRf, hRl⟩ := Z
  simp only [mm_ok, mm_sd, Bool.and_eq_true, decide_eq_true_eq] at hok
  obtain ⟨hd, h1⟩ := hok
  subst h1
  obtain ⟨x, i, r, rfl, hE55⟩ := mm_s2_inv hE
  obtain ⟨o, r, rfl, hE56⟩ := mm_sr_inv hE55
  obtain ⟨ty, n, f, ho, rfl, hi, hE57⟩ := mm_ar_inv hE56
  intro φ H locs ls f0 g0 hn k1 k2 hP hD hS hl
  have hset := mm_w_set (b := b) (φ := φ) (dA := dA) (h := h) (o := o) (c := .inl (.boolean, n, upd f i.toNatClampNeg (vp_nar .boolean x)))
  exact va_zast hx hb hKK.1 hP hD hS o 1 (mm_w_at ho) mm_tyZ hi hd (fun H1 locs1 hP1 hD1 hS1 => hK _ _ _ _ _ _ hE57 φ H1 locs1 ls f0 g0 (by rw [List.length_set]; exact hn) k1 k2 (by rw [← hset]; exact hP1) (by rw [← hset]; exact hD1) hS1 hl)
theorem mm_x_castore (Z : mm_Cx p l R s m args meth c D dA cl b A mi df WS Ts nF nM nm w d xs) {K : mm_K} (hK : ∀ pc L st h kc ks, K pc L st h kc ks → mm_Go p l e R s m args below meth c Q D dA cl b A φ0 n0 (mm_n (mi w)) pc L st h kc ks) {len a bb pc kc ks : Nat} {k : Int32} {L : mm_L} {st : List Value} {h : mm_H}  (hok : mm_ok mi cl WS nF nM nm w pc (.castore, len, a, bb, k) = true) (hE : mm_s2 st fun x i r => mm_sr r fun o r => mm_ar h o fun ty n f => ty = .char ∧ vp_in i n ∧ K (pc + len) L r (h.set o (.inl (.char, n, upd f i.toNatClampNeg (vp_nar .char x)))) kc ks) : mm_Go p l e R s m args below meth c Q D dA cl b A φ0 n0 (mm_n (mi w)) pc L st h kc ks := by
  obtain ⟨⟨hx, hb, hml, hown, hts⟩, hWT, hoi, hG, hmi, hcl, hKK, hA, hX, hbl, hbA, hin, hRf, hRl⟩ := Z
  simp only [mm_ok, mm_sd, Bool.and_eq_true, decide_eq_true_eq] at hok
  obtain ⟨hd, h1⟩ := hok
  subst h1
  obtain ⟨x, i, r, rfl, hE58⟩ := mm_s2_inv hE
  obtain ⟨o, r, rfl, hE59⟩ := mm_sr_inv hE58
  obtain ⟨ty, n, f, ho, rfl, hi, hE60⟩ := mm_ar_inv hE59
  intro φ H locs ls f0 g0 hn k1 k2 hP hD hS hl
  have hset := mm_w_set (b := b) (φ := φ) (dA := dA) (h := h) (o := o) (c := .inl (.char, n, upd f i.toNatClampNeg (vp_nar .char x)))
  exact va_cast hx hb hKK.1 hP hD hS o 2 (mm_w_at ho) mm_tyC hi hd (fun H1 locs1 hP1 hD1 hS1 => hK _ _ _ _ _ _ hE60 φ H1 locs1 ls f0 g0 (by rw [List.length_set]; exact hn) k1 k2 (by rw [← hset]; exact hP1) (by rw [← hset]; exact hD1) hS1 hl)
theorem mm_x_arraylength (Z : mm_Cx p l R s m args meth c D dA cl b A mi df WS Ts nF nM nm w d xs) {K : mm_K} (hK : ∀ pc L st h kc ks, K pc L st h kc ks → mm_Go p l e R s m args below meth c Q D dA cl b A φ0 n0 (mm_n (mi w)) pc L st h kc ks) {len a bb pc kc ks : Nat} {k : Int32} {L : mm_L} {st : List Value} {h : mm_H}  (hok : mm_ok mi cl WS nF nM nm w pc (.arraylength, len, a, bb, k) = true) (hE : mm_sx st (fun r => K (pc + len) L (.int (Int32.ofNat xs.1) :: r) h kc ks) (fun o r => mm_ar h o fun ty n _ => (ty = .int ∨ ty = .boolean ∨ ty = .char) ∧ K (pc + len) L (.int (Int32.ofNat n) :: r) h kc ks)) : mm_Go p l e R s m args below meth c Q D dA cl b A φ0 n0 (mm_n (mi w)) pc L st h kc ks := by
  obtain ⟨⟨hx, hb, hml, hown, hts⟩, hWT, hoi, hG, hmi, hcl, hKK, hA, hX, hbl, hbA, hin, hRf, hRl⟩ := Z
  simp only [mm_ok, mm_sd, Bool.and_eq_true, decide_eq_true_eq] at hok
  obtain ⟨hd, h1⟩ := hok
  subst h1
  intro φ H locs ls f0 g0 hn k1 k2 hP hD hS hl
  rcases mm_sx_inv hE with ⟨z, r, rfl, hE61⟩ | ⟨o, r, rfl, hE61⟩
  · exact va_slen (A := A) hx hb hX hbl hbA hS hd (hK _ _ _ _ _ _ hE61 φ H locs ls f0 g0 hn k1 k2 hP hD hS hl)
  · obtain ⟨ty, n, f, ho, hty, hE62⟩ := mm_ar_inv hE61
    rcases hty with rfl | rfl | rfl
    · exact va_alen (x := (n, .inl f)) hx hb hKK.1 hP o 0 (mm_w_at ho) mm_tyI rfl hd (hK _ _ _ _ _ _ hE62 φ H locs ls f0 g0 hn k1 k2 hP hD hS hl)
    · exact va_alen (x := (n, .inl f)) hx hb hKK.1 hP o 1 (mm_w_at ho) mm_tyZ rfl hd (hK _ _ _ _ _ _ hE62 φ H locs ls f0 g0 hn k1 k2 hP hD hS hl)
    · exact va_alen (x := (n, .inl f)) hx hb hKK.1 hP o 2 (mm_w_at ho) mm_tyC rfl hd (hK _ _ _ _ _ _ hE62 φ H locs ls f0 g0 hn k1 k2 hP hD hS hl)
theorem mm_x_new (Z : mm_Cx p l R s m args meth c D dA cl b A mi df WS Ts nF nM nm w d xs) {K : mm_K} (hK : ∀ pc L st h kc ks, K pc L st h kc ks → mm_Go p l e R s m args below meth c Q D dA cl b A φ0 n0 (mm_n (mi w)) pc L st h kc ks) {len a bb pc kc ks : Nat} {k : Int32} {L : mm_L} {st : List Value} {h : mm_H} {i : Nat} (hok : mm_ok mi cl WS nF nM nm w pc (.new i, len, a, bb, k) = true) (hE : kc + 1 ≤ R.cells ∧ ks + bb ≤ R.slots ∧ (L.all (mm_wfo h.length) && st.all (mm_wfv h.length) && h.all (mm_wfc h.length)) = true ∧ K (pc + len) L (.ref h.length :: st) (h ++ [.inr (a, df a)]) (kc + 1) (ks + bb)) : mm_Go p l e R s m args below meth c Q D dA cl b A φ0 n0 (mm_n (mi w)) pc L st h kc ks := by
  obtain ⟨⟨hx, hb, hml, hown, hts⟩, hWT, hoi, hG, hmi, hcl, hKK, hA, hX, hbl, hbA, hin, hRf, hRl⟩ := Z
  simp only [mm_ok, mm_sd, Bool.and_eq_true, decide_eq_true_eq] at hok
  obtain ⟨hd, h1, hq⟩ := hok
  subst h1
  obtain ⟨c1, c2, hwf, hE63⟩ := hE
  simp only [Bool.and_eq_true] at hwf
  obtain ⟨⟨w1, w2⟩, w3⟩ := hwf
  split at hq
  · cases hq
  · rename_i q hq1
    simp only [Bool.and_eq_true, decide_eq_true_eq] at hq
    obtain ⟨⟨⟨e1, e2⟩, e3⟩, e4⟩ := hq
    subst e1
    obtain ⟨u1, u2, u3, u4, u5⟩ := mm_okc_spec (hcl _ _ hq1)
    intro φ H locs ls f0 g0 hn k1 k2 hP hD hS hl
    refine va_new (ci := a) (fs := df a) (C := q.1) (T := q.2.1) (N := q.2.2) hx hb hts (fun x h9 => hWT _ (u1 x h9)) (fun k => (parseFieldDescriptor (q.2.1 k).2.2.1).getD .int) u2 hown (hts _ (hWT _ e2)) (hts _ (hWT _ e3)) (hts _ (hWT _ e4)) hKK.1 hP hD hS hA hq1 u4 c1 c2 hd (fun z H1 hP1 hD1 hS1 => ?_)
    have hc : ∀ φ', mm_c b φ' dA (.inr (a, df a)) = .inr (a, df a) := by
      intro φ'
      have hm : (df a).map (mm_v b φ') = df a := by
        conv => rhs; rw [← List.map_id (df a)]
        exact List.map_congr_left (fun v hv => by rcases u5 v hv with rfl | rfl <;> rfl)
      show Sum.inr (a, (df a).map (mm_v b φ')) = _
      rw [hm]
    have hw := mm_w_app (b := b) (q := z) (φ := φ) (dA := dA) (h := h) (c := .inr (a, df a)) (e := .inr (a, df a)) w3 hc
    have hext : ∀ k, k < h.length → (fun k => if k = h.length then z else φ k) k = φ k := fun k hk => if_neg (Nat.ne_of_lt hk)
    have hst : Value.ref z :: st.map (mm_v b φ) = (Value.ref h.length :: st).map (mm_v b (fun k => if k = h.length then z else φ k)) := by
      rw [List.map_cons, mm_vs_ext w2 hext]
      show _ = Value.ref (if h.length = h.length then z else φ h.length) :: _
      rw [if_pos rfl]
    rw [hst]
    exact hK _ _ _ _ _ _ hE63 (fun k => if k = h.length then z else φ k) H1 locs ls (fun k hk => (hext k (Nat.lt_of_lt_of_le hk hn)).trans (f0 k hk)) (fun hz => absurd hz (Nat.succ_ne_zero _)) (by rw [List.length_append]; exact Nat.le_trans hn (Nat.le_add_right _ _)) c1 c2 (by rw [hw]; exact hP1) (by rw [hw]; exact hD1) hS1 (mm_lsub hl (mm_l_ext w1 hext))
theorem mm_newa {nn : Int32} {pc kc ks : Nat} {L : mm_L} {r : List Value} {h : mm_H} {at_ : ArrayType} {ty : FieldType} (Z : mm_Cx p l R s m args meth c D dA cl b A mi df WS Ts nF nM nm w d xs) {K : mm_K} (hK : ∀ pc L st h kc ks, K pc L st h kc ks → mm_Go p l e R s m args below meth c Q D dA cl b A φ0 n0 (mm_n (mi w)) pc L st h kc ks) (hd : decode (mm_b (mi w)) pc = .ok (.newarray at_, 2)) (hty : newarray.typeOf at_ = ty) (harr : Cond.arrayClass (newarray.typeOf at_) ∈ WS) (hpr : va_RA s (dA ty) ty) (huq : ∀ cA, va_RA s cA ty → cA = dA ty) (hdv : defaultValue ty = .int 0) (hcb : componentBytes ty ≤ 4)
    (hE : ¬ nn < 0 ∧ nn.toNatClampNeg ≤ 1000000 ∧ kc + 1 ≤ R.cells ∧ ks + nn.toNatClampNeg ≤ R.slots ∧ (L.all (mm_wfo h.length) && r.all (mm_wfv h.length) && h.all (mm_wfc h.length)) = true ∧ K (pc + 2) L (.ref h.length :: r) (h ++ [.inl (ty, nn.toNatClampNeg, fun _ => 0)]) (kc + 1) (ks + nn.toNatClampNeg)) : mm_Go p l e R s m args below meth c Q D dA cl b A φ0 n0 (mm_n (mi w)) pc L (.int nn :: r) h kc ks := by
  obtain ⟨⟨hx, hb, hml, hown, hts⟩, hWT, hoi, hG, hmi, hcl, hKK, hA, hX, hbl, hbA, hin, hRf, hRl⟩ := Z
  obtain ⟨c0, c1, c2, c3, hwf, hE64⟩ := hE
  simp only [Bool.and_eq_true] at hwf
  obtain ⟨⟨w1, w2⟩, w3⟩ := hwf
  intro φ H locs ls f0 g0 hn k1 k2 hP hD hS hl
  refine va_newa (a0 := (nn.toNatClampNeg, .inl (fun _ => 0))) hx hb (hts _ (hWT _ harr)) hty hKK.1 hP hD hS hA (fun cA => by rw [vp_cell_i, hdv]) c0 rfl (Nat.le_trans (Nat.mul_le_mul c1 hcb) (by decide)) c2 c3 hd (fun z cA H1 hK1 hP1 hD1 hS1 => ?_)
  have hcA : cA = dA ty := huq cA (hK1.2 3 (cA, ty) rfl).2
  subst hcA
  have hw := mm_w_app (b := b) (q := z) (φ := φ) (dA := dA) (h := h) (c := .inl (ty, nn.toNatClampNeg, fun _ => 0)) (e := .inl (dA ty, nn.toNatClampNeg, .inl (fun _ => 0))) w3 (fun _ => rfl)
  have hext : ∀ k, k < h.length → (fun k => if k = h.length then z else φ k) k = φ k := fun k hk => if_neg (Nat.ne_of_lt hk)
  have hst : Value.ref z :: r.map (mm_v b φ) = (Value.ref h.length :: r).map (mm_v b (fun k => if k = h.length then z else φ k)) := by
    rw [List.map_cons, mm_vs_ext w2 hext]
    show _ = Value.ref (if h.length = h.length then z else φ h.length) :: _
    rw [if_pos rfl]
  show W p l e R s m args below meth c H1 locs (kc + 1) (ks + nn.toNatClampNeg) Q (F0 m (pc + 2) ls (Value.ref z :: r.map (mm_v b φ)))
  rw [hst]
  exact hK _ _ _ _ _ _ hE64 (fun k => if k = h.length then z else φ k) H1 locs ls (fun k hk => (hext k (Nat.lt_of_lt_of_le hk hn)).trans (f0 k hk)) (fun hz => absurd hz (Nat.succ_ne_zero _)) (by rw [List.length_append]; exact Nat.le_trans hn (Nat.le_add_right _ _)) c2 c3 (by rw [hw]; exact hP1) (by rw [hw]; exact hD1) hS1 (mm_lsub hl (mm_l_ext w1 hext))
theorem mm_x_newarray (Z : mm_Cx p l R s m args meth c D dA cl b A mi df WS Ts nF nM nm w d xs) {K : mm_K} (hK : ∀ pc L st h kc ks, K pc L st h kc ks → mm_Go p l e R s m args below meth c Q D dA cl b A φ0 n0 (mm_n (mi w)) pc L st h kc ks) {len a bb pc kc ks : Nat} {k : Int32} {L : mm_L} {st : List Value} {h : mm_H} {at_ : ArrayType} (hok : mm_ok mi cl WS nF nM nm w pc (.newarray at_, len, a, bb, k) = true) (hE : mm_s1 st fun n r => ¬ n < 0 ∧ n.toNatClampNeg ≤ 1000000 ∧ kc + 1 ≤ R.cells ∧ ks + n.toNatClampNeg ≤ R.slots ∧ (L.all (mm_wfo h.length) && r.all (mm_wfv h.length) && h.all (mm_wfc h.length)) = true ∧ K (pc + len) L (.ref h.length :: r) (h ++ [.inl (newarray.typeOf at_, n.toNatClampNeg, fun _ => 0)]) (kc + 1) (ks + n.toNatClampNeg)) : mm_Go p l e R s m args below meth c Q D dA cl b A φ0 n0 (mm_n (mi w)) pc L st h kc ks := by
  obtain ⟨⟨hx, hb, hml, hown, hts⟩, hWT, hoi, hG, hmi, hcl, hKK, hA, hX, hbl, hbA, hin, hRf, hRl⟩ := Z
  simp only [mm_ok, mm_sd, Bool.and_eq_true, decide_eq_true_eq] at hok
  obtain ⟨hd, ⟨h1, h2⟩, h3⟩ := hok
  subst h1
  obtain ⟨nn, r, rfl, hE65⟩ := mm_s1_inv hE
  have Z : mm_Cx p l R s m args meth c D dA cl b A mi df WS Ts nF nM nm w d xs := ⟨⟨hx, hb, hml, hown, hts⟩, hWT, hoi, hG, hmi, hcl, hKK, hA, hX, hbl, hbA, hin, hRf, hRl⟩
  simp only [Bool.or_eq_true, decide_eq_true_eq] at h2
  rcases h2 with (h2 | h2) | h2
  · rw [h2] at hE65
    exact mm_newa Z hK hd h2 h3 (hKK.1.2 0 _ mm_tyI).2 (fun cA hc => Option.some.inj ((show s.vm.findClass _ = some cA from hc).symm.trans (show s.vm.findClass _ = some (dA .int) from (hKK.1.2 0 _ mm_tyI).2))) rfl (by decide) hE65
  · rw [h2] at hE65
    exact mm_newa Z hK hd h2 h3 (hKK.1.2 1 _ mm_tyZ).2 (fun cA hc => Option.some.inj ((show s.vm.findClass _ = some cA from hc).symm.trans (show s.vm.findClass _ = some (dA .boolean) from (hKK.1.2 1 _ mm_tyZ).2))) rfl (by decide) hE65
  · rw [h2] at hE65
    exact mm_newa Z hK hd h2 h3 (hKK.1.2 2 _ mm_tyC).2 (fun cA hc => Option.some.inj ((show s.vm.findClass _ = some cA from hc).symm.trans (show s.vm.findClass _ = some (dA .char) from (hKK.1.2 2 _ mm_tyC).2))) rfl (by decide) hE65
end MX
