/-! what doing a text's statements does, step by step, as a function of the state -/
def cl (x : Int32) : Nat := x.toNatClampNeg
theorem cl_nI {n : Nat} (h : n < 2 ^ 31) : cl (nI n) = n := nI_clamp h
noncomputable def ifS (P : Prop) (A B : Sv) : Sv := @ite Sv P (Classical.propDecidable P) A B
theorem ifS_t {P : Prop} {A B : Sv} (h : P) : ifS P A B = A := if_pos h
theorem ifS_f {P : Prop} {A B : Sv} (h : ¬ P) : ifS P A B = B := if_neg h
def vF (V : Sv) (x : Int32) : Sv := us (us V 52 (cl (V 31 34)) x) 31 34 (V 31 34 + 1)
def vtop (V : Sv) : Int32 := V 48 (cl (V 31 20) - 1)
noncomputable def vN (V : Sv) : Sv := ifS (vtop V = -1 ∨ ¬ V 51 (cl (V 31 26)) = -1) (vF V (V 31 31)) (us V 51 (cl (V 31 26)) (vtop V))
def vv (V : Sv) : Int32 := if V 31 27 = 0 then V 31 26 else -(V 31 26)
noncomputable def vA (V : Sv) : Sv := ifS (∃ j a b, okN (V 33) (V 36) (V 37) (cl (V 31 6)) (V 38) (vtop V) (V 31 28 - 120) (vv V) j a b) (us V 39 (3 * cl (vtop V) + cl (V 31 28 - 120)) (vv V)) (vF V (V 31 29))
noncomputable def vL (V : Sv) (t : Int32) (g : Prop) : Sv := ifS (g ∧ ∃ j a b, hO (V 34) (cl (V 31 6)) 2 (V 38) (vtop V) (V 31 28 - 112) j a b) (us V 40 (2 * cl (vtop V) + cl (V 31 28 - 112)) t) (vF V (V 31 29))
noncomputable def stl (V : Sv) : Sv := if V 31 24 = 4 then vN V else if V 31 24 = 9 then vA V else if V 31 24 = 12 then vL V (V 51 (cl (V 31 26))) (¬ V 51 (cl (V 31 26)) = -1) else V
def vB (V : Sv) : Sv := us (us V 49 (cl (V 31 20)) (V 31 28)) 50 (cl (V 31 20)) (V 31 29)
noncomputable def vM (V : Sv) (c : Int32) : Sv := us (ifS (isK (V 32) (c - 97) ∧ cl (V 31 6) < 24) (us (adR (vB V) (cl (V 31 6)) (cl (c - 97))) 48 (cl (V 31 20)) (V 31 6)) (vF (us (vB V) 48 (cl (V 31 20)) (-1)) (V 31 30))) 31 20 (V 31 20 + 1)
def vK (V : Sv) : Sv := us (us (us V 31 20 (V 31 20 - 1)) 31 28 (V 49 (cl (V 31 20) - 1))) 31 29 (V 50 (cl (V 31 20) - 1))
noncomputable def vC (V : Sv) : Sv := if cl (V 31 20) - 1 = 0 then us (us V 31 20 (V 31 20 - 1)) 31 32 (vtop V) else vL (vK V) (vtop V) (¬ vtop V = -1)
noncomputable def hdn (q' : Nat) (c p : Int32) (V : Sv) : Sv := if q' = 1 then us V 31 30 p else if q' = 2 then vM V c else if q' = 3 then us V 31 31 p else if q' = 5 ∨ q' = 6 then us (us V 31 28 c) 31 29 p else if q' = 13 ∧ c = 126 then vL V (-1) True else if c = 41 then vC V else V
noncomputable def stp (q' : Nat) (c p : Int32) (V : Sv) : Sv := us (tl q' c (hdn q' c p (if q' = 5 ∨ q' = 6 ∨ c = 41 then stl V else V))) 31 24 (nI q')
/-! the rows stay in order -/
theorem VI_num {df nm lk fi le gr : Nat → Int32} {z : Nat} {kr nr lr : Nat → Int32} {o i v : Int32} {j a b : Nat} (hV : VI df nm lk fi le gr z kr nr lr) (ho : okN nm le gr z kr o i v j a b) : VI df nm lk fi le gr z kr (upd nr (3 * j + b) v) lr := by
  obtain ⟨hj, ha, hb, rfl, rfl, hk, hlt, q1, q2⟩ := ho
  have hzb := VI.zb hV
  obtain ⟨v1, v2, v3, v4, v5, v6, v7, v8, v9, v10⟩ := hV
  have hda : df a = 1 := by
    rcases v1 a ha with h | h
    · rw [(v4 a ha h).1] at hlt
      exact absurd hlt (nI_pos (by omega))
    · exact h
  refine ⟨v1, v2, v3, v4, v5, v6, v7, v8, ?_, v10⟩
  intro o' i' ho' hi'
  by_cases e : 3 * o' + i' = 3 * j + b
  · have e1 : o' = j := by omega
    have e2 : i' = b := by omega
    subst e1
    subst e2
    rw [upd_s]
    obtain ⟨w1, w2, w3, w4⟩ := v5 a i' ha hi' hda
    refine ⟨i32_le_trans w1 (Int32.not_lt.mp q1), i32_le_trans (Int32.not_lt.mp q2) w4, fun k hk2 ek hle => ?_⟩
    rw [nI_inj (by omega) (by omega) (ek.symm.trans hk)] at hle
    exact absurd hle (Int32.not_le.mpr hlt)
  · rw [upd_n e]
    exact v9 o' i' ho' hi'
theorem VI_lnk {df nm lk fi le gr : Nat → Int32} {z : Nat} {kr nr lr : Nat → Int32} {o i v : Int32} {j a b : Nat} (hV : VI df nm lk fi le gr z kr nr lr) (ho : hO lk z 2 kr o i j a b) (q1 : v = -1 ∨ isO z v) : VI df nm lk fi le gr z kr nr (upd lr (2 * j + b) v) := by
  obtain ⟨hj, ha, hb, rfl, rfl, hk, hlt⟩ := ho
  have hzb := VI.zb hV
  obtain ⟨v1, v2, v3, v4, v5, v6, v7, v8, v9, v10⟩ := hV
  refine ⟨v1, v2, v3, v4, v5, v6, v7, v8, v9, ?_⟩
  intro o' i' ho' hi'
  by_cases e : 2 * o' + i' = 2 * j + b
  · have e1 : o' = j := by omega
    have e2 : i' = b := by omega
    subst e1
    subst e2
    rw [upd_s]
    refine ⟨q1, fun k hk2 ek hle => ?_⟩
    rw [nI_inj (by omega) (by omega) (ek.symm.trans hk)] at hle
    exact absurd hle (Int32.not_le.mpr hlt)
  · rw [upd_n e]
    exact v10 o' i' ho' hi'
/-- data in order -/
def DW (V : Sv) (z f dep : Nat) : Prop := VR V z ∧ V 31 6 = nI z ∧ V 31 34 = nI f ∧ V 31 20 = nI dep ∧ (∀ i, i < dep → V 48 i = -1 ∨ isO z (V 48 i)) ∧ (∀ i, i < 100 → V 51 i = -1 ∨ isO z (V 51 i))
abbrev KV (V V' : Sv) : Prop := (∀ k, k ≠ 34 → V' 31 k = V 31 k) ∧ (∀ a, a ≠ 31 → a ≠ 39 → a ≠ 40 → a ≠ 51 → a ≠ 52 → V' a = V a)
theorem KV.tr {V V' V'' : Sv} (h : KV V V') (h' : KV V' V'') : KV V V'' := ⟨fun k hk => (h'.1 k hk).trans (h.1 k hk), fun a n1 n2 n3 n4 n5 => (h'.2 a n1 n2 n3 n4 n5).trans (h.2 a n1 n2 n3 n4 n5)⟩
section VI
variable {V : Sv} {z f dep : Nat}
theorem D_F {x : Int32} (h : DW V z f dep) : DW (vF V x) z (f + 1) dep ∧ KV V (vF V x) := by
  obtain ⟨h1, h2, h3, h4, h5, h6⟩ := h
  refine ⟨⟨h1, h2, ?_, h4, h5, h6⟩, fun k hk => ?_, fun a n1 n2 n3 n4 n5 => ?_⟩
  · show V 31 34 + 1 = _
    rw [h3, nI_1]
  · show upd (V 31) 34 _ k = _
    rw [upd_n hk]
  · unfold vF
    rw [us_ne n1, us_ne n5]
/-- a step that fails once at most -/
def DO (V V' : Sv) (z f dep : Nat) : Prop := ∃ f', f ≤ f' ∧ f' ≤ f + 1 ∧ DW V' z f' dep ∧ KV V V'
theorem DO_F {x : Int32} (h : DW V z f dep) : DO V (vF V x) z f dep := ⟨f + 1, by omega, by omega, (D_F h).1, (D_F h).2⟩
theorem vtop_in (h : DW V z f dep) (h1 : 1 ≤ dep) (hd : dep ≤ 10) : vtop V = V 48 (dep - 1) ∧ (vtop V = -1 ∨ isO z (vtop V)) := by
  obtain ⟨-, -, -, h4, h5, -⟩ := h
  have e : vtop V = V 48 (dep - 1) := by
    unfold vtop
    rw [h4, cl_nI (by omega)]
  exact ⟨e, by rw [e]; exact h5 (dep - 1) (by omega)⟩
theorem D_N (h : DW V z f dep) (h1 : 1 ≤ dep) (hd : dep ≤ 10) (hz : z ≤ 24) : DO V (vN V) z f dep := by
  unfold vN
  by_cases g : vtop V = -1 ∨ ¬ V 51 (cl (V 31 26)) = -1
  · rw [ifS_t g]
    exact DO_F h
  · rw [ifS_f g]
    have ht := (vtop_in h h1 hd).2
    obtain ⟨h1, h2, h3, h4, h5, h6⟩ := h
    refine ⟨f, by omega, by omega, ⟨h1, h2, h3, h4, h5, fun i hi => ?_⟩, fun k hk => rfl, fun a n1 n2 n3 n4 n5 => us_ne n4⟩
    show upd (V 51) (cl (V 31 26)) (vtop V) i = -1 ∨ isO z (upd (V 51) (cl (V 31 26)) (vtop V) i)
    by_cases e : i = cl (V 31 26)
    · rw [e, upd_s]; exact ht
    · rw [upd_n e]; exact h6 i hi
theorem D_A (h : DW V z f dep) : DO V (vA V) z f dep := by
  have hz := VI.zb h.1
  unfold vA
  by_cases g : ∃ j a b, okN (V 33) (V 36) (V 37) (cl (V 31 6)) (V 38) (vtop V) (V 31 28 - 120) (vv V) j a b
  · rw [ifS_t g]
    obtain ⟨j, a, b, ho⟩ := g
    obtain ⟨h1, h2, h3, h4, h5, h6⟩ := h
    rw [h2, cl_nI (by omega)] at ho
    have e1 : cl (vtop V) = j := by rw [ho.2.2.2.1]; exact cl_nI (by have := ho.1; omega)
    have e2 : cl (V 31 28 - 120) = b := by rw [ho.2.2.2.2.1]; exact cl_nI (by have := ho.2.2.1; omega)
    rw [e1, e2]
    exact ⟨f, by omega, by omega, ⟨VI_num h1 ho, h2, h3, h4, h5, h6⟩, fun k hk => rfl, fun a n1 n2 n3 n4 n5 => us_ne n2⟩
  · rw [ifS_f g]
    exact DO_F h
theorem D_L {t : Int32} {g : Prop} (h : DW V z f dep) (ht : g → t = -1 ∨ isO z t) : DO V (vL V t g) z f dep := by
  have hz := VI.zb h.1
  unfold vL
  by_cases q : g ∧ ∃ j a b, hO (V 34) (cl (V 31 6)) 2 (V 38) (vtop V) (V 31 28 - 112) j a b
  · rw [ifS_t q]
    obtain ⟨hg, j, a, b, ho⟩ := q
    obtain ⟨h1, h2, h3, h4, h5, h6⟩ := h
    rw [h2, cl_nI (by omega)] at ho
    have e1 : cl (vtop V) = j := by rw [ho.2.2.2.1]; exact cl_nI (by have := ho.1; omega)
    have e2 : cl (V 31 28 - 112) = b := by rw [ho.2.2.2.2.1]; exact cl_nI (by have := ho.2.2.1; omega)
    rw [e1, e2]
    exact ⟨f, by omega, by omega, ⟨VI_lnk h1 ho (ht hg), h2, h3, h4, h5, h6⟩, fun k hk => rfl, fun a n1 n2 n3 n4 n5 => us_ne n3⟩
  · rw [ifS_f q]
    exact DO_F h
end VI
def pot (q dep : Nat) : Nat := (if q = 1 then dep + 1 else dep - 1) + (if 3 ≤ q ∧ q ≤ 12 then 1 else 0)
/-- all that is known between two characters -/
def WT (V : Sv) (z q fg dep f am p : Nat) : Prop := DW V z f dep ∧ CI q fg dep ∧ V 31 24 = nI q ∧ V 31 25 = nI fg ∧ V 31 26 = nI am ∧ (q = 3 ∨ q = 7 ∨ q = 8 ∨ q = 11 → am = 0) ∧ (q = 4 ∨ q = 9 ∨ q = 12 → am < 10 ^ fg) ∧ f + pot q dep + 1 ≤ p ∧ p ≤ 301
theorem am_lt {q fg am : Nat} (hC : (q = 4 ∨ q = 12 → 1 ≤ fg ∧ fg ≤ 2) ∧ (q = 9 → 1 ≤ fg ∧ fg ≤ 5)) (ha : q = 4 ∨ q = 9 ∨ q = 12 → am < 10 ^ fg) : (q = 4 ∨ q = 12 → am < 100) ∧ (q = 9 → am < 100000) := by
  constructor
  · intro h
    have h1 := ha (by omega)
    have h2 := (hC.1 h).2
    have h3 : 10 ^ fg ≤ 10 ^ 2 := Nat.pow_le_pow_right (by omega) h2
    omega
  · intro h
    have h1 := ha (by omega)
    have h2 := (hC.2 h).2
    have h3 : 10 ^ fg ≤ 10 ^ 5 := Nat.pow_le_pow_right (by omega) h2
    omega
theorem W_stl {V : Sv} {z q fg dep f am p : Nat} (h : WT V z q fg dep f am p) (h2 : 2 ≤ q) (h13 : q ≤ 13) : ∃ f', f ≤ f' ∧ f' ≤ f + (if 3 ≤ q ∧ q ≤ 12 then 1 else 0) ∧ DW (stl V) z f' dep ∧ KV V (stl V) := by
  obtain ⟨hD, hC, t24, t25, t26, a0, a1, hp, hp2⟩ := h
  have hz := VI.zb hD.1
  have hd1 := hC.2.2.2.2.2.2.2 h2 h13
  have hd10 := hC.2.2.2.2.1
  have hq := hC.1
  have inj : ∀ k, k ≤ 14 → nI q = nI k → q = k := fun k hk e => nI_k hq hk e
  unfold stl
  rw [t24]
  by_cases e4 : nI q = 4
  · rw [if_pos e4]
    have := inj 4 (by omega) e4
    obtain ⟨f', x1, x2, x3, x4⟩ := D_N hD hd1 hd10 hz
    exact ⟨f', x1, by rw [if_pos (by omega)]; exact x2, x3, x4⟩
  · rw [if_neg e4]
    by_cases e9 : nI q = 9
    · rw [if_pos e9]
      have := inj 9 (by omega) e9
      obtain ⟨f', x1, x2, x3, x4⟩ := D_A hD
      exact ⟨f', x1, by rw [if_pos (by omega)]; exact x2, x3, x4⟩
    · rw [if_neg e9]
      by_cases e12 : nI q = 12
      · rw [if_pos e12]
        have e12' := inj 12 (by omega) e12
        have ham := (am_lt ⟨hC.2.2.1, hC.2.2.2.1⟩ a1).1 (by omega)
        obtain ⟨f', x1, x2, x3, x4⟩ := D_L (t := V 51 (cl (V 31 26))) (g := ¬ V 51 (cl (V 31 26)) = -1) hD (fun _ => by rw [t26, cl_nI (by omega)]; exact hD.2.2.2.2.2 am ham)
        exact ⟨f', x1, by rw [if_pos (by omega)]; exact x2, x3, x4⟩
      · rw [if_neg e12]
        exact ⟨f, by omega, by split <;> omega, hD, fun _ _ => rfl, fun _ _ _ _ _ _ => rfl⟩
