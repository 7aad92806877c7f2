/-! the reference does what a text says, step by step as the function says -/
section GT
variable {xs : Nat × (Nat → Int32)} {d : Nat} {S T : Sv} {K : Sv → Option Value → Prop} {c : Int32} {z f dep : Nat}
theorem k_118 {x : Int32} (hd : 1 ≤ d) (h34 : T 31 34 = nI f) (hf : f < 300) (h : K (vF T x) none) : CS xs d 118 T [.ref 31, .int x] K := by
  obtain ⟨d, rfl⟩ := cs_d hd
  unfold vF at h
  rw [h34, cl_nI (by omega)] at h
  refine c_118 ⟨f, hf, h34, ?_⟩
  rw [h34]
  exact h
theorem top_ix (h : DW T z f dep) (h1 : 1 ≤ dep) (hd : dep ≤ 10) : ∃ j, j < 25 ∧ T 31 20 - 1 = nI j ∧ T 48 j = vtop T := by
  refine ⟨dep - 1, by omega, ?_, (vtop_in h h1 hd).1.symm⟩
  obtain ⟨k, rfl⟩ : ∃ k, dep = k + 1 := ⟨dep - 1, by omega⟩
  rw [h.2.2.2.1, nI_p1]
  rfl
theorem k_119 {am : Nat} (hd : 2 ≤ d) (hD : DW T z f dep) (h1 : 1 ≤ dep) (hd10 : dep ≤ 10) (hf : f < 300) (h26 : T 31 26 = nI am) (ham : am < 100) (h : K (vN T) none) : CS xs d 119 T [.ref 31] K := by
  obtain ⟨d, rfl⟩ := cs_d (d := d) (by omega)
  obtain ⟨j, hj, ej, et⟩ := top_ix hD h1 hd10
  unfold vN at h
  rw [h26, cl_nI (by omega)] at h
  refine c_119 ⟨j, hj, ej, ?_⟩
  rw [et]
  refine ⟨fun g => ?_, fun g => ⟨am, ham, h26, fun g2 => ⟨am, ham, h26, ?_⟩, fun g2 => ?_⟩⟩
  · rw [ifS_t (Or.inl g)] at h
    exact k_118 (by omega) hD.2.2.1 hf ⟨rfl, h⟩
  · rw [ifS_f (fun hh => hh.elim g (fun n => n g2))] at h
    exact h
  · rw [ifS_t (Or.inr g2)] at h
    exact k_118 (by omega) hD.2.2.1 hf ⟨rfl, h⟩
theorem k_120 (hd : 3 ≤ d) (hD : DW T z f dep) (h1 : 1 ≤ dep) (hd10 : dep ≤ 10) (hf : f < 300) (h : K (vA T) none) : CS xs d 120 T [.ref 31] K := by
  obtain ⟨d, rfl⟩ := cs_d (d := d) (by omega)
  obtain ⟨j, hj, ej, et⟩ := top_ix hD h1 hd10
  have hz := VI.zb hD.1
  have htop := (vtop_in hD h1 hd10).2
  have e6 : cl (T 31 6) = z := by rw [hD.2.1]; exact cl_nI (by omega)
  unfold vA at h
  rw [e6] at h
  have fail : ¬ (∃ j a b, okN (T 33) (T 36) (T 37) z (T 38) (vtop T) (T 31 28 - 120) (vv T) j a b) → CS xs d 118 T [.ref 31, .int (T 31 29)] (fun S2 v2 => v2 = none ∧ (K S2 none)) := by
    intro hn
    rw [ifS_f hn] at h
    exact k_118 (by omega) hD.2.2.1 hf ⟨rfl, h⟩
  have main : (vtop T = -1 → CS xs d 118 T [.ref 31, .int (T 31 29)] (fun S2 v2 => v2 = none ∧ (K S2 none))) ∧ (¬ vtop T = -1 → CS xs d 89 T [.ref 31, .int (vtop T), .int (T 31 28 - 120)] (fun S3 v3 => ∃ r3 : Int32, v3 = some (.int r3) ∧ ((r3 = 0 → (CS xs d 118 S3 [.ref 31, .int (S3 31 29)] (fun S4 v4 => v4 = none ∧ (K S4 none)))) ∧ (¬ (r3 = 0) → (CS xs d 95 S3 [.ref 31, .int (vtop T), .int (T 31 28 - 120), .int (vv T)] (fun S5 v5 => ∃ r5 : Int32, v5 = some (.int r5) ∧ ((¬ r5 = 0 → (∃ j6 : Nat, j6 < 72 ∧ ((3 * vtop T) + (T 31 28 - 120)) = nI j6 ∧ (K (us S5 39 j6 (vv T)) none))) ∧ (¬ (¬ r5 = 0) → (CS xs d 118 S5 [.ref 31, .int (S5 31 29)] (fun S7 v7 => v7 = none ∧ (K S7 none))))))))))) := by
    refine ⟨fun g => fail ?_, fun g => ?_⟩
    · rintro ⟨j, a, b, ho⟩
      have : nI j = -1 := ho.2.2.2.1.symm.trans g
      exact nI_m1 (by have := ho.1; omega) this
    · refine k_89 (by omega) hD.1 hD.2.1 (fun j a b ho => ⟨_, rfl, fun hh => absurd hh (by decide), fun _ => ?_⟩) (fun hno => ⟨_, rfl, fun _ => fail ?_, fun hh => absurd rfl hh⟩)
      · obtain ⟨o1, o2, o3, o4, o5, o6, o7⟩ := ho
        rw [o4, o5]
        refine k_95 (by omega) (by omega) o2 o3 o6 (fun q1 q2 => ⟨_, rfl, fun _ => ⟨3 * j + b, by omega, m3' j b, ?_⟩, fun hh => absurd (by decide) hh⟩) (fun hno => ⟨_, rfl, fun hh => absurd rfl hh, fun _ => fail ?_⟩)
        · have hok : okN (T 33) (T 36) (T 37) z (T 38) (vtop T) (T 31 28 - 120) (vv T) j a b := ⟨o1, o2, o3, o4, o5, o6, o7, q1, q2⟩
          rw [ifS_t ⟨j, a, b, hok⟩, o4, o5, cl_nI (by omega), cl_nI (by omega)] at h
          exact h
        · rintro ⟨j', a', b', p1, p2, p3, p4, p5, p6, p7, p8, p9⟩
          have e1 : j' = j := nI_inj (by omega) (by omega) (p4.symm.trans o4)
          have e2 : b' = b := nI_inj (by omega) (by omega) (p5.symm.trans o5)
          subst e1
          subst e2
          have e3 : a' = a := nI_inj (by omega) (by omega) (p6.symm.trans o6)
          subst e3
          exact hno ⟨p8, p9⟩
      · rintro ⟨j, a, b, p1, p2, p3, p4, p5, p6, p7, p8, p9⟩
        exact hno ⟨j, a, b, p1, p2, p3, p4, p5, p6, p7⟩
  refine c_120 ⟨j, hj, ej, ?_⟩
  rw [et]
  refine ⟨fun g => ?_, fun g => ?_⟩
  · have e : vv T = T 31 26 := if_pos g
    rw [e] at main
    exact main
  · have e : vv T = -(T 31 26) := if_neg g
    rw [e] at main
    exact main
theorem k_121 {t a2 : Int32} {g : Prop} (hd : 3 ≤ d) (hD : DW T z f dep) (h1 : 1 ≤ dep) (hd10 : dep ≤ 10) (hf : f < 300) (hg : a2 = 0 ↔ ¬ g) (h : K (vL T t g) none) : CS xs d 121 T [.ref 31, .int t, .int a2] K := by
  obtain ⟨d, rfl⟩ := cs_d (d := d) (by omega)
  obtain ⟨j, hj, ej, et⟩ := top_ix hD h1 hd10
  have hz := VI.zb hD.1
  have e6 : cl (T 31 6) = z := by rw [hD.2.1]; exact cl_nI (by omega)
  unfold vL at h
  rw [e6] at h
  have fail : ¬ (g ∧ ∃ j a b, hO (T 34) z 2 (T 38) (vtop T) (T 31 28 - 112) j a b) → CS xs d 118 T [.ref 31, .int (T 31 29)] (fun S2 v2 => v2 = none ∧ (K S2 none)) := by
    intro hn
    rw [ifS_f hn] at h
    exact k_118 (by omega) hD.2.2.1 hf ⟨rfl, h⟩
  refine c_121 ⟨j, hj, ej, ?_⟩
  rw [et]
  refine ⟨fun q => fail ?_, fun q => ⟨fun q2 => fail (fun hh => hg.mp q2 hh.1), fun q2 => ?_⟩⟩
  · rintro ⟨-, j, a, b, ho⟩
    have : nI j = -1 := ho.2.2.2.1.symm.trans q
    exact nI_m1 (by have := ho.1; omega) this
  · have hgt : g := Classical.byContradiction (fun hh => q2 (hg.mpr hh))
    refine k_90 (by omega) hD.1 hD.2.1 (fun j a b ho => ⟨_, rfl, fun _ => ⟨2 * j + b, ?_, ?_, ?_⟩, fun hh => absurd (by decide) hh⟩) (fun hno => ⟨_, rfl, fun hh => absurd rfl hh, fun _ => fail (fun hh => hno hh.2)⟩)
    · have := ho.1
      have := ho.2.2.1
      omega
    · rw [ho.2.2.2.1, ho.2.2.2.2.1]
      exact m2' j b
    · rw [ifS_t ⟨hgt, j, a, b, ho⟩, ho.2.2.2.1, ho.2.2.2.2.1, cl_nI (by have := ho.1; omega), cl_nI (by have := ho.2.2.1; omega)] at h
      exact h
theorem k_117 {q fg am p : Nat} (hd : 4 ≤ d) (h : WT T z q fg dep f am p) (hp : p ≤ 300) (h2 : 2 ≤ q) (h13 : q ≤ 13) (hk : K (stl T) none) : CS xs d 117 T [.ref 31] K := by
  obtain ⟨d, rfl⟩ := cs_d (d := d) (by omega)
  have hW := W_stl h h2 h13
  obtain ⟨hD, hC, t24, t25, t26, a0, a1, hpp, hp2⟩ := h
  have hd1 := hC.2.2.2.2.2.2.2 h2 h13
  have hd10 := hC.2.2.2.2.1
  have hq := hC.1
  have hf : f < 300 := by omega
  have inj : ∀ k, k ≤ 14 → nI q = nI k → q = k := fun k hk e => nI_k hq hk e
  have ham := am_lt ⟨hC.2.2.1, hC.2.2.2.1⟩ a1
  unfold stl at hk hW
  rw [t24] at hk hW
  refine c_117 ⟨fun g => h_117_12 ⟨fun g2 => h_117_25 ⟨fun g3 => ?_, fun g3 => ?_⟩, fun g2 => ?_⟩, fun g => ?_⟩
  · rw [t24] at g g2 g3
    rw [if_neg g, if_neg g2, if_neg g3] at hk
    exact hk
  · rw [t24] at g g2 g3
    have e12 : nI q = 12 := Classical.byContradiction g3
    rw [if_neg g, if_neg g2, if_pos e12] at hk
    have hq12 := inj 12 (by omega) e12
    have hm := ham.1 (Or.inr hq12)
    refine ⟨am, hm, t26, am, hm, t26, fun e => ?_, fun e => ?_⟩
    · rw [t26, cl_nI (by omega)] at hk
      exact k_121 (g := ¬ T 51 am = -1) (by omega) hD hd1 hd10 hf ⟨fun _ hh => hh e, fun _ => rfl⟩ ⟨rfl, hk⟩
    · rw [t26, cl_nI (by omega)] at hk
      exact k_121 (g := ¬ T 51 am = -1) (by omega) hD hd1 hd10 hf ⟨fun hh => absurd hh (by decide), fun hh => absurd e hh⟩ ⟨rfl, hk⟩
  · rw [t24] at g g2
    have e9 : nI q = 9 := Classical.byContradiction g2
    rw [if_neg g, if_pos e9] at hk hW
    obtain ⟨f', -, -, -, hK⟩ := hW
    refine k_120 (by omega) hD hd1 hd10 hf ⟨rfl, h_117_25 ⟨fun _ => hk, fun g3 => absurd ?_ g3⟩⟩
    rw [hK.1 24 (by decide), t24, e9]
    decide
  · rw [t24] at g
    have e4 : nI q = 4 := Classical.byContradiction g
    have hq4 := inj 4 (by omega) e4
    rw [if_pos e4] at hk hW
    obtain ⟨f', -, -, -, hK⟩ := hW
    have e24 : vN T 31 24 = 4 := by rw [hK.1 24 (by decide), t24]; exact e4
    refine k_119 (by omega) hD hd1 hd10 hf t26 (ham.1 (Or.inl hq4)) ⟨rfl, h_117_12 ⟨fun _ => h_117_25 ⟨fun _ => hk, fun g3 => absurd ?_ g3⟩, fun g3 => absurd ?_ g3⟩⟩
    · rw [e24]; decide
    · rw [e24]; decide
theorem k_123 (hd : 4 ≤ d) (hD : DW T z f (dep + 1)) (hd9 : dep ≤ 9) (hf : f < 300) (h : K (vC T) none) : CS xs d 123 T [.ref 31, .int 1] K := by
  obtain ⟨d, rfl⟩ := cs_d (d := d) (by omega)
  obtain ⟨h1, h2, h3, h4, h5, h6⟩ := hD
  have e20 : cl (T 31 20) - 1 = dep := by rw [h4, cl_nI (by omega)]; rfl
  have et : vtop T = T 48 dep := by unfold vtop; rw [e20]
  have hK : DW (vK T) z f dep := ⟨h1, h2, h3, by show T 31 20 - 1 = _; rw [h4, nI_p1], fun i hi => h5 i (by omega), h6⟩
  have eK : vK T = us (us (us T 31 20 (nI dep)) 31 28 (T 49 dep)) 31 29 (T 50 dep) := by unfold vK; rw [e20, h4, nI_p1]
  unfold vC at h
  rw [e20, et] at h
  refine c_123 ?_
  unfold w_123
  rw [h4, nI_p1]
  refine ⟨dep, by omega, rfl, fun g => ⟨dep, by omega, rfl, dep, by omega, rfl, fun hh => absurd hh (by decide), fun _ => ?_⟩, fun g => ?_⟩
  · have hne : dep ≠ 0 := fun e => g (by rw [e]; rfl)
    rw [if_neg hne] at h
    rw [← eK]
    exact ⟨fun e => k_121 (g := ¬ T 48 dep = -1) (by omega) hK (by omega) (by omega) hf ⟨fun _ hh => hh e, fun _ => rfl⟩ ⟨rfl, h⟩, fun e => k_121 (g := ¬ T 48 dep = -1) (by omega) hK (by omega) (by omega) hf ⟨fun hh => absurd hh (by decide), fun hh => absurd e hh⟩ ⟨rfl, h⟩⟩
  · have h0 : dep = 0 := nI_inj (b := 0) (by omega) (by omega) (Classical.byContradiction g)
    rw [if_pos h0, h4, nI_p1] at h
    exact h
theorem k_122_1 {q q' fg : Nat} {p : Int32} (hd : 5 ≤ d) (hC : CI q fg dep) (hn : nx q fg dep c = some q') (hD : DW T z f dep) (h24 : T 31 24 = nI q) (hf : f < 300) (h : K (tl q' c (hdn q' c p T)) none) : CS xs d 122 T [.ref 31, .int c, .int p, .int (nI q'), .int 1] K := by
  obtain ⟨d, rfl⟩ := cs_d (d := d) (by omega)
  have hX := nx_c hC.1 hn
  obtain ⟨x1, x2, x3, x4, x5⟩ := hX
  have c5 := hC.2.2.2.2.1
  have c8 := hC.2.2.2.2.2.2.2
  have hz := VI.zb hD.1
  have h20 := hD.2.2.2.1
  have r133 : q' = 5 ∨ q' = 6 → R_122_133 xs d K c p (nI q') T := by
    intro hh
    have e : hdn q' c p T = us (us T 31 28 c) 31 29 p := by unfold hdn; rw [if_neg (by omega), if_neg (by omega), if_neg (by omega), if_pos hh]
    rw [e] at h
    exact h_122_133 (n_193 x2 h)
  have r175 : ¬ q' = 1 → ¬ q' = 2 → ¬ q' = 3 → ¬ q' = 5 → ¬ q' = 6 → ¬ (q' = 13 ∧ c = 126) → R_122_175 xs d K c (nI q') 1 T := by
    intro n1 n2 n3 n5 n6 n13
    have e : hdn q' c p T = if c = 41 then vC T else T := by unfold hdn; rw [if_neg n1, if_neg n2, if_neg n3, if_neg (by omega), if_neg n13]
    rw [e] at h
    refine h_122_175 ⟨fun n41 => ?_, fun g => ⟨fun lt => ?_, fun _ => ?_⟩⟩
    · rw [if_neg n41] at h
      exact n_193 x2 h
    · have := x3 (Classical.byContradiction g)
      exact absurd lt (nI_nlt (a := q') (b := 13) this (by omega))
    · have e41 := Classical.byContradiction g
      have h13 := x3 e41
      have hx : 2 ≤ q ∧ q ≤ 13 := by
        rcases x4 h13 with ⟨-, a, b, -⟩ | ⟨-, e, -⟩
        · exact ⟨a, b⟩
        · rw [e41] at e; exact absurd e (by decide)
      have hd1 := c8 hx.1 hx.2
      obtain ⟨k, rfl⟩ : ∃ k, dep = k + 1 := ⟨dep - 1, by omega⟩
      rw [if_pos e41] at h
      exact k_123 (by omega) hD (by omega) hf ⟨rfl, n_193 x2 h⟩
  have eq1 : ∀ k, k ≤ 14 → ¬ nI q' = nI k → ¬ q' = k := fun k _ hh e => hh (by rw [e])
  refine c_122 ⟨fun n1 => ⟨fun n2 => ⟨fun n3 => ⟨fun e => r133 (Or.inl (nI_k (k := 5) x2 (by omega) e)), fun n5 => ⟨fun n6 => ?_, fun n6 => r133 (Or.inr (nI_k (k := 6) x2 (by omega) (Classical.byContradiction n6)))⟩⟩, fun n3 => ?_⟩, fun n2 => ?_⟩, fun n1 => ?_⟩
  · have m1 := eq1 1 (by omega) n1
    have m2 := eq1 2 (by omega) n2
    have m3 := eq1 3 (by omega) n3
    have m5 := eq1 5 (by omega) n5
    have m6 := eq1 6 (by omega) n6
    refine ⟨fun n10 => r175 m1 m2 m3 m5 m6 ?_, fun n10 => ⟨fun n126 => r175 m1 m2 m3 m5 m6 (fun hh => n126 hh.2), fun n126 => ⟨fun hh => absurd hh (by decide), fun _ => ?_⟩⟩⟩
    · rintro ⟨e13, e126⟩
      rcases x4 (by omega) with ⟨e41, -⟩ | ⟨e10, -⟩
      · rw [e126] at e41; exact absurd e41 (by decide)
      · exact n10 (by rw [h24, e10]; rfl)
    · rw [h24] at n10
      have e10 := nI_k (k := 10) hC.1 (by omega) (Classical.byContradiction n10)
      have e126 := Classical.byContradiction n126
      have hd1 := c8 (by omega) (by omega)
      have e13 : q' = 13 := by
        subst e10
        have hn : (if c = 40 ∧ dep < 10 then some 1 else if c = 64 then some 11 else if c = 126 then some 13 else none) = some q' := hn
        rw [if_neg (fun hh => by rw [e126] at hh; exact absurd hh.1 (by decide)), if_neg (by rw [e126]; decide), if_pos e126] at hn
        exact (Option.some.inj hn).symm
      have e : hdn q' c p T = vL T (-1) True := by unfold hdn; rw [if_neg m1, if_neg m2, if_neg m3, if_neg (by omega), if_pos ⟨e13, e126⟩]
      rw [e] at h
      exact k_121 (g := True) (by omega) hD hd1 c5 hf ⟨fun hh => absurd hh (by decide), fun hh => absurd trivial hh⟩ ⟨rfl, n_193 x2 h⟩
  · have e3 : q' = 3 := nI_k (k := 3) x2 (by omega) (Classical.byContradiction n3)
    have e : hdn q' c p T = us T 31 31 p := by unfold hdn; rw [if_neg (by omega), if_neg (by omega), if_pos e3]
    rw [e] at h
    exact n_193 x2 h
  · have e2 : q' = 2 := nI_k (k := 2) x2 (by omega) (Classical.byContradiction n2)
    have hd9 : dep ≤ 9 := hC.2.2.2.2.2.2.1 (x5 e2).1
    have e : hdn q' c p T = vM T c := by unfold hdn; rw [if_neg (by omega), if_pos e2]
    rw [e] at h
    have ed : cl (T 31 20) = dep := by rw [h20]; exact cl_nI (by omega)
    have e6 : cl (T 31 6) = z := by rw [hD.2.1]; exact cl_nI (by omega)
    have eB : vB T = us (us T 49 dep (T 31 28)) 50 dep (T 31 29) := by unfold vB; rw [ed]
    unfold vM at h
    rw [ed, e6, eB] at h
    refine ⟨dep, by omega, h20, dep, by omega, h20, fun hh => absurd hh (by decide), fun _ => ?_⟩
    refine k_91 (z := z) (by omega) hD.1 hD.2.1 (fun a ha ea hda hz24 => ⟨_, rfl, dep, by omega, h20, fun hh => absurd hh (by decide), fun _ => ⟨dep, by omega, h20, fun _ => ?_, fun hh => absurd ?_ hh⟩⟩) (fun hno => ⟨_, rfl, dep, by omega, h20, fun hh => absurd hh (by decide), fun _ => ⟨dep, by omega, h20, fun hh => absurd ?_ hh, fun _ => ?_⟩⟩)
    · have eca : cl (c - 97) = a := by rw [ea]; exact cl_nI (by omega)
      rw [ifS_t ⟨⟨a, ha, ea, hda⟩, hz24⟩, eca, hD.2.1] at h
      exact h_122_96 (n_193 x2 h)
    · show ¬ upd _ dep (nI z) dep = -1
      rw [upd_s]
      exact nI_m1 (by omega)
    · show upd _ dep (-1) dep = -1
      rw [upd_s]
    · rw [ifS_f (show ¬ (isK (T 32) (c - 97) ∧ z < 24) from hno)] at h
      exact k_118 (T := us (us (us T 49 dep (T 31 28)) 50 dep (T 31 29)) 48 dep (-1)) (by omega) hD.2.2.1 hf ⟨rfl, h_122_96 (n_193 x2 h)⟩
  · have e1 : q' = 1 := nI_k (k := 1) x2 (by omega) (Classical.byContradiction n1)
    have e : hdn q' c p T = us T 31 30 p := by unfold hdn; rw [if_pos e1]
    rw [e] at h
    exact n_193 x2 h
end GT
