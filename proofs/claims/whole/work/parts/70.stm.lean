/-! the class replays: one statement -/
def MP (S W : Sv) (n m q fg dep P z f am : Nat) (V : Sv) : Prop := P + m = n + 1 ∧ 1 ≤ P ∧ WT V z q fg dep f am P ∧ run (S 20) m q fg dep P V = some W
def bq (q : Nat) : Prop := q = 2 ∨ q = 4 ∨ q = 9 ∨ q = 12 ∨ q = 13
def BP (S W : Sv) (n m q fg dep P z f am : Nat) (V T : Sv) : Prop := MP S W n m q fg dep P z f am V ∧ bq q ∧ nx q fg dep (S 20 (P - 1)) = ins dep (S 20 (P - 1)) ∧ RQL S T (stl V) ∧ T 28 5 = nI P
abbrev Sk (V V' : Sv) (dep : Nat) : Prop := ∀ i, i < dep → V' 48 i = V 48 i ∧ V' 49 i = V 49 i ∧ V' 50 i = V 50 i
section ST
variable {xs : Nat × (Nat → Int32)} {d n dep : Nat} {S W : Sv} {K : Sv → Option Value → Prop}
theorem MP.step {m q fg P z f am : Nat} {V : Sv} (h : MP S W n m q fg dep P z f am V) (hq : q ≠ 14) (hn : n ≤ 300) : ∃ k q' z' f' am', m = k + 1 ∧ nx q fg dep (S 20 (P - 1)) = some q' ∧ MP S W n k q' (fgn q' fg) (dpn q' (S 20 (P - 1)) dep) (P + 1) z' f' am' (stp q' (S 20 (P - 1)) (nI P) V) ∧ P ≤ n := by
  obtain ⟨h1, h2, h3, h4⟩ := h
  obtain ⟨k, rfl⟩ := run_pos h4 hq
  cases hx : nx q fg dep (S 20 (P - 1)) with
  | none => rw [run_none hx] at h4; exact absurd h4 (by simp)
  | some q' =>
    rw [run_some hx] at h4
    obtain ⟨z', f', am', -, -, w3⟩ := W_stp h3 hx (by omega)
    exact ⟨k, q', z', f', am', rfl, rfl, ⟨by omega, by omega, w3, h4⟩, by omega⟩
theorem st_prop {q' : Nat} {c p : Int32} {V : Sv} (hq : q' = 5 ∨ q' = 6) : stp q' c p V = us (us (us (stl V) 31 28 c) 31 29 p) 31 24 (nI q') := by
  unfold stp
  rw [if_pos (by omega)]
  unfold hdn
  rw [if_neg (by omega), if_neg (by omega), if_neg (by omega), if_pos hq]
  unfold tl
  rw [if_neg (by omega), if_neg (by omega), if_neg (by omega)]
theorem st_res {q' : Nat} {c p : Int32} {V : Sv} (hq : q' = 7 ∨ q' = 11) (n41 : c ≠ 41) : stp q' c p V = us (us (us (us V 31 25 0) 31 26 0) 31 27 0) 31 24 (nI q') := by
  unfold stp
  rw [if_neg (by rintro (h | h | h) <;> first | omega | exact n41 h)]
  unfold hdn
  rw [if_neg (by omega), if_neg (by omega), if_neg (by omega), if_neg (by omega), if_neg (by rintro ⟨h, -⟩; omega), if_neg n41]
  unfold tl
  rw [if_pos (by omega)]
theorem st_10 {p : Int32} {V : Sv} : stp 10 61 p V = us V 31 24 10 := rfl
theorem st_8 {p : Int32} {V : Sv} : stp 8 45 p V = us (us V 31 27 1) 31 24 8 := rfl
theorem st_13 {p : Int32} {V : Sv} : stp 13 126 p V = us (vL V (-1) True) 31 24 13 := rfl
theorem st_c {p : Int32} {V : Sv} : stp 13 41 p V = us (vC (stl V)) 31 24 13 := rfl
theorem stl_k {V : Sv} {k : Nat} (h : V 31 24 = nI k) (hk : k = 2 ∨ k = 13) : stl V = V := by
  unfold stl
  rcases hk with rfl | rfl
  · rw [if_neg (by rw [h]; decide), if_neg (by rw [h]; decide), if_neg (by rw [h]; decide)]
  · rw [if_neg (by rw [h]; decide), if_neg (by rw [h]; decide), if_neg (by rw [h]; decide)]
theorem stl_9 {V : Sv} (h : V 31 24 = nI 9) : stl V = vA V := by
  unfold stl
  rw [if_neg (by rw [h]; decide), if_pos (show V 31 24 = 9 from h)]
theorem stl_4 {V : Sv} (h : V 31 24 = nI 4) : stl V = vN V := by
  unfold stl
  rw [if_pos (show V 31 24 = 4 from h)]
theorem stl_12 {V : Sv} (h : V 31 24 = nI 12) : stl V = vL V (V 51 (cl (V 31 26))) (¬ V 51 (cl (V 31 26)) = -1) := by
  unfold stl
  rw [if_neg (by rw [h]; decide), if_neg (by rw [h]; decide), if_pos (show V 31 24 = 12 from h)]
theorem bq_in {q : Nat} (h : bq q) : 2 ≤ q ∧ q ≤ 13 := by unfold bq at h; omega
/-- what an object is, as the class replays it -/
def ObP (xs : Nat × (Nat → Int32)) (S W : Sv) (n M : Nat) : Prop := ∀ (m q fg dep P z f am : Nat) (V T : Sv) (d : Nat) (K : Sv → Option Value → Prop), m ≤ M → MP S W n m q fg dep P z f am V → (q = 0 ∨ q = 10) → S 20 (P - 1) = 40 → dep ≤ 9 → 3 * (10 - dep) + 8 ≤ d → RQL S T V → T 28 5 = nI P → (∀ m' q' fg' P' z' f' am' V' T', m' < m → BP S W n m' q' fg' (dep + 1) P' z' f' am' V' (us T' 28 5 (nI P')) → S 20 (P' - 1) = 41 → T' 28 5 = nI (P' + 1) → Sk V V' dep → V' 49 dep = V 31 28 → V' 50 dep = V 31 29 → K T' (some (.int (V' 48 dep)))) → CS xs d 77 T [.ref 28, .int (nI (dep + 1))] K
theorem RQL.up {T V : Sv} {x : Int32} (h : RQL S (us T 28 5 x) V) : RQL S T V := by
  obtain ⟨h1, h2, h3, h4, h5, h6, h7, h8, h9⟩ := h
  refine ⟨fun a ha => ?_, h2, h3, h4, h5, h6, h7, h8, h9⟩
  have := h1 a ha
  rw [us_ne (fun e => ha (by rw [e]; decide))] at this
  exact this
theorem k_79 {M m q fg P z f am : Nat} {V T : Sv} (hO : ObP xs S W n M) (hM : m ≤ M + 1) (hn : n ≤ 300) (hs : S 19 1 = nI n) (hT : TB S) (hd : 3 * (10 - dep) + 10 ≤ d) (h : BP S W n m q fg dep P z f am V T) (hc : xyz (S 20 (P - 1)) ∨ p_q (S 20 (P - 1))) (hk : ∀ m' q' fg' P' z' f' am' V' T', m' < m → P < P' → BP S W n m' q' fg' dep P' z' f' am' V' T' → Sk V V' dep → K T' none) : CS xs d 79 T [.ref 28, .int (vtop V), .int (nI dep)] K := by
  obtain ⟨d, rfl⟩ := cs_d (d := d) (by omega)
  obtain ⟨hMP, hbq, hnx, hR, hp⟩ := h
  have hq := bq_in hbq
  have hWT := hMP.2.2.1
  have hC := hWT.2.1
  have hd1 := hC.2.2.2.2.2.2.2 hq.1 hq.2
  have hd10 := hC.2.2.2.2.1
  obtain ⟨f1, -, -, hD1, hKV⟩ := W_stl hWT hq.1 hq.2
  have e20 : stl V 31 20 = nI dep := hD1.2.2.2.1
  have s48 : stl V 48 = V 48 := hKV.2 48 (by decide) (by decide) (by decide) (by decide) (by decide)
  have s49 : stl V 49 = V 49 := hKV.2 49 (by decide) (by decide) (by decide) (by decide) (by decide)
  have s50 : stl V 50 = V 50 := hKV.2 50 (by decide) (by decide) (by decide) (by decide) (by decide)
  have etop : vtop V = V 48 (dep - 1) := (vtop_in hWT.1 hd1 hd10).1
  obtain ⟨k, q1, z1, f1', am1, rfl, hx1, hM1, hPn⟩ := hMP.step (by omega) hn
  rw [hnx] at hx1
  have hes : T 19 1 = nI n := by rw [hR.tx.1]; exact hs
  have hn41 : S 20 (P - 1) ≠ 41 := by
    intro e
    rw [e] at hc
    revert hc
    decide
  have hq1 : (xyz (S 20 (P - 1)) ∧ q1 = 5) ∨ (¬ xyz (S 20 (P - 1)) ∧ q1 = 6) := by
    rcases ins_cases hx1 with ⟨g, e⟩ | ⟨g, -, e⟩ | ⟨e, -⟩ | ⟨e, -⟩
    · exact Or.inl ⟨g, e⟩
    · exact Or.inr ⟨g, e⟩
    · exact absurd e hn41
    · exact absurd e hn41
  have ef1 : fgn q1 fg = fg := by unfold fgn; rw [if_neg (by omega), if_neg (by omega)]
  have ed1 : dpn q1 (S 20 (P - 1)) dep = dep := by unfold dpn; rw [if_neg (by omega), if_neg hn41]
  rw [ef1, ed1, st_prop (by omega)] at hM1
  obtain ⟨V1, hV1⟩ : ∃ V1, V1 = us (us (us (stl V) 31 28 (S 20 (P - 1))) 31 29 (nI P)) 31 24 (nI q1) := ⟨_, rfl⟩
  rw [← hV1] at hM1
  have R1 : RQL S T V1 := by
    rw [hV1]
    exact ((hR.ct (by decide) (by decide) _).ct (by decide) (by decide) _).ct (by decide) (by decide) _
  have v28 : V1 31 28 = S 20 (P - 1) := by rw [hV1]; rfl
  have v29 : V1 31 29 = nI P := by rw [hV1]; rfl
  have v20 : V1 31 20 = nI dep := by rw [hV1]; exact e20
  have v48 : V1 48 = V 48 := by rw [hV1]; exact s48
  have v49 : V1 49 = V 49 := by rw [hV1]; exact s49
  have v50 : V1 50 = V 50 := by rw [hV1]; exact s50
  obtain ⟨k2, q2, z2, f2, am2, rfl, hx2, hM2, hPn2⟩ := hM1.step (by omega) hn
  have ec2 : S 20 (P + 1 - 1) = 61 := by
    have hx : (if S 20 (P + 1 - 1) = 61 then some (if q1 = 5 then 7 else 10) else none) = some q2 := by
      rcases hq1 with ⟨-, rfl⟩ | ⟨-, rfl⟩ <;> exact hx2
    by_cases g : S 20 (P + 1 - 1) = 61
    · exact g
    · rw [if_neg g] at hx; exact absurd hx (by simp)
  rw [ec2] at hx2 hM2
  refine c_79 ?_
  unfold w_79
  rw [hp]
  refine k_50p (n := n) (by omega) hn hes hMP.2.1 hPn ⟨_, rfl, ?_⟩
  rw [hR.tx.2, hp, show nI P + 2 = nI (P + 2) from nI_add P 2]
  have top_of : ∀ V' : Sv, V' 31 20 = nI dep → V' 48 (dep - 1) = V 48 (dep - 1) → vtop V' = vtop V := by
    intro V' h1 h2
    rw [etop]
    unfold vtop
    rw [h1, cl_nI (by omega), h2]
  refine k_71 (by omega) (fun gx => ⟨_, rfl, fun hh => absurd hh (by decide), fun _ => ?_⟩) (fun gx => ⟨_, rfl, fun _ => ?_, fun hh => absurd rfl hh⟩)
  · obtain rfl : q1 = 5 := (hq1.resolve_right (fun hh => hh.1 gx)).2
    obtain rfl : q2 = 7 := (Option.some.inj hx2).symm
    rw [show fgn 7 fg = 0 from rfl, show dpn 7 61 dep = dep from rfl, st_res (by omega) (by decide)] at hM2
    obtain ⟨V2, hV2⟩ : ∃ V2, V2 = us (us (us (us V1 31 25 0) 31 26 0) 31 27 0) 31 24 (nI 7) := ⟨_, rfl⟩
    rw [← hV2] at hM2
    have R2 : RQL S (us T 28 5 (nI (P + 2))) V2 := by
      rw [hV2]
      exact ((((R1.ct (by decide) (by decide) _).ct (by decide) (by decide) _).ct (by decide) (by decide) _).ct (by decide) (by decide) _).pl _
    have fin : ∀ (b : Int32) (Vx : Sv), (∀ a, a ≠ 31 → Vx a = V1 a) → (∀ k, k ≠ 24 → k ≠ 25 → k ≠ 26 → k ≠ 27 → Vx 31 k = V1 31 k) → Vx 31 27 = b → ∀ m' fg' P' z' f' am' V' T', m' < k2 + 1 → P < P' → P' + m' = n + 1 → WT V' z' 9 fg' dep f' am' P' → run (S 20) m' 9 fg' dep P' V' = some W → RQL S T' V' → T' 28 5 = nI P' → EV Vx V' → nx 9 fg' dep (S 20 (P' - 1)) = ins dep (S 20 (P' - 1)) → ∀ v : Int32, v = (if b = 0 then V' 31 26 else -(V' 31 26)) → CS xs d 35 T' [.ref 8, .int (vtop V), .int (S 20 (P - 1) - 120), .int v] (fun S7 v7 => ∃ r7 : Int32, v7 = some (.int r7) ∧ ((¬ r7 = 0 → (K S7 none)) ∧ (¬ (¬ r7 = 0) → (CS xs d 76 S7 [.ref 28, .int (nI P)] (fun S8 v8 => v8 = none ∧ (K S8 none)))))) := by
      intro b Vx x1 x2 x3 m' fg' P' z' f' am' V' T' hm' hPP hPm hW' hr' hR' hp' hE hnx' v hv
      have hpot := hW'.2.2.2.2.2.2.2.1
      have hdp := hW'.2.1.2.2.2.2.1
      obtain ⟨km, hkm⟩ := run_pos hr' (by omega)
      refine k_35v (z := z') (f := f') (dep := dep) (by omega) hT hR' hW'.1 (by unfold pot at hpot; omega) (top_of V' hW'.1.2.2.2.1 (by rw [hE.1 48 (by decide), x1 48 (by decide), v48])) ((hE.2 28 (by decide) (by decide) (by decide)).trans ((x2 28 (by decide) (by decide) (by decide) (by decide)).trans v28)) ?_ ((hE.2 29 (by decide) (by decide) (by decide)).trans ((x2 29 (by decide) (by decide) (by decide) (by decide)).trans v29)) (fun T'' r'' p'' => ?_)
      · unfold vv
        rw [hE.2 27 (by decide) (by decide) (by decide), x3]
        exact hv.symm
      · refine hk m' 9 fg' P' z' f' am' V' T'' (by omega) hPP ⟨⟨hPm, by omega, hW', hr'⟩, Or.inr (Or.inr (Or.inl rfl)), hnx', ?_, p''.trans hp'⟩ (fun i hi => ?_)
        · rw [stl_9 hW'.2.2.1]; exact r''
        · rw [hE.1 48 (by decide), hE.1 49 (by decide), hE.1 50 (by decide), x1 48 (by decide), x1 49 (by decide), x1 50 (by decide), v48, v49, v50]
          exact ⟨rfl, rfl, rfl⟩
    obtain ⟨d, rfl⟩ := cs_d (d := d) (by omega)
    obtain ⟨k3, q3, z3, f3, am3, hk3, hx3, hM3, hPn3⟩ := hM2.step (by omega) hn
    refine c_80 ?_
    unfold w_80
    have e5 : (us T 28 5 (nI (P + 2))) 28 5 = nI (P + 1 + 1) := rfl
    rw [e5]
    refine k_50p (n := n) (by omega) hn hes (by omega) hPn3 ⟨_, rfl, ?_⟩
    have etx : (us T 28 5 (nI (P + 2))) 20 = S 20 := hR.tx.2
    rw [etx]
    refine ⟨fun g45 => ?_, fun g45 => ?_⟩
    · refine h_80_36 (k_83 (qa := 7) (qd := 9) (mo := 5) (S := S) (W := W) (n := n) (dep := dep) (V := V2) (by omega) hn hs (by omega) (fun _ => g45) hM2.1 hM2.2.1 hM2.2.2.1 hM2.2.2.2 R2 rfl (fun m' fg' P' z' f' am' V' T' a1 a2 a3 a4 a5 a6 a7 a8 a9 => ⟨_, rfl, fun _ => ⟨_, rfl, ?_⟩, fun hh => absurd rfl hh⟩))
      exact fin 0 V2 (fun a ha => by rw [hV2, us_ne ha, us_ne ha, us_ne ha, us_ne ha]) (fun k k1 k2 k3 k4 => by rw [hV2]; show upd (upd (upd (upd (V1 31) 25 _) 26 _) 27 _) 24 _ k = _; rw [upd_n k1, upd_n k4, upd_n k3, upd_n k2]) (by rw [hV2]; rfl) m' fg' P' z' f' am' V' T' (by omega) (by omega) a3 a4 a5 a6 a7 a8 a9 _ (if_pos rfl).symm
    · have e45 : S 20 (P + 1 + 1 - 1) = 45 := Classical.byContradiction g45
      rw [e45] at hx3 hM3
      obtain rfl : q3 = 8 := (Option.some.inj hx3).symm
      rw [show fgn 8 0 = 0 from rfl, show dpn 8 45 dep = dep from rfl, st_8] at hM3
      obtain ⟨V3, hV3⟩ : ∃ V3, V3 = us (us V2 31 27 1) 31 24 8 := ⟨_, rfl⟩
      rw [← hV3] at hM3
      have R3 : RQL S (us (us T 28 5 (nI (P + 2))) 28 5 (nI (P + 1 + 1 + 1))) V3 := by
        rw [hV3]
        exact ((R2.ct (by decide) (by decide) _).ct (by decide) (by decide) _).pl _
      rw [e5, nI_1]
      refine h_80_36 (k_83 (qa := 8) (qd := 9) (mo := 5) (S := S) (W := W) (n := n) (dep := dep) (V := V3) (by omega) hn hs (by omega) (fun hh => absurd hh (by omega)) hM3.1 hM3.2.1 hM3.2.2.1 hM3.2.2.2 R3 rfl (fun m' fg' P' z' f' am' V' T' a1 a2 a3 a4 a5 a6 a7 a8 a9 => ⟨_, rfl, fun hh => absurd hh (by decide), fun _ => ⟨_, rfl, ?_⟩⟩))
      exact fin 1 V3 (fun a ha => by rw [hV3, hV2, us_ne ha, us_ne ha, us_ne ha, us_ne ha, us_ne ha, us_ne ha]) (fun k k1 k2 k3 k4 => by rw [hV3, hV2]; show upd (upd (upd (upd (upd (upd (V1 31) 25 _) 26 _) 27 _) 24 _) 27 _) 24 _ k = _; rw [upd_n k1, upd_n k4, upd_n k1, upd_n k4, upd_n k3, upd_n k2]) (by rw [hV3]; rfl) m' fg' P' z' f' am' V' T' (by omega) (by omega) a3 a4 a5 a6 a7 a8 a9 _ (if_neg (by decide)).symm
  · obtain rfl : q1 = 6 := (hq1.resolve_left (fun hh => gx hh.1)).2
    obtain rfl : q2 = 10 := (Option.some.inj hx2).symm
    rw [show fgn 10 fg = fg from rfl, show dpn 10 61 dep = dep from rfl, st_10] at hM2
    obtain ⟨V2, hV2⟩ : ∃ V2, V2 = us V1 31 24 10 := ⟨_, rfl⟩
    rw [← hV2] at hM2
    have R2 : RQL S (us T 28 5 (nI (P + 2))) V2 := by
      rw [hV2]
      exact (R1.ct (by decide) (by decide) _).pl _
    have u28 : V2 31 28 = S 20 (P - 1) := by rw [hV2]; exact v28
    have u29 : V2 31 29 = nI P := by rw [hV2]; exact v29
    have u48 : V2 48 = V 48 := by rw [hV2]; exact v48
    have u49 : V2 49 = V 49 := by rw [hV2]; exact v49
    have u50 : V2 50 = V 50 := by rw [hV2]; exact v50
    obtain ⟨k3, q3, z3, f3, am3, hk3, hx3, hM3, hPn3⟩ := hM2.step (by omega) hn
    obtain ⟨d, rfl⟩ := cs_d (d := d) (by omega)
    refine c_81 ?_
    unfold w_81
    have e5 : (us T 28 5 (nI (P + 2))) 28 5 = nI (P + 1 + 1) := rfl
    rw [e5]
    refine k_50p (n := n) (by omega) hn hes (by omega) hPn3 ⟨_, rfl, ?_⟩
    have etx : (us T 28 5 (nI (P + 2))) 20 = S 20 := hR.tx.2
    rw [etx, e5, nI_1, nI_1]
    have hpot2 := hM2.2.2.1.2.2.2.2.2.2.2.1
    refine ⟨fun n40 => ⟨fun n64 => ?_, fun n64 => ?_⟩, fun n40 => ?_⟩
    · have hx3' : (if S 20 (P + 1 + 1 - 1) = 40 ∧ dep < 10 then some 1 else if S 20 (P + 1 + 1 - 1) = 64 then some 11 else if S 20 (P + 1 + 1 - 1) = 126 then some 13 else none) = some q3 := hx3
      rw [if_neg (fun hh => n40 hh.1), if_neg n64] at hx3'
      have e126 : S 20 (P + 1 + 1 - 1) = 126 := by
        by_cases g : S 20 (P + 1 + 1 - 1) = 126
        · exact g
        · rw [if_neg g] at hx3'; exact absurd hx3' (by simp)
      rw [if_pos e126] at hx3'
      obtain rfl : q3 = 13 := (Option.some.inj hx3').symm
      rw [e126, show fgn 13 fg = fg from rfl, show dpn 13 126 dep = dep from rfl, st_13] at hM3
      refine ⟨_, rfl, ?_⟩
      refine k_36v (z := z2) (f := f2) (dep := dep) (t := -1) (g := True) (by omega) hT (R2.pl _) hM2.2.2.1.1 (by unfold pot at hpot2; omega) (top_of V2 hM2.2.2.1.1.2.2.2.1 (by rw [u48])) u28 u29 (Or.inl ⟨trivial, rfl, Or.inl rfl⟩) (fun T' r' p' => ?_)
      refine hk k3 13 fg (P + 1 + 1 + 1) z3 f3 am3 _ T' (by omega) (by omega) ⟨hM3, Or.inr (Or.inr (Or.inr (Or.inr rfl))), rfl, ?_, p'⟩ (fun i hi => ?_)
      · rw [stl_k rfl (Or.inr rfl)]
        exact r'.ct (by decide) (by decide) _
      · obtain ⟨f4, -, -, -, hKL⟩ := D_L (t := -1) (g := True) hM2.2.2.1.1 (fun _ => Or.inl rfl)
        have e : ∀ a, a = 48 ∨ a = 49 ∨ a = 50 → us (vL V2 (-1) True) 31 24 13 a = V2 a := by
          intro a ha
          rw [us_ne (by omega)]
          exact hKL.2 a (by omega) (by omega) (by omega) (by omega) (by omega)
        rw [e 48 (by omega), e 49 (by omega), e 50 (by omega), u48, u49, u50]
        exact ⟨rfl, rfl, rfl⟩
    · have e64 : S 20 (P + 1 + 1 - 1) = 64 := Classical.byContradiction n64
      have hx3' : (if S 20 (P + 1 + 1 - 1) = 40 ∧ dep < 10 then some 1 else if S 20 (P + 1 + 1 - 1) = 64 then some 11 else if S 20 (P + 1 + 1 - 1) = 126 then some 13 else none) = some q3 := hx3
      rw [if_neg (fun hh => n40 hh.1), if_pos e64] at hx3'
      obtain rfl : q3 = 11 := (Option.some.inj hx3').symm
      rw [e64, show fgn 11 fg = 0 from rfl, show dpn 11 64 dep = dep from rfl, st_res (by omega) (by decide)] at hM3
      obtain ⟨V3, hV3⟩ : ∃ V3, V3 = us (us (us (us V2 31 25 0) 31 26 0) 31 27 0) 31 24 (nI 11) := ⟨_, rfl⟩
      rw [← hV3] at hM3
      have R3 : RQL S (us (us T 28 5 (nI (P + 2))) 28 5 (nI (P + 1 + 1 + 1))) V3 := by
        rw [hV3]
        exact ((((R2.ct (by decide) (by decide) _).ct (by decide) (by decide) _).ct (by decide) (by decide) _).ct (by decide) (by decide) _).pl _
      have x1 : ∀ a, a ≠ 31 → V3 a = V2 a := fun a ha => by rw [hV3, us_ne ha, us_ne ha, us_ne ha, us_ne ha]
      refine k_83 (qa := 11) (qd := 12) (mo := 2) (S := S) (W := W) (n := n) (dep := dep) (V := V3) (by omega) hn hs (by omega) (fun hh => absurd hh (by omega)) hM3.1 hM3.2.1 hM3.2.2.1 hM3.2.2.2 R3 rfl (fun m' fg' P' z' f' am' V' T' a1 a2 a3 a4 a5 a6 a7 a8 a9 => ⟨_, rfl, ?_⟩)
      have ham : am' < 100 := (am_lt ⟨a4.2.1.2.2.1, a4.2.1.2.2.2.1⟩ a4.2.2.2.2.2.2.1).1 (Or.inr rfl)
      have e26 : V' 31 26 = nI am' := a4.2.2.2.2.1
      have hnm := a4.1.2.2.2.2.2 am' ham
      have hpot := a4.2.2.2.2.2.2.2.1
      have hp301 := a4.2.2.2.2.2.2.2.2
      obtain ⟨km, hkm⟩ := run_pos a5 (by omega)
      refine ⟨am', ham, e26, ?_⟩
      have en : T' 29 am' = V' 51 am' := a6.2.2.2.2.2.2.1 am' ham
      rw [en]
      have goal : ∀ v : Int32, ((¬ V' 51 am' = -1 ∧ v = V' 51 am' ∧ (V' 51 am' = -1 ∨ isO z' (V' 51 am'))) ∨ (¬ ¬ V' 51 am' = -1 ∧ v = -2)) → CS xs (d + 1) 36 T' [.ref 8, .int (vtop V), .int (S 20 (P - 1) - 112), .int v] (fun S4 v4 => ∃ r4 : Int32, v4 = some (.int r4) ∧ ((¬ r4 = 0 → (K S4 none)) ∧ (¬ (¬ r4 = 0) → (CS xs (d + 1) 76 S4 [.ref 28, .int (nI P)] (fun S5 v5 => v5 = none ∧ (K S5 none)))))) := by
        intro v hv
        refine k_36v (z := z') (f := f') (dep := dep) (t := V' 51 am') (g := ¬ V' 51 am' = -1) (by omega) hT a6 a4.1 (by unfold pot at hpot; omega) (top_of V' a4.1.2.2.2.1 (by rw [a8.1 48 (by decide), x1 48 (by decide), u48])) ((a8.2 28 (by decide) (by decide) (by decide)).trans (by rw [hV3]; exact u28)) ((a8.2 29 (by decide) (by decide) (by decide)).trans (by rw [hV3]; exact u29)) hv (fun T'' r'' p'' => ?_)
        refine hk m' 12 fg' P' z' f' am' V' T'' (by omega) (by omega) ⟨⟨a3, by omega, a4, a5⟩, Or.inr (Or.inr (Or.inr (Or.inl rfl))), a9, ?_, p''.trans a7⟩ (fun i hi => ?_)
        · rw [stl_12 a4.2.2.1, e26, cl_nI (by omega)]; exact r''
        · rw [a8.1 48 (by decide), a8.1 49 (by decide), a8.1 50 (by decide), x1 48 (by decide), x1 49 (by decide), x1 50 (by decide), u48, u49, u50]
          exact ⟨rfl, rfl, rfl⟩
      obtain ⟨d, rfl⟩ := cs_d (d := d) (by omega)
      exact c_82 ⟨fun g => ⟨_, rfl, ⟨_, rfl, goal _ (Or.inl ⟨g, rfl, hnm⟩)⟩⟩, fun g => ⟨_, rfl, ⟨_, rfl, goal _ (Or.inr ⟨g, rfl⟩)⟩⟩⟩
    · have e40 : S 20 (P + 1 + 1 - 1) = 40 := Classical.byContradiction n40
      have hx3' : (if S 20 (P + 1 + 1 - 1) = 40 ∧ dep < 10 then some 1 else if S 20 (P + 1 + 1 - 1) = 64 then some 11 else if S 20 (P + 1 + 1 - 1) = 126 then some 13 else none) = some q3 := hx3
      have hlt : dep < 10 := by
        by_cases g : dep < 10
        · exact g
        · rw [if_neg (fun hh => g hh.2), if_neg (by rw [e40]; decide), if_neg (by rw [e40]; decide)] at hx3'
          exact absurd hx3' (by simp)
      refine hO k2 10 fg dep (P + 1 + 1) z2 f2 am2 V2 _ d _ (by omega) hM2 (Or.inr rfl) e40 (by omega) (by omega) R2 rfl (fun m' q' fg' P' z' f' am' V' T' b1 b2 b3 b4 b5 b6 b7 => ⟨_, rfl, ?_⟩)
      obtain ⟨bM, bb, bn, bR, -⟩ := b2
      have bR := bR.up
      have bq2 := bq_in bb
      obtain ⟨f5, y1, y2, y3, y4⟩ := W_stl bM.2.2.1 bq2.1 bq2.2
      obtain ⟨k6, q6, z6, f6, am6, hk6, hx6, hM6, hPn6⟩ := bM.step (by omega) hn
      rw [bn, b3] at hx6
      have hx6' : ins (dep + 1) 41 = some q6 := hx6
      obtain rfl : q6 = 13 := by
        rcases ins_cases hx6' with ⟨g, e⟩ | ⟨-, g, e⟩ | ⟨-, g, e⟩ | ⟨-, g, e⟩
        · exact absurd g x41
        · exact absurd g (by decide)
        · omega
        · exact e
      rw [b3, show fgn 13 fg' = fg' from rfl, show dpn 13 41 (dep + 1) = dep from rfl, st_c] at hM6
      have t20 : stl V' 31 20 = nI (dep + 1) := y3.2.2.2.1
      have t48 : stl V' 48 = V' 48 := y4.2 48 (by decide) (by decide) (by decide) (by decide) (by decide)
      have t49 : stl V' 49 = V' 49 := y4.2 49 (by decide) (by decide) (by decide) (by decide) (by decide)
      have t50 : stl V' 50 = V' 50 := y4.2 50 (by decide) (by decide) (by decide) (by decide) (by decide)
      have ec1 : cl (stl V' 31 20) - 1 = dep := by rw [t20, cl_nI (by omega)]; rfl
      have etop' : vtop (stl V') = V' 48 dep := by unfold vtop; rw [ec1, t48]
      have evC : vC (stl V') = vL (vK (stl V')) (V' 48 dep) (¬ V' 48 dep = -1) := by
        unfold vC
        rw [ec1, if_neg (by omega), etop']
      have eK : vK (stl V') = us (us (us (stl V') 31 20 (nI dep)) 31 28 (S 20 (P - 1))) 31 29 (nI P) := by
        unfold vK
        rw [ec1, t20, nI_p1, t49, t50, b6, b7, u28, u29]
      have hDK : DW (vK (stl V')) z' f5 dep := by
        obtain ⟨q1, q2, q3, q4, q5, q6⟩ := y3
        rw [eK]
        exact ⟨q1, q2, q3, rfl, fun i hi => q5 i (by omega), q6⟩
      have RK : RQL S T' (vK (stl V')) := by
        rw [eK]
        exact ((bR.ct (by decide) (by decide) _).ct (by decide) (by decide) _).ct (by decide) (by decide) _
      have hob : V' 48 dep = -1 ∨ isO z' (V' 48 dep) := by
        have := y3.2.2.2.2.1 dep (by omega)
        rw [t48] at this
        exact this
      have hpot6 := bM.2.2.1.2.2.2.2.2.2.2.1
      have hp6 := bM.2.2.1.2.2.2.2.2.2.2.2
      have hf5 : f5 < 300 := by
        unfold pot at hpot6
        rw [if_neg (by omega)] at hpot6
        omega
      have goal : ∀ v : Int32, ((¬ V' 48 dep = -1 ∧ v = V' 48 dep ∧ (V' 48 dep = -1 ∨ isO z' (V' 48 dep))) ∨ (¬ ¬ V' 48 dep = -1 ∧ v = -2)) → CS xs (d + 1) 36 T' [.ref 8, .int (vtop V), .int (S 20 (P - 1) - 112), .int v] (fun S4 v4 => ∃ r4 : Int32, v4 = some (.int r4) ∧ ((¬ r4 = 0 → (K S4 none)) ∧ (¬ (¬ r4 = 0) → (CS xs (d + 1) 76 S4 [.ref 28, .int (nI P)] (fun S5 v5 => v5 = none ∧ (K S5 none)))))) := by
        intro v hv
        refine k_36v (z := z') (f := f5) (dep := dep) (t := V' 48 dep) (g := ¬ V' 48 dep = -1) (by omega) hT RK hDK hf5 (top_of _ hDK.2.2.2.1 (by rw [eK]; show stl V' 48 (dep - 1) = _; rw [t48, (b5 (dep - 1) (by omega)).1, u48])) (by rw [eK]; rfl) (by rw [eK]; rfl) hv (fun T'' r'' p'' => ?_)
        refine hk k6 13 fg' (P' + 1) z6 f6 am6 _ T'' (by omega) (by have := hM2.1; have := hM6.1; omega) ⟨hM6, Or.inr (Or.inr (Or.inr (Or.inr rfl))), rfl, ?_, p''.trans b4⟩ (fun i hi => ?_)
        · rw [stl_k rfl (Or.inr rfl), evC]
          exact r''.ct (by decide) (by decide) _
        · rw [evC]
          obtain ⟨f7, -, -, -, hKL⟩ := D_L (t := V' 48 dep) (g := ¬ V' 48 dep = -1) hDK (fun _ => hob)
          have e : ∀ a, a = 48 ∨ a = 49 ∨ a = 50 → us (vL (vK (stl V')) (V' 48 dep) (¬ V' 48 dep = -1)) 31 24 13 a = V' a := by
            intro a ha
            rw [us_ne (by omega), hKL.2 a (by omega) (by omega) (by omega) (by omega) (by omega), eK, us_ne (by omega), us_ne (by omega), us_ne (by omega)]
            exact y4.2 a (by omega) (by omega) (by omega) (by omega) (by omega)
          rw [e 48 (by omega), e 49 (by omega), e 50 (by omega), (b5 i hi).1, (b5 i hi).2.1, (b5 i hi).2.2, u48, u49, u50]
          exact ⟨rfl, rfl, rfl⟩
      obtain ⟨d, rfl⟩ := cs_d (d := d) (by omega)
      exact c_82 ⟨fun g => ⟨_, rfl, ⟨_, rfl, goal _ (Or.inl ⟨g, rfl, hob⟩)⟩⟩, fun g => ⟨_, rfl, ⟨_, rfl, goal _ (Or.inr ⟨g, rfl⟩)⟩⟩⟩
end ST
