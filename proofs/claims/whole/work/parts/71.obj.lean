/-! the class replays: an object -/
section OB
variable {xs : Nat × (Nat → Int32)} {n : Nat} {S W : Sv}
theorem st_1 {p : Int32} {V : Sv} : stp 1 40 p V = us (us V 31 30 p) 31 24 1 := rfl
theorem st_2 {c p : Int32} {V : Sv} (n41 : c ≠ 41) : stp 2 c p V = us (vM V c) 31 24 2 := by
  unfold stp
  rw [if_neg (by rintro (h | h | h) <;> first | omega | exact n41 h)]
  rfl
theorem st_3 {p : Int32} {V : Sv} : stp 3 35 p V = us (us (us (us (us V 31 31 p) 31 25 0) 31 26 0) 31 27 0) 31 24 3 := rfl
theorem body {M : Nat} (hO : ObP xs S W n M) (hn : n ≤ 300) (hs : S 19 1 = nI n) (hT : TB S) {d dep : Nat} {V0 : Sv} {K : Sv → Option Value → Prop} {m0 : Nat} (hd : 3 * (10 - (dep + 1)) + 10 ≤ d)
    (hk : ∀ m' q' fg' P' z' f' am' V' T', m' < m0 → BP S W n m' q' fg' (dep + 1) P' z' f' am' V' (us T' 28 5 (nI P')) → S 20 (P' - 1) = 41 → T' 28 5 = nI (P' + 1) → Sk V0 V' (dep + 1) → K T' (some (.int (V' 48 dep)))) : ∀ (B m q fg P z f am i : Nat) (V T : Sv), m ≤ B → m ≤ M + 1 → m < m0 → i < P → BP S W n m q fg (dep + 1) P z f am V T → Sk V0 V (dep + 1) → R_77_78 xs d K (nI (dep + 1)) (V 48 dep) (nI i) T := by
  intro B
  induction B with
  | zero =>
    intro m q fg P z f am i V T hm hm1 hm0 hi hB hS
    have := bq_in hB.2.1
    obtain ⟨k, q', z', f', am', e, -⟩ := hB.1.step (by omega) hn
    omega
  | succ B ih =>
    intro m q fg P z f am i V T hm hm1 hm0 hi hB hS
    have hB' := hB
    obtain ⟨hMP, hbq, hnx, hR, hp⟩ := hB
    have hq := bq_in hbq
    obtain ⟨k, q1, z1, f1, am1, rfl, hx1, hM1, hPn⟩ := hMP.step (by omega) hn
    rw [hnx] at hx1
    have hes : T 19 1 = nI n := by rw [hR.tx.1]; exact hs
    have hd10 := hMP.2.2.1.2.1.2.2.2.2.1
    have etop : vtop V = V 48 dep := (vtop_in hMP.2.2.1.1 (by omega) hd10).1
    refine h_77_78 ⟨fun g => absurd g (nI_ge (b := 300) (by omega) (by omega)), fun _ => ?_⟩
    rw [hp]
    refine k_50p (n := n) (by omega) hn hes hMP.2.1 hPn ⟨_, rfl, ?_⟩
    rw [hR.tx.2]
    refine k_72 (by omega) (fun g => ⟨_, rfl, fun hh => absurd hh (by decide), fun _ => ?_⟩) (fun g g' => ⟨_, rfl, fun _ => ?_, fun hh => absurd rfl hh⟩)
    · rw [← etop]
      refine k_79 (M := M) (dep := dep + 1) hO hm1 hn hs hT hd hB' g (fun m' q' fg' P' z' f' am' V' T' a1 a2 a3 a4 => ⟨rfl, ?_⟩)
      rw [nI_1, etop, ← (a4 dep (by omega)).1]
      exact ih m' q' fg' P' z' f' am' (i + 1) V' T' (by omega) (by omega) (by omega) (by omega) a3 (fun j hj => ⟨(a4 j hj).1.trans (hS j hj).1, (a4 j hj).2.1.trans (hS j hj).2.1, (a4 j hj).2.2.trans (hS j hj).2.2⟩)
    · have e41 : S 20 (P - 1) = 41 := by
        rcases ins_cases hx1 with ⟨q, -⟩ | ⟨-, q, -⟩ | ⟨q, -⟩ | ⟨q, -⟩
        · exact absurd q g
        · exact absurd q g'
        · exact q
        · exact q
      rw [hp, nI_1]
      refine hk (k + 1) q fg P z f am V _ hm0 ⟨hMP, hbq, hnx, ?_, rfl⟩ e41 rfl hS
      exact (hR.pl _).pl _
theorem ob_all (hn : n ≤ 300) (hs : S 19 1 = nI n) (hT : TB S) : ∀ M, ObP xs S W n M := by
  intro M
  induction M with
  | zero =>
    intro m q fg dep P z f am V T d K hm hMP hq
    obtain ⟨k, q', z', f', am', e, -⟩ := hMP.step (by omega) hn
    omega
  | succ M ihM =>
    intro m q fg dep P z f am V T d K hm hMP hq e40 hd9 hd hR hp hk
    obtain ⟨d, rfl⟩ := cs_d (d := d) (by omega)
    obtain ⟨k1, q1, z1, f1, am1, rfl, hx1, hM1, hPn1⟩ := hMP.step (by omega) hn
    have hes : T 19 1 = nI n := by rw [hR.tx.1]; exact hs
    have hq1 : q1 = 1 := by
      rw [e40] at hx1
      rcases hq with rfl | rfl
      · exact (Option.some.inj hx1).symm
      · have hx1 : (if (40 : Int32) = 40 ∧ dep < 10 then some 1 else if (40 : Int32) = 64 then some 11 else if (40 : Int32) = 126 then some 13 else none) = some q1 := hx1
        rw [if_pos ⟨rfl, by omega⟩] at hx1
        exact (Option.some.inj hx1).symm
    subst hq1
    rw [e40, show fgn 1 fg = fg from rfl, show dpn 1 40 dep = dep from rfl, st_1] at hM1
    obtain ⟨V1, hV1⟩ : ∃ V1, V1 = us (us V 31 30 (nI P)) 31 24 1 := ⟨_, rfl⟩
    rw [← hV1] at hM1
    have R1 : RQL S T V1 := by
      rw [hV1]
      exact (hR.ct (by decide) (by decide) _).ct (by decide) (by decide) _
    obtain ⟨k2, q2, z2, f2, am2, rfl, hx2, hM2, hPn2⟩ := hM1.step (by omega) hn
    have hx2' : (if ¬ S 20 (P + 1 - 1) < 97 ∧ ¬ 100 < S 20 (P + 1 - 1) then some 2 else none) = some q2 := hx2
    have hlet : ¬ S 20 (P + 1 - 1) < 97 ∧ ¬ 100 < S 20 (P + 1 - 1) := by
      refine Classical.byContradiction (fun g => ?_)
      rw [if_neg g] at hx2'
      exact absurd hx2' (by simp)
    rw [if_pos hlet] at hx2'
    obtain rfl : q2 = 2 := (Option.some.inj hx2').symm
    have n41 : S 20 (P + 1 - 1) ≠ 41 := fun e => by rw [e] at hlet; exact absurd hlet (by decide)
    rw [show fgn 2 fg = fg from rfl, show dpn 2 (S 20 (P + 1 - 1)) dep = dep + 1 from rfl, st_2 n41] at hM2
    obtain ⟨V2, hV2⟩ : ∃ V2, V2 = us (vM V1 (S 20 (P + 1 - 1))) 31 24 2 := ⟨_, rfl⟩
    rw [← hV2] at hM2
    have hD1 := hM1.2.2.1.1
    have hz := VI.zb hD1.1
    have ed : cl (V1 31 20) = dep := by rw [hD1.2.2.2.1]; exact cl_nI (by omega)
    have e6 : cl (V1 31 6) = z1 := by rw [hD1.2.1]; exact cl_nI (by omega)
    have hVS : VS T z1 := R1.vs hT hD1.1
    have hs8 : T 8 4 = nI z1 := R1.2.2.1.trans hD1.2.1
    have eB : vB V1 = us (us V1 49 dep (V1 31 28)) 50 dep (V1 31 29) := by unfold vB; rw [ed]
    have eM : vM V1 (S 20 (P + 1 - 1)) = us (ifS (isK (T 2) (S 20 (P + 1 - 1) - 97) ∧ z1 < 24) (us (adR (us (us V1 49 dep (V1 31 28)) 50 dep (V1 31 29)) z1 (cl (S 20 (P + 1 - 1) - 97))) 48 dep (nI z1)) (vF (us (us (us V1 49 dep (V1 31 28)) 50 dep (V1 31 29)) 48 dep (-1)) (nI P))) 31 20 (V1 31 20 + 1) := by
      unfold vM
      rw [ed, e6, eB, hD1.2.1, R1.2.1 32 (by decide), hT.1, R1.1 2 (by decide)]
      have : V1 31 30 = nI P := by rw [hV1]; rfl
      rw [this]
    have v28 : V1 31 28 = V 31 28 := by rw [hV1]; rfl
    have v29 : V1 31 29 = V 31 29 := by rw [hV1]; rfl
    have v48 : V1 48 = V 48 := by rw [hV1]; rfl
    have v49 : V1 49 = V 49 := by rw [hV1]; rfl
    have v50 : V1 50 = V 50 := by rw [hV1]; rfl
    have sk2 : Sk V V2 dep ∧ V2 49 dep = V 31 28 ∧ V2 50 dep = V 31 29 := by
      rw [hV2, eM]
      by_cases g : isK (T 2) (S 20 (P + 1 - 1) - 97) ∧ z1 < 24
      · rw [ifS_t g]
        refine ⟨fun i hi => ⟨?_, ?_, ?_⟩, ?_, ?_⟩
        · show upd (V1 48) dep _ i = _
          rw [upd_n (by omega), v48]
        · show upd (V1 49) dep _ i = _
          rw [upd_n (by omega), v49]
        · show upd (V1 50) dep _ i = _
          rw [upd_n (by omega), v50]
        · show upd (V1 49) dep _ dep = _
          rw [upd_s, v28]
        · show upd (V1 50) dep _ dep = _
          rw [upd_s, v29]
      · rw [ifS_f g]
        refine ⟨fun i hi => ⟨?_, ?_, ?_⟩, ?_, ?_⟩
        · show upd (V1 48) dep _ i = _
          rw [upd_n (by omega), v48]
        · show upd (V1 49) dep _ i = _
          rw [upd_n (by omega), v49]
        · show upd (V1 50) dep _ i = _
          rw [upd_n (by omega), v50]
        · show upd (V1 49) dep _ dep = _
          rw [upd_s, v28]
        · show upd (V1 50) dep _ dep = _
          rw [upd_s, v29]
    obtain ⟨k3, q3, z3, f3, am3, hk3, hx3, hM3, hPn3⟩ := hM2.step (by omega) hn
    have hbody := body (xs := xs) (S := S) (W := W) (n := n) ihM hn hs hT (d := d) (dep := dep) (V0 := V2) (K := K) (m0 := k2 + 1 + 1) (by omega) (fun m' q' fg' P' z' f' am' V' T' a1 a2 a3 a4 a5 => hk m' q' fg' P' z' f' am' V' T' a1 a2 a3 a4 (fun i hi => ⟨(a5 i (by omega)).1.trans (sk2.1 i hi).1, (a5 i (by omega)).2.1.trans (sk2.1 i hi).2.1, (a5 i (by omega)).2.2.trans (sk2.1 i hi).2.2⟩) ((a5 dep (by omega)).2.1.trans sk2.2.1) ((a5 dep (by omega)).2.2.trans sk2.2.2))
    /- from the place after the letter -/
    have r45 : ∀ T2 : Sv, RQL S T2 V2 → T2 28 5 = nI P → R_77_45 xs d K (nI (dep + 1)) (V2 48 dep) T2 := by
      intro T2 R2 p2
      refine h_77_45 ?_
      unfold w_77_45
      rw [p2, show nI P + 2 = nI (P + 1 + 1) from nI_add P 2]
      have hes2 : (us T2 28 5 (nI (P + 1 + 1))) 19 1 = nI n := by show T2 19 1 = nI n; rw [R2.tx.1]; exact hs
      refine k_50p (n := n) (by omega) hn hes2 (by omega) hPn3 ⟨_, rfl, ?_⟩
      have etx : (us T2 28 5 (nI (P + 1 + 1))) 20 = S 20 := R2.tx.2
      rw [etx]
      refine ⟨fun n35 => ?_, fun n35 => ?_⟩
      · exact hbody k2 k2 2 fg (P + 1 + 1) z2 f2 am2 0 V2 _ (Nat.le_refl _) (by omega) (by omega) (by omega) ⟨hM2, Or.inl rfl, if_neg n35, by rw [stl_k hM2.2.2.1.2.2.1 (Or.inl rfl)]; exact R2.pl _, rfl⟩ (fun _ _ => ⟨rfl, rfl, rfl⟩)
      · have e35 : S 20 (P + 1 + 1 - 1) = 35 := Classical.byContradiction n35
        rw [e35] at hx3 hM3
        obtain rfl : q3 = 3 := (Option.some.inj hx3).symm
        rw [show fgn 3 fg = 0 from rfl, show dpn 3 35 (dep + 1) = dep + 1 from rfl, st_3] at hM3
        obtain ⟨V3, hV3⟩ : ∃ V3, V3 = us (us (us (us (us V2 31 31 (nI (P + 1 + 1))) 31 25 0) 31 26 0) 31 27 0) 31 24 3 := ⟨_, rfl⟩
        rw [← hV3] at hM3
        have R3 : RQL S (us (us T2 28 5 (nI (P + 1 + 1))) 28 5 (nI (P + 1 + 1 + 1))) V3 := by
          rw [hV3]
          exact ((((((R2.ct (by decide) (by decide) _).ct (by decide) (by decide) _).ct (by decide) (by decide) _).ct (by decide) (by decide) _).ct (by decide) (by decide) _).pl _).pl _
        have x1 : ∀ a, a ≠ 31 → V3 a = V2 a := fun a ha => by rw [hV3, us_ne ha, us_ne ha, us_ne ha, us_ne ha, us_ne ha]
        obtain ⟨d', rfl⟩ := cs_d (d := d) (by omega)
        refine c_78 ?_
        unfold w_78
        have e5 : (us T2 28 5 (nI (P + 1 + 1))) 28 5 = nI (P + 1 + 1) := rfl
        rw [e5, nI_1]
        refine k_83 (qa := 3) (qd := 4) (mo := 2) (S := S) (W := W) (n := n) (dep := dep + 1) (V := V3) (by omega) hn hs (by omega) (fun hh => absurd hh (by omega)) hM3.1 hM3.2.1 hM3.2.2.1 hM3.2.2.2 R3 rfl (fun m' fg' P' z' f' am' V' T' a1 a2 a3 a4 a5 a6 a7 a8 a9 => ⟨_, rfl, ?_⟩)
        have ham : am' < 100 := (am_lt ⟨a4.2.1.2.2.1, a4.2.1.2.2.2.1⟩ a4.2.2.2.2.2.2.1).1 (Or.inl rfl)
        have e26 : V' 31 26 = nI am' := a4.2.2.2.2.1
        have e31 : V' 31 31 = nI (P + 1 + 1) := (a8.2 31 (by decide) (by decide) (by decide)).trans (by rw [hV3]; rfl)
        have e48 : V' 48 = V2 48 := (a8.1 48 (by decide)).trans (x1 48 (by decide))
        have etop : vtop V' = V2 48 dep := by rw [(vtop_in a4.1 (by omega) a4.2.1.2.2.2.2.1).1, e48]; rfl
        have hpot := a4.2.2.2.2.2.2.2.1
        obtain ⟨km, hkm⟩ := run_pos a5 (by omega)
        have go : ∀ T3, RQL S T3 (vN V') → T3 28 5 = nI P' → R_77_78 xs (d' + 1) K (nI (dep + 1)) (V2 48 dep) 0 T3 := by
          intro T3 r3 p3
          have := hbody m' m' 4 fg' P' z' f' am' 0 V' T3 (Nat.le_refl _) (by omega) (by omega) (by omega) ⟨⟨a3, by omega, a4, a5⟩, Or.inr (Or.inl rfl), a9, by rw [stl_4 a4.2.2.1]; exact r3, p3⟩ (fun i hi => ⟨by rw [e48], by rw [a8.1 49 (by decide), x1 49 (by decide)], by rw [a8.1 50 (by decide), x1 50 (by decide)]⟩)
          rw [e48] at this
          exact this
        have hfail : (vtop V' = -1 ∨ ¬ V' 51 (cl (V' 31 26)) = -1) → CS xs d' 76 T' [.ref 28, .int (nI (P + 1 + 1))] (fun S2 v2 => v2 = none ∧ ((fun (S2 : Sv) (v2 : Option Value) => v2 = none ∧ (R_77_78 xs (d' + 1) K (nI (dep + 1)) (V2 48 dep) 0 S2)) S2 none)) := by
          intro hc
          refine k_76 (V := V') (f := f') (by omega) a6 a4.1.2.2.1 (by omega) (fun T3 r3 p3 => ⟨rfl, rfl, go T3 ?_ (p3.trans a7)⟩)
          unfold vN
          rw [ifS_t hc, e31]
          exact r3
        have en : T' 29 am' = V' 51 am' := a6.2.2.2.2.2.2.1 am' ham
        have ecl : cl (V' 31 26) = am' := by rw [e26]; exact cl_nI (by omega)
        refine ⟨fun g => hfail (Or.inl (etop.trans g)), fun g => ⟨am', ham, e26, fun g2 => ⟨am', ham, e26, rfl, ?_⟩, fun g2 => hfail (Or.inr (by rw [ecl, ← en]; exact g2))⟩⟩
        refine go _ ?_ a7
        unfold vN
        rw [ifS_f (by rw [etop, ecl, ← en]; rintro (hh | hh) <;> first | exact g hh | exact hh g2), ecl, etop]
        obtain ⟨y1, y2, y3, y4, y5, y6, y7, y8, y9⟩ := a6
        refine ⟨fun a ha => by rw [us_ne (fun e => ha (by rw [e]; decide))]; exact y1 a ha, fun a ha => by rw [us_ne (fun e => by rw [e] at ha; exact absurd ha (by decide))]; exact y2 a ha, y3, y4, y5, y6, fun i hi => ?_, y8, y9⟩
        show upd (T' 29) am' _ i = upd (V' 51) am' _ i
        by_cases e : i = am'
        · rw [e, upd_s, upd_s]
        · rw [upd_n e, upd_n e]; exact y7 i hi
    refine c_77 ⟨fun _ => ?_, fun g => absurd (nI_le (b := 10) (by omega) (by omega)) g⟩
    rw [hp, nI_1]
    refine k_50p (n := n) (by omega) hn hes (by omega) hPn2 ⟨_, rfl, ?_⟩
    rw [hR.tx.2]
    refine k_32 (z := z1) (by omega) hVS hs8 (fun a ha ea hda hz24 => ⟨_, rfl, fun _ => ?_, fun hh => absurd (nI_m1 (by omega)) hh⟩) (fun hno => ⟨_, rfl, fun hh => absurd rfl hh, fun _ => ?_⟩)
    · have eca : cl (S 20 (P + 1 - 1) - 97) = a := by rw [ea]; exact cl_nI (by omega)
      rw [ifS_t ⟨⟨a, ha, ea, hda⟩, hz24⟩, eca] at eM
      have e48 : V2 48 dep = nI z1 := by
        rw [hV2, eM]
        show upd (V1 48) dep (nI z1) dep = _
        rw [upd_s]
      have := r45 (adS T z1 a) ?_ hp
      · rw [e48] at this
        exact this
      · rw [hV2, eM]
        obtain ⟨y1, y2, y3, y4, y5, y6, y7, y8, y9⟩ := R1
        have t5 : T 5 = V1 35 := by rw [y1 5 (by decide), y2 35 (by decide), hT.2.2.2.1]
        refine ⟨fun b hb => ?_, fun b hb => ?_, rfl, ?_, ?_, ?_, y7, y8, y9⟩
        · unfold adS
          rw [us_ne (fun e => hb (by rw [e]; decide)), us_ne (fun e => hb (by rw [e]; decide)), us_ne (fun e => hb (by rw [e]; decide)), us_ne (fun e => hb (by rw [e]; decide)), us_ne (fun e => hb (by rw [e]; decide)), us_ne (fun e => hb (by rw [e]; decide)), us_ne (fun e => hb (by rw [e]; decide))]
          exact y1 b hb
        · have nb : ∀ x, ¬ x ∈ [32, 33, 34, 35, 36, 37, 41] → b ≠ x := fun x hx e => hx (e ▸ hb)
          unfold adR
          rw [us_ne (nb 31 (by decide)), us_ne (nb 31 (by decide)), us_ne (nb 48 (by decide)), us_ne (nb 31 (by decide)), us_ne (nb 40 (by decide)), us_ne (nb 40 (by decide)), us_ne (nb 39 (by decide)), us_ne (nb 39 (by decide)), us_ne (nb 39 (by decide)), us_ne (nb 38 (by decide)), us_ne (nb 50 (by decide)), us_ne (nb 49 (by decide))]
          exact y2 b hb
        · show upd (T 9) z1 (nI a) = upd (V1 38) z1 (nI a)
          rw [y4]
        · show upd (upd (upd (T 10) (3 * z1) (T 5 (3 * a))) (3 * z1 + 1) (T 5 (3 * a + 1))) (3 * z1 + 2) (T 5 (3 * a + 2)) = upd (upd (upd (V1 39) (3 * z1) (V1 35 (3 * a))) (3 * z1 + 1) (V1 35 (3 * a + 1))) (3 * z1 + 2) (V1 35 (3 * a + 2))
          rw [y5, t5]
        · show upd (upd (T 11) (2 * z1) (-1)) (2 * z1 + 1) (-1) = upd (upd (V1 40) (2 * z1) (-1)) (2 * z1 + 1) (-1)
          rw [y6]
    · rw [ifS_f hno] at eM
      have e48 : V2 48 dep = -1 := by
        rw [hV2, eM]
        show upd (V1 48) dep (-1) dep = _
        rw [upd_s]
      rw [hp]
      have hpot1 := hM1.2.2.1.2.2.2.2.2.2.2.1
      have Rv : RQL S T (us (us (us V1 49 dep (V1 31 28)) 50 dep (V1 31 29)) 48 dep (-1)) := ((R1.st (by omega) _).st (by omega) _).st (by omega) _
      refine k_76 (V := us (us (us V1 49 dep (V1 31 28)) 50 dep (V1 31 29)) 48 dep (-1)) (f := f1) (by omega) Rv hD1.2.2.1 (by omega) (fun T2 r2 p2 => ⟨rfl, ?_⟩)
      have := r45 T2 ?_ (p2.trans hp)
      · rw [e48] at this
        exact this
      · rw [hV2, eM]
        exact (r2.ct (by decide) (by decide) _).ct (by decide) (by decide) _
end OB
