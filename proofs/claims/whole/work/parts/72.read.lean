/-! read: both alike -/
def pre (A : Sv) : Sv := us (us (us (uf A 51 (fl 100 (-1) (A 51))) 31 34 0) 31 24 0) 31 20 0
theorem WT_0 {A : Sv} {z g am : Nat} (hV : VR A z) (h6 : A 31 6 = nI z) (h25 : A 31 25 = nI g) (h26 : A 31 26 = nI am) : WT (pre A) z 0 g 0 0 am 1 := by
  refine ⟨⟨hV, h6, rfl, rfl, fun i hi => absurd hi (Nat.not_lt_zero i), fun i hi => Or.inl ?_⟩, by simp [CI], rfl, h25, h26, fun h => absurd h (by omega), fun h => absurd h (by omega), by simp [pot], by omega⟩
  show fl 100 (-1) (A 51) i = -1
  exact if_pos hi
theorem AG_pre {A B : Sv} (h : AG A B) : AG (pre A) (pre B) := by
  unfold pre
  refine AG_us (AG_us (AG_us ?_))
  intro c hc
  by_cases e : c = 51
  · subst e
    rw [uf_self, uf_self, h 51 hc]
  · rw [uf_ne e, uf_ne e]; exact h c hc
theorem st_14 {p : Int32} {V : Sv} : stp 14 41 p V = us (vC (stl V)) 31 24 14 := rfl
section RD
variable {xs : Nat × (Nat → Int32)} {d n : Nat} {S : Sv} {K : Sv → Option Value → Prop}
/-- the class: it replays what the run says -/
theorem k_74 {B V0 W : Sv} {z g am : Nat} (hd : 60 ≤ d) (hn : n ≤ 300) (hs : B 19 1 = nI n) (hT : TB B) (hW : WT V0 z 0 g 0 0 am 1) (hr : run (B 20) n 0 g 0 1 V0 = some W) (hR : RQL B (us (us (uf B 29 (fl 100 (-1) (B 29))) 28 4 0) 28 5 1) V0)
    (h : ∀ T z' f' am' g', RQL B T W → DW W z' f' 0 → f' ≤ 300 → WT W z' 14 g' 0 f' am' (n + 1) → K T (some (.int (W 31 32)))) : CS xs d 74 B [.ref 28] K := by
  obtain ⟨d, rfl⟩ := cs_d (d := d) (by omega)
  obtain ⟨d, rfl⟩ := cs_d (d := d) (by omega)
  refine c_74 (fl_cs (o := 29) (n := 100) rfl (by omega) rfl ⟨rfl, ?_⟩)
  have hMP : MP B W n n 0 g 0 1 z 0 am V0 := ⟨by omega, by omega, hW, hr⟩
  obtain ⟨k1, q1, z1, f1, am1, hk1, hx1, -, -⟩ := hMP.step (by omega) hn
  have e40 : B 20 (1 - 1) = 40 := by
    have hx1 : (if B 20 (1 - 1) = 40 then some 1 else none) = some q1 := hx1
    refine Classical.byContradiction (fun g => ?_)
    rw [if_neg g] at hx1
    exact absurd hx1 (by simp)
  refine ob_all (xs := xs) (S := B) (W := W) (n := n) hn hs hT n n 0 g 0 1 z 0 am V0 _ (d + 1) _ (Nat.le_refl _) hMP (Or.inl rfl) e40 (by omega) (by omega) hR rfl (fun m' q' fg' P' z' f' am' V' T' b1 b2 b3 b4 b5 b6 b7 => ⟨_, rfl, ?_⟩)
  obtain ⟨bM, bb, bn, bR, -⟩ := b2
  have bR := bR.up
  have bq2 := bq_in bb
  obtain ⟨f5, y1, y2, y3, y4⟩ := W_stl bM.2.2.1 bq2.1 bq2.2
  obtain ⟨k6, q6, z6, f6, am6, hk6, hx6, hM6, hPn6⟩ := bM.step (by omega) hn
  rw [bn, b3] at hx6
  obtain rfl : q6 = 14 := by
    rcases ins_cases hx6 with ⟨g, e⟩ | ⟨-, g, e⟩ | ⟨-, g, e⟩ | ⟨-, g, e⟩
    · exact absurd g x41
    · exact absurd g (by decide)
    · exact e
    · omega
  rw [b3, show fgn 14 fg' = fg' from rfl, show dpn 14 41 (0 + 1) = 0 from rfl, st_14] at hM6
  have t20 : stl V' 31 20 = nI 1 := y3.2.2.2.1
  have t48 : stl V' 48 = V' 48 := y4.2 48 (by decide) (by decide) (by decide) (by decide) (by decide)
  have ec1 : cl (stl V' 31 20) - 1 = 0 := by rw [t20, cl_nI (by omega)]
  have etop' : vtop (stl V') = V' 48 0 := by unfold vtop; rw [ec1, t48]
  have evC : vC (stl V') = us (us (stl V') 31 20 (stl V' 31 20 - 1)) 31 32 (V' 48 0) := by
    unfold vC
    rw [ec1, if_pos rfl, etop']
  rw [evC] at hM6
  have hk0 : k6 = 0 := by
    cases k6 with
    | zero => rfl
    | succ k =>
      have hr6 := hM6.2.2.2
      rw [run_none (show nx 14 fg' 0 (B 20 (P' + 1 - 1)) = none from rfl)] at hr6
      exact absurd hr6 (by simp)
  subst hk0
  have hr6 := hM6.2.2.2
  have hr6 : (if (14 : Nat) = 14 then some (us (us (us (stl V') 31 20 (stl V' 31 20 - 1)) 31 32 (V' 48 0)) 31 24 14) else none) = some W := hr6
  rw [if_pos rfl] at hr6
  have eW := Option.some.inj hr6
  have hM61 := hM6.1
  have hW6 := hM6.2.2.1
  rw [eW] at hW6
  have e32 : W 31 32 = V' 48 0 := by rw [← eW]; rfl
  have hp := hW6.2.2.2.2.2.2.2.1
  have hp2 := hW6.2.2.2.2.2.2.2.2
  rw [← e32]
  refine h T' z6 f6 am6 fg' ?_ hW6.1 (by omega) (by rw [show n + 1 = P' + 1 by omega]; exact hW6)
  rw [← eW]
  exact ((bR.ct (by decide) (by decide) _).ct (by decide) (by decide) _).ct (by decide) (by decide) _
/-- the reference -/
theorem k_125 {g am z : Nat} (hd : 12 ≤ d) (hn : n ≤ 300) (hs : S 31 11 = nI n) (hg : S 31 25 = nI g)
    (h1 : bad (S 41) n 0 0 0 1 ≠ 0 → ∀ T, FB S T → K T (some (.int (-1000 - nI (bad (S 41) n 0 0 0 1)))))
    (h0 : bad (S 41) n 0 0 0 1 = 0 → FB S (run0 (S 41) n 0 g 0 1 (us (us S 31 24 0) 31 20 0)) → ∃ g0 W, WT (pre (run0 (S 41) n 0 g 0 1 (us (us S 31 24 0) 31 20 0))) z 0 g0 0 0 am 1 ∧ run (S 41) n 0 g0 0 1 (pre (run0 (S 41) n 0 g 0 1 (us (us S 31 24 0) 31 20 0))) = some W ∧ (Fs (pre (run0 (S 41) n 0 g 0 1 (us (us S 31 24 0) 31 20 0))) W → K W (some (.int (W 31 32))))) : CS xs d 125 S [.ref 31] K := by
  obtain ⟨d, rfl⟩ := cs_d (d := d) (by omega)
  have hb := bad_le (tx := S 41) (n := n) (q := 0) (fg := 0) (dep := 0) (p := 1)
  refine c_125 (k_124_x (n := n) (g := g) (by omega) hn hs hg (fun hF => ⟨_, rfl, fun le => ?_, fun gt => ?_⟩))
  · have b0 : bad (S 41) n 0 0 0 1 = 0 := by
      have := (nI_leI (b := 0) (by omega) (by omega)).mp le
      omega
    obtain ⟨g0, W, w1, w2, w3⟩ := h0 b0 hF
    generalize hA : run0 (S 41) n 0 g 0 1 (us (us S 31 24 0) 31 20 0) = A at w1 w2 w3 hF
    have main : ∀ (m q : Nat) (T : Sv), q + m = 100 → (∀ a, a ≠ 51 → T a = A a) → (∀ i, T 51 i = if i < q then -1 else A 51 i) → R_125_18 xs d K (nI q) T := by
      intro m
      induction m with
      | zero =>
        intro q T hq hc h51
        refine h_125_18 ⟨fun _ => ?_, fun g => absurd (nI_le (a := 100) (b := q) (by omega) (by omega)) g⟩
        have eT : T = uf A 51 (fl 100 (-1) (A 51)) := by
          funext a
          by_cases e : a = 51
          · subst e
            rw [uf_self]
            funext i
            rw [h51 i, show q = 100 by omega]
            rfl
          · rw [uf_ne e]; exact hc a e
        subst eT
        have e11 : (us (uf A 51 (fl 100 (-1) (A 51))) 31 34 0) 31 11 = nI n := by
          show A 31 11 = nI n
          rw [hF.2 11 (by omega)]; exact hs
        have e41 : (us (uf A 51 (fl 100 (-1) (A 51))) 31 34 0) 41 = S 41 := by
          show A 41 = S 41
          exact hF.1 41 (by decide) (by decide) (by decide) (by decide)
        refine k_124_1 (S := us (uf A 51 (fl 100 (-1) (A 51))) 31 34 0) (n := n) (z := z) (g := g0) (am := am) (W := W) (by omega) hn e11 w1 (by rw [e41]; exact w2) (fun hFs => ⟨_, rfl, w3 ⟨fun a ha => ?_, ?_⟩⟩)
        · have n31 : a ≠ 31 := fun e => ha (by rw [e]; decide)
          rw [hFs.1 a ha]
          unfold pre
          simp only [us_ne n31]
        · exact hFs.2
      | succ m ih =>
        intro q T hq hc h51
        refine h_125_18 ⟨fun g => absurd g (nI_ge (b := 100) (by omega) (by omega)), fun _ => ⟨q, by omega, rfl, ?_⟩⟩
        rw [nI_1]
        refine ih (q + 1) _ (by omega) (fun a ha => by rw [us_ne ha]; exact hc a ha) (fun i => ?_)
        show upd (T 51) q (-1) i = _
        by_cases e : i = q
        · rw [e, upd_s, if_pos (by omega)]
        · rw [upd_n e, h51 i]
          by_cases hi : i < q
          · rw [if_pos hi, if_pos (by omega)]
          · rw [if_neg hi, if_neg (by omega)]
    exact main 100 0 A (by omega) (fun _ _ => rfl) (fun i => by rw [if_neg (by omega)])
  · exact h1 (fun e => gt (by rw [e]; decide)) _ hF
end RD
theorem FB_run0 {tx : Nat → Int32} : ∀ {n q fg dep p : Nat} {V : Sv}, CI q fg dep → V 31 25 = nI fg → V 31 20 = nI dep → FB V (run0 tx n q fg dep p V)
  | 0, q, fg, dep, p, V, _, _, _ => ⟨fun _ _ _ _ _ => rfl, fun _ _ => rfl⟩
  | n + 1, q, fg, dep, p, V, hC, h25, h20 => by
    cases hx : nx q fg dep (tx (p - 1)) with
    | none => rw [run0_none hx]; exact ⟨fun _ _ _ _ _ => rfl, fun _ _ => rfl⟩
    | some q' =>
      rw [run0_some hx]
      obtain ⟨u1, u2, u3, u4⟩ := s0_ctl (p := nI p) hC hx h25 h20
      exact FB_tr u4 (FB_run0 (CI_nx hC hx) u2 u3)
theorem op_17 : op_ok w_law_17 := by
  intro xs R S i h hi hR
  obtain ⟨z, n, f, hz, hn, hf, s1, s2, s3, s4, s5, s6, hV, hW⟩ := h.VR
  have hI := h
  obtain ⟨_, _, _, iV, i1, i2, i3, ⟨e2, e3, e4, e5, e6⟩, ⟨g1, g2, g3, g4, g5⟩, ⟨t1, t2, t3, t4⟩, w1, w2, w3⟩ := hI
  have hb := bad_le (tx := S 20) (n := n) (q := 0) (fg := 0) (dep := 0) (p := 1)
  obtain ⟨g, hg⟩ := ex_nI (S 31 25)
  refine c_19 (d := 999) (k_62 (n := n) (by omega) hn s3 (fun B fB => ⟨_, rfl, fun b0 => ?_, fun bn => ⟨_, rfl, ?_⟩⟩))
  · have b0 : bad (S 20) n 0 0 0 1 = 0 := nI_inj (b := 0) (by omega) (by omega) b0
    obtain ⟨A, hA⟩ : ∃ A, A = run0 (S 41) n 0 g 0 1 (us (us S 31 24 0) 31 20 0) := ⟨_, rfl⟩
    have hFA : FB S A := by
      rw [hA]
      refine FB_tr (B := us (us S 31 24 0) 31 20 0) ⟨fun a n1 _ _ _ => by rw [us_ne n1, us_ne n1], fun k hk => ?_⟩ (FB_run0 (by simp [CI]) hg rfl)
      show upd (upd (S 31) 24 0) 20 0 k = _
      rw [upd_n (by omega), upd_n (by omega)]
    have aS : ∀ a, a ≠ 31 → a ≠ 48 → a ≠ 49 → a ≠ 50 → A a = S a := hFA.1
    have vA' : VR A z := by
      show VI (A 32) (A 33) (A 34) (A 35) (A 36) (A 37) z (A 38) (A 39) (A 40)
      rw [aS 32 (by decide) (by decide) (by decide) (by decide), aS 33 (by decide) (by decide) (by decide) (by decide), aS 34 (by decide) (by decide) (by decide) (by decide), aS 35 (by decide) (by decide) (by decide) (by decide), aS 36 (by decide) (by decide) (by decide) (by decide), aS 37 (by decide) (by decide) (by decide) (by decide), aS 38 (by decide) (by decide) (by decide) (by decide), aS 39 (by decide) (by decide) (by decide) (by decide), aS 40 (by decide) (by decide) (by decide) (by decide)]
      exact hW
    have a6 : A 31 6 = nI z := (hFA.2 6 (by omega)).trans s2
    obtain ⟨g0, hg0⟩ := ex_nI (A 31 25)
    obtain ⟨am, ham⟩ := ex_nI (A 31 26)
    have hWA : WT (pre A) z 0 g0 0 0 am 1 := WT_0 vA' a6 hg0 ham
    have b20 : B 20 = S 20 := fB 20 (by decide)
    have b0' : bad (B 20) n 0 g0 0 1 = 0 := by
      rw [b20, bad_fr (fg := g0) (fg' := 0) (by decide)]
      exact b0
    obtain ⟨W, hr⟩ := run_ok (V := pre A) (by omega) b0'
    have hTB : TB B := by
      refine ⟨?_, ?_, ?_, ?_, ?_, ?_⟩
      · rw [fB 32 (by decide), fB 2 (by decide)]; exact e2
      · rw [fB 33 (by decide), fB 3 (by decide)]; exact e3
      · rw [fB 34 (by decide), fB 4 (by decide)]; exact e4
      · rw [fB 35 (by decide), fB 5 (by decide)]; exact e5
      · rw [fB 2 (by decide)]; exact iV.1
      · rw [fB 2 (by decide), fB 36 (by decide), fB 37 (by decide), fB 6 (by decide), fB 7 (by decide)]; exact e6
    have hRQ : RQL B (us (us (uf B 29 (fl 100 (-1) (B 29))) 28 4 0) 28 5 1) (pre A) := by
      refine ⟨fun a ha => ?_, fun a ha => ?_, ?_, ?_, ?_, ?_, fun i hi => ?_, ?_, rfl⟩
      · rw [us_ne (fun e => ha (by rw [e]; decide)), us_ne (fun e => ha (by rw [e]; decide)), uf_ne (fun e => ha (by rw [e]; decide))]
      · have nb : ∀ x, ¬ x ∈ [32, 33, 34, 35, 36, 37, 41] → a ≠ x := fun x hx e => hx (e ▸ ha)
        unfold pre
        rw [us_ne (nb 31 (by decide)), us_ne (nb 31 (by decide)), us_ne (nb 31 (by decide)), uf_ne (nb 51 (by decide)), aS a (nb 31 (by decide)) (nb 48 (by decide)) (nb 49 (by decide)) (nb 50 (by decide)), fB a (nb 27 (by decide))]
      · show B 8 4 = A 31 6
        rw [fB 8 (by decide), a6]; exact s1
      · show B 9 = A 38
        rw [fB 9 (by decide), aS 38 (by decide) (by decide) (by decide) (by decide)]; exact g3.symm
      · show B 10 = A 39
        rw [fB 10 (by decide), aS 39 (by decide) (by decide) (by decide) (by decide)]; exact g4.symm
      · show B 11 = A 40
        rw [fB 11 (by decide), aS 40 (by decide) (by decide) (by decide) (by decide)]; exact g5.symm
      · show fl 100 (-1) (B 29) i = fl 100 (-1) (A 51) i
        rw [show fl 100 (-1) (B 29) i = -1 from if_pos hi, show fl 100 (-1) (A 51) i = -1 from if_pos hi]
      · show B 30 = A 52
        rw [fB 30 (by decide), aS 52 (by decide) (by decide) (by decide) (by decide)]; exact w3.symm
    refine k_74 (n := n) (by omega) hn (by rw [fB 19 (by decide)]; exact s3) hTB hWA hr hRQ (fun T z' f' am' g' rW dW hf' wW => ⟨_, rfl, _, rfl, ?_⟩)
    have hAG : AG T S := by
      intro c hc
      rw [rW.1 c (by simp; omega)]
      exact fB c (by omega)
    have tx : T 41 = S 41 := hAG 41 (by omega)
    have tb : B 20 = T 41 := by rw [b20, tx]; exact t3.symm
    obtain ⟨A', hA'⟩ : ∃ A', A' = run0 (T 41) n 0 g 0 1 (us (us T 31 24 0) 31 20 0) := ⟨_, rfl⟩
    have hAA : AG A' A := by
      rw [hA', hA, tx]
      exact AG_run0 (AG_us (AG_us hAG))
    rw [tb] at hr
    obtain ⟨W', hr', hWW⟩ := AG_run (AG_pre hAA) hr
    refine k_125 (n := n) (g := g) (am := am) (z := z) (by omega) hn (by rw [hAG 31 (by omega)]; exact s4) (by rw [hAG 31 (by omega)]; exact hg) (fun hne => absurd (by rw [tx, t3]; exact b0) hne) (fun _ hF => ?_)
    rw [← hA'] at hF ⊢
    refine ⟨g0, W', WT_0 ?_ (by rw [hAA 31 (by omega)]; exact a6) (by rw [hAA 31 (by omega)]; exact hg0) (by rw [hAA 31 (by omega)]; exact ham), hr', fun hFs => ⟨_, rfl, fun _ => hR _ ?_, fun hne => absurd (by rw [hWW 31 (by omega)]) hne⟩⟩
    · show VI (A' 32) (A' 33) (A' 34) (A' 35) (A' 36) (A' 37) z (A' 38) (A' 39) (A' 40)
      rw [hAA 32 (by omega), hAA 33 (by omega), hAA 34 (by omega), hAA 35 (by omega), hAA 36 (by omega), hAA 37 (by omega), hAA 38 (by omega), hAA 39 (by omega), hAA 40 (by omega)]
      exact vA'
    · have lo : ∀ a, a < 31 → W' a = T a := by
        intro a ha
        rw [hFs.1 a (by simp; omega)]
        unfold pre
        rw [us_ne (by omega), us_ne (by omega), us_ne (by omega), uf_ne (by omega)]
        exact hF.1 a (by omega) (by omega) (by omega) (by omega)
      have lo2 : ∀ a, a < 31 → ¬ a ∈ [8, 9, 10, 11, 27, 28, 29, 30] → W' a = S a := by
        intro a ha hn
        have hn' : ∀ x, x ∈ [8, 9, 10, 11, 27, 28, 29, 30] → a ≠ x := fun x hx e => hn (e ▸ hx)
        rw [lo a ha, rW.1 a (by simp at hn ⊢; omega)]
        exact fB a (hn' 27 (by decide))
      have hi2 : ∀ a, a ∈ [32, 33, 34, 35, 36, 37, 41] → W' a = S a := by
        intro a ha
        have h31 : 31 ≤ a := by simp at ha; omega
        rw [hWW a h31, rW.2.1 a ha]
        exact fB a (by omega)
      have hVT : VS T z' := rW.vs hTB dW.1
      have hVT : VI (T 2) (T 3) (T 4) (T 5) (T 6) (T 7) z' (T 9) (T 10) (T 11) := hVT
      obtain ⟨-, -, r3, r4, r5, r6, -, r8, r9⟩ := rW
      refine ⟨z', n, f', ?_, hn, hf', ?_, ?_, ?_, ?_, ?_⟩
      · rw [lo 2 (by omega), lo 3 (by omega), lo 4 (by omega), lo 5 (by omega), lo 6 (by omega), lo 7 (by omega), lo 9 (by omega), lo 10 (by omega), lo 11 (by omega)]
        exact hVT
      · rw [lo2 2 (by omega) (by decide), lo2 5 (by omega) (by decide), lo2 6 (by omega) (by decide), lo2 7 (by omega) (by decide)]
        exact i3
      · rw [lo2 2 (by omega) (by decide), lo2 3 (by omega) (by decide), lo2 4 (by omega) (by decide), lo2 5 (by omega) (by decide), lo2 6 (by omega) (by decide), lo2 7 (by omega) (by decide), hi2 32 (by decide), hi2 33 (by decide), hi2 34 (by decide), hi2 35 (by decide), hi2 36 (by decide), hi2 37 (by decide)]
        exact ⟨e2, e3, e4, e5, e6⟩
      · rw [lo 8 (by omega), lo 9 (by omega), lo 10 (by omega), lo 11 (by omega), hWW 31 (by omega), hWW 38 (by omega), hWW 39 (by omega), hWW 40 (by omega)]
        exact ⟨r3.trans dW.2.1, dW.2.1, r4.symm, r5.symm, r6.symm⟩
      · have e11 : W' 31 11 = nI n := by
          rw [hFs.2]
          show A' 31 11 = nI n
          rw [hF.2 11 (by omega), hAG 31 (by omega)]; exact s4
        rw [lo2 19 (by omega) (by decide), lo2 20 (by omega) (by decide), hi2 41 (by decide)]
        refine ⟨s3, e11, t3, fun i hi => t4 i ?_⟩
        have := nI_inj (by omega) (by omega) (s3.symm.trans t1)
        omega
      · rw [lo 28 (by omega), lo 30 (by omega), hWW 31 (by omega), hWW 52 (by omega)]
        exact ⟨r9.trans dW.2.2.1, dW.2.2.1, r8.symm⟩
  · have hb1 : bad (S 20) n 0 0 0 1 ≠ 0 := fun e => bn (by rw [e]; rfl)
    have e41 : B 41 = S 20 := by rw [fB 41 (by decide)]; exact t3
    refine k_125 (n := n) (g := g) (am := 0) (z := z) (by omega) hn (by rw [fB 31 (by decide)]; exact s4) (by rw [fB 31 (by decide)]; exact hg) (fun _ T hF => ⟨_, rfl, fun _ => hR _ ?_, fun hne => absurd ?_ hne⟩) (fun hh => absurd (by rw [e41] at hh; exact hh) hb1)
    · have e31 : ∀ k, k < 20 ∨ 32 < k → T 31 k = S 31 k := fun k hk => by rw [hF.2 k hk, fB 31 (by decide)]
      have ec : ∀ a, a ≠ 27 → a ≠ 31 → a ≠ 48 → a ≠ 49 → a ≠ 50 → T a = S a := fun a n0 n1 n2 n3 n4 => (hF.1 a n1 n2 n3 n4).trans (fB a n0)
      refine h.of_same (fun c hk => ec c (by rintro rfl; revert hk; decide) (by rintro rfl; revert hk; decide) (by rintro rfl; revert hk; decide) (by rintro rfl; revert hk; decide) (by rintro rfl; revert hk; decide)) (by rw [ec 8 (by decide) (by decide) (by decide) (by decide) (by decide)]) (e31 6 (by omega)) (by rw [ec 19 (by decide) (by decide) (by decide) (by decide) (by decide)]) (e31 11 (by omega)) (by rw [ec 28 (by decide) (by decide) (by decide) (by decide) (by decide)]) (e31 34 (by omega))
    · rw [e41]
