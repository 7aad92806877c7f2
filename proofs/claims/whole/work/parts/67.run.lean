/-! the reference's whole reading, as a function of the cells it looks at -/
def vC0 (V : Sv) : Sv := if cl (V 31 20) - 1 = 0 then us (us V 31 20 (V 31 20 - 1)) 31 32 (vtop V) else vK V
def hdn0 (q' : Nat) (c p : Int32) (V : Sv) : Sv := if q' = 1 then us V 31 30 p else if q' = 2 then us (us (vB V) 48 (cl (V 31 20)) (-1)) 31 20 (V 31 20 + 1) else if q' = 3 then us V 31 31 p else if q' = 5 ∨ q' = 6 then us (us V 31 28 c) 31 29 p else if c = 41 then vC0 V else V
def stp0 (q' : Nat) (c p : Int32) (V : Sv) : Sv := us (tl q' c (hdn0 q' c p V)) 31 24 (nI q')
def run0 (tx : Nat → Int32) : Nat → Nat → Nat → Nat → Nat → Sv → Sv
  | 0, _, _, _, _, V => V
  | n + 1, q, fg, dep, p, V => match nx q fg dep (tx (p - 1)) with
    | none => V
    | some q' => run0 tx n q' (fgn q' fg) (dpn q' (tx (p - 1)) dep) (p + 1) (stp0 q' (tx (p - 1)) (nI p) V)
theorem run0_none {tx : Nat → Int32} {n q fg dep p : Nat} {V : Sv} (h : nx q fg dep (tx (p - 1)) = none) : run0 tx (n + 1) q fg dep p V = V := by
  show (match nx q fg dep (tx (p - 1)) with | none => V | some q' => run0 tx n q' (fgn q' fg) (dpn q' (tx (p - 1)) dep) (p + 1) (stp0 q' (tx (p - 1)) (nI p) V)) = V
  rw [h]
theorem run0_some {tx : Nat → Int32} {n q fg dep p q' : Nat} {V : Sv} (h : nx q fg dep (tx (p - 1)) = some q') : run0 tx (n + 1) q fg dep p V = run0 tx n q' (fgn q' fg) (dpn q' (tx (p - 1)) dep) (p + 1) (stp0 q' (tx (p - 1)) (nI p) V) := by
  show (match nx q fg dep (tx (p - 1)) with | none => V | some q' => run0 tx n q' (fgn q' fg) (dpn q' (tx (p - 1)) dep) (p + 1) (stp0 q' (tx (p - 1)) (nI p) V)) = _
  rw [h]
noncomputable def run (tx : Nat → Int32) : Nat → Nat → Nat → Nat → Nat → Sv → Option Sv
  | 0, q, _, _, _, V => if q = 14 then some V else none
  | n + 1, q, fg, dep, p, V => match nx q fg dep (tx (p - 1)) with
    | none => none
    | some q' => run tx n q' (fgn q' fg) (dpn q' (tx (p - 1)) dep) (p + 1) (stp q' (tx (p - 1)) (nI p) V)
theorem run_none {tx : Nat → Int32} {n q fg dep p : Nat} {V : Sv} (h : nx q fg dep (tx (p - 1)) = none) : run tx (n + 1) q fg dep p V = none := by
  show (match nx q fg dep (tx (p - 1)) with | none => none | some q' => run tx n q' (fgn q' fg) (dpn q' (tx (p - 1)) dep) (p + 1) (stp q' (tx (p - 1)) (nI p) V)) = none
  rw [h]
theorem run_some {tx : Nat → Int32} {n q fg dep p q' : Nat} {V : Sv} (h : nx q fg dep (tx (p - 1)) = some q') : run tx (n + 1) q fg dep p V = run tx n q' (fgn q' fg) (dpn q' (tx (p - 1)) dep) (p + 1) (stp q' (tx (p - 1)) (nI p) V) := by
  show (match nx q fg dep (tx (p - 1)) with | none => none | some q' => run tx n q' (fgn q' fg) (dpn q' (tx (p - 1)) dep) (p + 1) (stp q' (tx (p - 1)) (nI p) V)) = _
  rw [h]
theorem run_ok {tx : Nat → Int32} : ∀ {n q fg dep p : Nat} {V : Sv}, 1 ≤ p → bad tx n q fg dep p = 0 → ∃ W, run tx n q fg dep p V = some W
  | 0, q, fg, dep, p, V, hp, h => by
    have h : (if q = 14 then 0 else p) = 0 := h
    by_cases e : q = 14
    · exact ⟨V, if_pos e⟩
    · rw [if_neg e] at h; omega
  | n + 1, q, fg, dep, p, V, hp, h => by
    cases hx : nx q fg dep (tx (p - 1)) with
    | none => rw [bad_none hx] at h; omega
    | some q' =>
      rw [bad_some hx] at h
      rw [run_some hx]
      exact run_ok (by omega) h
/-! cells that are looked at -/
abbrev AG (T V : Sv) : Prop := ∀ c, 31 ≤ c → T c = V c
theorem AG_us {T V : Sv} {a j : Nat} {x : Int32} (h : AG T V) : AG (us T a j x) (us V a j x) := by
  intro c hc
  by_cases e : c = a
  · subst e
    rw [us_self, us_self, h c hc]
  · rw [us_ne e, us_ne e]; exact h c hc
theorem AG_ite {P : Prop} [Decidable P] {A B A' B' : Sv} (h : AG A B) (h' : AG A' B') : AG (if P then A else A') (if P then B else B') := by
  split
  · exact h
  · exact h'
theorem AG_ifS {P Q : Prop} {A B A' B' : Sv} (e : P = Q) (h : AG A B) (h' : AG A' B') : AG (ifS P A A') (ifS Q B B') := by
  subst e
  unfold ifS
  split
  · exact h
  · exact h'
section AGs
variable {T V : Sv} {c p : Int32} {q' : Nat}
theorem AG_tl (h : AG T V) : AG (tl q' c T) (tl q' c V) := by
  unfold tl
  rw [h 31 (by decide)]
  exact AG_ite (AG_us (AG_us (AG_us h))) (AG_ite (AG_us h) (AG_ite (AG_us (AG_us h)) h))
theorem AG_top (h : AG T V) : vtop T = vtop V := by
  unfold vtop
  rw [h 31 (by decide), h 48 (by decide)]
theorem AG_F {x : Int32} (h : AG T V) : AG (vF T x) (vF V x) := by
  unfold vF
  rw [h 31 (by decide)]
  exact AG_us (AG_us h)
theorem AG_N (h : AG T V) : AG (vN T) (vN V) := by
  unfold vN
  rw [AG_top h, h 31 (by decide), h 51 (by decide)]
  exact AG_ifS rfl (AG_F h) (AG_us h)
theorem AG_A (h : AG T V) : AG (vA T) (vA V) := by
  have e : vv T = vv V := by unfold vv; rw [h 31 (by decide)]
  unfold vA
  rw [AG_top h, e, h 31 (by decide), h 33 (by decide), h 36 (by decide), h 37 (by decide), h 38 (by decide)]
  exact AG_ifS rfl (AG_us h) (AG_F h)
theorem AG_L {t : Int32} {g : Prop} (h : AG T V) : AG (vL T t g) (vL V t g) := by
  unfold vL
  rw [AG_top h, h 31 (by decide), h 34 (by decide), h 38 (by decide)]
  exact AG_ifS rfl (AG_us h) (AG_F h)
theorem AG_stl (h : AG T V) : AG (stl T) (stl V) := by
  unfold stl
  rw [h 31 (by decide), h 51 (by decide)]
  exact AG_ite (AG_N h) (AG_ite (AG_A h) (AG_ite (AG_L h) h))
theorem AG_B (h : AG T V) : AG (vB T) (vB V) := by
  unfold vB
  rw [h 31 (by decide)]
  exact AG_us (AG_us h)
theorem AG_ad {z a : Nat} (h : AG T V) : AG (adR T z a) (adR V z a) := by
  unfold adR
  rw [h 35 (by decide)]
  exact AG_us (AG_us (AG_us (AG_us (AG_us (AG_us (AG_us h))))))
theorem AG_M (h : AG T V) : AG (vM T c) (vM V c) := by
  unfold vM
  rw [h 31 (by decide), h 32 (by decide)]
  exact AG_us (AG_ifS rfl (AG_us (AG_ad (AG_B h))) (AG_F (AG_us (AG_B h))))
theorem AG_K (h : AG T V) : AG (vK T) (vK V) := by
  unfold vK
  rw [h 31 (by decide), h 49 (by decide), h 50 (by decide)]
  exact AG_us (AG_us (AG_us h))
theorem AG_C (h : AG T V) : AG (vC T) (vC V) := by
  unfold vC
  rw [AG_top h, h 31 (by decide)]
  exact AG_ite (AG_us (AG_us h)) (AG_L (AG_K h))
theorem AG_C0 (h : AG T V) : AG (vC0 T) (vC0 V) := by
  unfold vC0
  rw [AG_top h, h 31 (by decide)]
  exact AG_ite (AG_us (AG_us h)) (AG_K h)
theorem AG_stp (h : AG T V) : AG (stp q' c p T) (stp q' c p V) := by
  unfold stp
  refine AG_us (AG_tl ?_)
  have h2 : AG (if q' = 5 ∨ q' = 6 ∨ c = 41 then stl T else T) (if q' = 5 ∨ q' = 6 ∨ c = 41 then stl V else V) := AG_ite (AG_stl h) h
  unfold hdn
  exact AG_ite (AG_us h2) (AG_ite (AG_M h2) (AG_ite (AG_us h2) (AG_ite (AG_us (AG_us h2)) (AG_ite (AG_L h2) (AG_ite (AG_C h2) h2)))))
theorem AG_stp0 (h : AG T V) : AG (stp0 q' c p T) (stp0 q' c p V) := by
  unfold stp0
  refine AG_us (AG_tl ?_)
  unfold hdn0
  rw [h 31 (by decide)]
  exact AG_ite (AG_us h) (AG_ite (AG_us (AG_us (AG_B h))) (AG_ite (AG_us h) (AG_ite (AG_us (AG_us h)) (AG_ite (AG_C0 h) h))))
end AGs
theorem AG_run0 {tx : Nat → Int32} : ∀ {n q fg dep p : Nat} {T V : Sv}, AG T V → AG (run0 tx n q fg dep p T) (run0 tx n q fg dep p V)
  | 0, q, fg, dep, p, T, V, h => h
  | n + 1, q, fg, dep, p, T, V, h => by
    cases hx : nx q fg dep (tx (p - 1)) with
    | none => rw [run0_none hx, run0_none hx]; exact h
    | some q' => rw [run0_some hx, run0_some hx]; exact AG_run0 (AG_stp0 h)
theorem AG_run {tx : Nat → Int32} : ∀ {n q fg dep p : Nat} {T V W : Sv}, AG T V → run tx n q fg dep p V = some W → ∃ W', run tx n q fg dep p T = some W' ∧ AG W' W
  | 0, q, fg, dep, p, T, V, W, h, e => by
    have e : (if q = 14 then some V else none) = some W := e
    by_cases g : q = 14
    · rw [if_pos g] at e
      exact ⟨T, if_pos g, by rw [← Option.some.inj e]; exact h⟩
    · rw [if_neg g] at e
      exact absurd e (by simp)
  | n + 1, q, fg, dep, p, T, V, W, h, e => by
    cases hx : nx q fg dep (tx (p - 1)) with
    | none => rw [run_none hx] at e; exact absurd e (by simp)
    | some q' =>
      rw [run_some hx] at e
      rw [run_some hx]
      exact AG_run (AG_stp h) e
/-! what is not touched -/
abbrev cS : List Nat := [31, 38, 39, 40, 48, 49, 50, 51, 52]
abbrev Fs (V V' : Sv) : Prop := (∀ a, ¬ a ∈ cS → V' a = V a) ∧ V' 31 11 = V 31 11
theorem Fs_us {V A : Sv} {a j : Nat} {x : Int32} (h : Fs V A) (ha : a ∈ cS) (hj : a = 31 → j ≠ 11) : Fs V (us A a j x) := by
  refine ⟨fun b hb => ?_, ?_⟩
  · rw [us_ne (show b ≠ a from fun e => hb (by rw [e]; exact ha))]; exact h.1 b hb
  · by_cases e : a = 31
    · subst e
      rw [us_self, upd_n (Ne.symm (hj rfl))]; exact h.2
    · rw [us_ne (Ne.symm e)]; exact h.2
theorem Fs_ite {P : Prop} [Decidable P] {V A A' : Sv} (h : Fs V A) (h' : Fs V A') : Fs V (if P then A else A') := by
  split
  · exact h
  · exact h'
theorem Fs_ifS {P : Prop} {V A A' : Sv} (h : Fs V A) (h' : Fs V A') : Fs V (ifS P A A') := by
  unfold ifS
  split
  · exact h
  · exact h'
section FSs
variable {V A : Sv} {c p : Int32} {q' : Nat}
theorem Fs_F {x : Int32} (h : Fs V A) : Fs V (vF A x) := Fs_us (Fs_us h (by decide) (fun _ => by omega)) (by decide) (fun _ => by omega)
theorem Fs_L {t : Int32} {g : Prop} (h : Fs V A) : Fs V (vL A t g) := Fs_ifS (Fs_us h (by decide) (fun _ => by omega)) (Fs_F h)
theorem Fs_stl (h : Fs V A) : Fs V (stl A) := by
  unfold stl
  exact Fs_ite (Fs_ifS (Fs_F h) (Fs_us h (by decide) (fun _ => by omega))) (Fs_ite (Fs_ifS (Fs_us h (by decide) (fun _ => by omega)) (Fs_F h)) (Fs_ite (Fs_L h) h))
theorem Fs_B (h : Fs V A) : Fs V (vB A) := Fs_us (Fs_us h (by decide) (fun _ => by omega)) (by decide) (fun _ => by omega)
theorem Fs_tl (h : Fs V A) : Fs V (tl q' c A) := by
  unfold tl
  exact Fs_ite (Fs_us (Fs_us (Fs_us h (by decide) (fun _ => by omega)) (by decide) (fun _ => by omega)) (by decide) (fun _ => by omega)) (Fs_ite (Fs_us h (by decide) (fun _ => by omega)) (Fs_ite (Fs_us (Fs_us h (by decide) (fun _ => by omega)) (by decide) (fun _ => by omega)) h))
theorem Fs_K (h : Fs V A) : Fs V (vK A) := Fs_us (Fs_us (Fs_us h (by decide) (fun _ => by omega)) (by decide) (fun _ => by omega)) (by decide) (fun _ => by omega)
theorem Fs_M (h : Fs V A) : Fs V (vM A c) := by
  unfold vM adR
  exact Fs_us (Fs_ifS (Fs_us (Fs_us (Fs_us (Fs_us (Fs_us (Fs_us (Fs_us (Fs_us (Fs_B h) (by decide) (fun _ => by omega)) (by decide) (fun _ => by omega)) (by decide) (fun _ => by omega)) (by decide) (fun _ => by omega)) (by decide) (fun _ => by omega)) (by decide) (fun _ => by omega)) (by decide) (fun _ => by omega)) (by decide) (fun _ => by omega)) (Fs_F (Fs_us (Fs_B h) (by decide) (fun _ => by omega)))) (by decide) (fun _ => by omega)
theorem Fs_stp : Fs V (stp q' c p V) := by
  unfold stp
  refine Fs_us (Fs_tl ?_) (by decide) (fun _ => by omega)
  have h0 : Fs V V := ⟨fun _ _ => rfl, rfl⟩
  have h2 : Fs V (if q' = 5 ∨ q' = 6 ∨ c = 41 then stl V else V) := Fs_ite (Fs_stl h0) h0
  unfold hdn
  refine Fs_ite (Fs_us h2 (by decide) (fun _ => by omega)) (Fs_ite (Fs_M h2) (Fs_ite (Fs_us h2 (by decide) (fun _ => by omega)) (Fs_ite (Fs_us (Fs_us h2 (by decide) (fun _ => by omega)) (by decide) (fun _ => by omega)) (Fs_ite (Fs_L h2) (Fs_ite ?_ h2)))))
  unfold vC
  exact Fs_ite (Fs_us (Fs_us h2 (by decide) (fun _ => by omega)) (by decide) (fun _ => by omega)) (Fs_L (Fs_K h2))
end FSs
theorem Fs_tr {A B C : Sv} (h : Fs A B) (h' : Fs B C) : Fs A C := ⟨fun a ha => (h'.1 a ha).trans (h.1 a ha), h'.2.trans h.2⟩
section GO2
variable {xs : Nat × (Nat → Int32)} {d : Nat} {S T : Sv} {K : Sv → Option Value → Prop} {c : Int32}
theorem s0_ctl {V : Sv} {q q' fg dep : Nat} {p : Int32} (hC : CI q fg dep) (hn : nx q fg dep c = some q') (h25 : V 31 25 = nI fg) (h20 : V 31 20 = nI dep) : stp0 q' c p V 31 24 = nI q' ∧ stp0 q' c p V 31 25 = nI (fgn q' fg) ∧ stp0 q' c p V 31 20 = nI (dpn q' c dep) ∧ FB V (stp0 q' c p V) := by
  obtain ⟨x1, x2, x3, x4, x5⟩ := nx_c hC.1 hn
  have c5 := hC.2.2.2.2.1
  have ed : cl (V 31 20) = dep := by rw [h20]; exact cl_nI (by omega)
  have key : hdn0 q' c p V 31 25 = nI fg ∧ hdn0 q' c p V 31 20 = nI (dpn q' c dep) ∧ FB V (hdn0 q' c p V) := by
    unfold hdn0
    by_cases e1 : q' = 1
    · rw [if_pos e1]
      have n41 : c ≠ 41 := fun e => by have := x3 e; omega
      refine ⟨h25, ?_, fun a n1 n2 n3 n4 => us_ne n1, fun k hk => ?_⟩
      · unfold dpn
        rw [if_neg (by omega), if_neg n41]; exact h20
      · show upd (V 31) 30 _ k = _
        rw [upd_n (by omega)]
    · rw [if_neg e1]
      by_cases e2 : q' = 2
      · rw [if_pos e2]
        refine ⟨h25, ?_, fun a n1 n2 n3 n4 => ?_, fun k hk => ?_⟩
        · show V 31 20 + 1 = _
          unfold dpn
          rw [if_pos e2, h20, nI_1]
        · unfold vB
          rw [us_ne n1, us_ne n2, us_ne n4, us_ne n3]
        · show upd (V 31) 20 _ k = _
          rw [upd_n (by omega)]
      · rw [if_neg e2]
        by_cases e3 : q' = 3
        · rw [if_pos e3]
          have n41 : c ≠ 41 := fun e => by have := x3 e; omega
          refine ⟨h25, ?_, fun a n1 n2 n3 n4 => us_ne n1, fun k hk => ?_⟩
          · unfold dpn
            rw [if_neg (by omega), if_neg n41]; exact h20
          · show upd (V 31) 31 _ k = _
            rw [upd_n (by omega)]
        · rw [if_neg e3]
          by_cases e5 : q' = 5 ∨ q' = 6
          · rw [if_pos e5]
            have n41 : c ≠ 41 := fun e => by have := x3 e; omega
            refine ⟨h25, ?_, fun a n1 n2 n3 n4 => by rw [us_ne n1, us_ne n1], fun k hk => ?_⟩
            · unfold dpn
              rw [if_neg (by omega), if_neg n41]; exact h20
            · show upd (upd (V 31) 28 _) 29 _ k = _
              rw [upd_n (by omega), upd_n (by omega)]
          · rw [if_neg e5]
            by_cases e41 : c = 41
            · rw [if_pos e41]
              have h13 := x3 e41
              have hx : 2 ≤ q ∧ q ≤ 13 := by
                rcases x4 h13 with ⟨-, a, b, -⟩ | ⟨-, e, -⟩
                · exact ⟨a, b⟩
                · rw [e41] at e; exact absurd e (by decide)
              have hd1 := hC.2.2.2.2.2.2.2 hx.1 hx.2
              obtain ⟨k0, rfl⟩ : ∃ k, dep = k + 1 := ⟨dep - 1, by omega⟩
              have ek : dpn q' c (k0 + 1) = k0 := by unfold dpn; rw [if_neg e2, if_pos e41]; rfl
              unfold vC0
              by_cases e0 : cl (V 31 20) - 1 = 0
              · rw [if_pos e0]
                refine ⟨h25, ?_, fun a n1 n2 n3 n4 => by rw [us_ne n1, us_ne n1], fun k hk => ?_⟩
                · show V 31 20 - 1 = _
                  rw [h20, nI_p1, ek]
                · show upd (upd (V 31) 20 _) 32 _ k = _
                  rw [upd_n (by omega), upd_n (by omega)]
              · rw [if_neg e0]
                refine ⟨h25, ?_, fun a n1 n2 n3 n4 => by unfold vK; rw [us_ne n1, us_ne n1, us_ne n1], fun k hk => ?_⟩
                · show V 31 20 - 1 = _
                  rw [h20, nI_p1, ek]
                · show upd (upd (upd (V 31) 20 _) 28 _) 29 _ k = _
                  rw [upd_n (by omega), upd_n (by omega), upd_n (by omega)]
            · rw [if_neg e41]
              refine ⟨h25, ?_, fun _ _ _ _ _ => rfl, fun _ _ => rfl⟩
              unfold dpn
              rw [if_neg e2, if_neg e41]; exact h20
  obtain ⟨k1, k2, k3⟩ := key
  refine ⟨rfl, tl_25 k1, ?_, fun a n1 n2 n3 n4 => ?_, fun k hk => ?_⟩
  · show tl q' c (hdn0 q' c p V) 31 20 = _
    rw [tl_31 (by omega) (by omega) (by omega)]; exact k2
  · unfold stp0
    rw [us_ne n1, tl_ne n1]; exact k3.1 a n1 n2 n3 n4
  · show upd (tl q' c (hdn0 q' c p V) 31) 24 _ k = _
    rw [upd_n (by omega), tl_31 (by omega) (by omega) (by omega)]; exact k3.2 k hk
theorem k_122_x {q q' fg dep : Nat} {p : Int32} (hd : 2 ≤ d) (hC : CI q fg dep) (hn : nx q fg dep c = some q') (h20 : T 31 20 = nI dep) (h : K (tl q' c (hdn0 q' c p T)) none) : CS xs d 122 T [.ref 31, .int c, .int p, .int (nI q'), .int 0] K := by
  obtain ⟨d, rfl⟩ := cs_d (d := d) (by omega)
  obtain ⟨x1, x2, x3, x4, x5⟩ := nx_c hC.1 hn
  have c5 := hC.2.2.2.2.1
  have c8 := hC.2.2.2.2.2.2.2
  have ed : cl (T 31 20) = dep := by rw [h20]; exact cl_nI (by omega)
  have r133 : q' = 5 ∨ q' = 6 → R_122_133 xs d K c p (nI q') T := by
    intro hh
    have e : hdn0 q' c p T = us (us T 31 28 c) 31 29 p := by unfold hdn0; rw [if_neg (by omega), if_neg (by omega), if_neg (by omega), if_pos hh]
    rw [e] at h
    exact h_122_133 (n_193 x2 h)
  have eq1 : ∀ k, k ≤ 14 → ¬ nI q' = nI k → ¬ q' = k := fun k _ hh e => hh (by rw [e])
  have r175 : ¬ q' = 1 → ¬ q' = 2 → ¬ q' = 3 → ¬ q' = 5 → ¬ q' = 6 → R_122_175 xs d K c (nI q') 0 T := by
    intro n1 n2 n3 n5 n6
    have e : hdn0 q' c p T = if c = 41 then vC0 T else T := by unfold hdn0; rw [if_neg n1, if_neg n2, if_neg n3, if_neg (by omega)]
    rw [e] at h
    refine h_122_175 ⟨fun n41 => ?_, fun g => ⟨fun lt => ?_, fun _ => ?_⟩⟩
    · rw [if_neg n41] at h
      exact n_193 x2 h
    · have := x3 (Classical.byContradiction g)
      exact absurd lt (nI_nlt (a := q') (b := 13) this (by omega))
    · have e41 := Classical.byContradiction g
      have h13 := x3 e41
      have hx : 2 ≤ q ∧ q ≤ 13 := by
        rcases x4 h13 with ⟨-, a, b, -⟩ | ⟨-, e, -⟩
        · exact ⟨a, b⟩
        · rw [e41] at e; exact absurd e (by decide)
      have hd1 := c8 hx.1 hx.2
      obtain ⟨k, rfl⟩ : ∃ k, dep = k + 1 := ⟨dep - 1, by omega⟩
      have ek : cl (T 31 20) - 1 = k := by rw [ed]; rfl
      rw [if_pos e41] at h
      unfold vC0 vK vtop at h
      rw [ek, h20, nI_p1] at h
      obtain ⟨d, rfl⟩ := cs_d (d := d) (by omega)
      refine c_123 ?_
      unfold w_123
      rw [h20, nI_p1]
      refine ⟨k, by omega, rfl, fun g => ⟨k, by omega, rfl, k, by omega, rfl, fun _ => ⟨rfl, ?_⟩, fun hh => absurd rfl hh⟩, fun g => ⟨rfl, ?_⟩⟩
      · rw [if_neg (fun e => g (by rw [e]; rfl))] at h
        exact n_193 x2 h
      · rw [if_pos (nI_inj (b := 0) (by omega) (by omega) (Classical.byContradiction g))] at h
        exact n_193 x2 h
  refine c_122 ⟨fun n1 => ⟨fun n2 => ⟨fun n3 => ⟨fun e => r133 (Or.inl (nI_k (k := 5) x2 (by omega) e)), fun n5 => ⟨fun n6 => ?_, fun n6 => r133 (Or.inr (nI_k (k := 6) x2 (by omega) (Classical.byContradiction n6)))⟩⟩, fun n3 => ?_⟩, fun n2 => ?_⟩, fun n1 => ?_⟩
  · have r := r175 (eq1 1 (by omega) n1) (eq1 2 (by omega) n2) (eq1 3 (by omega) n3) (eq1 5 (by omega) n5) (eq1 6 (by omega) n6)
    exact ⟨fun _ => r, fun _ => ⟨fun _ => r, fun _ => ⟨fun _ => r, fun hh => absurd rfl hh⟩⟩⟩
  · have e3 : q' = 3 := nI_k (k := 3) x2 (by omega) (Classical.byContradiction n3)
    have e : hdn0 q' c p T = us T 31 31 p := by unfold hdn0; rw [if_neg (by omega), if_neg (by omega), if_pos e3]
    rw [e] at h
    exact n_193 x2 h
  · have e2 : q' = 2 := nI_k (k := 2) x2 (by omega) (Classical.byContradiction n2)
    have e : hdn0 q' c p T = us (us (us (us T 49 dep (T 31 28)) 50 dep (T 31 29)) 48 dep (-1)) 31 20 (T 31 20 + 1) := by unfold hdn0 vB; rw [if_neg (by omega), if_pos e2, ed]
    rw [e] at h
    refine ⟨dep, by omega, h20, dep, by omega, h20, fun _ => ⟨dep, by omega, h20, fun _ => h_122_96 (n_193 x2 h), fun hh => absurd rfl hh⟩, fun hh => absurd rfl hh⟩
  · have e1 : q' = 1 := nI_k (k := 1) x2 (by omega) (Classical.byContradiction n1)
    have e : hdn0 q' c p T = us T 31 30 p := by unfold hdn0; rw [if_pos e1]
    rw [e] at h
    exact n_193 x2 h
theorem FB_tr {A B C : Sv} (h : FB A B) (h' : FB B C) : FB A C := ⟨fun a n1 n2 n3 n4 => (h'.1 a n1 n2 n3 n4).trans (h.1 a n1 n2 n3 n4), fun k hk => (h'.2 k hk).trans (h.2 k hk)⟩
theorem k_124_x {n g : Nat} (hd : 4 ≤ d) (hn : n ≤ 300) (hs : S 31 11 = nI n) (hg : S 31 25 = nI g) (h : FB S (run0 (S 41) n 0 g 0 1 (us (us S 31 24 0) 31 20 0)) → K (run0 (S 41) n 0 g 0 1 (us (us S 31 24 0) 31 20 0)) (some (.int (nI (bad (S 41) n 0 0 0 1))))) : CS xs d 124 S [.ref 31, .int 0] K := by
  obtain ⟨d, rfl⟩ := cs_d (d := d) (by omega)
  have main : ∀ (m p q fg dep : Nat) (T : Sv), p + m = n + 1 → 1 ≤ p → CI q fg dep → T 31 24 = nI q → T 31 25 = nI fg → T 31 20 = nI dep → FB S T → bad (S 41) m q fg dep p = bad (S 41) n 0 0 0 1 → run0 (S 41) m q fg dep p T = run0 (S 41) n 0 g 0 1 (us (us S 31 24 0) 31 20 0) → R_124_12 xs d K 0 (nI p) T := by
    intro m
    induction m with
    | zero =>
      intro p q fg dep T hp h1p hC t24 t25 t20 hF hb hr
      have e11 : T 31 11 = nI n := by rw [hF.2 11 (by omega)]; exact hs
      have hr : T = run0 (S 41) n 0 g 0 1 (us (us S 31 24 0) 31 20 0) := hr
      rw [← hr] at h
      refine h_124_12 ⟨fun _ => ?_, fun g => absurd (by rw [e11]; exact nI_lt (by omega) (by omega)) g⟩
      rw [t24, e11, nI_1]
      have hb : (if q = 14 then 0 else p) = bad (S 41) n 0 0 0 1 := hb
      have := h hF
      rw [← hb] at this
      refine ⟨fun g => ?_, fun g => ?_⟩
      · rw [if_neg (fun e => g (by rw [e]; rfl)), show p = n + 1 by omega] at this
        exact this
      · rw [if_pos (nI_k (k := 14) hC.1 (by omega) (Classical.byContradiction g))] at this
        exact this
    | succ m ih =>
      intro p q fg dep T hp h1p hC t24 t25 t20 hF hb hr
      have e11 : T 31 11 = nI n := by rw [hF.2 11 (by omega)]; exact hs
      have e41 : T 41 = S 41 := hF.1 41 (by decide) (by decide) (by decide) (by decide)
      obtain ⟨k, rfl⟩ : ∃ k, p = k + 1 := ⟨p - 1, by omega⟩
      refine h_124_12 ⟨fun g => absurd g (by rw [e11]; exact nI_nlt (by omega) (by omega)), fun _ => ⟨k, by omega, nI_p1 k, ?_⟩⟩
      rw [e41]
      refine k_115 (W := T) (q := q) (fg := fg) (dep := dep) (by omega) hC t24 t25 t20 rfl (fun ha => absurd rfl ha) ⟨fun q' hq' => ⟨_, rfl, fun _ => ?_, fun g => absurd ?_ g⟩, fun hq' => ⟨_, rfl, fun g => absurd g (by decide), fun _ => ?_⟩⟩
      · rw [if_neg (fun hh => hh.1 rfl)]
        refine ⟨k, by omega, nI_p1 k, ?_⟩
        rw [e41]
        have hb2 : bad (S 41) (m + 1) q fg dep (k + 1) = bad (S 41) m q' (fgn q' fg) (dpn q' (S 41 k) dep) (k + 1 + 1) := bad_some hq'
        rw [hb2] at hb
        have hr2 : run0 (S 41) (m + 1) q fg dep (k + 1) T = run0 (S 41) m q' (fgn q' fg) (dpn q' (S 41 k) dep) (k + 1 + 1) (stp0 q' (S 41 k) (nI (k + 1)) T) := run0_some hq'
        rw [hr2] at hr
        have hC' := CI_nx hC hq'
        obtain ⟨u1, u2, u3, u4⟩ := s0_ctl (p := nI (k + 1)) hC hq' t25 t20
        refine k_122_x (q := q) (q' := q') (fg := fg) (dep := dep) (by omega) hC hq' t20 ⟨rfl, ?_⟩
        rw [nI_1]
        exact ih (k + 1 + 1) q' _ _ _ (by omega) (by omega) hC' u1 u2 u3 (FB_tr hF u4) hb hr
      · have hq2 := (nx_c hC.1 hq').2.1
        exact nI_le (a := 0) (b := q') (by omega) (by omega)
      · have hb2 : bad (S 41) (m + 1) q fg dep (k + 1) = k + 1 := bad_none hq'
        have hr2 : run0 (S 41) (m + 1) q fg dep (k + 1) T = T := run0_none hq'
        rw [hr2] at hr
        rw [← hr] at h
        have := h hF
        rw [← hb, hb2] at this
        exact this
  refine c_124 (main n 1 0 g 0 _ (by omega) (by omega) (by simp [CI]) rfl hg rfl ⟨fun a n1 _ _ _ => by rw [us_ne n1, us_ne n1], fun k hk => ?_⟩ (bad_fr (by decide)) rfl)
  show upd (upd (S 31) 24 0) 20 0 k = _
  rw [upd_n (by omega), upd_n (by omega)]
theorem k_124_1 {n z g am : Nat} {W : Sv} (hd : 8 ≤ d) (hn : n ≤ 300) (hs : S 31 11 = nI n) (hw : WT (us (us S 31 24 0) 31 20 0) z 0 g 0 0 am 1) (hr : run (S 41) n 0 g 0 1 (us (us S 31 24 0) 31 20 0) = some W) (h : Fs S W → K W (some (.int 0))) : CS xs d 124 S [.ref 31, .int 1] K := by
  obtain ⟨d, rfl⟩ := cs_d (d := d) (by omega)
  have main : ∀ (m p q fg dep z f am : Nat) (T : Sv), p + m = n + 1 → 1 ≤ p → WT T z q fg dep f am p → Fs S T → run (S 41) m q fg dep p T = some W → R_124_12 xs d K 1 (nI p) T := by
    intro m
    induction m with
    | zero =>
      intro p q fg dep z f am T hp h1p hw hF hr
      have e11 : T 31 11 = nI n := by rw [hF.2]; exact hs
      have hr : (if q = 14 then some T else none) = some W := hr
      refine h_124_12 ⟨fun _ => ?_, fun g => absurd (by rw [e11]; exact nI_lt (by omega) (by omega)) g⟩
      by_cases e : q = 14
      · rw [if_pos e] at hr
        have e2 : T = W := Option.some.inj hr
        have e24 : T 31 24 = 14 := by rw [hw.2.2.1, e]; rfl
        refine ⟨fun g => absurd e24 g, fun _ => ?_⟩
        rw [e2] at hF ⊢
        exact h hF
      · rw [if_neg e] at hr
        exact absurd hr (by simp)
    | succ m ih =>
      intro p q fg dep z f am T hp h1p hw hF hr
      have e11 : T 31 11 = nI n := by rw [hF.2]; exact hs
      have e41 : T 41 = S 41 := hF.1 41 (by decide)
      obtain ⟨k, rfl⟩ : ∃ k, p = k + 1 := ⟨p - 1, by omega⟩
      refine h_124_12 ⟨fun g => absurd g (by rw [e11]; exact nI_nlt (by omega) (by omega)), fun _ => ⟨k, by omega, nI_p1 k, ?_⟩⟩
      rw [e41]
      cases hx : nx q fg dep (S 41 (k + 1 - 1)) with
      | none => rw [run_none hx] at hr; exact absurd hr (by simp)
      | some q' =>
        rw [run_some hx] at hr
        have hx : nx q fg dep (S 41 k) = some q' := hx
        have hC := hw.2.1
        have hX := nx_c hC.1 hx
        have hp300 : k + 1 ≤ 300 := by omega
        have hpot := hw.2.2.2.2.2.2.2.1
        obtain ⟨z', f', am', w1, w2, w3⟩ := W_stp hw hx hp300
        have st20 : (if ¬ (1 : Int32) = 0 ∧ (q' = 5 ∨ q' = 6 ∨ S 41 k = 41) then stl T else T) = if q' = 5 ∨ q' = 6 ∨ S 41 k = 41 then stl T else T := by
          by_cases e : q' = 5 ∨ q' = 6 ∨ S 41 k = 41
          · rw [if_pos e, if_pos ⟨by decide, e⟩]
          · rw [if_neg e, if_neg (fun hh => e hh.2)]
        have hset : (q' = 5 ∨ q' = 6 ∨ S 41 k = 41) → 2 ≤ q ∧ q ≤ 13 := by
          intro hh
          rcases nx_inv hC.1 hx with ⟨rfl, e, rfl⟩ | ⟨rfl, e, rfl⟩ | ⟨rfl, e, rfl⟩ | ⟨rfl, e, rfl⟩ | ⟨rfl, e, rfl⟩ | ⟨rfl, e, rfl⟩ | ⟨rfl, e, rfl⟩ | ⟨rfl, e, rfl⟩ | ⟨rfl, e, rfl⟩ | ⟨rfl, e, rfl⟩ | ⟨rfl, e, rfl⟩ | ⟨rfl, e, rfl⟩ | ⟨rfl, e, rfl⟩ | ⟨rfl, e, rfl⟩ | ⟨rfl, e, rfl⟩ | ⟨rfl, e, rfl⟩ | ⟨hq, hi⟩
          · rcases hh with h | h | h
            · omega
            · omega
            · rw [e] at h; exact absurd h (by decide)
          · rcases hh with h | h | h
            · omega
            · omega
            · rw [h] at e; exact absurd e (by decide)
          all_goals omega
        have hV1 : ∃ f1, f1 < 300 ∧ DW (if q' = 5 ∨ q' = 6 ∨ S 41 k = 41 then stl T else T) z f1 dep ∧ (if q' = 5 ∨ q' = 6 ∨ S 41 k = 41 then stl T else T) 31 24 = nI q := by
          by_cases e : q' = 5 ∨ q' = 6 ∨ S 41 k = 41
          · rw [if_pos e]
            obtain ⟨f1, y1, y2, y3, y4⟩ := W_stl hw (hset e).1 (hset e).2
            refine ⟨f1, ?_, y3, (y4.1 24 (by decide)).trans hw.2.2.1⟩
            unfold pot at hpot
            omega
          · rw [if_neg e]
            exact ⟨f, by omega, hw.1, hw.2.2.1⟩
        have hW20 : stl T 31 20 = T 31 20 ∨ ¬ (2 ≤ q ∧ q ≤ 13) := by
          by_cases e : 2 ≤ q ∧ q ≤ 13
          · obtain ⟨f1, y1, y2, y3, y4⟩ := W_stl hw e.1 e.2
            exact Or.inl (y4.1 20 (by decide))
          · exact Or.inr e
        have go2 : ∀ Z : Sv, Z = (if q' = 5 ∨ q' = 6 ∨ S 41 k = 41 then stl T else T) → ∃ j3 : Nat, j3 < 300 ∧ nI (k + 1) - 1 = nI j3 ∧ (CS xs d 122 Z [.ref 31, .int (Z 41 j3), .int (nI (k + 1)), .int (nI q'), .int 1] (fun S4 v4 => v4 = none ∧ (R_124_12 xs d K 1 (nI (k + 1) + 1) (us S4 31 24 (nI q'))))) := by
          intro Z hZ
          refine ⟨k, by omega, nI_p1 k, ?_⟩
          have eZ : Z 41 = S 41 := by
            rw [hZ]
            by_cases e : q' = 5 ∨ q' = 6 ∨ S 41 k = 41
            · rw [if_pos e, (Fs_stl (V := T) (A := T) ⟨fun _ _ => rfl, rfl⟩).1 41 (by decide)]; exact e41
            · rw [if_neg e]; exact e41
          rw [eZ]
          obtain ⟨f1, g1, g2, g3⟩ := hV1
          rw [← hZ] at g2 g3
          refine k_122_1 (q := q) (q' := q') (fg := fg) (by omega) hC hx g2 g3 g1 ⟨rfl, ?_⟩
          rw [nI_1]
          have e3 : us (tl q' (S 41 k) (hdn q' (S 41 k) (nI (k + 1)) Z)) 31 24 (nI q') = stp q' (S 41 k) (nI (k + 1)) T := by rw [hZ]; rfl
          rw [e3]
          exact ih (k + 1 + 1) q' _ _ _ _ _ _ (by omega) (by omega) w3 (Fs_tr hF Fs_stp) hr
        rcases hW20 with hW20 | hno
        · refine k_115 (W := stl T) (q := q) (fg := fg) (dep := dep) (by omega) hC hw.2.2.1 hw.2.2.2.1 hw.1.2.2.2.1 hW20 (fun _ _ h2 h13 K' hk => k_117 (by omega) hw hp300 h2 h13 hk) ⟨fun q2 hq2 => ⟨_, rfl, fun _ => ?_, fun g => absurd ?_ g⟩, fun hq2 => absurd (hx.symm.trans hq2) (by simp)⟩
          · have e : q2 = q' := Option.some.inj (hq2.symm.trans hx)
            rw [e]
            exact go2 _ st20
          · have := (nx_c hC.1 hq2).2.1
            exact nI_le (a := 0) (b := q2) (by omega) (by omega)
        · refine k_115 (W := T) (q := q) (fg := fg) (dep := dep) (by omega) hC hw.2.2.1 hw.2.2.2.1 hw.1.2.2.2.1 rfl (fun _ _ h2 h13 K' hk => absurd ⟨h2, h13⟩ hno) ⟨fun q2 hq2 => ⟨_, rfl, fun _ => ?_, fun g => absurd ?_ g⟩, fun hq2 => absurd (hx.symm.trans hq2) (by simp)⟩
          · have e : q2 = q' := Option.some.inj (hq2.symm.trans hx)
            rw [e]
            refine go2 _ ?_
            have ne : ¬ (q' = 5 ∨ q' = 6 ∨ S 41 k = 41) := fun hh => hno (hset hh)
            rw [if_neg ne, if_neg (fun hh => ne hh.2)]
          · have := (nx_c hC.1 hq2).2.1
            exact nI_le (a := 0) (b := q2) (by omega) (by omega)
  exact c_124 (main n 1 0 g 0 z 0 am _ (by omega) (by omega) hw ⟨fun a ha => by rw [us_ne (fun e => ha (by rw [e]; decide)), us_ne (fun e => ha (by rw [e]; decide))], rfl⟩ hr)
end GO2
