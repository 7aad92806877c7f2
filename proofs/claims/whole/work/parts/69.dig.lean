/-! the class replays: digits and names -/
abbrev EV (V V' : Sv) : Prop := (∀ a, a ≠ 31 → V' a = V a) ∧ (∀ k, k ≠ 24 → k ≠ 25 → k ≠ 26 → V' 31 k = V 31 k)
theorem EV.tr {A B C : Sv} (h : EV A B) (h' : EV B C) : EV A C := ⟨fun a ha => (h'.1 a ha).trans (h.1 a ha), fun k k1 k2 k3 => (h'.2 k k1 k2 k3).trans (h.2 k k1 k2 k3)⟩
theorem stp_dig {q' : Nat} {c p : Int32} {V : Sv} (hq : q' = 4 ∨ q' = 9 ∨ q' = 12) (g : dgt c) : stp q' c p V = us (us (us V 31 25 (V 31 25 + 1)) 31 26 (10 * V 31 26 + c - 48)) 31 24 (nI q') := by
  have n41 := n41d g
  unfold stp
  rw [if_neg (by rintro (h | h | h) <;> first | omega | exact n41 h)]
  have e : hdn q' c p V = V := by
    unfold hdn
    rw [if_neg (by omega), if_neg (by omega), if_neg (by omega), if_neg (by omega), if_neg (by rintro ⟨h, -⟩; omega), if_neg n41]
  rw [e]
  unfold tl
  rw [if_neg (by omega), if_neg (by omega), if_pos hq]
section DG
variable {xs : Nat × (Nat → Int32)} {d n dep : Nat} {S W : Sv} {K : Sv → Option Value → Prop}
theorem RQL.tx {T V : Sv} (h : RQL S T V) : T 19 = S 19 ∧ T 20 = S 20 := ⟨h.1 19 (by decide), h.1 20 (by decide)⟩
/-- the character at a place -/
theorem k_50p {T : Sv} {P : Nat} (hd : 1 ≤ d) (hn : n ≤ 300) (hs : T 19 1 = nI n) (h1 : 1 ≤ P) (h2 : P ≤ n) (h : K T (some (.int (T 20 (P - 1))))) : CS xs d 50 T [.ref 19, .int (nI P)] K := by
  refine k_50 (n := n) hd hn hs (fun j hj e => ?_) (fun hno => absurd ⟨P - 1, by omega, by rw [show P - 1 + 1 = P by omega]⟩ hno)
  have ej : j = P - 1 := by
    have := nI_inj (by omega) (by omega) e
    omega
  rw [ej]
  exact h
theorem run_pos {tx : Nat → Int32} {m q fg P : Nat} {V : Sv} (h : run tx m q fg dep P V = some W) (hq : q ≠ 14) : ∃ k, m = k + 1 := by
  cases m with
  | zero =>
    have h : (if q = 14 then some V else none) = some W := h
    rw [if_neg hq] at h
    exact absurd h (by simp)
  | succ k => exact ⟨k, rfl⟩
theorem lp_83 {qa qd mo : Nat} (hd : 1 ≤ d) (hn : n ≤ 300) (hs : S 19 1 = nI n) (hq : (qa = 3 ∧ qd = 4 ∧ mo = 2) ∨ (qa = 11 ∧ qd = 12 ∧ mo = 2) ∨ (qa = 7 ∧ qd = 9 ∧ mo = 5) ∨ (qa = 8 ∧ qd = 9 ∧ mo = 5)) (V0 : Sv) (P0 m0 : Nat)
    (hk : ∀ m' fg' P' z' f' am' V' T', m' < m0 → P0 < P' → P' + m' = n + 1 → WT V' z' qd fg' dep f' am' P' → run (S 20) m' qd fg' dep P' V' = some W → RQL S T' V' → T' 28 5 = nI P' → EV V0 V' → nx qd fg' dep (S 20 (P' - 1)) = ins dep (S 20 (P' - 1)) → K T' (some (.int (V' 31 26)))) : ∀ (m q fg P z f am : Nat) (V T : Sv), ((q = qa ∧ fg = 0 ∧ P = P0 ∧ m = m0) ∨ (q = qd ∧ P0 < P ∧ m < m0)) → (q = 7 → S 20 (P - 1) ≠ 45) → P + m = n + 1 → 1 ≤ P → WT V z q fg dep f am P → run (S 20) m q fg dep P V = some W → RQL S T V → T 28 5 = nI P → EV V0 V → R_83_4 xs d K (nI mo) (V 31 26) (nI fg) T := by
  intro m
  induction m with
  | zero =>
    intro q fg P z f am V T hqq h45 hP h1P hW hr
    obtain ⟨k, hk⟩ := run_pos hr (by omega)
    omega
  | succ m ih =>
    intro q fg P z f am V T hqq h45 hP h1P hW hr hR hp hE
    have hC := hW.2.1
    have es : T 19 1 = nI n := by rw [hR.tx.1]; exact hs
    have hfg : fg ≤ 5 ∧ (q = qd → fg ≤ mo) := by
      obtain ⟨c1, c2, c3, c4, -⟩ := hC
      constructor
      · rcases hqq with ⟨e, e2, -⟩ | ⟨e, -⟩
        · omega
        · by_cases e9 : qd = 9
          · exact (c4 (by omega)).2
          · exact Nat.le_trans (c3 (by omega)).2 (by omega)
      · intro e
        by_cases e9 : qd = 9
        · have := (c4 (by omega)).2
          omega
        · have := (c3 (by omega)).2
          omega
    have nxd : q = qd → nx q fg dep (S 20 (P - 1)) = if dgt (S 20 (P - 1)) ∧ fg < mo then some qd else ins dep (S 20 (P - 1)) := by
      intro e
      subst e
      rcases hq with ⟨-, rfl, rfl⟩ | ⟨-, rfl, rfl⟩ | ⟨-, rfl, rfl⟩ | ⟨-, rfl, rfl⟩ <;> rfl
    have nxa : q = qa → nx q fg dep (S 20 (P - 1)) = if dgt (S 20 (P - 1)) then some qd else none := by
      intro e
      subst e
      rcases hq with ⟨rfl, rfl, rfl⟩ | ⟨rfl, rfl, rfl⟩ | ⟨rfl, rfl, rfl⟩ | ⟨rfl, rfl, rfl⟩
      · rfl
      · rfl
      · exact if_neg (h45 rfl)
      · rfl
    have out : q = qd → P0 < P → m + 1 < m0 → ¬ (dgt (S 20 (P - 1)) ∧ fg < mo) → K T (some (.int (V 31 26))) := by
      intro e hPP hmm hng
      have e2 := nxd e
      rw [if_neg hng] at e2
      subst e
      exact hk (m + 1) fg P z f am V T hmm hPP hP hW hr hR hp hE e2
    refine h_83_4 ⟨fun g => ?_, fun g => ?_⟩
    · have hge : mo ≤ fg := (nI_leI (a := mo) (by omega) (by omega)).mp g
      rcases hqq with ⟨e, e2, -⟩ | ⟨e, hPP, hmm⟩
      · omega
      · exact out e hPP hmm (fun hh => absurd hh.2 (by omega))
    · have hlt : fg < mo := Nat.lt_of_not_le (fun hh => g (nI_le hh (by omega)))
      rw [hp]
      refine k_50p (n := n) hd hn es h1P (by omega) ⟨_, rfl, ?_⟩
      rw [hR.tx.2]
      refine k_70 hd (fun gd => ⟨_, rfl, fun hh => absurd hh (by decide), fun _ => ?_⟩) (fun gd => ⟨_, rfl, fun _ => ?_, fun hh => absurd rfl hh⟩)
      · rw [hp]
        refine k_50p (n := n) hd hn es h1P (by omega) ⟨_, rfl, ?_⟩
        rw [hR.tx.2, hp, nI_1, nI_1]
        have hnx : nx q fg dep (S 20 (P - 1)) = some qd := by
          rcases hqq with ⟨e, -⟩ | ⟨e, -⟩
          · rw [nxa e, if_pos gd]
          · rw [nxd e, if_pos ⟨gd, hlt⟩]
        obtain ⟨z', f', am', w1, w2, w3⟩ := W_stp hW hnx (by omega)
        rw [run_some hnx] at hr
        have hqd : qd = 4 ∨ qd = 9 ∨ qd = 12 := by omega
        have ef : fgn qd fg = fg + 1 := by unfold fgn; rw [if_neg (by omega), if_pos hqd]
        have edp : dpn qd (S 20 (P - 1)) dep = dep := by unfold dpn; rw [if_neg (by omega), if_neg (n41d gd)]
        rw [ef, edp] at hr w3
        have es2 := stp_dig (p := nI P) (V := V) hqd gd
        have e26 : stp qd (S 20 (P - 1)) (nI P) V 31 26 = V 31 26 * 10 + S 20 (P - 1) - 48 := by
          rw [es2]
          show 10 * V 31 26 + S 20 (P - 1) - 48 = _
          rw [Int32.mul_comm]
        rw [← e26]
        refine ih qd (fg + 1) (P + 1) z' f' am' _ _ (Or.inr ⟨rfl, by omega, by omega⟩) (fun e => absurd e (by omega)) (by omega) (by omega) w3 hr ?_ rfl (hE.tr ?_)
        · rw [es2]
          exact (((hR.ct (by decide) (by decide) _).ct (by decide) (by decide) _).ct (by decide) (by decide) _).pl _
        · rw [es2]
          refine ⟨fun a ha => by rw [us_ne ha, us_ne ha, us_ne ha], fun k k1 k2 k3 => ?_⟩
          show upd (upd (upd (V 31) 25 _) 26 _) 24 _ k = _
          rw [upd_n k1, upd_n k3, upd_n k2]
      · rcases hqq with ⟨e, e2, e3, e4⟩ | ⟨e, hPP, hmm⟩
        · have := nxa e
          rw [if_neg gd] at this
          rw [run_none this] at hr
          exact absurd hr (by simp)
        · exact out e hPP hmm (fun hh => gd hh.1)
theorem k_83 {qa qd mo m P z f am : Nat} {V T : Sv} (hd : 2 ≤ d) (hn : n ≤ 300) (hs : S 19 1 = nI n) (hq : (qa = 3 ∧ qd = 4 ∧ mo = 2) ∨ (qa = 11 ∧ qd = 12 ∧ mo = 2) ∨ (qa = 7 ∧ qd = 9 ∧ mo = 5) ∨ (qa = 8 ∧ qd = 9 ∧ mo = 5)) (h45 : qa = 7 → S 20 (P - 1) ≠ 45) (hP : P + m = n + 1) (h1 : 1 ≤ P) (hW : WT V z qa 0 dep f am P) (hr : run (S 20) m qa 0 dep P V = some W) (hR : RQL S T V) (hp : T 28 5 = nI P)
    (hk : ∀ m' fg' P' z' f' am' V' T', m' < m → P < P' → P' + m' = n + 1 → WT V' z' qd fg' dep f' am' P' → run (S 20) m' qd fg' dep P' V' = some W → RQL S T' V' → T' 28 5 = nI P' → EV V V' → nx qd fg' dep (S 20 (P' - 1)) = ins dep (S 20 (P' - 1)) → K T' (some (.int (V' 31 26)))) : CS xs d 83 T [.ref 28, .int (nI mo)] K := by
  obtain ⟨d, rfl⟩ := cs_d (d := d) (by omega)
  have e26 : V 31 26 = 0 := by
    rw [hW.2.2.2.2.1, hW.2.2.2.2.2.1 (by omega)]
    rfl
  have main := lp_83 (xs := xs) (d := d) (S := S) (W := W) (K := K) (by omega) hn hs hq V P m hk m qa 0 P z f am V T (Or.inl ⟨rfl, rfl, rfl, rfl⟩) h45 hP h1 hW hr hR hp ⟨fun _ _ => rfl, fun _ _ _ _ => rfl⟩
  rw [e26] at main
  exact c_83 main
end DG
