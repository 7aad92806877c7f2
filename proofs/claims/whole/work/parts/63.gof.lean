/-! the reference goes over a text without doing what it says -/
def NXC (q : Nat) (c : Int32) (q' : Nat) : Prop := 1 ≤ q' ∧ q' ≤ 14 ∧ (c = 41 → 13 ≤ q') ∧ (13 ≤ q' → (c = 41 ∧ 2 ≤ q ∧ q ≤ 13 ∧ q ≠ 10) ∨ (q = 10 ∧ c = 126 ∧ q' = 13)) ∧ (q' = 2 → q = 1 ∧ ¬ c < 97 ∧ ¬ 100 < c)
theorem nxc_lit {q k : Nat} {c : Int32} (n41 : c ≠ 41) (h1 : 1 ≤ k) (h2 : k ≤ 12) (h3 : k ≠ 2) : NXC q c k := ⟨h1, by omega, fun e => absurd e n41, fun e => absurd e (by omega), fun e => absurd e h3⟩
theorem nxc_ins {q q' dep : Nat} {c : Int32} (h2 : 2 ≤ q) (h13 : q ≤ 13) (hne : q ≠ 10) (h : ins dep c = some q') : NXC q c q' := by
  rcases ins_cases h with ⟨g, rfl⟩ | ⟨g0, g, rfl⟩ | ⟨rfl, g, rfl⟩ | ⟨rfl, g, rfl⟩
  · exact nxc_lit (fun e => x41 (e ▸ g)) (by omega) (by omega) (by omega)
  · exact nxc_lit (fun e => by rw [e] at g; exact absurd g (by decide)) (by omega) (by omega) (by omega)
  · exact ⟨by omega, by omega, fun _ => by omega, fun _ => Or.inl ⟨rfl, h2, h13, hne⟩, fun e => absurd e (by omega)⟩
  · exact ⟨by omega, by omega, fun _ => by omega, fun _ => Or.inl ⟨rfl, h2, h13, hne⟩, fun e => absurd e (by omega)⟩
theorem nx_c {q fg dep q' : Nat} {c : Int32} (hq : q ≤ 14) (h : nx q fg dep c = some q') : NXC q c q' := by
  have no : ∀ {P : Prop}, (none : Option Nat) = some q' → P := fun e => absurd e (by simp)
  rcases (show q = 0 ∨ q = 1 ∨ q = 2 ∨ q = 3 ∨ q = 4 ∨ q = 5 ∨ q = 6 ∨ q = 7 ∨ q = 8 ∨ q = 9 ∨ q = 10 ∨ q = 11 ∨ q = 12 ∨ q = 13 ∨ q = 14 by omega) with rfl | rfl | rfl | rfl | rfl | rfl | rfl | rfl | rfl | rfl | rfl | rfl | rfl | rfl | rfl
  · have h : (if c = 40 then some 1 else none) = some q' := h
    by_cases g : c = 40
    · rw [if_pos g] at h
      obtain rfl := Option.some.inj h
      exact nxc_lit (by rw [g]; decide) (by omega) (by omega) (by omega)
    · rw [if_neg g] at h
      exact no h
  · have h : (if ¬ c < 97 ∧ ¬ 100 < c then some 2 else none) = some q' := h
    by_cases g : ¬ c < 97 ∧ ¬ 100 < c
    · rw [if_pos g] at h
      obtain rfl := Option.some.inj h
      exact ⟨by omega, by omega, fun e => by rw [e] at g; exact absurd g (by decide), fun e => absurd e (by omega), fun _ => ⟨rfl, g⟩⟩
    · rw [if_neg g] at h
      exact no h
  · have h : (if c = 35 then some 3 else ins dep c) = some q' := h
    by_cases g : c = 35
    · rw [if_pos g] at h
      obtain rfl := Option.some.inj h
      exact nxc_lit (by rw [g]; decide) (by omega) (by omega) (by omega)
    · rw [if_neg g] at h
      exact nxc_ins (by omega) (by omega) (by omega) h
  · have h : (if dgt c then some 4 else none) = some q' := h
    by_cases g : dgt c
    · rw [if_pos g] at h
      obtain rfl := Option.some.inj h
      exact nxc_lit (n41d g) (by omega) (by omega) (by omega)
    · rw [if_neg g] at h
      exact no h
  · have h : (if dgt c ∧ fg < 2 then some 4 else ins dep c) = some q' := h
    by_cases g : dgt c ∧ fg < 2
    · rw [if_pos g] at h
      obtain rfl := Option.some.inj h
      exact nxc_lit (n41d g.1) (by omega) (by omega) (by omega)
    · rw [if_neg g] at h
      exact nxc_ins (by omega) (by omega) (by omega) h
  · have h : (if c = 61 then some 7 else none) = some q' := h
    by_cases g : c = 61
    · rw [if_pos g] at h
      obtain rfl := Option.some.inj h
      exact nxc_lit (by rw [g]; decide) (by omega) (by omega) (by omega)
    · rw [if_neg g] at h
      exact no h
  · have h : (if c = 61 then some 10 else none) = some q' := h
    by_cases g : c = 61
    · rw [if_pos g] at h
      obtain rfl := Option.some.inj h
      exact nxc_lit (by rw [g]; decide) (by omega) (by omega) (by omega)
    · rw [if_neg g] at h
      exact no h
  · have h : (if c = 45 then some 8 else if dgt c then some 9 else none) = some q' := h
    by_cases g : c = 45
    · rw [if_pos g] at h
      obtain rfl := Option.some.inj h
      exact nxc_lit (by rw [g]; decide) (by omega) (by omega) (by omega)
    · rw [if_neg g] at h
      by_cases g2 : dgt c
      · rw [if_pos g2] at h
        obtain rfl := Option.some.inj h
        exact nxc_lit (n41d g2) (by omega) (by omega) (by omega)
      · rw [if_neg g2] at h
        exact no h
  · have h : (if dgt c then some 9 else none) = some q' := h
    by_cases g : dgt c
    · rw [if_pos g] at h
      obtain rfl := Option.some.inj h
      exact nxc_lit (n41d g) (by omega) (by omega) (by omega)
    · rw [if_neg g] at h
      exact no h
  · have h : (if dgt c ∧ fg < 5 then some 9 else ins dep c) = some q' := h
    by_cases g : dgt c ∧ fg < 5
    · rw [if_pos g] at h
      obtain rfl := Option.some.inj h
      exact nxc_lit (n41d g.1) (by omega) (by omega) (by omega)
    · rw [if_neg g] at h
      exact nxc_ins (by omega) (by omega) (by omega) h
  · have h : (if c = 40 ∧ dep < 10 then some 1 else if c = 64 then some 11 else if c = 126 then some 13 else none) = some q' := h
    by_cases g : c = 40 ∧ dep < 10
    · rw [if_pos g] at h
      obtain rfl := Option.some.inj h
      exact nxc_lit (by rw [g.1]; decide) (by omega) (by omega) (by omega)
    · rw [if_neg g] at h
      by_cases g2 : c = 64
      · rw [if_pos g2] at h
        obtain rfl := Option.some.inj h
        exact nxc_lit (by rw [g2]; decide) (by omega) (by omega) (by omega)
      · rw [if_neg g2] at h
        by_cases g3 : c = 126
        · rw [if_pos g3] at h
          obtain rfl := Option.some.inj h
          exact ⟨by omega, by omega, fun e => by rw [g3] at e; exact absurd e (by decide), fun _ => Or.inr ⟨rfl, g3, rfl⟩, fun e => absurd e (by omega)⟩
        · rw [if_neg g3] at h
          exact no h
  · have h : (if dgt c then some 12 else none) = some q' := h
    by_cases g : dgt c
    · rw [if_pos g] at h
      obtain rfl := Option.some.inj h
      exact nxc_lit (n41d g) (by omega) (by omega) (by omega)
    · rw [if_neg g] at h
      exact no h
  · have h : (if dgt c ∧ fg < 2 then some 12 else ins dep c) = some q' := h
    by_cases g : dgt c ∧ fg < 2
    · rw [if_pos g] at h
      obtain rfl := Option.some.inj h
      exact nxc_lit (n41d g.1) (by omega) (by omega) (by omega)
    · rw [if_neg g] at h
      exact nxc_ins (by omega) (by omega) (by omega) h
  · exact nxc_ins (by omega) (by omega) (by omega) h
  · exact no h
def tl (q' : Nat) (c : Int32) (T : Sv) : Sv := if q' = 3 ∨ q' = 7 ∨ q' = 11 then us (us (us T 31 25 0) 31 26 0) 31 27 0 else if q' = 8 then us T 31 27 1 else if q' = 4 ∨ q' = 9 ∨ q' = 12 then us (us T 31 25 (T 31 25 + 1)) 31 26 (10 * T 31 26 + c - 48) else T
section GF
variable {xs : Nat × (Nat → Int32)} {d : Nat} {S T : Sv} {K : Sv → Option Value → Prop} {c : Int32}
theorem nI_k {q k : Nat} (hq : q ≤ 14) (hk : k ≤ 14) (h : nI q = nI k) : q = k := nI_inj (by omega) (by omega) h
theorem n_236 {q' : Nat} {Z : Sv} (hq : q' ≤ 14) (h1 : q' = 4 ∨ q' = 9 ∨ q' = 12 → K (us (us Z 31 25 (Z 31 25 + 1)) 31 26 (10 * Z 31 26 + c - 48)) none) (h0 : ¬ (q' = 4 ∨ q' = 9 ∨ q' = 12) → K Z none) : R_122_236 xs d K c (nI q') Z := by
  refine h_122_236 ⟨fun e => h_122_253 (h1 (Or.inl (nI_k (k := 4) hq (by omega) e))), fun n1 => ⟨fun e => h_122_253 (h1 (Or.inr (Or.inl (nI_k (k := 9) hq (by omega) e)))), fun n2 => ⟨fun n3 => h0 ?_, fun n3 => h_122_253 (h1 (Or.inr (Or.inr (nI_k (k := 12) hq (by omega) (Classical.byContradiction n3)))))⟩⟩⟩
  rintro (rfl | rfl | rfl)
  · exact n1 rfl
  · exact n2 rfl
  · exact n3 rfl
theorem n_193 {q' : Nat} {T : Sv} (hq : q' ≤ 14) (h : K (tl q' c T) none) : R_122_193 xs d K c (nI q') T := by
  have r225 : ∀ Z : Sv, (q' = 8 → K (us Z 31 27 1) none) → (q' = 4 ∨ q' = 9 ∨ q' = 12 → K (us (us Z 31 25 (Z 31 25 + 1)) 31 26 (10 * Z 31 26 + c - 48)) none) → (¬ q' = 8 → ¬ (q' = 4 ∨ q' = 9 ∨ q' = 12) → K Z none) → R_122_225 xs d K c (nI q') Z := by
    intro Z k1 k2 k3
    refine h_122_225 ⟨fun e => ?_, fun e => ?_⟩
    · exact n_236 hq k2 (k3 (fun e2 => e (by rw [e2]; rfl)))
    · have e8 : q' = 8 := nI_k (k := 8) hq (by omega) (Classical.byContradiction e)
      exact n_236 hq (fun hh => absurd hh (by omega)) (fun _ => k1 e8)
  by_cases a : q' = 3 ∨ q' = 7 ∨ q' = 11
  · have r210 : R_122_210 xs d K c (nI q') T := by
      refine h_122_210 (r225 _ (fun e => absurd e (by omega)) (fun e => absurd e (by omega)) (fun _ _ => ?_))
      have e : tl q' c T = us (us (us T 31 25 0) 31 26 0) 31 27 0 := if_pos a
      rw [e] at h
      exact h
    exact h_122_193 ⟨fun _ => r210, fun n1 => ⟨fun _ => r210, fun n2 => ⟨fun n3 => absurd a (by
      rintro (rfl | rfl | rfl)
      · exact n1 rfl
      · exact n2 rfl
      · exact n3 rfl), fun _ => r210⟩⟩⟩
  · have r : R_122_225 xs d K c (nI q') T := by
      refine r225 T (fun e => ?_) (fun e => ?_) (fun e1 e2 => ?_)
      · have e' : tl q' c T = us T 31 27 1 := by unfold tl; rw [if_neg a, if_pos e]
        rw [e'] at h; exact h
      · have e' : tl q' c T = us (us T 31 25 (T 31 25 + 1)) 31 26 (10 * T 31 26 + c - 48) := by unfold tl; rw [if_neg a, if_neg (by omega), if_pos e]
        rw [e'] at h; exact h
      · have e' : tl q' c T = T := by unfold tl; rw [if_neg a, if_neg e1, if_neg e2]
        rw [e'] at h; exact h
    exact h_122_193 ⟨fun e => absurd (Or.inl (nI_k (k := 3) hq (by omega) e)) a, fun n1 => ⟨fun e => absurd (Or.inr (Or.inl (nI_k (k := 7) hq (by omega) e))) a, fun n2 => ⟨fun n3 => r, fun n3 => absurd (Or.inr (Or.inr (nI_k (k := 11) hq (by omega) (Classical.byContradiction n3)))) a⟩⟩⟩
theorem tl_31 {q' : Nat} {Z : Sv} {k : Nat} (h1 : k ≠ 25) (h2 : k ≠ 26) (h3 : k ≠ 27) : tl q' c Z 31 k = Z 31 k := by
  unfold tl
  split
  · show upd (upd (upd (Z 31) 25 0) 26 0) 27 0 k = _
    rw [upd_n h3, upd_n h2, upd_n h1]
  · split
    · show upd (Z 31) 27 1 k = _
      rw [upd_n h3]
    · split
      · show upd (upd (Z 31) 25 _) 26 _ k = _
        rw [upd_n h2, upd_n h1]
      · rfl
theorem tl_ne {q' : Nat} {Z : Sv} {a : Nat} (h : a ≠ 31) : tl q' c Z a = Z a := by
  unfold tl
  split
  · rw [us_ne h, us_ne h, us_ne h]
  · split
    · rw [us_ne h]
    · split
      · rw [us_ne h, us_ne h]
      · rfl
theorem tl_25 {q' fg : Nat} {Z : Sv} (h : Z 31 25 = nI fg) : tl q' c Z 31 25 = nI (fgn q' fg) := by
  unfold tl fgn
  by_cases a : q' = 3 ∨ q' = 7 ∨ q' = 11
  · rw [if_pos a, if_pos a]; rfl
  · rw [if_neg a, if_neg a]
    by_cases b : q' = 8
    · rw [if_pos b, if_neg (by omega)]
      exact h
    · rw [if_neg b]
      by_cases e : q' = 4 ∨ q' = 9 ∨ q' = 12
      · rw [if_pos e, if_pos e]
        show Z 31 25 + 1 = _
        rw [h, nI_1]
      · rw [if_neg e, if_neg e]
        exact h
abbrev FB (T T' : Sv) : Prop := (∀ a, a ≠ 31 → a ≠ 48 → a ≠ 49 → a ≠ 50 → T' a = T a) ∧ (∀ k, k < 20 ∨ 32 < k → T' 31 k = T 31 k)
theorem k_122_0 {q q' fg dep : Nat} {p : Int32} (hd : 2 ≤ d) (hC : CI q fg dep) (hn : nx q fg dep c = some q') (h24 : T 31 24 = nI q) (h25 : T 31 25 = nI fg) (h20 : T 31 20 = nI dep) (h : ∀ T', FB T T' → T' 31 20 = nI (dpn q' c dep) → T' 31 25 = nI (fgn q' fg) → K T' none) : CS xs d 122 T [.ref 31, .int c, .int p, .int (nI q'), .int 0] K := by
  obtain ⟨d, rfl⟩ := cs_d (d := d) (by omega)
  have hX := nx_c hC.1 hn
  obtain ⟨x1, x2, x3, x4, x5⟩ := hX
  have c5 := hC.2.2.2.2.1
  have c8 := hC.2.2.2.2.2.2.2
  have fin : ∀ Z : Sv, FB T Z → Z 31 20 = nI (dpn q' c dep) → Z 31 25 = nI fg → R_122_193 xs d K c (nI q') Z := by
    intro Z hF z20 z25
    refine n_193 x2 (h _ ⟨fun a n1 n2 n3 n4 => by rw [tl_ne n1]; exact hF.1 a n1 n2 n3 n4, fun k hk => by rw [tl_31 (by omega) (by omega) (by omega)]; exact hF.2 k hk⟩ (by rw [tl_31 (by omega) (by omega) (by omega)]; exact z20) (tl_25 z25))
  have dsame : q' ≠ 2 → c ≠ 41 → dpn q' c dep = dep := fun h1 h2 => by unfold dpn; rw [if_neg h1, if_neg h2]
  have r133 : q' = 5 ∨ q' = 6 → R_122_133 xs d K c p (nI q') T := by
    intro hh
    have n41 : c ≠ 41 := fun e => by have := x3 e; omega
    refine h_122_133 (fin _ ⟨fun a n1 n2 n3 n4 => by rw [us_ne n1, us_ne n1], fun k hk => ?_⟩ (by rw [dsame (by omega) n41]; exact h20) h25)
    show upd (upd (T 31) 28 _) 29 _ k = _
    rw [upd_n (by omega), upd_n (by omega)]
  have r175 : q' ≠ 2 → R_122_175 xs d K c (nI q') 0 T := by
    intro h2
    refine h_122_175 ⟨fun n41 => fin T ⟨fun _ _ _ _ _ => rfl, fun _ _ => rfl⟩ (by rw [dsame h2 n41]; exact h20) h25, fun g => ⟨fun lt => ?_, fun _ => ?_⟩⟩
    · have e41 := Classical.byContradiction g
      have := x3 e41
      exact absurd lt (nI_nlt (a := q') (b := 13) this (by omega))
    · have e41 := Classical.byContradiction g
      have h13 := x3 e41
      have hx : 2 ≤ q ∧ q ≤ 13 := by
        rcases x4 h13 with ⟨-, a, b, -⟩ | ⟨-, e, -⟩
        · exact ⟨a, b⟩
        · rw [e41] at e; exact absurd e (by decide)
      have hd1 := c8 hx.1 hx.2
      obtain ⟨k, rfl⟩ : ∃ k, dep = k + 1 := ⟨dep - 1, by omega⟩
      have ek : dpn q' c (k + 1) = k := by unfold dpn; rw [if_neg h2, if_pos e41]; rfl
      obtain ⟨d, rfl⟩ := cs_d (d := d) (by omega)
      refine c_123 ?_
      unfold w_123
      rw [h20, nI_p1]
      refine ⟨k, by omega, rfl, fun _ => ⟨k, by omega, rfl, k, by omega, rfl, fun _ => ⟨rfl, fin _ ⟨fun a n1 n2 n3 n4 => by rw [us_ne n1, us_ne n1, us_ne n1], fun k hk => ?_⟩ (by rw [ek]; rfl) h25⟩, fun hh => absurd rfl hh⟩, fun _ => ⟨rfl, fin _ ⟨fun a n1 n2 n3 n4 => by rw [us_ne n1, us_ne n1], fun k hk => ?_⟩ (by rw [ek]; rfl) h25⟩⟩
      · show upd (upd (upd (T 31) 20 _) 28 _) 29 _ k = _
        rw [upd_n (by omega), upd_n (by omega), upd_n (by omega)]
      · show upd (upd (T 31) 20 _) 32 _ k = _
        rw [upd_n (by omega), upd_n (by omega)]
  refine c_122 ⟨fun n1 => ⟨fun n2 => ⟨fun n3 => ⟨fun e => r133 (Or.inl (nI_k (k := 5) x2 (by omega) e)), fun n5 => ⟨fun n6 => ?_, fun n6 => r133 (Or.inr (nI_k (k := 6) x2 (by omega) (Classical.byContradiction n6)))⟩⟩, fun n3 => ?_⟩, fun n2 => ?_⟩, fun n1 => ?_⟩
  · have h2 : q' ≠ 2 := fun e => n2 (by rw [e]; rfl)
    exact ⟨fun _ => r175 h2, fun _ => ⟨fun _ => r175 h2, fun _ => ⟨fun _ => r175 h2, fun hh => absurd rfl hh⟩⟩⟩
  · have e3 : q' = 3 := nI_k (k := 3) x2 (by omega) (Classical.byContradiction n3)
    have n41 : c ≠ 41 := fun e => by have := x3 e; omega
    refine fin _ ⟨fun a n1 n2 n3 n4 => us_ne n1, fun k hk => ?_⟩ (by rw [dsame (by omega) n41]; exact h20) h25
    show upd (T 31) 31 _ k = _
    rw [upd_n (by omega)]
  · have e2 : q' = 2 := nI_k (k := 2) x2 (by omega) (Classical.byContradiction n2)
    have hdd : dpn q' c dep = dep + 1 := by unfold dpn; rw [if_pos e2]
    rw [h20]
    refine ⟨dep, by omega, rfl, dep, by omega, rfl, fun _ => ⟨dep, by omega, rfl, fun _ => ?_, fun hh => absurd rfl hh⟩, fun hh => absurd rfl hh⟩
    refine h_122_96 (fin _ ⟨fun a n1 n2 n3 n4 => by rw [us_ne n1, us_ne n2, us_ne n4, us_ne n3], fun k hk => ?_⟩ ?_ h25)
    · show upd (T 31) 20 _ k = _
      rw [upd_n (by omega)]
    · show T 31 20 + 1 = _
      rw [h20, nI_1, hdd]
  · have e1 : q' = 1 := nI_k (k := 1) x2 (by omega) (Classical.byContradiction n1)
    have n41 : c ≠ 41 := fun e => by have := x3 e; omega
    refine fin _ ⟨fun a n1 n2 n3 n4 => us_ne n1, fun k hk => ?_⟩ (by rw [dsame (by omega) n41]; exact h20) h25
    show upd (T 31) 30 _ k = _
    rw [upd_n (by omega)]
abbrev fr (q : Nat) : Prop := q = 0 ∨ q = 1 ∨ q = 2 ∨ q = 5 ∨ q = 6 ∨ q = 10 ∨ q = 13 ∨ q = 14
theorem nx_fr {q fg fg' dep : Nat} {c : Int32} (h : fr q) : nx q fg dep c = nx q fg' dep c := by
  rcases h with rfl | rfl | rfl | rfl | rfl | rfl | rfl | rfl <;> rfl
theorem ins_fr {dep q' : Nat} {c : Int32} (h : ins dep c = some q') : fr q' ∨ q' = 3 ∨ q' = 7 ∨ q' = 11 := by
  rcases ins_cases h with ⟨g, rfl⟩ | ⟨g0, g, rfl⟩ | ⟨rfl, g, rfl⟩ | ⟨rfl, g, rfl⟩ <;> decide
theorem nx_fr2 {q fg dep q' : Nat} {c : Int32} (h : fr q) (hn : nx q fg dep c = some q') : fr q' ∨ q' = 3 ∨ q' = 7 ∨ q' = 11 := by
  have no : ∀ {P : Prop}, (none : Option Nat) = some q' → P := fun e => absurd e (by simp)
  have t1 : ∀ {P : Prop} [Decidable P] {k : Nat} {o : Option Nat}, (if P then some k else o) = some q' → k = q' ∨ o = some q' := by
    intro P _ k o hh
    by_cases g : P
    · rw [if_pos g] at hh; exact Or.inl (Option.some.inj hh)
    · rw [if_neg g] at hh; exact Or.inr hh
  rcases h with rfl | rfl | rfl | rfl | rfl | rfl | rfl | rfl
  · rcases t1 (P := c = 40) (k := 1) (o := none) hn with rfl | h2
    · decide
    · exact no h2
  · rcases t1 (P := ¬ c < 97 ∧ ¬ 100 < c) (k := 2) (o := none) hn with rfl | h2
    · decide
    · exact no h2
  · rcases t1 (P := c = 35) (k := 3) (o := ins dep c) hn with rfl | h2
    · decide
    · exact ins_fr h2
  · rcases t1 (P := c = 61) (k := 7) (o := none) hn with rfl | h2
    · decide
    · exact no h2
  · rcases t1 (P := c = 61) (k := 10) (o := none) hn with rfl | h2
    · decide
    · exact no h2
  · rcases t1 (P := c = 40 ∧ dep < 10) (k := 1) (o := if c = 64 then some 11 else if c = 126 then some 13 else none) hn with rfl | h2
    · decide
    · rcases t1 h2 with rfl | h3
      · decide
      · rcases t1 h3 with rfl | h4
        · decide
        · exact no h4
  · exact ins_fr hn
  · exact no hn
theorem bad_fr {tx : Nat → Int32} {fg fg' : Nat} : ∀ {n q dep p : Nat}, fr q → bad tx n q fg dep p = bad tx n q fg' dep p
  | 0, q, dep, p, _ => rfl
  | n + 1, q, dep, p, h => by
    have e := nx_fr (fg := fg) (fg' := fg') (dep := dep) (c := tx (p - 1)) h
    cases hx : nx q fg dep (tx (p - 1)) with
    | none => rw [bad_none hx, bad_none (e.symm.trans hx)]
    | some q' =>
      rw [bad_some hx, bad_some (e.symm.trans hx)]
      rcases nx_fr2 h hx with h2 | h2
      · have e2 : ∀ f, fgn q' f = f := by
          intro f
          unfold fgn
          rw [if_neg (by omega), if_neg (by omega)]
        rw [e2, e2]
        exact bad_fr h2
      · have e2 : ∀ f, fgn q' f = 0 := by
          intro f
          unfold fgn
          rw [if_pos h2]
        rw [e2, e2]
theorem ex_nI (x : Int32) : ∃ g, x = nI g := ⟨x.toUInt32.toNat, by
  apply Int32.toBitVec_inj.mp
  simp [nI]⟩
theorem k_124_0 {n : Nat} (hd : 4 ≤ d) (hn : n ≤ 300) (hs : S 31 11 = nI n) (h : ∀ T, FB S T → K T (some (.int (nI (bad (S 41) n 0 0 0 1))))) : CS xs d 124 S [.ref 31, .int 0] K := by
  obtain ⟨d, rfl⟩ := cs_d (d := d) (by omega)
  have main : ∀ (m p q fg dep : Nat) (T : Sv), p + m = n + 1 → 1 ≤ p → CI q fg dep → T 31 24 = nI q → T 31 25 = nI fg → T 31 20 = nI dep → FB S T → bad (S 41) m q fg dep p = bad (S 41) n 0 0 0 1 → R_124_12 xs d K 0 (nI p) T := by
    intro m
    induction m with
    | zero =>
      intro p q fg dep T hp h1p hC t24 t25 t20 hF hb
      have e11 : T 31 11 = nI n := by rw [hF.2 11 (by omega)]; exact hs
      refine h_124_12 ⟨fun _ => ?_, fun g => absurd (by rw [e11]; exact nI_lt (by omega) (by omega)) g⟩
      rw [t24, e11, nI_1]
      have hb : (if q = 14 then 0 else p) = bad (S 41) n 0 0 0 1 := hb
      have := h T hF
      rw [← hb] at this
      refine ⟨fun g => ?_, fun g => ?_⟩
      · rw [if_neg (fun e => g (by rw [e]; rfl)), show p = n + 1 by omega] at this
        exact this
      · rw [if_pos (nI_k (k := 14) hC.1 (by omega) (Classical.byContradiction g))] at this
        exact this
    | succ m ih =>
      intro p q fg dep T hp h1p hC t24 t25 t20 hF hb
      have e11 : T 31 11 = nI n := by rw [hF.2 11 (by omega)]; exact hs
      have e41 : T 41 = S 41 := hF.1 41 (by decide) (by decide) (by decide) (by decide)
      obtain ⟨k, rfl⟩ : ∃ k, p = k + 1 := ⟨p - 1, by omega⟩
      refine h_124_12 ⟨fun g => absurd g (by rw [e11]; exact nI_nlt (by omega) (by omega)), fun _ => ⟨k, by omega, nI_p1 k, ?_⟩⟩
      rw [e41]
      refine k_115 (W := T) (q := q) (fg := fg) (dep := dep) (by omega) hC t24 t25 t20 rfl (fun ha => absurd rfl ha) ⟨fun q' hq' => ⟨_, rfl, fun _ => ?_, fun g => absurd ?_ g⟩, fun hq' => ⟨_, rfl, fun g => absurd g (by decide), fun _ => ?_⟩⟩
      · rw [if_neg (fun hh => hh.1 rfl)]
        refine ⟨k, by omega, nI_p1 k, ?_⟩
        rw [e41]
        have hb2 : bad (S 41) (m + 1) q fg dep (k + 1) = bad (S 41) m q' (fgn q' fg) (dpn q' (S 41 k) dep) (k + 1 + 1) := bad_some hq'
        rw [hb2] at hb
        have hC' := CI_nx hC hq'
        refine k_122_0 (q := q) (q' := q') (fg := fg) (dep := dep) (by omega) hC hq' t24 t25 t20 (fun T' hF' u20 u25 => ⟨rfl, ?_⟩)
        rw [nI_1]
        refine ih (k + 1 + 1) q' _ _ _ (by omega) (by omega) hC' rfl u25 u20 ⟨fun a n1 n2 n3 n4 => by rw [us_ne n1, hF'.1 a n1 n2 n3 n4]; exact hF.1 a n1 n2 n3 n4, fun j hj => ?_⟩ hb
        show upd (T' 31) 24 _ j = _
        rw [upd_n (by omega), hF'.2 j hj]
        exact hF.2 j hj
      · have hq2 := (nx_c hC.1 hq').2.1
        exact nI_le (a := 0) (b := q') (by omega) (by omega)
      · have hb2 : bad (S 41) (m + 1) q fg dep (k + 1) = k + 1 := bad_none hq'
        have := h T hF
        rw [← hb, hb2] at this
        exact this
  obtain ⟨g, eg⟩ := ex_nI (S 31 25)
  refine c_124 (main n 1 0 g 0 _ (by omega) (by omega) (by simp [CI]) rfl eg rfl ⟨fun a n1 _ _ _ => by rw [us_ne n1, us_ne n1], fun k hk => ?_⟩ (bad_fr (by decide)))
  show upd (upd (S 31) 24 0) 20 0 k = _
  rw [upd_n (by omega), upd_n (by omega)]
end GF
