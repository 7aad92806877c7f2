/-! the grammar: what both look at, as a function; the class keeps to it -/
abbrev dgt (c : Int32) : Prop := ¬ c < 48 ∧ ¬ 57 < c
abbrev xyz (c : Int32) : Prop := ¬ c < 120 ∧ ¬ 122 < c
abbrev p_q (c : Int32) : Prop := c = 112 ∨ c = 113
def ins (dep : Nat) (c : Int32) : Option Nat := if xyz c then some 5 else if p_q c then some 6 else if c = 41 then (if dep = 1 then some 14 else some 13) else none
def nx (q fg dep : Nat) (c : Int32) : Option Nat :=
  match q with
  | 0 => if c = 40 then some 1 else none
  | 1 => if ¬ c < 97 ∧ ¬ 100 < c then some 2 else none
  | 2 => if c = 35 then some 3 else ins dep c
  | 3 => if dgt c then some 4 else none
  | 4 => if dgt c ∧ fg < 2 then some 4 else ins dep c
  | 5 => if c = 61 then some 7 else none
  | 6 => if c = 61 then some 10 else none
  | 7 => if c = 45 then some 8 else if dgt c then some 9 else none
  | 8 => if dgt c then some 9 else none
  | 9 => if dgt c ∧ fg < 5 then some 9 else ins dep c
  | 10 => if c = 40 ∧ dep < 10 then some 1 else if c = 64 then some 11 else if c = 126 then some 13 else none
  | 11 => if dgt c then some 12 else none
  | 12 => if dgt c ∧ fg < 2 then some 12 else ins dep c
  | 13 => ins dep c
  | _ => none
def fgn (q' fg : Nat) : Nat := if q' = 3 ∨ q' = 7 ∨ q' = 11 then 0 else if q' = 4 ∨ q' = 9 ∨ q' = 12 then fg + 1 else fg
def dpn (q' : Nat) (c : Int32) (dep : Nat) : Nat := if q' = 2 then dep + 1 else if c = 41 then dep - 1 else dep
def due (q : Nat) : Nat := [0, 1, 2, 8, 9, 4, 5, 6, 8, 9, 7, 8, 9, 3, 10].getD q 11
/-- what can be said of the place in the grammar -/
def CI (q fg dep : Nat) : Prop := q ≤ 14 ∧ (q = 3 ∨ q = 7 ∨ q = 8 ∨ q = 11 → fg = 0) ∧ (q = 4 ∨ q = 12 → 1 ≤ fg ∧ fg ≤ 2) ∧ (q = 9 → 1 ≤ fg ∧ fg ≤ 5) ∧ dep ≤ 10 ∧ (q = 0 ∨ q = 14 → dep = 0) ∧ (q = 1 → dep ≤ 9) ∧ (2 ≤ q → q ≤ 13 → 1 ≤ dep)
theorem ins_cases {dep : Nat} {c : Int32} {q' : Nat} (h : ins dep c = some q') : (xyz c ∧ q' = 5) ∨ (¬ xyz c ∧ p_q c ∧ q' = 6) ∨ (c = 41 ∧ dep = 1 ∧ q' = 14) ∨ (c = 41 ∧ dep ≠ 1 ∧ q' = 13) := by
  unfold ins at h
  split at h
  · rename_i g; exact Or.inl ⟨g, (Option.some.inj h).symm⟩
  · rename_i g
    split at h
    · rename_i g2; exact Or.inr (Or.inl ⟨g, g2, (Option.some.inj h).symm⟩)
    · split at h
      · rename_i g3
        split at h
        · rename_i g4; exact Or.inr (Or.inr (Or.inl ⟨g3, g4, (Option.some.inj h).symm⟩))
        · rename_i g4; exact Or.inr (Or.inr (Or.inr ⟨g3, g4, (Option.some.inj h).symm⟩))
      · exact absurd h (by simp)
theorem x41 : ¬ xyz 41 := by decide
theorem CI_ins {q fg dep : Nat} {c : Int32} {q' : Nat} (hC : CI q fg dep) (h2 : 2 ≤ q) (h13 : q ≤ 13) (h : ins dep c = some q') : CI q' (fgn q' fg) (dpn q' c dep) := by
  obtain ⟨c1, c2, c3, c4, c5, c6, c7, c8⟩ := hC
  have hd := c8 h2 h13
  rcases ins_cases h with ⟨g, rfl⟩ | ⟨g0, g, rfl⟩ | ⟨rfl, g, rfl⟩ | ⟨rfl, g, rfl⟩
  · have : c ≠ 41 := fun e => x41 (e ▸ g)
    simp [CI, fgn, dpn, this] <;> omega
  · have : c ≠ 41 := fun e => by rw [e] at g; exact absurd g (by decide)
    simp [CI, fgn, dpn, this] <;> omega
  · simp [CI, fgn, dpn] <;> omega
  · simp [CI, fgn, dpn] <;> omega
theorem CI_nx {q fg dep : Nat} {c : Int32} {q' : Nat} (hC : CI q fg dep) (h : nx q fg dep c = some q') : CI q' (fgn q' fg) (dpn q' c dep) := by
  have hC' := hC
  obtain ⟨c1, c2, c3, c4, c5, c6, c7, c8⟩ := hC
  have n41 : ∀ {P : Prop}, (c = 41 → ¬ P) → P → c ≠ 41 := fun h1 h2 e => h1 e h2
  unfold nx at h
  split at h
  · split at h
    · rename_i g
      have : c ≠ 41 := by rw [g]; decide
      obtain rfl := Option.some.inj h
      simp [CI, fgn, dpn, this] <;> omega
    · exact absurd h (by simp)
  · split at h
    · rename_i g
      have : c ≠ 41 := fun e => by rw [e] at g; exact absurd g (by decide)
      obtain rfl := Option.some.inj h
      simp [CI, fgn, dpn, this] <;> omega
    · exact absurd h (by simp)
  · split at h
    · rename_i g
      have : c ≠ 41 := by rw [g]; decide
      obtain rfl := Option.some.inj h
      simp [CI, fgn, dpn, this] <;> omega
    · exact CI_ins hC' (by omega) (by omega) h
  · split at h
    · rename_i g
      have : c ≠ 41 := fun e => by rw [e] at g; exact absurd g (by decide)
      obtain rfl := Option.some.inj h
      simp [CI, fgn, dpn, this] <;> omega
    · exact absurd h (by simp)
  · split at h
    · rename_i g
      have : c ≠ 41 := fun e => by rw [e] at g; exact absurd g.1 (by decide)
      obtain rfl := Option.some.inj h
      simp [CI, fgn, dpn, this] <;> omega
    · exact CI_ins hC' (by omega) (by omega) h
  · split at h
    · rename_i g
      have : c ≠ 41 := by rw [g]; decide
      obtain rfl := Option.some.inj h
      simp [CI, fgn, dpn, this] <;> omega
    · exact absurd h (by simp)
  · split at h
    · rename_i g
      have : c ≠ 41 := by rw [g]; decide
      obtain rfl := Option.some.inj h
      simp [CI, fgn, dpn, this] <;> omega
    · exact absurd h (by simp)
  · split at h
    · rename_i g
      have : c ≠ 41 := by rw [g]; decide
      obtain rfl := Option.some.inj h
      simp [CI, fgn, dpn, this] <;> omega
    · split at h
      · rename_i g
        have : c ≠ 41 := fun e => by rw [e] at g; exact absurd g (by decide)
        obtain rfl := Option.some.inj h
        simp [CI, fgn, dpn, this] <;> omega
      · exact absurd h (by simp)
  · split at h
    · rename_i g
      have : c ≠ 41 := fun e => by rw [e] at g; exact absurd g (by decide)
      obtain rfl := Option.some.inj h
      simp [CI, fgn, dpn, this] <;> omega
    · exact absurd h (by simp)
  · split at h
    · rename_i g
      have : c ≠ 41 := fun e => by rw [e] at g; exact absurd g.1 (by decide)
      obtain rfl := Option.some.inj h
      simp [CI, fgn, dpn, this] <;> omega
    · exact CI_ins hC' (by omega) (by omega) h
  · split at h
    · rename_i g
      have : c ≠ 41 := by rw [g.1]; decide
      obtain rfl := Option.some.inj h
      simp [CI, fgn, dpn, this] <;> omega
    · split at h
      · rename_i g
        have : c ≠ 41 := by rw [g]; decide
        obtain rfl := Option.some.inj h
        simp [CI, fgn, dpn, this] <;> omega
      · split at h
        · rename_i g
          have : c ≠ 41 := by rw [g]; decide
          obtain rfl := Option.some.inj h
          simp [CI, fgn, dpn, this] <;> omega
        · exact absurd h (by simp)
  · split at h
    · rename_i g
      have : c ≠ 41 := fun e => by rw [e] at g; exact absurd g (by decide)
      obtain rfl := Option.some.inj h
      simp [CI, fgn, dpn, this] <;> omega
    · exact absurd h (by simp)
  · split at h
    · rename_i g
      have : c ≠ 41 := fun e => by rw [e] at g; exact absurd g.1 (by decide)
      obtain rfl := Option.some.inj h
      simp [CI, fgn, dpn, this] <;> omega
    · exact CI_ins hC' (by omega) (by omega) h
  · exact CI_ins hC' (by omega) (by omega) h
  · exact absurd h (by simp)
/-- where a text goes wrong; 0: nowhere -/
def bad (tx : Nat → Int32) : Nat → Nat → Nat → Nat → Nat → Nat
  | 0, q, _, _, p => if q = 14 then 0 else p
  | n + 1, q, fg, dep, p => match nx q fg dep (tx (p - 1)) with
    | none => p
    | some q' => bad tx n q' (fgn q' fg) (dpn q' (tx (p - 1)) dep) (p + 1)
theorem bad_none {tx : Nat → Int32} {n q fg dep p : Nat} (h : nx q fg dep (tx (p - 1)) = none) : bad tx (n + 1) q fg dep p = p := by
  show (match nx q fg dep (tx (p - 1)) with | none => p | some q' => bad tx n q' (fgn q' fg) (dpn q' (tx (p - 1)) dep) (p + 1)) = p
  rw [h]
theorem bad_some {tx : Nat → Int32} {n q fg dep p q' : Nat} (h : nx q fg dep (tx (p - 1)) = some q') : bad tx (n + 1) q fg dep p = bad tx n q' (fgn q' fg) (dpn q' (tx (p - 1)) dep) (p + 1) := by
  show (match nx q fg dep (tx (p - 1)) with | none => p | some q' => bad tx n q' (fgn q' fg) (dpn q' (tx (p - 1)) dep) (p + 1)) = _
  rw [h]
theorem bad_le {tx : Nat → Int32} : ∀ {n q fg dep p : Nat}, bad tx n q fg dep p ≤ p + n
  | 0, q, fg, dep, p => by
    unfold bad
    split <;> omega
  | n + 1, q, fg, dep, p => by
    cases h : nx q fg dep (tx (p - 1)) with
    | none => rw [bad_none h]; omega
    | some q' =>
      rw [bad_some h]
      have := bad_le (tx := tx) (n := n) (q := q') (fg := fgn q' fg) (dep := dpn q' (tx (p - 1)) dep) (p := p + 1)
      omega
/-! the class -/
def GR (T : Sv) (q fg dep : Nat) : Prop := T 27 2 = nI (dep + (if q = 1 then 1 else 0)) ∧ (q = 3 ∨ q = 11 → T 27 3 = nI 2) ∧ (q = 8 → T 27 3 = nI 5) ∧ (q = 4 ∨ q = 12 → T 27 3 = nI (2 - fg)) ∧ (q = 9 → T 27 3 = nI (5 - fg))
section GC
variable {xs : Nat × (Nat → Int32)} {d : Nat} {S T : Sv} {K : Sv → Option Value → Prop} {c : Int32}
theorem k_70 (hd : 1 ≤ d) (h1 : dgt c → K S (some (.int 1))) (h0 : ¬ dgt c → K S (some (.int 0))) : CS xs d 70 S [.int c] K := by
  obtain ⟨d, rfl⟩ := cs_d hd
  exact c_70 ⟨fun g => h0 (fun hh => hh.1 g), fun g => ⟨fun g2 => h0 (fun hh => hh.2 g2), fun g2 => h1 ⟨g, g2⟩⟩⟩
theorem k_71 (hd : 1 ≤ d) (h1 : xyz c → K S (some (.int 1))) (h0 : ¬ xyz c → K S (some (.int 0))) : CS xs d 71 S [.int c] K := by
  obtain ⟨d, rfl⟩ := cs_d hd
  exact c_71 ⟨fun g => h0 (fun hh => hh.1 g), fun g => ⟨fun g2 => h0 (fun hh => hh.2 g2), fun g2 => h1 ⟨g, g2⟩⟩⟩
theorem k_72 (hd : 2 ≤ d) (h1 : xyz c ∨ p_q c → K S (some (.int 1))) (h0 : ¬ xyz c → ¬ p_q c → K S (some (.int 0))) : CS xs d 72 S [.int c] K := by
  obtain ⟨d, rfl⟩ := cs_d (d := d) (by omega)
  refine c_72 (k_71 (by omega) (fun g => ⟨_, rfl, fun _ => h1 (Or.inl g), fun hh => absurd (by decide) hh⟩) (fun g => ⟨_, rfl, fun hh => absurd rfl hh, fun _ => ⟨fun e => h1 (Or.inr (Or.inl e)), fun e => ⟨fun e2 => h0 g (fun hh => hh.elim e e2), fun e2 => h1 (Or.inr (Or.inr (Classical.byContradiction e2)))⟩⟩⟩))
/-- what a step of the grammar leads to -/
def GO (K : Sv → Option Value → Prop) (T : Sv) (c : Int32) (o : Option Nat) (fg dep : Nat) : Prop := (∀ q', o = some q' → ∀ T', (∀ a, a ≠ 27 → T' a = T a) → GR T' q' (fgn q' fg) (dpn q' c dep) → K T' (some (.int (nI (due q'))))) ∧ (o = none → ∀ T', (∀ a, a ≠ 27 → T' a = T a) → K T' (some (.int 11)))
theorem k_68 {q fg dep : Nat} (hd : 3 ≤ d) (hC : CI q fg dep) (h2 : 2 ≤ q) (h13 : q ≤ 13) (hG : GR T q fg dep) (h : GO K T c (ins dep c) fg dep) : CS xs d 68 T [.ref 27, .int c] K := by
  obtain ⟨d, rfl⟩ := cs_d (d := d) (by omega)
  obtain ⟨hs, hn⟩ := h
  have hdep := hC.2.2.2.2.2.2.2 h2 h13
  have hd10 := hC.2.2.2.2.1
  have g2 : T 27 2 = nI dep := by
    have := hG.1
    rw [if_neg (by omega)] at this
    exact this
  refine c_68 (k_72 (by omega) (fun g => ⟨_, rfl, fun hh => absurd hh (by decide), fun _ => ?_⟩) (fun g g' => ⟨_, rfl, fun _ => ⟨fun e => ?_, fun e => ?_⟩, fun hh => absurd rfl hh⟩))
  · refine k_71 (by omega) (fun gx => ⟨_, rfl, fun hh => absurd hh (by decide), fun _ => ?_⟩) (fun gx => ⟨_, rfl, fun _ => ?_, fun hh => absurd rfl hh⟩)
    · have n41 : c ≠ 41 := fun e => x41 (e ▸ gx)
      refine hs 5 (by unfold ins; rw [if_pos gx]) T (fun _ _ => rfl) ?_
      simp [GR, fgn, dpn, n41]
      exact g2
    · have gp := g.resolve_left gx
      have n41 : c ≠ 41 := fun e => by rw [e] at gp; exact absurd gp (by decide)
      refine hs 6 (by unfold ins; rw [if_neg gx, if_pos gp]) T (fun _ _ => rfl) ?_
      simp [GR, fgn, dpn, n41]
      exact g2
  · exact hn (by unfold ins; rw [if_neg g, if_neg g', if_neg e]) T (fun _ _ => rfl)
  · have e41 : c = 41 := Classical.byContradiction e
    obtain ⟨k, rfl⟩ : ∃ k, dep = k + 1 := ⟨dep - 1, by omega⟩
    obtain ⟨d, rfl⟩ := cs_d (d := d) (by omega)
    refine c_65 ?_
    unfold w_65
    rw [g2, nI_p1]
    refine ⟨fun z => ⟨_, rfl, ?_⟩, fun z => ⟨_, rfl, ?_⟩⟩
    · have hk : ¬ k + 1 = 1 := fun e2 => z (by rw [show k = 0 by omega]; rfl)
      refine hs 13 (by unfold ins; rw [if_neg g, if_neg g', if_pos e41, if_neg hk]) _ (fun a ha => us_ne ha) ?_
      simp [GR, fgn, dpn, e41]
      rfl
    · have hk : k = 0 := nI_inj (by omega) (by omega) (Classical.byContradiction z)
      subst hk
      refine hs 14 (by unfold ins; rw [if_neg g, if_neg g', if_pos e41, if_pos rfl]) _ (fun a ha => us_ne ha) ?_
      simp [GR, fgn, dpn, e41]
      rfl
end GC
