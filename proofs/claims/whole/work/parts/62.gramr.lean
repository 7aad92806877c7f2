/-! the reference's grammar -/
section GE
variable {xs : Nat × (Nat → Int32)} {d : Nat} {S T : Sv} {K : Sv → Option Value → Prop} {c : Int32}
theorem k_114 (hd : 1 ≤ d) (h1 : dgt c → K S (some (.int 1))) (h0 : ¬ dgt c → K S (some (.int 0))) : CS xs d 114 S [.int c] K := by
  obtain ⟨d, rfl⟩ := cs_d hd
  exact c_114 ⟨fun g => h0 (fun hh => hh.1 g), fun g => ⟨fun g2 => h0 (fun hh => hh.2 g2), fun g2 => h1 ⟨g, g2⟩⟩⟩
/-- what follows a step: W is the state after the settling -/
def HO (K : Sv → Option Value → Prop) (T W : Sv) (act c : Int32) (o : Option Nat) : Prop := (∀ q', o = some q' → K (if ¬ act = 0 ∧ (q' = 5 ∨ q' = 6 ∨ c = 41) then W else T) (some (.int (nI q')))) ∧ (o = none → K T (some (.int (-1))))
theorem ins_5 {dep : Nat} (g : xyz c) : ins dep c = some 5 := if_pos g
theorem ins_6 {dep : Nat} (g : ¬ xyz c) (g2 : p_q c) : ins dep c = some 6 := by
  unfold ins
  rw [if_neg g, if_pos g2]
theorem k_116 {W : Sv} {dep : Nat} {act : Int32} (hd : 1 ≤ d) (h20 : T 31 20 = nI dep) (hdep : dep ≤ 10) (hW : W 31 20 = T 31 20) (hs : ¬ act = 0 → ¬ ins dep c = none → ∀ K' : Sv → Option Value → Prop, K' W none → CS xs (d - 1) 117 T [.ref 31] K') (h : HO K T W act c (ins dep c)) : CS xs d 116 T [.ref 31, .int c, .int act] K := by
  obtain ⟨d, rfl⟩ := cs_d hd
  obtain ⟨hy, hn⟩ := h
  have hd1 : d + 1 - 1 = d := rfl
  rw [hd1] at hs
  have r60 : ∀ (a3 a4 : Int32) (Z : Sv), Z 31 20 = nI dep → ((¬ a3 = 0 → K Z (some (.int 5))) ∧ (a3 = 0 → ¬ a4 = 0 → K Z (some (.int 6))) ∧ (a3 = 0 → a4 = 0 → c = 41 → dep = 1 → K Z (some (.int 14))) ∧ (a3 = 0 → a4 = 0 → c = 41 → dep ≠ 1 → K Z (some (.int 13))) ∧ (a3 = 0 → a4 = 0 → ¬ c = 41 → K Z (some (.int (-1))))) → R_116_60 xs d K c a3 a4 Z := by
    rintro a3 a4 Z hZ ⟨q1, q2, q3, q4, q5⟩
    refine h_116_60 ⟨fun g => ⟨fun g2 => ⟨fun g3 => q5 g g2 g3, fun g3 => ?_⟩, fun g2 => q2 g g2⟩, fun g => q1 g⟩
    have e := Classical.byContradiction g3
    rw [hZ]
    exact ⟨fun g4 => q4 g g2 e (fun e2 => g4 (by rw [e2]; rfl)), fun g4 => q3 g g2 e (nI_inj (b := 1) (by omega) (by omega) (Classical.byContradiction g4))⟩
  have fin : ∀ (a3 a4 : Int32), ((xyz c ∧ ¬ a3 = 0) ∨ (¬ xyz c ∧ a3 = 0 ∧ ((p_q c ∧ ¬ a4 = 0) ∨ (¬ p_q c ∧ a4 = 0)))) → (act = 0 → R_116_60 xs d K c a3 a4 T) ∧ (¬ act = 0 → ¬ ins dep c = none → R_116_60 xs d K c a3 a4 W) ∧ (ins dep c = none → R_116_60 xs d K c a3 a4 T) := by
    intro a3 a4 hh
    have key : ∀ Z : Sv, Z 31 20 = nI dep → (∀ q', ins dep c = some q' → K Z (some (.int (nI q')))) → (ins dep c = none → K Z (some (.int (-1)))) → R_116_60 xs d K c a3 a4 Z := by
      intro Z hZ k1 k2
      refine r60 a3 a4 Z hZ ?_
      rcases hh with ⟨g, e3⟩ | ⟨g, e3, ⟨g2, e4⟩ | ⟨g2, e4⟩⟩
      · exact ⟨fun _ => k1 5 (ins_5 g), fun e => absurd e e3, fun e => absurd e e3, fun e => absurd e e3, fun e => absurd e e3⟩
      · exact ⟨fun e => absurd e3 e, fun _ _ => k1 6 (ins_6 g g2), fun _ e => absurd e e4, fun _ e => absurd e e4, fun _ e => absurd e e4⟩
      · refine ⟨fun e => absurd e3 e, fun _ e => absurd e4 e, fun _ _ e41 ed => k1 14 ?_, fun _ _ e41 ed => k1 13 ?_, fun _ _ e41 => k2 ?_⟩
        · unfold ins; rw [if_neg g, if_neg g2, if_pos e41, if_pos ed]
        · unfold ins; rw [if_neg g, if_neg g2, if_pos e41, if_neg ed]
        · unfold ins; rw [if_neg g, if_neg g2, if_neg e41]
    refine ⟨fun ea => key T h20 (fun q' hq' => ?_) hn, fun ea hne => key W (hW.trans h20) (fun q' hq' => ?_) (fun e => absurd e hne), fun e => key T h20 (fun q' hq' => absurd (e.symm.trans hq') (by simp)) hn⟩
    · have := hy q' hq'
      rw [if_neg (fun hh => hh.1 ea)] at this
      exact this
    · have := hy q' hq'
      have h3 : q' = 5 ∨ q' = 6 ∨ c = 41 := by
        rcases ins_cases hq' with ⟨_, e⟩ | ⟨_, _, e⟩ | ⟨e, _⟩ | ⟨e, _⟩
        · exact Or.inl e
        · exact Or.inr (Or.inl e)
        · exact Or.inr (Or.inr e)
        · exact Or.inr (Or.inr e)
      rw [if_pos ⟨ea, h3⟩] at this
      exact this
  have r56 : ∀ (a3 a4 : Int32), ¬ act = 0 → ¬ ins dep c = none → R_116_60 xs d K c a3 a4 W → R_116_56 xs d K c a3 a4 T := by
    intro a3 a4 ea hne hk
    exact h_116_56 (hs ea hne _ ⟨rfl, hk⟩)
  have r30 : ∀ a3 : Int32, p_q c → ((xyz c ∧ ¬ a3 = 0) ∨ (¬ xyz c ∧ a3 = 0)) → R_116_30 xs d K c act a3 T := by
    intro a3 gp hh
    have hne : ¬ ins dep c = none := by
      by_cases gx : xyz c
      · rw [ins_5 gx]; simp
      · rw [ins_6 gx gp]; simp
    have f := fin a3 1 (hh.elim (fun g => Or.inl g) (fun g => Or.inr ⟨g.1, g.2, Or.inl ⟨gp, by decide⟩⟩))
    exact h_116_30 ⟨fun ea => f.1 ea, fun ea => ⟨fun _ => r56 a3 1 ea hne (f.2.1 ea hne), fun _ => r56 a3 1 ea hne (f.2.1 ea hne)⟩⟩
  have r16 : ¬ xyz c → R_116_16 xs d K c act T := by
    intro gx
    refine h_116_16 ⟨fun e => r30 0 (Or.inl e) (Or.inr ⟨gx, rfl⟩), fun e => ⟨fun e2 => ?_, fun e2 => r30 0 (Or.inr (Classical.byContradiction e2)) (Or.inr ⟨gx, rfl⟩)⟩⟩
    have gp : ¬ p_q c := fun hh => hh.elim e e2
    have f := fin 0 0 (Or.inr ⟨gx, rfl, Or.inr ⟨gp, rfl⟩⟩)
    refine ⟨fun ea => f.1 ea, fun ea => ⟨fun e41 => f.2.2 ?_, fun e41 => ?_⟩⟩
    · unfold ins; rw [if_neg gx, if_neg gp, if_neg e41]
    · have hne : ¬ ins dep c = none := by
        unfold ins
        rw [if_neg gx, if_neg gp, if_pos (Classical.byContradiction e41)]
        split <;> simp
      exact r56 0 0 ea hne (f.2.1 ea hne)
  refine c_116 ⟨fun g => r16 (fun hh => hh.1 g), fun g => ⟨fun g2 => r16 (fun hh => hh.2 g2), fun g2 => ?_⟩⟩
  have gx : xyz c := ⟨g, g2⟩
  have hne : ¬ ins dep c = none := by rw [ins_5 gx]; simp
  have f := fin 1 0 (Or.inl ⟨gx, by decide⟩)
  exact ⟨fun e => r30 1 (Or.inl e) (Or.inl ⟨gx, by decide⟩), fun e => ⟨fun e2 => ⟨fun ea => f.1 ea, fun ea => r56 1 0 ea hne (f.2.1 ea hne)⟩, fun e2 => r30 1 (Or.inr (Classical.byContradiction e2)) (Or.inl ⟨gx, by decide⟩)⟩⟩
theorem k_115 {W : Sv} {q fg dep : Nat} {act : Int32} (hd : 2 ≤ d) (hC : CI q fg dep) (h24 : T 31 24 = nI q) (h25 : T 31 25 = nI fg) (h20 : T 31 20 = nI dep) (hW : W 31 20 = T 31 20) (hs : ¬ act = 0 → ¬ nx q fg dep c = none → 2 ≤ q → q ≤ 13 → ∀ K' : Sv → Option Value → Prop, K' W none → CS xs (d - 2) 117 T [.ref 31] K') (h : HO K T W act c (nx q fg dep c)) : CS xs d 115 T [.ref 31, .int c, .int act] K := by
  obtain ⟨d, rfl⟩ := cs_d (d := d) (by omega)
  obtain ⟨c1, c2, c3, c4, c5, c6, c7, c8⟩ := hC
  have hd1 : d + 1 - 2 = d - 1 := by omega
  rw [hd1] at hs
  have yes : ∀ q', nx q fg dep c = some q' → ¬ (q' = 5 ∨ q' = 6 ∨ c = 41) → K T (some (.int (nI q'))) := by
    intro q' hq' hn
    have := h.1 q' hq'
    rw [if_neg (fun hh => hn hh.2)] at this
    exact this
  have ii : nx q fg dep c = ins dep c → 2 ≤ q → q ≤ 13 → CS xs d 116 T [.ref 31, .int c, .int act] (fun S1 v1 => ∃ r1 : Int32, v1 = some (.int r1) ∧ (K S1 (some (.int r1)))) := by
    intro e h2 h13
    rw [e] at hs h
    exact k_116 (W := W) (by omega) h20 c5 hW (fun ea hne => hs ea hne h2 h13) ⟨fun q' hq' => ⟨_, rfl, h.1 q' hq'⟩, fun e => ⟨_, rfl, h.2 e⟩⟩
  rcases (show q = 0 ∨ q = 1 ∨ q = 2 ∨ q = 3 ∨ q = 4 ∨ q = 5 ∨ q = 6 ∨ q = 7 ∨ q = 8 ∨ q = 9 ∨ q = 10 ∨ q = 11 ∨ q = 12 ∨ q = 13 ∨ q = 14 by omega) with rfl | rfl | rfl | rfl | rfl | rfl | rfl | rfl | rfl | rfl | rfl | rfl | rfl | rfl | rfl
  · have e : T 31 24 = nI 0 := h24
    refine c_115 ⟨fun e' => ?_, fun e' => ?_, fun e' => ?_, fun e' => ?_, fun e' => ?_, fun e' => ?_, fun e' => ?_, fun e' => ?_, fun e' => ?_, fun e' => ?_, fun e' => ?_, fun e' => ?_, fun e' => ?_, fun e' => ?_, fun e' => ?_⟩
    all_goals first | exact absurd (e.symm.trans e') (by decide) | (rw [e] at e'; exact absurd e' (by decide)) | skip
    refine ⟨fun g => h.2 (if_neg g), fun g => ?_⟩
    have ec : c = 40 := Classical.byContradiction g
    exact yes 1 (if_pos ec) (by rw [ec]; decide)
  · have e : T 31 24 = nI 1 := h24
    refine c_115 ⟨fun e' => ?_, fun e' => ?_, fun e' => ?_, fun e' => ?_, fun e' => ?_, fun e' => ?_, fun e' => ?_, fun e' => ?_, fun e' => ?_, fun e' => ?_, fun e' => ?_, fun e' => ?_, fun e' => ?_, fun e' => ?_, fun e' => ?_⟩
    all_goals first | exact absurd (e.symm.trans e') (by decide) | (rw [e] at e'; exact absurd e' (by decide)) | skip
    have no : ¬ (¬ c < 97 ∧ ¬ 100 < c) → K T (some (.int (-1))) := fun g => h.2 (if_neg g)
    refine ⟨fun g => no (fun hh => hh.1 g), fun g => ⟨fun g2 => no (fun hh => hh.2 g2), fun g2 => yes 2 (if_pos ⟨g, g2⟩) ?_⟩⟩
    rintro (h1 | h1 | h1)
    · omega
    · omega
    · rw [h1] at g; exact absurd (by decide) g
  · have e : T 31 24 = nI 2 := h24
    refine c_115 ⟨fun e' => ?_, fun e' => ?_, fun e' => ?_, fun e' => ?_, fun e' => ?_, fun e' => ?_, fun e' => ?_, fun e' => ?_, fun e' => ?_, fun e' => ?_, fun e' => ?_, fun e' => ?_, fun e' => ?_, fun e' => ?_, fun e' => ?_⟩
    all_goals first | exact absurd (e.symm.trans e') (by decide) | (rw [e] at e'; exact absurd e' (by decide)) | skip
    refine ⟨fun g => ii (if_neg g) (by omega) (by omega), fun g => ?_⟩
    have ec : c = 35 := Classical.byContradiction g
    exact yes 3 (if_pos ec) (by rw [ec]; decide)
  · have e : T 31 24 = nI 3 := h24
    refine c_115 ⟨fun e' => ?_, fun e' => ?_, fun e' => ?_, fun e' => ?_, fun e' => ?_, fun e' => ?_, fun e' => ?_, fun e' => ?_, fun e' => ?_, fun e' => ?_, fun e' => ?_, fun e' => ?_, fun e' => ?_, fun e' => ?_, fun e' => ?_⟩
    all_goals first | exact absurd (e.symm.trans e') (by decide) | (rw [e] at e'; exact absurd e' (by decide)) | skip
    refine k_114 (by omega) (fun g => ⟨_, rfl, fun hh => absurd hh (by decide), fun _ => yes 4 (if_pos g) ?_⟩) (fun g => ⟨_, rfl, fun _ => h.2 (if_neg g), fun hh => absurd rfl hh⟩)
    rintro (h1 | h1 | h1)
    · omega
    · omega
    · exact n41d g h1
  · have e : T 31 24 = nI 4 := h24
    refine c_115 ⟨fun e' => ?_, fun e' => ?_, fun e' => ?_, fun e' => ?_, fun e' => ?_, fun e' => ?_, fun e' => ?_, fun e' => ?_, fun e' => ?_, fun e' => ?_, fun e' => ?_, fun e' => ?_, fun e' => ?_, fun e' => ?_, fun e' => ?_⟩
    all_goals first | exact absurd (e.symm.trans e') (by decide) | (rw [e] at e'; exact absurd e' (by decide)) | skip
    have hb := c3 (Or.inl rfl)
    refine k_114 (by omega) (fun g => ⟨_, rfl, fun hh => absurd hh (by decide), fun _ => ?_⟩) (fun g => ⟨_, rfl, fun _ => ii (if_neg (fun hh => g hh.1)) (by omega) (by omega), fun hh => absurd rfl hh⟩)
    rw [h25]
    refine ⟨fun g2 => ?_, fun g2 => ?_⟩
    · have : 2 ≤ fg := (nI_leI (a := 2) (by omega) (by omega)).mp g2
      exact ii (if_neg (fun hh => absurd hh.2 (by omega))) (by omega) (by omega)
    · have : fg < 2 := Nat.lt_of_not_le (fun hh => g2 (nI_le (a := 2) hh (by omega)))
      refine yes 4 (if_pos ⟨g, this⟩) ?_
      rintro (h1 | h1 | h1)
      · omega
      · omega
      · exact n41d g h1
  · have e : T 31 24 = nI 5 := h24
    refine c_115 ⟨fun e' => ?_, fun e' => ?_, fun e' => ?_, fun e' => ?_, fun e' => ?_, fun e' => ?_, fun e' => ?_, fun e' => ?_, fun e' => ?_, fun e' => ?_, fun e' => ?_, fun e' => ?_, fun e' => ?_, fun e' => ?_, fun e' => ?_⟩
    all_goals first | exact absurd (e.symm.trans e') (by decide) | (rw [e] at e'; exact absurd e' (by decide)) | skip
    refine ⟨fun g => h.2 (if_neg g), fun g => ?_⟩
    have ec : c = 61 := Classical.byContradiction g
    exact yes 7 (if_pos ec) (by rw [ec]; decide)
  · have e : T 31 24 = nI 6 := h24
    refine c_115 ⟨fun e' => ?_, fun e' => ?_, fun e' => ?_, fun e' => ?_, fun e' => ?_, fun e' => ?_, fun e' => ?_, fun e' => ?_, fun e' => ?_, fun e' => ?_, fun e' => ?_, fun e' => ?_, fun e' => ?_, fun e' => ?_, fun e' => ?_⟩
    all_goals first | exact absurd (e.symm.trans e') (by decide) | (rw [e] at e'; exact absurd e' (by decide)) | skip
    refine ⟨fun g => h.2 (if_neg g), fun g => ?_⟩
    have ec : c = 61 := Classical.byContradiction g
    exact yes 10 (if_pos ec) (by rw [ec]; decide)
  · have e : T 31 24 = nI 7 := h24
    refine c_115 ⟨fun e' => ?_, fun e' => ?_, fun e' => ?_, fun e' => ?_, fun e' => ?_, fun e' => ?_, fun e' => ?_, fun e' => ?_, fun e' => ?_, fun e' => ?_, fun e' => ?_, fun e' => ?_, fun e' => ?_, fun e' => ?_, fun e' => ?_⟩
    all_goals first | exact absurd (e.symm.trans e') (by decide) | (rw [e] at e'; exact absurd e' (by decide)) | skip
    refine ⟨fun g => ?_, fun g => ?_⟩
    · have e2 : nx 7 fg dep c = if dgt c then some 9 else none := if_neg g
      refine k_114 (by omega) (fun g => ⟨_, rfl, fun hh => absurd hh (by decide), fun _ => yes 9 (by rw [e2, if_pos g]) ?_⟩) (fun g => ⟨_, rfl, fun _ => h.2 (by rw [e2, if_neg g]), fun hh => absurd rfl hh⟩)
      rintro (h1 | h1 | h1)
      · omega
      · omega
      · exact n41d g h1
    · have ec : c = 45 := Classical.byContradiction g
      exact yes 8 (if_pos ec) (by rw [ec]; decide)
  · have e : T 31 24 = nI 8 := h24
    refine c_115 ⟨fun e' => ?_, fun e' => ?_, fun e' => ?_, fun e' => ?_, fun e' => ?_, fun e' => ?_, fun e' => ?_, fun e' => ?_, fun e' => ?_, fun e' => ?_, fun e' => ?_, fun e' => ?_, fun e' => ?_, fun e' => ?_, fun e' => ?_⟩
    all_goals first | exact absurd (e.symm.trans e') (by decide) | (rw [e] at e'; exact absurd e' (by decide)) | skip
    refine k_114 (by omega) (fun g => ⟨_, rfl, fun hh => absurd hh (by decide), fun _ => yes 9 (if_pos g) ?_⟩) (fun g => ⟨_, rfl, fun _ => h.2 (if_neg g), fun hh => absurd rfl hh⟩)
    rintro (h1 | h1 | h1)
    · omega
    · omega
    · exact n41d g h1
  · have e : T 31 24 = nI 9 := h24
    refine c_115 ⟨fun e' => ?_, fun e' => ?_, fun e' => ?_, fun e' => ?_, fun e' => ?_, fun e' => ?_, fun e' => ?_, fun e' => ?_, fun e' => ?_, fun e' => ?_, fun e' => ?_, fun e' => ?_, fun e' => ?_, fun e' => ?_, fun e' => ?_⟩
    all_goals first | exact absurd (e.symm.trans e') (by decide) | (rw [e] at e'; exact absurd e' (by decide)) | skip
    have hb := c4 rfl
    refine k_114 (by omega) (fun g => ⟨_, rfl, fun hh => absurd hh (by decide), fun _ => ?_⟩) (fun g => ⟨_, rfl, fun _ => ii (if_neg (fun hh => g hh.1)) (by omega) (by omega), fun hh => absurd rfl hh⟩)
    rw [h25]
    refine ⟨fun g2 => ?_, fun g2 => ?_⟩
    · have : 5 ≤ fg := (nI_leI (a := 5) (by omega) (by omega)).mp g2
      exact ii (if_neg (fun hh => absurd hh.2 (by omega))) (by omega) (by omega)
    · have : fg < 5 := Nat.lt_of_not_le (fun hh => g2 (nI_le (a := 5) hh (by omega)))
      refine yes 9 (if_pos ⟨g, this⟩) ?_
      rintro (h1 | h1 | h1)
      · omega
      · omega
      · exact n41d g h1
  · have e : T 31 24 = nI 10 := h24
    refine c_115 ⟨fun e' => ?_, fun e' => ?_, fun e' => ?_, fun e' => ?_, fun e' => ?_, fun e' => ?_, fun e' => ?_, fun e' => ?_, fun e' => ?_, fun e' => ?_, fun e' => ?_, fun e' => ?_, fun e' => ?_, fun e' => ?_, fun e' => ?_⟩
    all_goals first | exact absurd (e.symm.trans e') (by decide) | (rw [e] at e'; exact absurd e' (by decide)) | skip
    have r : ¬ (c = 40 ∧ dep < 10) → R_115_273 xs d K c T := by
      intro hn
      have e2 : nx 10 fg dep c = if c = 64 then some 11 else if c = 126 then some 13 else none := if_neg hn
      refine h_115_273 ⟨fun g => ⟨fun g2 => h.2 (by rw [e2, if_neg g, if_neg g2]), fun g2 => ?_⟩, fun g => ?_⟩
      · have ec : c = 126 := Classical.byContradiction g2
        exact yes 13 (by rw [e2, if_neg g, if_pos ec]) (by rw [ec]; decide)
      · have ec : c = 64 := Classical.byContradiction g
        exact yes 11 (by rw [e2, if_pos ec]) (by rw [ec]; decide)
    refine ⟨fun g => r (fun hh => g hh.1), fun g => ?_⟩
    have ec : c = 40 := Classical.byContradiction g
    rw [h20]
    refine ⟨fun g2 => r (fun hh => ?_), fun g2 => ?_⟩
    · have := (nI_leI (a := 10) (by omega) (by omega)).mp g2
      omega
    · have : dep < 10 := Nat.lt_of_not_le (fun hh => g2 (nI_le (a := 10) hh (by omega)))
      exact yes 1 (if_pos ⟨ec, this⟩) (by rw [ec]; decide)
  · have e : T 31 24 = nI 11 := h24
    refine c_115 ⟨fun e' => ?_, fun e' => ?_, fun e' => ?_, fun e' => ?_, fun e' => ?_, fun e' => ?_, fun e' => ?_, fun e' => ?_, fun e' => ?_, fun e' => ?_, fun e' => ?_, fun e' => ?_, fun e' => ?_, fun e' => ?_, fun e' => ?_⟩
    all_goals first | exact absurd (e.symm.trans e') (by decide) | (rw [e] at e'; exact absurd e' (by decide)) | skip
    refine k_114 (by omega) (fun g => ⟨_, rfl, fun hh => absurd hh (by decide), fun _ => yes 12 (if_pos g) ?_⟩) (fun g => ⟨_, rfl, fun _ => h.2 (if_neg g), fun hh => absurd rfl hh⟩)
    rintro (h1 | h1 | h1)
    · omega
    · omega
    · exact n41d g h1
  · have e : T 31 24 = nI 12 := h24
    refine c_115 ⟨fun e' => ?_, fun e' => ?_, fun e' => ?_, fun e' => ?_, fun e' => ?_, fun e' => ?_, fun e' => ?_, fun e' => ?_, fun e' => ?_, fun e' => ?_, fun e' => ?_, fun e' => ?_, fun e' => ?_, fun e' => ?_, fun e' => ?_⟩
    all_goals first | exact absurd (e.symm.trans e') (by decide) | (rw [e] at e'; exact absurd e' (by decide)) | skip
    have hb := c3 (Or.inr rfl)
    refine k_114 (by omega) (fun g => ⟨_, rfl, fun hh => absurd hh (by decide), fun _ => ?_⟩) (fun g => ⟨_, rfl, fun _ => ii (if_neg (fun hh => g hh.1)) (by omega) (by omega), fun hh => absurd rfl hh⟩)
    rw [h25]
    refine ⟨fun g2 => ?_, fun g2 => ?_⟩
    · have : 2 ≤ fg := (nI_leI (a := 2) (by omega) (by omega)).mp g2
      exact ii (if_neg (fun hh => absurd hh.2 (by omega))) (by omega) (by omega)
    · have : fg < 2 := Nat.lt_of_not_le (fun hh => g2 (nI_le (a := 2) hh (by omega)))
      refine yes 12 (if_pos ⟨g, this⟩) ?_
      rintro (h1 | h1 | h1)
      · omega
      · omega
      · exact n41d g h1
  · have e : T 31 24 = nI 13 := h24
    refine c_115 ⟨fun e' => ?_, fun e' => ?_, fun e' => ?_, fun e' => ?_, fun e' => ?_, fun e' => ?_, fun e' => ?_, fun e' => ?_, fun e' => ?_, fun e' => ?_, fun e' => ?_, fun e' => ?_, fun e' => ?_, fun e' => ?_, fun e' => ?_⟩
    all_goals first | exact absurd (e.symm.trans e') (by decide) | (rw [e] at e'; exact absurd e' (by decide)) | skip
    exact ii rfl (by omega) (by omega)
  · have e : T 31 24 = nI 14 := h24
    refine c_115 ⟨fun e' => ?_, fun e' => ?_, fun e' => ?_, fun e' => ?_, fun e' => ?_, fun e' => ?_, fun e' => ?_, fun e' => ?_, fun e' => ?_, fun e' => ?_, fun e' => ?_, fun e' => ?_, fun e' => ?_, fun e' => ?_, fun e' => ?_⟩
    all_goals first | exact absurd (e.symm.trans e') (by decide) | (rw [e] at e'; exact absurd e' (by decide)) | skip
    exact h.2 rfl
end GE
