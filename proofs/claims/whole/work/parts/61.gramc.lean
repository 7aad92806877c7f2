/-! the class's grammar -/
section GD
variable {xs : Nat × (Nat → Int32)} {d : Nat} {S T : Sv} {K : Sv → Option Value → Prop} {c : Int32}
theorem k_67 {n : Nat} (hd : 2 ≤ d) (h3 : T 27 3 = nI n) (hn : n ≤ 5) (h1 : dgt c → 0 < n → K (us T 27 3 (nI (n - 1))) (some (.int 9))) (h0 : ¬ (dgt c ∧ 0 < n) → K T (some (.int 11))) : CS xs d 67 T [.ref 27, .int c] K := by
  obtain ⟨d, rfl⟩ := cs_d (d := d) (by omega)
  refine c_67 (k_70 (by omega) (fun g => ⟨_, rfl, fun hh => absurd hh (by decide), fun _ => ?_⟩) (fun g => ⟨_, rfl, fun _ => h0 (fun hh => g hh.1), fun hh => absurd rfl hh⟩))
  rw [h3]
  refine ⟨fun g2 => ?_, fun g2 => h0 (fun hh => g2 (nI_lt (a := 0) hh.2 (by omega)))⟩
  have hp : 0 < n := (nI_ltI (a := 0) (by omega) (by omega)).mp g2
  obtain ⟨k, rfl⟩ : ∃ k, n = k + 1 := ⟨n - 1, by omega⟩
  rw [nI_p1]
  exact h1 g hp
theorem n41d {c : Int32} (g : dgt c) : c ≠ 41 := fun e => by rw [e] at g; exact absurd g (by decide)
theorem ins_d {dep : Nat} {c : Int32} (g : dgt c) : ins dep c = none := by
  unfold ins
  have h1 : ¬ xyz c := fun hh => hh.1 (Int32.lt_of_le_of_lt (Int32.not_lt.mp g.2) (by decide))
  have h2 : ¬ p_q c := by
    rintro (e | e)
    · rw [e] at g; exact absurd g (by decide)
    · rw [e] at g; exact absurd g (by decide)
  rw [if_neg h1, if_neg h2, if_neg (n41d g)]
theorem k_63 {q fg dep : Nat} (hd : 5 ≤ d) (hC : CI q fg dep) (hG : GR T q fg dep) (h1 : T 27 1 = nI (due q)) (h : GO K T c (nx q fg dep c) fg dep) : CS xs d 63 T [.ref 27, .int c] K := by
  obtain ⟨d, rfl⟩ := cs_d (d := d) (by omega)
  have hC' := hC
  obtain ⟨c1, c2, c3, c4, c5, c6, c7, c8⟩ := hC
  obtain ⟨g1, g2, g3, g4, g5⟩ := hG
  have hG' : GR T q fg dep := ⟨g1, g2, g3, g4, g5⟩
  rcases (show q = 0 ∨ q = 1 ∨ q = 2 ∨ q = 3 ∨ q = 4 ∨ q = 5 ∨ q = 6 ∨ q = 7 ∨ q = 8 ∨ q = 9 ∨ q = 10 ∨ q = 11 ∨ q = 12 ∨ q = 13 ∨ q = 14 by omega) with rfl | rfl | rfl | rfl | rfl | rfl | rfl | rfl | rfl | rfl | rfl | rfl | rfl | rfl | rfl
  · have e : T 27 1 = nI 0 := h1
    refine c_63 ⟨fun e' => ?_, fun e' => ?_, fun e' => ?_, fun e' => ?_, fun e' => ?_, fun e' => ?_, fun e' => ?_, fun e' => ?_, fun e' => ?_, fun e' => ?_, fun e' => ?_⟩
    all_goals first | exact absurd (e.symm.trans e') (by decide) | (rw [e] at e'; exact absurd e' (by decide)) | skip
    refine ⟨fun g => h.2 (if_neg g) T (fun _ _ => rfl), fun g => ?_⟩
    have ec : c = 40 := Classical.byContradiction g
    have e0 : dep = 0 := c6 (Or.inl rfl)
    subst e0
    obtain ⟨d, rfl⟩ := cs_d (d := d) (by omega)
    refine c_64 ?_
    unfold w_64
    rw [show T 27 2 = nI 0 from g1]
    refine ⟨fun _ => ⟨_, rfl, h.1 1 (if_pos ec) _ (fun a ha => us_ne ha) ?_⟩, fun g => absurd (by decide) g⟩
    simp [GR, fgn, dpn, ec]
    rfl
  · have e : T 27 1 = nI 1 := h1
    refine c_63 ⟨fun e' => ?_, fun e' => ?_, fun e' => ?_, fun e' => ?_, fun e' => ?_, fun e' => ?_, fun e' => ?_, fun e' => ?_, fun e' => ?_, fun e' => ?_, fun e' => ?_⟩
    all_goals first | exact absurd (e.symm.trans e') (by decide) | (rw [e] at e'; exact absurd e' (by decide)) | skip
    have no : ¬ (¬ c < 97 ∧ ¬ 100 < c) → K T (some (.int 11)) := fun g => h.2 (if_neg g) T (fun _ _ => rfl)
    refine ⟨fun g => no (fun hh => hh.1 g), fun g => ⟨fun g2 => no (fun hh => hh.2 g2), fun g2 => ?_⟩⟩
    have n41 : c ≠ 41 := fun e => by rw [e] at g; exact absurd (by decide) g
    refine h.1 2 (if_pos ⟨g, g2⟩) T (fun _ _ => rfl) ?_
    simp [GR, fgn, dpn, n41]
    exact g1
  · have e : T 27 1 = nI 2 := h1
    refine c_63 ⟨fun e' => ?_, fun e' => ?_, fun e' => ?_, fun e' => ?_, fun e' => ?_, fun e' => ?_, fun e' => ?_, fun e' => ?_, fun e' => ?_, fun e' => ?_, fun e' => ?_⟩
    all_goals first | exact absurd (e.symm.trans e') (by decide) | (rw [e] at e'; exact absurd e' (by decide)) | skip
    refine ⟨fun g => k_68 (q := 2) (by omega) hC' (by omega) (by omega) hG' ⟨fun q' hq' T' f' r' => ⟨_, rfl, h.1 q' (by rw [← hq']; exact if_neg g) T' f' r'⟩, fun hq' T' f' => ⟨_, rfl, h.2 (by rw [← hq']; exact if_neg g) T' f'⟩⟩, fun g => ?_⟩
    have ec : c = 35 := Classical.byContradiction g
    obtain ⟨d, rfl⟩ := cs_d (d := d) (by omega)
    refine c_66 ⟨_, rfl, h.1 3 (if_pos ec) _ (fun a ha => us_ne ha) ?_⟩
    have g1' : T 27 2 = nI dep := by simpa using g1
    simp [GR, fgn, dpn, ec]
    exact ⟨g1', rfl⟩
  · have e : T 27 1 = nI 8 := h1
    refine c_63 ⟨fun e' => ?_, fun e' => ?_, fun e' => ?_, fun e' => ?_, fun e' => ?_, fun e' => ?_, fun e' => ?_, fun e' => ?_, fun e' => ?_, fun e' => ?_, fun e' => ?_⟩
    all_goals first | exact absurd (e.symm.trans e') (by decide) | (rw [e] at e'; exact absurd e' (by decide)) | skip
    refine k_67 (n := 2) (by omega) (g2 (Or.inl rfl)) (by omega) (fun g hp => ⟨_, rfl, h.1 4 (if_pos g) _ (fun a ha => us_ne ha) ?_⟩) (fun g => ⟨_, rfl, h.2 (if_neg (fun hh => g ⟨hh, by omega⟩)) T (fun _ _ => rfl)⟩)
    have n41 := n41d g
    have g1' : T 27 2 = nI dep := by simpa using g1
    have f0 : fg = 0 := c2 (by omega)
    subst f0
    simp [GR, fgn, dpn, n41]
    exact ⟨g1', rfl⟩
  · have e : T 27 1 = nI 9 := h1
    refine c_63 ⟨fun e' => ?_, fun e' => ?_, fun e' => ?_, fun e' => ?_, fun e' => ?_, fun e' => ?_, fun e' => ?_, fun e' => ?_, fun e' => ?_, fun e' => ?_, fun e' => ?_⟩
    all_goals first | exact absurd (e.symm.trans e') (by decide) | (rw [e] at e'; exact absurd e' (by decide)) | skip
    have g1' : T 27 2 = nI dep := by simpa using g1
    have hb := c3 (Or.inl rfl)
    refine k_70 (by omega) (fun g => ⟨_, rfl, fun hh => absurd hh (by decide), fun _ => ?_⟩) (fun g => ⟨_, rfl, fun _ => ?_, fun hh => absurd rfl hh⟩)
    · refine k_67 (n := 2 - fg) (by omega) (g4 (Or.inl rfl)) (by omega) (fun g hp => ⟨_, rfl, h.1 4 (if_pos ⟨g, by omega⟩) _ (fun a ha => us_ne ha) ?_⟩) (fun g' => ⟨_, rfl, h.2 ?_ T (fun _ _ => rfl)⟩)
      · have n41 := n41d g
        simp [GR, fgn, dpn, n41]
        exact ⟨g1', by show nI (2 - fg - 1) = _; congr 1; omega⟩
      · have n41 := n41d g
        show (if dgt c ∧ fg < 2 then some 4 else ins dep c) = none
        rw [if_neg (fun hh => g' ⟨g, by omega⟩)]
        exact ins_d g
    · have e2 : nx 4 fg dep c = ins dep c := if_neg (fun hh => g hh.1)
      rw [e2] at h
      exact k_68 (q := 4) (by omega) hC' (by omega) (by omega) hG' ⟨fun q' hq' T' f' r' => ⟨_, rfl, h.1 q' hq' T' f' r'⟩, fun hq' T' f' => ⟨_, rfl, h.2 hq' T' f'⟩⟩
  · have e : T 27 1 = nI 4 := h1
    refine c_63 ⟨fun e' => ?_, fun e' => ?_, fun e' => ?_, fun e' => ?_, fun e' => ?_, fun e' => ?_, fun e' => ?_, fun e' => ?_, fun e' => ?_, fun e' => ?_, fun e' => ?_⟩
    all_goals first | exact absurd (e.symm.trans e') (by decide) | (rw [e] at e'; exact absurd e' (by decide)) | skip
    refine ⟨fun g => h.2 (if_neg g) T (fun _ _ => rfl), fun g => ?_⟩
    have ec : c = 61 := Classical.byContradiction g
    have g1' : T 27 2 = nI dep := by simpa using g1
    refine h.1 7 (if_pos ec) T (fun _ _ => rfl) ?_
    simp [GR, fgn, dpn, ec]
    exact g1'
  · have e : T 27 1 = nI 5 := h1
    refine c_63 ⟨fun e' => ?_, fun e' => ?_, fun e' => ?_, fun e' => ?_, fun e' => ?_, fun e' => ?_, fun e' => ?_, fun e' => ?_, fun e' => ?_, fun e' => ?_, fun e' => ?_⟩
    all_goals first | exact absurd (e.symm.trans e') (by decide) | (rw [e] at e'; exact absurd e' (by decide)) | skip
    refine ⟨fun g => h.2 (if_neg g) T (fun _ _ => rfl), fun g => ?_⟩
    have ec : c = 61 := Classical.byContradiction g
    have g1' : T 27 2 = nI dep := by simpa using g1
    refine h.1 10 (if_pos ec) T (fun _ _ => rfl) ?_
    simp [GR, fgn, dpn, ec]
    exact g1'
  · have e : T 27 1 = nI 6 := h1
    refine c_63 ⟨fun e' => ?_, fun e' => ?_, fun e' => ?_, fun e' => ?_, fun e' => ?_, fun e' => ?_, fun e' => ?_, fun e' => ?_, fun e' => ?_, fun e' => ?_, fun e' => ?_⟩
    all_goals first | exact absurd (e.symm.trans e') (by decide) | (rw [e] at e'; exact absurd e' (by decide)) | skip
    have f0 : fg = 0 := c2 (by omega)
    subst f0
    have g1' : T 27 2 = nI dep := by simpa using g1
    refine ⟨fun g => ?_, fun g => ?_⟩
    · have e2 : nx 7 0 dep c = if dgt c then some 9 else none := if_neg g
      rw [e2] at h
      refine k_67 (n := 5) (by omega) rfl (by omega) (fun g hp => ⟨_, rfl, h.1 9 (if_pos g) _ (fun a ha => by rw [us_ne ha, us_ne ha]) ?_⟩) (fun g => ⟨_, rfl, h.2 (if_neg (fun hh => g ⟨hh, by omega⟩)) _ (fun a ha => us_ne ha)⟩)
      have n41 := n41d g
      simp [GR, fgn, dpn, n41]
      exact ⟨g1', rfl⟩
    · have ec : c = 45 := Classical.byContradiction g
      refine h.1 8 (if_pos ec) _ (fun a ha => us_ne ha) ?_
      simp [GR, fgn, dpn, ec]
      exact ⟨g1', rfl⟩
  · have e : T 27 1 = nI 8 := h1
    refine c_63 ⟨fun e' => ?_, fun e' => ?_, fun e' => ?_, fun e' => ?_, fun e' => ?_, fun e' => ?_, fun e' => ?_, fun e' => ?_, fun e' => ?_, fun e' => ?_, fun e' => ?_⟩
    all_goals first | exact absurd (e.symm.trans e') (by decide) | (rw [e] at e'; exact absurd e' (by decide)) | skip
    refine k_67 (n := 5) (by omega) (g3 rfl) (by omega) (fun g hp => ⟨_, rfl, h.1 9 (if_pos g) _ (fun a ha => us_ne ha) ?_⟩) (fun g => ⟨_, rfl, h.2 (if_neg (fun hh => g ⟨hh, by omega⟩)) T (fun _ _ => rfl)⟩)
    have n41 := n41d g
    have g1' : T 27 2 = nI dep := by simpa using g1
    have f0 : fg = 0 := c2 (by omega)
    subst f0
    simp [GR, fgn, dpn, n41]
    exact ⟨g1', rfl⟩
  · have e : T 27 1 = nI 9 := h1
    refine c_63 ⟨fun e' => ?_, fun e' => ?_, fun e' => ?_, fun e' => ?_, fun e' => ?_, fun e' => ?_, fun e' => ?_, fun e' => ?_, fun e' => ?_, fun e' => ?_, fun e' => ?_⟩
    all_goals first | exact absurd (e.symm.trans e') (by decide) | (rw [e] at e'; exact absurd e' (by decide)) | skip
    have g1' : T 27 2 = nI dep := by simpa using g1
    have hb := c4 rfl
    refine k_70 (by omega) (fun g => ⟨_, rfl, fun hh => absurd hh (by decide), fun _ => ?_⟩) (fun g => ⟨_, rfl, fun _ => ?_, fun hh => absurd rfl hh⟩)
    · refine k_67 (n := 5 - fg) (by omega) (g5 rfl) (by omega) (fun g hp => ⟨_, rfl, h.1 9 (if_pos ⟨g, by omega⟩) _ (fun a ha => us_ne ha) ?_⟩) (fun g' => ⟨_, rfl, h.2 ?_ T (fun _ _ => rfl)⟩)
      · have n41 := n41d g
        simp [GR, fgn, dpn, n41]
        exact ⟨g1', by show nI (5 - fg - 1) = _; congr 1; omega⟩
      · have n41 := n41d g
        show (if dgt c ∧ fg < 5 then some 9 else ins dep c) = none
        rw [if_neg (fun hh => g' ⟨g, by omega⟩)]
        exact ins_d g
    · have e2 : nx 9 fg dep c = ins dep c := if_neg (fun hh => g hh.1)
      rw [e2] at h
      exact k_68 (q := 9) (by omega) hC' (by omega) (by omega) hG' ⟨fun q' hq' T' f' r' => ⟨_, rfl, h.1 q' hq' T' f' r'⟩, fun hq' T' f' => ⟨_, rfl, h.2 hq' T' f'⟩⟩
  · have e : T 27 1 = nI 7 := h1
    refine c_63 ⟨fun e' => ?_, fun e' => ?_, fun e' => ?_, fun e' => ?_, fun e' => ?_, fun e' => ?_, fun e' => ?_, fun e' => ?_, fun e' => ?_, fun e' => ?_, fun e' => ?_⟩
    all_goals first | exact absurd (e.symm.trans e') (by decide) | (rw [e] at e'; exact absurd e' (by decide)) | skip
    have g1' : T 27 2 = nI dep := by simpa using g1
    obtain ⟨d, rfl⟩ := cs_d (d := d) (by omega)
    obtain ⟨d, rfl⟩ := cs_d (d := d) (by omega)
    refine c_69 ⟨fun ec => ?_, fun ec => ?_, fun ec => ⟨_, rfl, ?_⟩, fun ec => ⟨_, rfl, h.2 ?_ T (fun _ _ => rfl)⟩⟩
    · refine c_64 ?_
      unfold w_64
      rw [g1']
      refine ⟨fun g => ⟨_, rfl, ?_⟩, fun g => ⟨_, rfl, ?_⟩⟩
      · have hl : dep < 10 := (nI_ltI (b := 10) (by omega) (by omega)).mp g
        refine ⟨_, rfl, h.1 1 (if_pos ⟨ec, hl⟩) _ (fun a ha => us_ne ha) ?_⟩
        simp [GR, fgn, dpn, ec]
        exact (nI_1 dep)
      · have hl : ¬ dep < 10 := fun hh => g (nI_lt (b := 10) hh (by omega))
        refine ⟨_, rfl, h.2 ?_ T (fun _ _ => rfl)⟩
        show (if c = 40 ∧ dep < 10 then some 1 else if c = 64 then some 11 else if c = 126 then some 13 else none) = none
        rw [if_neg (fun hh => hl hh.2), ec]
        decide
    · refine c_66 ⟨_, rfl, ⟨_, rfl, h.1 11 ?_ _ (fun a ha => us_ne ha) ?_⟩⟩
      · show (if c = 40 ∧ dep < 10 then some 1 else if c = 64 then some 11 else if c = 126 then some 13 else none) = some 11
        rw [if_neg (fun hh => by rw [ec] at hh; exact absurd hh.1 (by decide)), if_pos ec]
      · simp [GR, fgn, dpn, ec]
        exact ⟨g1', rfl⟩
    · refine h.1 13 ?_ T (fun _ _ => rfl) ?_
      · show (if c = 40 ∧ dep < 10 then some 1 else if c = 64 then some 11 else if c = 126 then some 13 else none) = some 13
        rw [if_neg (fun hh => by rw [ec] at hh; exact absurd hh.1 (by decide)), if_neg (by rw [ec]; decide), if_pos ec]
      · simp [GR, fgn, dpn, ec]
        exact g1'
    · show (if c = 40 ∧ dep < 10 then some 1 else if c = 64 then some 11 else if c = 126 then some 13 else none) = none
      rw [if_neg (fun hh => ec.1 hh.1), if_neg ec.2.1, if_neg ec.2.2]
  · have e : T 27 1 = nI 8 := h1
    refine c_63 ⟨fun e' => ?_, fun e' => ?_, fun e' => ?_, fun e' => ?_, fun e' => ?_, fun e' => ?_, fun e' => ?_, fun e' => ?_, fun e' => ?_, fun e' => ?_, fun e' => ?_⟩
    all_goals first | exact absurd (e.symm.trans e') (by decide) | (rw [e] at e'; exact absurd e' (by decide)) | skip
    refine k_67 (n := 2) (by omega) (g2 (Or.inr rfl)) (by omega) (fun g hp => ⟨_, rfl, h.1 12 (if_pos g) _ (fun a ha => us_ne ha) ?_⟩) (fun g => ⟨_, rfl, h.2 (if_neg (fun hh => g ⟨hh, by omega⟩)) T (fun _ _ => rfl)⟩)
    have n41 := n41d g
    have g1' : T 27 2 = nI dep := by simpa using g1
    have f0 : fg = 0 := c2 (by omega)
    subst f0
    simp [GR, fgn, dpn, n41]
    exact ⟨g1', rfl⟩
  · have e : T 27 1 = nI 9 := h1
    refine c_63 ⟨fun e' => ?_, fun e' => ?_, fun e' => ?_, fun e' => ?_, fun e' => ?_, fun e' => ?_, fun e' => ?_, fun e' => ?_, fun e' => ?_, fun e' => ?_, fun e' => ?_⟩
    all_goals first | exact absurd (e.symm.trans e') (by decide) | (rw [e] at e'; exact absurd e' (by decide)) | skip
    have g1' : T 27 2 = nI dep := by simpa using g1
    have hb := c3 (Or.inr rfl)
    refine k_70 (by omega) (fun g => ⟨_, rfl, fun hh => absurd hh (by decide), fun _ => ?_⟩) (fun g => ⟨_, rfl, fun _ => ?_, fun hh => absurd rfl hh⟩)
    · refine k_67 (n := 2 - fg) (by omega) (g4 (Or.inr rfl)) (by omega) (fun g hp => ⟨_, rfl, h.1 12 (if_pos ⟨g, by omega⟩) _ (fun a ha => us_ne ha) ?_⟩) (fun g' => ⟨_, rfl, h.2 ?_ T (fun _ _ => rfl)⟩)
      · have n41 := n41d g
        simp [GR, fgn, dpn, n41]
        exact ⟨g1', by show nI (2 - fg - 1) = _; congr 1; omega⟩
      · have n41 := n41d g
        show (if dgt c ∧ fg < 2 then some 12 else ins dep c) = none
        rw [if_neg (fun hh => g' ⟨g, by omega⟩)]
        exact ins_d g
    · have e2 : nx 12 fg dep c = ins dep c := if_neg (fun hh => g hh.1)
      rw [e2] at h
      exact k_68 (q := 12) (by omega) hC' (by omega) (by omega) hG' ⟨fun q' hq' T' f' r' => ⟨_, rfl, h.1 q' hq' T' f' r'⟩, fun hq' T' f' => ⟨_, rfl, h.2 hq' T' f'⟩⟩
  · have e : T 27 1 = nI 3 := h1
    refine c_63 ⟨fun e' => ?_, fun e' => ?_, fun e' => ?_, fun e' => ?_, fun e' => ?_, fun e' => ?_, fun e' => ?_, fun e' => ?_, fun e' => ?_, fun e' => ?_, fun e' => ?_⟩
    all_goals first | exact absurd (e.symm.trans e') (by decide) | (rw [e] at e'; exact absurd e' (by decide)) | skip
    exact k_68 (q := 13) (by omega) hC' (by omega) (by omega) hG' ⟨fun q' hq' T' f' r' => ⟨_, rfl, h.1 q' hq' T' f' r'⟩, fun hq' T' f' => ⟨_, rfl, h.2 hq' T' f'⟩⟩
  · have e : T 27 1 = nI 10 := h1
    refine c_63 ⟨fun e' => ?_, fun e' => ?_, fun e' => ?_, fun e' => ?_, fun e' => ?_, fun e' => ?_, fun e' => ?_, fun e' => ?_, fun e' => ?_, fun e' => ?_, fun e' => ?_⟩
    all_goals first | exact absurd (e.symm.trans e') (by decide) | (rw [e] at e'; exact absurd e' (by decide)) | skip
    exact h.2 rfl T (fun _ _ => rfl)
theorem k_62 {n : Nat} (hd : 6 ≤ d) (hn : n ≤ 300) (hs : S 19 1 = nI n) (h : ∀ T, (∀ a, a ≠ 27 → T a = S a) → K T (some (.int (nI (bad (S 20) n 0 0 0 1))))) : CS xs d 62 S [.ref 27] K := by
  obtain ⟨d, rfl⟩ := cs_d (d := d) (by omega)
  have main : ∀ (m p q fg dep : Nat) (T : Sv), p + m = n + 1 → 1 ≤ p → CI q fg dep → GR T q fg dep → T 27 1 = nI (due q) → (∀ a, a ≠ 27 → T a = S a) → bad (S 20) m q fg dep p = bad (S 20) n 0 0 0 1 → R_62_17 xs d K (nI p) T := by
    intro m
    induction m with
    | zero =>
      intro p q fg dep T hp h1p hC hG h1 hc hb
      have e19 : T 19 1 = nI n := by rw [hc 19 (by decide)]; exact hs
      refine h_62_17 ⟨fun _ => ?_, fun g => absurd (by rw [e19]; exact nI_lt (by omega) (by omega)) g⟩
      rw [h1, e19, nI_1]
      have hq : q ≤ 14 := hC.1
      have hb : (if q = 14 then 0 else p) = bad (S 20) n 0 0 0 1 := hb
      refine ⟨fun g => ?_, fun g => ?_⟩
      · have hq2 : q ≠ 14 := fun e => g (by rw [e]; rfl)
        rw [if_neg hq2] at hb
        have := h T hc
        rw [← hb, show p = n + 1 by omega] at this
        exact this
      · have hq2 : q = 14 := by
          have e := Classical.byContradiction g
          revert e
          rcases (show q = 0 ∨ q = 1 ∨ q = 2 ∨ q = 3 ∨ q = 4 ∨ q = 5 ∨ q = 6 ∨ q = 7 ∨ q = 8 ∨ q = 9 ∨ q = 10 ∨ q = 11 ∨ q = 12 ∨ q = 13 ∨ q = 14 by omega) with rfl | rfl | rfl | rfl | rfl | rfl | rfl | rfl | rfl | rfl | rfl | rfl | rfl | rfl | rfl <;> decide
        rw [if_pos hq2] at hb
        have := h T hc
        rw [← hb] at this
        exact this
    | succ m ih =>
      intro p q fg dep T hp h1p hC hG h1 hc hb
      have e19 : T 19 1 = nI n := by rw [hc 19 (by decide)]; exact hs
      have e20 : T 20 = S 20 := hc 20 (by decide)
      refine h_62_17 ⟨fun g => absurd g (by rw [e19]; exact nI_nlt (by omega) (by omega)), fun _ => ?_⟩
      refine k_50 (n := n) (by omega) hn e19 (fun j hj e => ⟨_, rfl, ?_⟩) (fun hno => absurd ⟨p - 1, by omega, by rw [show p - 1 + 1 = p by omega]⟩ hno)
      have ej : j = p - 1 := by
        have := nI_inj (by omega) (by omega) e
        omega
      subst ej
      rw [e20]
      refine k_63 (q := q) (fg := fg) (dep := dep) (by omega) hC hG h1 ⟨fun q' hq' T' f' r' => ⟨_, rfl, fun g => ?_, fun g => ?_⟩, fun hq' T' f' => ⟨_, rfl, fun g => absurd rfl g, fun _ => ?_⟩⟩
      · rw [bad_some hq'] at hb
        rw [nI_1]
        refine ih (p + 1) q' _ _ _ (by omega) (by omega) (CI_nx hC hq') ?_ rfl (fun a ha => by rw [us_ne ha, f' a ha]; exact hc a ha) hb
        exact r'
      · exfalso
        have hq := (CI_nx hC hq').1
        refine g ?_
        revert hq
        clear hq' r' g
        intro hq
        rcases (show q' = 0 ∨ q' = 1 ∨ q' = 2 ∨ q' = 3 ∨ q' = 4 ∨ q' = 5 ∨ q' = 6 ∨ q' = 7 ∨ q' = 8 ∨ q' = 9 ∨ q' = 10 ∨ q' = 11 ∨ q' = 12 ∨ q' = 13 ∨ q' = 14 by omega) with rfl | rfl | rfl | rfl | rfl | rfl | rfl | rfl | rfl | rfl | rfl | rfl | rfl | rfl | rfl <;> decide
      · rw [bad_none hq'] at hb
        have := h (us T' 27 1 11) (fun a ha => by rw [us_ne ha, f' a ha]; exact hc a ha)
        rw [← hb] at this
        exact this
  exact c_62 (main n 1 0 0 0 _ (by omega) (by omega) (by simp [CI]) (by simp [GR]; rfl) rfl (fun a ha => by rw [us_ne ha, us_ne ha, us_ne ha]) rfl)
end GD
