/-! the steps keep what is known -/
def NI (q fg dep : Nat) (c : Int32) (q' : Nat) : Prop :=
  (q = 0 ∧ c = 40 ∧ q' = 1) ∨ (q = 1 ∧ (¬ c < 97 ∧ ¬ 100 < c) ∧ q' = 2) ∨ (q = 2 ∧ c = 35 ∧ q' = 3) ∨ (q = 3 ∧ dgt c ∧ q' = 4) ∨ (q = 4 ∧ (dgt c ∧ fg < 2) ∧ q' = 4) ∨ (q = 5 ∧ c = 61 ∧ q' = 7) ∨ (q = 6 ∧ c = 61 ∧ q' = 10) ∨ (q = 7 ∧ c = 45 ∧ q' = 8) ∨ (q = 7 ∧ dgt c ∧ q' = 9) ∨ (q = 8 ∧ dgt c ∧ q' = 9) ∨ (q = 9 ∧ (dgt c ∧ fg < 5) ∧ q' = 9) ∨ (q = 10 ∧ (c = 40 ∧ dep < 10) ∧ q' = 1) ∨ (q = 10 ∧ c = 64 ∧ q' = 11) ∨ (q = 10 ∧ c = 126 ∧ q' = 13) ∨ (q = 11 ∧ dgt c ∧ q' = 12) ∨ (q = 12 ∧ (dgt c ∧ fg < 2) ∧ q' = 12) ∨ ((q = 2 ∨ q = 4 ∨ q = 9 ∨ q = 12 ∨ q = 13) ∧ ins dep c = some q')
theorem nx_inv {q fg dep q' : Nat} {c : Int32} (hq : q ≤ 14) (hn : nx q fg dep c = some q') : NI q fg dep c q' := by
  have no : ∀ {P : Prop}, (none : Option Nat) = some q' → P := fun e => absurd e (by simp)
  have t1 : ∀ {P : Prop} [Decidable P] {k : Nat} {o : Option Nat}, (if P then some k else o) = some q' → (P ∧ q' = k) ∨ o = some q' := by
    intro P _ k o hh
    by_cases g : P
    · rw [if_pos g] at hh; exact Or.inl ⟨g, (Option.some.inj hh).symm⟩
    · rw [if_neg g] at hh; exact Or.inr hh
  unfold NI
  rcases (show q = 0 ∨ q = 1 ∨ q = 2 ∨ q = 3 ∨ q = 4 ∨ q = 5 ∨ q = 6 ∨ q = 7 ∨ q = 8 ∨ q = 9 ∨ q = 10 ∨ q = 11 ∨ q = 12 ∨ q = 13 ∨ q = 14 by omega) with rfl | rfl | rfl | rfl | rfl | rfl | rfl | rfl | rfl | rfl | rfl | rfl | rfl | rfl | rfl
  · rcases t1 (P := c = 40) (k := 1) (o := none) hn with ⟨g, e⟩ | h2
    · simp [g, e]
    · exact no h2
  · rcases t1 (P := ¬ c < 97 ∧ ¬ 100 < c) (k := 2) (o := none) hn with g | h2
    · exact Or.inr (Or.inl ⟨rfl, g⟩)
    · exact no h2
  · rcases t1 (P := c = 35) (k := 3) (o := ins dep c) hn with g | h2
    · exact Or.inr (Or.inr (Or.inl ⟨rfl, g⟩))
    · refine Or.inr (Or.inr (Or.inr (Or.inr (Or.inr (Or.inr (Or.inr (Or.inr (Or.inr (Or.inr (Or.inr (Or.inr (Or.inr (Or.inr (Or.inr (Or.inr ⟨by omega, h2⟩)))))))))))))))
  · rcases t1 (P := dgt c) (k := 4) (o := none) hn with g | h2
    · exact Or.inr (Or.inr (Or.inr (Or.inl ⟨rfl, g⟩)))
    · exact no h2
  · rcases t1 (P := dgt c ∧ fg < 2) (k := 4) (o := ins dep c) hn with g | h2
    · exact Or.inr (Or.inr (Or.inr (Or.inr (Or.inl ⟨rfl, g⟩))))
    · refine Or.inr (Or.inr (Or.inr (Or.inr (Or.inr (Or.inr (Or.inr (Or.inr (Or.inr (Or.inr (Or.inr (Or.inr (Or.inr (Or.inr (Or.inr (Or.inr ⟨by omega, h2⟩)))))))))))))))
  · rcases t1 (P := c = 61) (k := 7) (o := none) hn with g | h2
    · exact Or.inr (Or.inr (Or.inr (Or.inr (Or.inr (Or.inl ⟨rfl, g⟩)))))
    · exact no h2
  · rcases t1 (P := c = 61) (k := 10) (o := none) hn with g | h2
    · exact Or.inr (Or.inr (Or.inr (Or.inr (Or.inr (Or.inr (Or.inl ⟨rfl, g⟩))))))
    · exact no h2
  · rcases t1 (P := c = 45) (k := 8) (o := if dgt c then some 9 else none) hn with g | h2
    · exact Or.inr (Or.inr (Or.inr (Or.inr (Or.inr (Or.inr (Or.inr (Or.inl ⟨rfl, g⟩)))))))
    · rcases t1 h2 with g | h3
      · exact Or.inr (Or.inr (Or.inr (Or.inr (Or.inr (Or.inr (Or.inr (Or.inr (Or.inl ⟨rfl, g⟩))))))))
      · exact no h3
  · rcases t1 (P := dgt c) (k := 9) (o := none) hn with g | h2
    · exact Or.inr (Or.inr (Or.inr (Or.inr (Or.inr (Or.inr (Or.inr (Or.inr (Or.inr (Or.inl ⟨rfl, g⟩)))))))))
    · exact no h2
  · rcases t1 (P := dgt c ∧ fg < 5) (k := 9) (o := ins dep c) hn with g | h2
    · exact Or.inr (Or.inr (Or.inr (Or.inr (Or.inr (Or.inr (Or.inr (Or.inr (Or.inr (Or.inr (Or.inl ⟨rfl, g⟩))))))))))
    · refine Or.inr (Or.inr (Or.inr (Or.inr (Or.inr (Or.inr (Or.inr (Or.inr (Or.inr (Or.inr (Or.inr (Or.inr (Or.inr (Or.inr (Or.inr (Or.inr ⟨by omega, h2⟩)))))))))))))))
  · rcases t1 (P := c = 40 ∧ dep < 10) (k := 1) (o := if c = 64 then some 11 else if c = 126 then some 13 else none) hn with g | h2
    · exact Or.inr (Or.inr (Or.inr (Or.inr (Or.inr (Or.inr (Or.inr (Or.inr (Or.inr (Or.inr (Or.inr (Or.inl ⟨rfl, g⟩)))))))))))
    · rcases t1 h2 with g | h3
      · exact Or.inr (Or.inr (Or.inr (Or.inr (Or.inr (Or.inr (Or.inr (Or.inr (Or.inr (Or.inr (Or.inr (Or.inr (Or.inl ⟨rfl, g⟩))))))))))))
      · rcases t1 h3 with g | h4
        · exact Or.inr (Or.inr (Or.inr (Or.inr (Or.inr (Or.inr (Or.inr (Or.inr (Or.inr (Or.inr (Or.inr (Or.inr (Or.inr (Or.inl ⟨rfl, g⟩)))))))))))))
        · exact no h4
  · rcases t1 (P := dgt c) (k := 12) (o := none) hn with g | h2
    · exact Or.inr (Or.inr (Or.inr (Or.inr (Or.inr (Or.inr (Or.inr (Or.inr (Or.inr (Or.inr (Or.inr (Or.inr (Or.inr (Or.inr (Or.inl ⟨rfl, g⟩))))))))))))))
    · exact no h2
  · rcases t1 (P := dgt c ∧ fg < 2) (k := 12) (o := ins dep c) hn with g | h2
    · exact Or.inr (Or.inr (Or.inr (Or.inr (Or.inr (Or.inr (Or.inr (Or.inr (Or.inr (Or.inr (Or.inr (Or.inr (Or.inr (Or.inr (Or.inr (Or.inl ⟨rfl, g⟩)))))))))))))))
    · refine Or.inr (Or.inr (Or.inr (Or.inr (Or.inr (Or.inr (Or.inr (Or.inr (Or.inr (Or.inr (Or.inr (Or.inr (Or.inr (Or.inr (Or.inr (Or.inr ⟨by omega, h2⟩)))))))))))))))
  · refine Or.inr (Or.inr (Or.inr (Or.inr (Or.inr (Or.inr (Or.inr (Or.inr (Or.inr (Or.inr (Or.inr (Or.inr (Or.inr (Or.inr (Or.inr (Or.inr ⟨by omega, hn⟩)))))))))))))))
  · exact no hn
theorem dgt_n {c : Int32} (g : dgt c) : ∃ m, m < 10 ∧ c = nI (48 + m) := by
  have h1 : ¬ c < 0 := fun h => g.1 (Int32.lt_of_lt_of_le h (by decide))
  have h2 : ¬ nI 58 ≤ c := by
    intro h
    exact g.2 (Int32.lt_of_lt_of_le (show (57 : Int32) < nI 58 by decide) h)
  obtain ⟨j, hj, rfl⟩ := in_n (by omega) h1 h2
  have h3 : 48 ≤ j := Nat.le_of_not_lt (fun hh => g.1 (nI_lt (b := 48) hh (by omega)))
  exact ⟨j - 48, by omega, by rw [show 48 + (j - 48) = j by omega]⟩
theorem am_step {am m : Nat} : 10 * nI am + nI (48 + m) - 48 = nI (10 * am + m) := by
  rw [show (10 : Int32) = nI 10 from rfl, pk_mul, nI_add, show 10 * am + (48 + m) = 10 * am + m + 48 by omega, ← nI_add, show (48 : Int32) = nI 48 from rfl, Int32.add_sub_cancel]
theorem W_mk {Z : Sv} {z q' fg dep f am p : Nat} {c : Int32} (hD : DW Z z f dep) (hC : CI q' (fgn q' fg) dep) (h25 : Z 31 25 = nI fg) (h26 : Z 31 26 = nI am) (hdg : q' = 4 ∨ q' = 9 ∨ q' = 12 → dgt c ∧ am < 10 ^ fg) (h8 : q' = 8 → am = 0) (hf : f + pot q' dep + 1 ≤ p) (hp : p ≤ 301) : ∃ am', WT (us (tl q' c Z) 31 24 (nI q')) z q' (fgn q' fg) dep f am' p := by
  have hD' : DW (us (tl q' c Z) 31 24 (nI q')) z f dep := by
    obtain ⟨h1, h2, h3, h4, h5, h6⟩ := hD
    have e : ∀ a, a ≠ 31 → us (tl q' c Z) 31 24 (nI q') a = Z a := fun a ha => by rw [us_ne ha, tl_ne ha]
    have e31 : ∀ k, k ≠ 24 → k ≠ 25 → k ≠ 26 → k ≠ 27 → us (tl q' c Z) 31 24 (nI q') 31 k = Z 31 k := by
      intro k k1 k2 k3 k4
      show upd (tl q' c Z 31) 24 (nI q') k = _
      rw [upd_n k1, tl_31 k2 k3 k4]
    refine ⟨?_, by rw [e31 6 (by decide) (by decide) (by decide) (by decide)]; exact h2, by rw [e31 34 (by decide) (by decide) (by decide) (by decide)]; exact h3, by rw [e31 20 (by decide) (by decide) (by decide) (by decide)]; exact h4, ?_, ?_⟩
    · show VI (us (tl q' c Z) 31 24 (nI q') 32) (us (tl q' c Z) 31 24 (nI q') 33) (us (tl q' c Z) 31 24 (nI q') 34) (us (tl q' c Z) 31 24 (nI q') 35) (us (tl q' c Z) 31 24 (nI q') 36) (us (tl q' c Z) 31 24 (nI q') 37) z (us (tl q' c Z) 31 24 (nI q') 38) (us (tl q' c Z) 31 24 (nI q') 39) (us (tl q' c Z) 31 24 (nI q') 40)
      rw [e 32 (by decide), e 33 (by decide), e 34 (by decide), e 35 (by decide), e 36 (by decide), e 37 (by decide), e 38 (by decide), e 39 (by decide), e 40 (by decide)]
      exact h1
    · rw [e 48 (by decide)]; exact h5
    · rw [e 51 (by decide)]; exact h6
  have e25 : us (tl q' c Z) 31 24 (nI q') 31 25 = nI (fgn q' fg) := tl_25 h25
  by_cases a : q' = 3 ∨ q' = 7 ∨ q' = 11
  · refine ⟨0, hD', hC, rfl, e25, ?_, fun _ => rfl, fun h => absurd h (by omega), hf, hp⟩
    show tl q' c Z 31 26 = _
    unfold tl
    rw [if_pos a]
    rfl
  · by_cases b : q' = 4 ∨ q' = 9 ∨ q' = 12
    · obtain ⟨g, hlt⟩ := hdg b
      obtain ⟨m, hm, rfl⟩ := dgt_n g
      refine ⟨10 * am + m, hD', hC, rfl, e25, ?_, fun h => absurd h (by omega), fun _ => ?_, hf, hp⟩
      · show tl q' (nI (48 + m)) Z 31 26 = _
        unfold tl
        rw [if_neg a, if_neg (by omega), if_pos b]
        show 10 * Z 31 26 + nI (48 + m) - 48 = _
        rw [h26, am_step]
      · have e : fgn q' fg = fg + 1 := by unfold fgn; rw [if_neg a, if_pos b]
        rw [e, Nat.pow_succ]
        omega
    · have e26 : us (tl q' c Z) 31 24 (nI q') 31 26 = nI am := by
        show tl q' c Z 31 26 = _
        unfold tl
        rw [if_neg a]
        by_cases b8 : q' = 8
        · rw [if_pos b8]; exact h26
        · rw [if_neg b8, if_neg b]; exact h26
      exact ⟨am, hD', hC, rfl, e25, e26, fun h => h8 (by omega), fun h => absurd h b, hf, hp⟩
theorem D_M {V : Sv} {z f dep : Nat} {c : Int32} (h : DW V z f dep) (hd : dep ≤ 9) (hf : f < 1000) : ∃ z' f', z ≤ z' ∧ f ≤ f' ∧ f' ≤ f + 1 ∧ DW (vM V c) z' f' (dep + 1) ∧ (∀ k, k ≠ 6 → k ≠ 20 → k ≠ 34 → vM V c 31 k = V 31 k) := by
  have hz := VI.zb h.1
  obtain ⟨h1, h2, h3, h4, h5, h6⟩ := h
  have e20 : cl (V 31 20) = dep := by rw [h4]; exact cl_nI (by omega)
  have e6 : cl (V 31 6) = z := by rw [h2]; exact cl_nI (by omega)
  unfold vM
  rw [e20, e6]
  by_cases g : isK (V 32) (c - 97) ∧ z < 24
  · rw [ifS_t g]
    obtain ⟨⟨a, ha, ea, hda⟩, hz24⟩ := g
    have eca : cl (c - 97) = a := by rw [ea]; exact cl_nI (by omega)
    rw [eca]
    refine ⟨z + 1, f, by omega, by omega, by omega, ⟨?_, ?_, h3, ?_, fun i hi => ?_, fun i hi => ?_⟩, fun k k1 k2 k3 => ?_⟩
    · exact VI_add h1 ha hda hz24
    · rfl
    · show V 31 20 + 1 = _
      rw [h4, nI_1]
    · show upd (V 48) dep (V 31 6) i = -1 ∨ isO (z + 1) (upd (V 48) dep (V 31 6) i)
      by_cases e : i = dep
      · rw [e, upd_s]; exact Or.inr ⟨z, by omega, h2⟩
      · rw [upd_n e]
        rcases h5 i (by omega) with h | ⟨j, hj, ej⟩
        · exact Or.inl h
        · exact Or.inr ⟨j, by omega, ej⟩
    · rcases h6 i hi with h | ⟨j, hj, ej⟩
      · exact Or.inl h
      · exact Or.inr ⟨j, by omega, ej⟩
    · show upd (upd (V 31) 6 _) 20 _ k = _
      rw [upd_n k2, upd_n k1]
  · rw [ifS_f g]
    refine ⟨z, f + 1, by omega, by omega, by omega, ⟨h1, h2, ?_, ?_, fun i hi => ?_, h6⟩, fun k k1 k2 k3 => ?_⟩
    · show V 31 34 + 1 = _
      rw [h3, nI_1]
    · show V 31 20 + 1 = _
      rw [h4, nI_1]
    · show upd (V 48) dep (-1) i = -1 ∨ isO z (upd (V 48) dep (-1) i)
      by_cases e : i = dep
      · rw [e, upd_s]; exact Or.inl rfl
      · rw [upd_n e]; exact h5 i (by omega)
    · show upd (upd (V 31) 34 _) 20 _ k = _
      rw [upd_n k2, upd_n k3]
theorem D_C {V : Sv} {z f dep : Nat} (h : DW V z f (dep + 1)) (hd : dep ≤ 9) : ∃ f', f ≤ f' ∧ f' ≤ f + (if dep = 0 then 0 else 1) ∧ DW (vC V) z f' dep ∧ (∀ k, k ≠ 20 → k ≠ 28 → k ≠ 29 → k ≠ 32 → k ≠ 34 → vC V 31 k = V 31 k) := by
  have hz := VI.zb h.1
  have ht := (vtop_in h (by omega) (by omega)).2
  obtain ⟨h1, h2, h3, h4, h5, h6⟩ := h
  have e20 : cl (V 31 20) - 1 = dep := by rw [h4, cl_nI (by omega)]; rfl
  unfold vC
  rw [e20]
  by_cases e0 : dep = 0
  · rw [if_pos e0, if_pos e0]
    refine ⟨f, by omega, by omega, ⟨h1, h2, h3, ?_, fun i hi => h5 i (by omega), h6⟩, fun k k1 k2 k3 k4 k5 => ?_⟩
    · show V 31 20 - 1 = _
      rw [h4, nI_p1]
    · show upd (upd (V 31) 20 _) 32 _ k = _
      rw [upd_n k4, upd_n k1]
  · rw [if_neg e0, if_neg e0]
    have hK : DW (vK V) z f dep := ⟨h1, h2, h3, by show V 31 20 - 1 = _; rw [h4, nI_p1], fun i hi => h5 i (by omega), h6⟩
    obtain ⟨f', x1, x2, x3, x4⟩ := D_L (t := vtop V) (g := ¬ vtop V = -1) hK (fun _ => ht)
    refine ⟨f', x1, x2, x3, fun k k1 k2 k3 k4 k5 => ?_⟩
    rw [x4.1 k k5]
    show upd (upd (upd (V 31) 20 _) 28 _) 29 _ k = _
    rw [upd_n k3, upd_n k2, upd_n k1]
theorem W_stp {V : Sv} {z q fg dep f am p q' : Nat} {c : Int32} (h : WT V z q fg dep f am p) (hn : nx q fg dep c = some q') (hp300 : p ≤ 300) : ∃ z' f' am', z ≤ z' ∧ f ≤ f' ∧ WT (stp q' c (nI p) V) z' q' (fgn q' fg) (dpn q' c dep) f' am' (p + 1) := by
  have hW := h
  obtain ⟨hD, hC, t24, t25, t26, a0, a1, hp, hp2⟩ := h
  have hC' := CI_nx hC hn
  have c2 := hC.2.1
  have hd10 := hC.2.2.2.2.1
  have hz := VI.zb hD.1
  have dig : q' = 4 ∨ q' = 9 ∨ q' = 12 → (q = 3 ∨ q = 7 ∨ q = 8 ∨ q = 11 ∨ q = 4 ∨ q = 9 ∨ q = 12) → dgt c → dgt c ∧ am < 10 ^ fg := by
    intro _ hq hg
    refine ⟨hg, ?_⟩
    by_cases e : q = 4 ∨ q = 9 ∨ q = 12
    · exact a1 e
    · rw [a0 (by omega)]
      exact Nat.pos_of_ne_zero (by simp)
  have plain : ∀ (V1 : Sv), hdn q' c (nI p) (if q' = 5 ∨ q' = 6 ∨ c = 41 then stl V else V) = V1 → DW V1 z f dep → V1 31 25 = nI fg → V1 31 26 = nI am → dpn q' c dep = dep → (q' = 4 ∨ q' = 9 ∨ q' = 12 → dgt c ∧ am < 10 ^ fg) → (q' = 8 → am = 0) → pot q' dep ≤ pot q dep + 1 → ∃ z' f' am', z ≤ z' ∧ f ≤ f' ∧ WT (stp q' c (nI p) V) z' q' (fgn q' fg) (dpn q' c dep) f' am' (p + 1) := by
    intro V1 e1 x1 x2 x3 x4 x5 x6 x7
    rw [x4] at hC' ⊢
    obtain ⟨am', hw⟩ := W_mk (c := c) (p := p + 1) x1 hC' x2 x3 x5 x6 (by omega) (by omega)
    refine ⟨z, f, am', by omega, by omega, ?_⟩
    unfold stp
    rw [e1]
    exact hw
  have up : ∀ (k : Nat) (x : Int32), k ≠ 6 → k ≠ 20 → k ≠ 34 → DW (us V 31 k x) z f dep := by
    intro k x k1 k2 k3
    obtain ⟨h1, h2, h3, h4, h5, h6⟩ := hD
    refine ⟨h1, ?_, ?_, ?_, h5, h6⟩
    · show upd (V 31) k x 6 = _
      rw [upd_n (Ne.symm k1)]; exact h2
    · show upd (V 31) k x 34 = _
      rw [upd_n (Ne.symm k3)]; exact h3
    · show upd (V 31) k x 20 = _
      rw [upd_n (Ne.symm k2)]; exact h4
  have ds : q' ≠ 2 → c ≠ 41 → dpn q' c dep = dep := fun h1 h2 => by unfold dpn; rw [if_neg h1, if_neg h2]
  rcases nx_inv hC.1 hn with ⟨rfl, rfl, rfl⟩ | ⟨rfl, g, rfl⟩ | ⟨rfl, rfl, rfl⟩ | ⟨rfl, g, rfl⟩ | ⟨rfl, g, rfl⟩ | ⟨rfl, rfl, rfl⟩ | ⟨rfl, rfl, rfl⟩ | ⟨rfl, rfl, rfl⟩ | ⟨rfl, g, rfl⟩ | ⟨rfl, g, rfl⟩ | ⟨rfl, g, rfl⟩ | ⟨rfl, ⟨rfl, g⟩, rfl⟩ | ⟨rfl, rfl, rfl⟩ | ⟨rfl, rfl, rfl⟩ | ⟨rfl, g, rfl⟩ | ⟨rfl, g, rfl⟩ | ⟨hq, hi⟩
  · have d0 := hC.2.2.2.2.2.1 (Or.inl rfl)
    subst d0
    exact plain (us V 31 30 (nI p)) rfl (up 30 _ (by decide) (by decide) (by decide)) t25 t26 rfl (fun h => absurd h (by omega)) (fun h => absurd h (by omega)) (by simp [pot])
  · have n41 : c ≠ 41 := fun e => by rw [e] at g; exact absurd g (by decide)
    have d9 := hC.2.2.2.2.2.2.1 rfl
    have hpt : pot 1 dep = dep + 1 := by simp [pot]
    obtain ⟨z', f', y1, y2, y3, y4, y5⟩ := D_M (c := c) hD d9 (by omega)
    have ed : dpn 2 c dep = dep + 1 := rfl
    rw [ed] at hC' ⊢
    obtain ⟨am', hw⟩ := W_mk (c := c) (p := p + 1) y4 hC' ((y5 25 (by decide) (by decide) (by decide)).trans t25) ((y5 26 (by decide) (by decide) (by decide)).trans t26) (fun h => absurd h (by omega)) (fun h => absurd h (by omega)) (by rw [hpt] at hp; simp [pot]; omega) (by omega)
    refine ⟨z', f', am', y1, y2, ?_⟩
    unfold stp
    rw [if_neg (by simp [n41])]
    exact hw
  · exact plain (us V 31 31 (nI p)) rfl (up 31 _ (by decide) (by decide) (by decide)) t25 t26 rfl (fun h => absurd h (by omega)) (fun h => absurd h (by omega)) (by simp [pot])
  · have n41 := n41d g
    exact plain V (by rw [if_neg (by simp [n41])]; unfold hdn; simp [n41]) hD t25 t26 (ds (by omega) n41) (fun h => dig h (by omega) g) (fun h => absurd h (by omega)) (by simp [pot])
  · have n41 := n41d g.1
    exact plain V (by rw [if_neg (by simp [n41])]; unfold hdn; simp [n41]) hD t25 t26 (ds (by omega) n41) (fun h => dig h (by omega) g.1) (fun h => absurd h (by omega)) (by simp [pot])
  · exact plain V rfl hD t25 t26 rfl (fun h => absurd h (by omega)) (fun h => absurd h (by omega)) (by simp [pot])
  · exact plain V rfl hD t25 t26 rfl (fun h => absurd h (by omega)) (fun h => absurd h (by omega)) (by simp [pot])
  · exact plain V rfl hD t25 t26 rfl (fun h => absurd h (by omega)) (fun _ => a0 (by omega)) (by simp [pot])
  · have n41 := n41d g
    exact plain V (by rw [if_neg (by simp [n41])]; unfold hdn; simp [n41]) hD t25 t26 (ds (by omega) n41) (fun h => dig h (by omega) g) (fun h => absurd h (by omega)) (by simp [pot])
  · have n41 := n41d g
    exact plain V (by rw [if_neg (by simp [n41])]; unfold hdn; simp [n41]) hD t25 t26 (ds (by omega) n41) (fun h => dig h (by omega) g) (fun h => absurd h (by omega)) (by simp [pot])
  · have n41 := n41d g.1
    exact plain V (by rw [if_neg (by simp [n41])]; unfold hdn; simp [n41]) hD t25 t26 (ds (by omega) n41) (fun h => dig h (by omega) g.1) (fun h => absurd h (by omega)) (by simp [pot])
  · have d1 := hC.2.2.2.2.2.2.2 (by omega) (by omega)
    exact plain (us V 31 30 (nI p)) rfl (up 30 _ (by decide) (by decide) (by decide)) t25 t26 rfl (fun h => absurd h (by omega)) (fun h => absurd h (by omega)) (by simp [pot]; omega)
  · exact plain V rfl hD t25 t26 rfl (fun h => absurd h (by omega)) (fun h => absurd h (by omega)) (by simp [pot])
  · obtain ⟨f', x1, x2, x3, x4⟩ := D_L (t := -1) (g := True) hD (fun _ => Or.inl rfl)
    have ed : dpn 13 126 dep = dep := rfl
    rw [ed] at hC' ⊢
    have hpt : pot 10 dep = dep - 1 + 1 := by simp [pot]
    obtain ⟨am', hw⟩ := W_mk (c := 126) (p := p + 1) x3 hC' ((x4.1 25 (by decide)).trans t25) ((x4.1 26 (by decide)).trans t26) (fun h => absurd h (by omega)) (fun h => absurd h (by omega)) (by rw [hpt] at hp; simp [pot]; omega) (by omega)
    exact ⟨z, f', am', by omega, x1, hw⟩
  · have n41 := n41d g
    exact plain V (by rw [if_neg (by simp [n41])]; unfold hdn; simp [n41]) hD t25 t26 (ds (by omega) n41) (fun h => dig h (by omega) g) (fun h => absurd h (by omega)) (by simp [pot])
  · have n41 := n41d g.1
    exact plain V (by rw [if_neg (by simp [n41])]; unfold hdn; simp [n41]) hD t25 t26 (ds (by omega) n41) (fun h => dig h (by omega) g.1) (fun h => absurd h (by omega)) (by simp [pot])
  · have hq2 : 2 ≤ q ∧ q ≤ 13 ∧ q ≠ 1 := by omega
    have d1 := hC.2.2.2.2.2.2.2 hq2.1 hq2.2.1
    obtain ⟨f1, y1, y2, y3, y4⟩ := W_stl hW hq2.1 hq2.2.1
    have hpt : pot q dep = dep - 1 + (if 3 ≤ q ∧ q ≤ 12 then 1 else 0) := by unfold pot; rw [if_neg hq2.2.2]
    rw [hpt] at hp
    have s25 : stl V 31 25 = nI fg := (y4.1 25 (by decide)).trans t25
    have s26 : stl V 31 26 = nI am := (y4.1 26 (by decide)).trans t26
    rcases ins_cases hi with ⟨g, rfl⟩ | ⟨g0, g, rfl⟩ | ⟨rfl, g, rfl⟩ | ⟨rfl, g, rfl⟩
    · have n41 : c ≠ 41 := fun e => x41 (e ▸ g)
      rw [ds (by omega) n41] at hC' ⊢
      have hDs : DW (us (us (stl V) 31 28 c) 31 29 (nI p)) z f1 dep := y3
      obtain ⟨am', hw⟩ := W_mk (c := c) (p := p + 1) hDs hC' s25 s26 (fun h => absurd h (by omega)) (fun h => absurd h (by omega)) (by simp [pot]; omega) (by omega)
      exact ⟨z, f1, am', by omega, y1, hw⟩
    · have n41 : c ≠ 41 := fun e => by rw [e] at g; exact absurd g (by decide)
      rw [ds (by omega) n41] at hC' ⊢
      have hDs : DW (us (us (stl V) 31 28 c) 31 29 (nI p)) z f1 dep := y3
      obtain ⟨am', hw⟩ := W_mk (c := c) (p := p + 1) hDs hC' s25 s26 (fun h => absurd h (by omega)) (fun h => absurd h (by omega)) (by simp [pot]; omega) (by omega)
      exact ⟨z, f1, am', by omega, y1, hw⟩
    · subst g
      have ed : dpn 14 41 1 = 0 := rfl
      rw [ed] at hC' ⊢
      obtain ⟨f2, w1, w2, w3, w4⟩ := D_C (dep := 0) y3 (by omega)
      obtain ⟨am', hw⟩ := W_mk (c := 41) (p := p + 1) w3 hC' ((w4 25 (by decide) (by decide) (by decide) (by decide) (by decide)).trans s25) ((w4 26 (by decide) (by decide) (by decide) (by decide) (by decide)).trans s26) (fun h => absurd h (by omega)) (fun h => absurd h (by omega)) (by rw [if_pos rfl] at w2; simp [pot]; omega) (by omega)
      exact ⟨z, f2, am', by omega, by omega, hw⟩
    · obtain ⟨k, rfl⟩ : ∃ k, dep = k + 1 := ⟨dep - 1, by omega⟩
      have ed : dpn 13 41 (k + 1) = k := rfl
      rw [ed] at hC' ⊢
      obtain ⟨f2, w1, w2, w3, w4⟩ := D_C (dep := k) y3 (by omega)
      obtain ⟨am', hw⟩ := W_mk (c := 41) (p := p + 1) w3 hC' ((w4 25 (by decide) (by decide) (by decide) (by decide) (by decide)).trans s25) ((w4 26 (by decide) (by decide) (by decide) (by decide) (by decide)).trans s26) (fun h => absurd h (by omega)) (fun h => absurd h (by omega)) (by rw [if_neg (by omega)] at w2; simp [pot]; omega) (by omega)
      exact ⟨z, f2, am', by omega, by omega, hw⟩
