/-! write: both alike -/
def σ0 : WS := ([], fun _ => 0, fun _ => 0, 0, 0)
noncomputable def wc (cut : Bool) (kr nr lr fi : Nat → Int32) (z r : Nat) : WS := wo kr nr lr fi (shd z lr r) cut 24 1 r σ0
abbrev cW : List Nat := [12, 13, 14, 21, 22, 23, 24, 25, 26]
theorem J_0 {z r : Nat} {lr : Nat → Int32} : J z lr r σ0 (fun _ => False) 0 := by
  refine ⟨Nat.zero_le _, Nat.zero_le _, fun t ht => absurd rfl ht, fun t ht => absurd rfl ht, fun p hp => hp.elim⟩
theorem Jo_0 {z r : Nat} {lr : Nat → Int32} (hr : r < z) : Jo z lr r σ0 (fun _ => False) r := ⟨hr, rc_refl, rfl, Or.inl rfl⟩
section WR
variable {xs : Nat × (Nat → Int32)} {d z : Nat} {S : Sv} {K : Sv → Option Value → Prop}
theorem k_53 {r : Nat} (hd : 70 ≤ d) (hV : VS S z) (hs : S 8 4 = nI z) (hr : r < z) (h : ∀ T, TC T (wc true (S 9) (S 10) (S 11) (S 5) z r).out → T 21 9 = (wc true (S 9) (S 10) (S 11) (S 5) z r).dp → (∀ c, ¬ c ∈ cW → T c = S c) → K T none) : CS xs d 53 S [.ref 21, .int (nI r)] K := by
  obtain ⟨d, rfl⟩ := cs_d (d := d) (by omega)
  have hz := VI.zb hV
  have main : ∀ (n q : Nat) (T : Sv), q + n = 24 → (∀ i, i < q → T 26 i = 0) → (∀ c, c ≠ 21 → c ≠ 22 → c ≠ 26 → T c = S c) → T 22 1 = 0 → T 21 7 = nI r → T 21 8 = 0 → T 21 9 = 0 → T 21 10 = 0 → R_53_30 xs d K (nI r) (nI q) T := by
    intro n
    induction n with
    | zero =>
      intro q T hq h26 hc a1 a2 a3 a4 a5
      refine h_53_30 ⟨fun _ => ?_, fun g => absurd (nI_le (a := 24) (b := q) (by omega) (by omega)) g⟩
      have hVT : VS T z := by
        show VI (T 2) (T 3) (T 4) (T 5) (T 6) (T 7) z (T 9) (T 10) (T 11)
        rw [hc 2 (by decide) (by decide) (by decide), hc 3 (by decide) (by decide) (by decide), hc 4 (by decide) (by decide) (by decide), hc 5 (by decide) (by decide) (by decide), hc 6 (by decide) (by decide) (by decide), hc 7 (by decide) (by decide) (by decide), hc 9 (by decide) (by decide) (by decide), hc 10 (by decide) (by decide) (by decide), hc 11 (by decide) (by decide) (by decide)]
        exact hV
      have hsT : T 8 4 = nI z := by rw [hc 8 (by decide) (by decide) (by decide)]; exact hs
      refine k_54 (r := r) (by omega) hVT hsT hr a2 (fun B fB l24 => ⟨rfl, ?_⟩)
      have eB : ∀ c, c ≠ 12 → c ≠ 13 → c ≠ 14 → c ≠ 24 → c ≠ 21 → c ≠ 22 → c ≠ 26 → B c = S c := fun c n1 n2 n3 n4 n5 n6 n7 => (fB c n1 n2 n3 n4).trans (hc c n5 n6 n7)
      have b11 : B 11 = T 11 := fB 11 (by decide) (by decide) (by decide) (by decide)
      have b21 : B 21 = T 21 := fB 21 (by decide) (by decide) (by decide) (by decide)
      have b22 : B 22 = T 22 := fB 22 (by decide) (by decide) (by decide) (by decide)
      have b26 : B 26 = T 26 := fB 26 (by decide) (by decide) (by decide) (by decide)
      have s9 : B 9 = S 9 := eB 9 (by decide) (by decide) (by decide) (by decide) (by decide) (by decide) (by decide)
      have s10 : B 10 = S 10 := eB 10 (by decide) (by decide) (by decide) (by decide) (by decide) (by decide) (by decide)
      have s11 : B 11 = S 11 := eB 11 (by decide) (by decide) (by decide) (by decide) (by decide) (by decide) (by decide)
      have s5 : B 5 = S 5 := eB 5 (by decide) (by decide) (by decide) (by decide) (by decide) (by decide) (by decide)
      have sim := s_56 (xs := xs) (S := B) (z := z) (r := r) (VS_fr5 hVT fB) (by rw [fB 8 (by decide) (by decide) (by decide) (by decide)]; exact hsT) hr (by rw [b11]; exact l24) 24 1 d (by omega) (by omega)
      refine sim r σ0 B (fun _ => False) 0 _ J_0 (Jo_0 hr) (by omega) ?_ (fun T' hP' => ⟨rfl, ?_⟩)
      · refine ⟨⟨fun i hi => absurd hi (Nat.not_lt_zero i), Or.inl ⟨Nat.zero_le _, ?_, ?_⟩⟩, fun i hi => ?_, fun i hi hb => absurd rfl hb, ?_, ?_, ?_, fun _ _ _ _ _ _ => rfl⟩
        · rw [b22]; exact a1
        · rw [b21]; exact a5
        · rw [b26]; exact h26 i (by omega)
        · rw [b21]; exact a3
        · rw [b21]; exact a4
        · rw [b21]; exact a2
      · rw [s9, s10, s11, s5] at hP'
        refine h T' hP'.1 hP'.2.2.2.2.1 (fun c hn => ?_)
        have hn' : ∀ x, x ∈ cW → c ≠ x := fun x hx e => hn (e ▸ hx)
        rw [hP'.2.2.2.2.2.2 c (hn' 21 (by decide)) (hn' 22 (by decide)) (hn' 23 (by decide)) (hn' 25 (by decide)) (hn' 26 (by decide))]
        exact eB c (hn' 12 (by decide)) (hn' 13 (by decide)) (hn' 14 (by decide)) (hn' 24 (by decide)) (hn' 21 (by decide)) (hn' 22 (by decide)) (hn' 26 (by decide))
    | succ n ih =>
      intro q T hq h26 hc a1 a2 a3 a4 a5
      refine h_53_30 ⟨fun g => absurd g (nI_ge (b := 24) (by omega) (by omega)), fun _ => ⟨q, by omega, rfl, ?_⟩⟩
      rw [nI_1]
      refine ih (q + 1) _ (by omega) (fun i hi => ?_) (fun c n1 n2 n3 => by rw [us_ne n3]; exact hc c n1 n2 n3) a1 a2 a3 a4 a5
      show upd (T 26) q 0 i = 0
      by_cases e : i = q
      · rw [e, upd_s]
      · rw [upd_n e]; exact h26 i (by omega)
  exact c_53 (main 24 0 _ (by omega) (fun i hi => absurd hi (Nat.not_lt_zero i)) (fun c n1 n2 n3 => by rw [us_ne n1, us_ne n1, us_ne n1, us_ne n1, us_ne n2]) rfl rfl rfl rfl rfl)
theorem k_14 {o : Int32} (hd : 71 ≤ d) (hV : VS S z) (hs : S 8 4 = nI z) (h0 : ¬ isO z o → K S (some (.int (-1))))
    (h2 : ∀ r, r < z → o = nI r → ¬ (wc true (S 9) (S 10) (S 11) (S 5) z r).dp = 0 → ∀ T, (∀ c, ¬ c ∈ cW → T c = S c) → K T (some (.int (-2))))
    (h3 : ∀ r, r < z → o = nI r → (wc true (S 9) (S 10) (S 11) (S 5) z r).dp = 0 → 300 < (wc true (S 9) (S 10) (S 11) (S 5) z r).out.length → ∀ T, (∀ c, ¬ c ∈ cW → T c = S c) → K T (some (.int (-3))))
    (h4 : ∀ r, r < z → o = nI r → (wc true (S 9) (S 10) (S 11) (S 5) z r).dp = 0 → (wc true (S 9) (S 10) (S 11) (S 5) z r).out.length ≤ 300 → ∀ T, (∀ c, ¬ c ∈ cW → c ≠ 19 → c ≠ 20 → T c = S c) → T 19 1 = nI (wc true (S 9) (S 10) (S 11) (S 5) z r).out.length → (∀ i, T 20 i = if i < (wc true (S 9) (S 10) (S 11) (S 5) z r).out.length then (wc true (S 9) (S 10) (S 11) (S 5) z r).out.getD i 0 else S 20 i) → (∀ i, i < (wc true (S 9) (S 10) (S 11) (S 5) z r).out.length → 32 ≤ T 20 i ∧ T 20 i ≤ 126) → K T (some (.int (nI (wc true (S 9) (S 10) (S 11) (S 5) z r).out.length)))) : CS xs d 14 S [.ref 0, .int o] K := by
  obtain ⟨d, rfl⟩ := cs_d (d := d) (by omega)
  have hz := VI.zb hV
  refine c_14 (k_31 (by omega) hz hs (fun r hr er => ⟨_, rfl, fun _ => ?_, fun hh => absurd (by decide) hh⟩) (fun hno => ⟨_, rfl, fun hh => absurd rfl hh, fun _ => h0 hno⟩))
  rw [er]
  have h2 := h2 r hr er
  have h3 := h3 r hr er
  have h4 := h4 r hr er
  refine k_53 (by omega) hV hs hr (fun T t1 t2 t3 => ⟨rfl, ?_⟩)
  obtain ⟨p1, p2⟩ := t1
  generalize wc true (S 9) (S 10) (S 11) (S 5) z r = σ at h2 h3 h4 t2 p1 p2
  refine ⟨fun g => ⟨fun g2 => ?_, fun g2 => ?_⟩, fun g => h2 (by rw [← t2]; exact g) T t3⟩
  · rcases p2 with ⟨q1, q2, q3⟩ | ⟨q1, q2, q3⟩
    · obtain ⟨d, rfl⟩ := cs_d (d := d) (by omega)
      have hT20 : T 20 = S 20 := t3 20 (by decide)
      refine c_51_19 ⟨σ.out.length, q2, q1, fun i hi => ?_, rfl, ?_⟩
      · obtain ⟨-, b1, b2⟩ := p1 i hi (by omega)
        show (decide (0 ≤ T 23 i) && decide (T 23 i ≤ 65535)) = true
        rw [decide_eq_true (Int32.le_trans (by decide) b1), decide_eq_true (Int32.le_trans b2 (by decide))]
        rfl
      · have e1 : (uf T 20 (va_cpy (T 23) (T 20) 0 0 σ.out.length)) 22 1 = nI σ.out.length := q2
        rw [e1]
        have e20 : ∀ i, (us (uf T 20 (va_cpy (T 23) (T 20) 0 0 σ.out.length)) 19 1 (nI σ.out.length)) 20 i = if i < σ.out.length then T 23 i else S 20 i := by
          intro i
          show va_cpy (T 23) (T 20) 0 0 σ.out.length i = _
          unfold va_cpy
          rw [hT20]
          simp
        refine h4 (by rw [← t2]; exact g) q1 _ (fun c n1 n2 n3 => ?_) rfl (fun i => ?_) (fun i hi => ?_)
        · rw [us_ne n2, uf_ne n3]; exact t3 c n1
        · rw [e20 i]
          by_cases hi : i < σ.out.length
          · rw [if_pos hi, if_pos hi]; exact (p1 i hi (by omega)).1
          · rw [if_neg hi, if_neg hi]
        · rw [e20 i, if_pos hi]
          exact (p1 i hi (by omega)).2
    · rw [q3] at g2
      exact absurd g2 (by decide)
  · rcases p2 with ⟨q1, q2, q3⟩ | ⟨q1, q2, q3⟩
    · exact absurd q3 g2
    · exact h3 (by rw [← t2]; exact g) q1 T t3
abbrev cX : List Nat := [31, 42, 43, 46, 47, 48, 49]
theorem k_109 {o : Int32} (hd : 7 ≤ d) (hV : VR S z) (hs : S 31 6 = nI z) (h0 : ¬ isO z o → K S (some (.int (-1))))
    (h2 : ∀ r, r < z → o = nI r → ¬ (wc false (S 38) (S 39) (S 40) (S 35) z r).dp = 0 → ∀ T, (∀ c, ¬ c ∈ cX → T c = S c) → (∀ k, k ≠ 13 → k ≠ 19 → k ≠ 20 → T 31 k = S 31 k) → K T (some (.int (-2))))
    (h3 : ∀ r, r < z → o = nI r → (wc false (S 38) (S 39) (S 40) (S 35) z r).dp = 0 → 300 < (wc false (S 38) (S 39) (S 40) (S 35) z r).out.length → ∀ T, (∀ c, ¬ c ∈ cX → T c = S c) → (∀ k, k ≠ 13 → k ≠ 19 → k ≠ 20 → T 31 k = S 31 k) → K T (some (.int (-3))))
    (h4 : ∀ r, r < z → o = nI r → (wc false (S 38) (S 39) (S 40) (S 35) z r).dp = 0 → (wc false (S 38) (S 39) (S 40) (S 35) z r).out.length ≤ 300 → ∀ T, (∀ c, ¬ c ∈ cX → c ≠ 41 → T c = S c) → (∀ k, k ≠ 13 → k ≠ 19 → k ≠ 20 → k ≠ 11 → T 31 k = S 31 k) → T 31 11 = nI (wc false (S 38) (S 39) (S 40) (S 35) z r).out.length → (∀ i, T 41 i = if i < (wc false (S 38) (S 39) (S 40) (S 35) z r).out.length then (wc false (S 38) (S 39) (S 40) (S 35) z r).out.getD i 0 else S 41 i) → K T (some (.int (nI (wc false (S 38) (S 39) (S 40) (S 35) z r).out.length)))) : CS xs d 109 S [.ref 31, .int o] K := by
  obtain ⟨d, rfl⟩ := cs_d (d := d) (by omega)
  have hz := VI.zb hV
  refine c_109 (k_88 (by omega) hz hs (fun r hr er => ⟨_, rfl, fun _ => ?_, fun hh => absurd (by decide) hh⟩) (fun hno => ⟨_, rfl, fun hh => absurd rfl hh, fun _ => h0 hno⟩))
  rw [er]
  have h2 := h2 r hr er
  have h3 := h3 r hr er
  have h4 := h4 r hr er
  refine k_100 (r := r) (by omega) hV hs hr (fun B n hE => ⟨_, rfl, ?_⟩)
  obtain ⟨⟨b1, b2, b3, b4⟩, b5⟩ := hE
  have main : ∀ (n q : Nat) (T : Sv), q + n = 24 → (∀ i, i < q → T 46 i = 0 ∧ T 47 i = 0) → (∀ c, c ≠ 46 → c ≠ 47 → T c = B c) → R_109_18 xs d K (nI r) (nI q) T := by
    intro n
    induction n with
    | zero =>
      intro q T hq hz0 hc
      refine h_109_18 ⟨fun _ => ?_, fun g => absurd (nI_le (a := 24) (b := q) (by omega) (by omega)) g⟩
      have eS : ∀ c, c ≠ 43 → c ≠ 46 → c ≠ 47 → T c = S c := fun c n1 n2 n3 => (hc c n2 n3).trans (b1 c n1)
      let T0 := us (us (us T 31 19 0) 31 13 0) 31 20 0
      have e0 : ∀ c, c ≠ 31 → T0 c = T c := fun c n1 => by show us (us (us T 31 19 0) 31 13 0) 31 20 0 c = T c; rw [us_ne n1, us_ne n1, us_ne n1]
      have e31 : ∀ k, k ≠ 13 → k ≠ 19 → k ≠ 20 → T0 31 k = S 31 k := by
        intro k k1 k2 k3
        show upd (upd (upd (T 31) 19 0) 13 0) 20 0 k = _
        rw [upd_n k3, upd_n k1, upd_n k2, eS 31 (by decide) (by decide) (by decide)]
      have eT0 : ∀ c, c ≠ 31 → c ≠ 43 → c ≠ 46 → c ≠ 47 → T0 c = S c := fun c n1 n2 n3 n4 => (e0 c n1).trans (eS c n2 n3 n4)
      have hV0 : VR T0 z := by
        have hc2 : ∀ c, 32 ≤ c → c ≤ 40 → T0 c = S c := fun c h1 h2 => eT0 c (by omega) (by omega) (by omega) (by omega)
        show VI (T0 32) (T0 33) (T0 34) (T0 35) (T0 36) (T0 37) z (T0 38) (T0 39) (T0 40)
        rw [hc2 32 (by decide) (by decide), hc2 33 (by decide) (by decide), hc2 34 (by decide) (by decide), hc2 35 (by decide) (by decide), hc2 36 (by decide) (by decide), hc2 37 (by decide) (by decide), hc2 38 (by decide) (by decide), hc2 39 (by decide) (by decide), hc2 40 (by decide) (by decide)]
        exact hV
      have s38 : T0 38 = S 38 := eT0 38 (by decide) (by decide) (by decide) (by decide)
      have s39 : T0 39 = S 39 := eT0 39 (by decide) (by decide) (by decide) (by decide)
      have s40 : T0 40 = S 40 := eT0 40 (by decide) (by decide) (by decide) (by decide)
      have s35 : T0 35 = S 35 := eT0 35 (by decide) (by decide) (by decide) (by decide)
      have s43 : T0 43 = B 43 := (e0 43 (by decide)).trans (hc 43 (by decide) (by decide))
      have s6 : T0 31 6 = nI z := (e31 6 (by decide) (by decide) (by decide)).trans hs
      have hX : ∀ t, t < 24 → (¬ T0 43 t = 0 ↔ t < z ∧ rc z (T0 40) r t) := by
        intro t ht
        rw [s43, s40]
        exact ⟨fun g => b3 t ht g, fun g => (b5 t g.1).mp g.2⟩
      have P0 : PR T0 T0 z r σ0 := by
        refine ⟨⟨rfl, fun i hi => absurd hi (Nat.not_lt_zero i)⟩, fun i hi => ?_, fun i hi hb => absurd rfl hb, rfl, fun _ _ _ _ _ _ _ => rfl, fun _ _ _ _ => rfl⟩
        rw [e0 47 (by decide)]
        exact (hz0 i (by omega)).2
      refine k_108 (S := T0) (w := 0) (v := 1) (by omega) hV0 s6 hr hX J_0 (Jo_0 hr) (by omega) P0 rfl (fun T1 P1 p1 p2 p3 p4 => ⟨rfl, ?_⟩)
      have sim := r_wo (xs := xs) (K := K) (d := d) (S := T0) (z := z) (r := r) (by omega) hV0 s6 hr hX 24 0
      refine sim r σ0 T1 (fun _ => False) 0 J_0 (Jo_0 hr) (by omega) (by omega) (Or.inl rfl) P1 p1 p2 p3 (fun T2 P2 q1 _ => ?_)
      rw [s38, s39, s40, s35] at P2 ⊢
      have P2 : PR T0 T2 z r (wc false (S 38) (S 39) (S 40) (S 35) z r) := P2
      show R_109_67 xs d K (nI r) (wc false (S 38) (S 39) (S 40) (S 35) z r).dp T2
      have hlen : (wc false (S 38) (S 39) (S 40) (S 35) z r).out.length ≤ 1536 := by
        have hJ := (J_wo (kr := S 38) (nr := S 39) (fi := S 35) (lr := S 40) (z := z) (r := r) (cut := false) hz (fun o l ho hl => (VI.lr hV o l ho hl).1) 24 1 r σ0 (fun _ => False) 0 J_0 (Jo_0 hr)).1
        have hJ1 := hJ.2.1
        have hJ2 := cn_le (wo (S 38) (S 39) (S 40) (S 35) (shd z (S 40) r) false 24 1 r σ0).bg 24
        have hJ1 : (wc false (S 38) (S 39) (S 40) (S 35) z r).out.length + 0 ≤ 64 * cn (wo (S 38) (S 39) (S 40) (S 35) (shd z (S 40) r) false 24 1 r σ0).bg 24 := hJ1
        omega
      generalize wc false (S 38) (S 39) (S 40) (S 35) z r = σ at h2 h3 h4 P2 hlen
      obtain ⟨⟨u1, u2⟩, -, -, -, u5, u6⟩ := P2
      have f1 : ∀ c, ¬ c ∈ cX → T2 c = S c := by
        intro c hn
        have hn' : ∀ x, x ∈ cX → c ≠ x := fun x hx e => hn (e ▸ hx)
        rw [u5 c (hn' 31 (by decide)) (hn' 42 (by decide)) (hn' 46 (by decide)) (hn' 47 (by decide)) (hn' 48 (by decide)) (hn' 49 (by decide))]
        exact eT0 c (hn' 31 (by decide)) (hn' 43 (by decide)) (hn' 46 (by decide)) (hn' 47 (by decide))
      have f2 : ∀ k, k ≠ 13 → k ≠ 19 → k ≠ 20 → T2 31 k = S 31 k := fun k k1 k2 k3 => (u6 k k1 k2 k3).trans (e31 k k1 k2 k3)
      refine h_109_67 ⟨fun _ => ⟨fun g => ⟨fun g2 => ?_, fun g2 => ?_⟩, fun g => h2 g T2 f1 f2⟩, fun g => absurd (by rw [q1]; decide) g⟩
      · rw [u1] at g2
        have hl : σ.out.length ≤ 300 := (nI_leI (b := 300) (by omega) (by omega)).mp g2
        have cpy : ∀ (n q : Nat) (T3 : Sv), q + n = σ.out.length → (∀ c, c ≠ 41 → T3 c = T2 c) → (∀ i, T3 41 i = if i < q then σ.out.getD i 0 else S 41 i) → R_109_262 xs d K (nI q) T3 := by
          intro n
          induction n with
          | zero =>
            intro q T3 hq hc3 h41
            have e13 : T3 31 13 = nI σ.out.length := by rw [hc3 31 (by decide)]; exact u1
            refine h_109_262 ⟨fun _ => ?_, fun g => absurd (by rw [e13]; exact nI_le (by omega) (by omega)) g⟩
            rw [e13]
            refine h4 g hl _ (fun c n1 n2 => ?_) (fun k k1 k2 k3 k4 => ?_) rfl (fun i => ?_)
            · have n31 : c ≠ 31 := fun e => n1 (by rw [e]; decide)
              rw [us_ne n31, hc3 c n2]; exact f1 c n1
            · show upd (T3 31) 11 _ k = _
              rw [upd_n k4, hc3 31 (by decide)]; exact f2 k k1 k2 k3
            · show T3 41 i = _
              rw [h41 i, show q = σ.out.length by omega]
          | succ n ih =>
            intro q T3 hq hc3 h41
            have e13 : T3 31 13 = nI σ.out.length := by rw [hc3 31 (by decide)]; exact u1
            refine h_109_262 ⟨fun g => absurd g (by rw [e13]; exact nI_ge (by omega) (by omega)), fun _ => ⟨q, by omega, rfl, q, by omega, rfl, ?_⟩⟩
            rw [nI_1]
            refine ih (q + 1) _ (by omega) (fun c hc41 => by rw [us_ne hc41]; exact hc3 c hc41) (fun i => ?_)
            show upd (T3 41) q (T3 42 q) i = _
            by_cases e : i = q
            · rw [e, upd_s, hc3 42 (by decide), u2 q (by omega) (by omega), if_pos (by omega)]
            · rw [upd_n e, h41 i]
              by_cases hi : i < q
              · rw [if_pos hi, if_pos (by omega)]
              · rw [if_neg hi, if_neg (by omega)]
        refine cpy σ.out.length 0 T2 (by omega) (fun _ _ => rfl) (fun i => ?_)
        rw [if_neg (by omega), f1 41 (by decide)]
      · rw [u1] at g2
        exact h3 g (Nat.lt_of_not_le (fun hh => g2 (nI_le (b := 300) hh (by omega)))) T2 f1 f2
    | succ n ih =>
      intro q T hq hz0 hc
      refine h_109_18 ⟨fun g => absurd g (nI_ge (b := 24) (by omega) (by omega)), fun _ => ⟨q, by omega, rfl, q, by omega, rfl, ?_⟩⟩
      rw [nI_1]
      refine ih (q + 1) _ (by omega) (fun i hi => ?_) (fun c n1 n2 => by rw [us_ne n2, us_ne n1]; exact hc c n1 n2)
      show upd (T 46) q 0 i = 0 ∧ upd (T 47) q 0 i = 0
      by_cases e : i = q
      · rw [e, upd_s, upd_s]; exact ⟨rfl, rfl⟩
      · rw [upd_n e, upd_n e]; exact hz0 i (by omega)
  exact main 24 0 B (by omega) (fun i hi => absurd hi (Nat.not_lt_zero i)) (fun _ _ _ => rfl)
end WR
theorem op_12 : op_ok w_law_12 := by
  intro xs R S i h hi hR
  obtain ⟨z, n, f, hz, hn, hf, s1, s2, s3, s4, s5, s6, hV, hW⟩ := h.VR
  have hI := h
  obtain ⟨_, _, _, iV, i1, i2, i3, ⟨e2, e3, e4, e5, e6⟩, ⟨g1, g2, g3, g4, g5⟩, ⟨t1, t2, t3, t4⟩, w1, w2, w3⟩ := hI
  refine ⟨i + 1, by omega, ad_1 i, ?_⟩
  have eW : ∀ T, (∀ c, ¬ c ∈ cW → c ≠ 19 → c ≠ 20 → T c = S c) → VR T z ∧ T 31 6 = nI z ∧ T 38 = S 9 ∧ T 39 = S 10 ∧ T 40 = S 11 ∧ T 35 = S 5 := by
    intro T hc
    have hc2 : ∀ c, 31 ≤ c → c ≤ 52 → T c = S c := fun c h1 h2 => hc c (by simp; omega) (by omega) (by omega)
    refine ⟨?_, by rw [hc2 31 (by decide) (by decide)]; exact s2, by rw [hc2 38 (by decide) (by decide)]; exact g3, by rw [hc2 39 (by decide) (by decide)]; exact g4, by rw [hc2 40 (by decide) (by decide)]; exact g5, by rw [hc2 35 (by decide) (by decide)]; exact e5⟩
    show VI (T 32) (T 33) (T 34) (T 35) (T 36) (T 37) z (T 38) (T 39) (T 40)
    rw [hc2 32 (by decide) (by decide), hc2 33 (by decide) (by decide), hc2 34 (by decide) (by decide), hc2 35 (by decide) (by decide), hc2 36 (by decide) (by decide), hc2 37 (by decide) (by decide), hc2 38 (by decide) (by decide), hc2 39 (by decide) (by decide), hc2 40 (by decide) (by decide)]
    exact hW
  have I2 : ∀ T T' : Sv, (∀ c, ¬ c ∈ cW → T c = S c) → (∀ c, ¬ c ∈ cX → T' c = T c) → (∀ k, k ≠ 13 → k ≠ 19 → k ≠ 20 → T' 31 k = T 31 k) → Inv T' := by
    intro T T' hc hc' hk
    have hcc : ∀ c, ¬ c ∈ cW → ¬ c ∈ cX → T' c = S c := fun c n1 n2 => (hc' c n2).trans (hc c n1)
    have h31 : T 31 = S 31 := hc 31 (by decide)
    refine h.of_same (fun c hk => hcc c (by revert c; decide) (by revert c; decide)) (by rw [hcc 8 (by decide) (by decide)]) (by rw [hk 6 (by decide) (by decide) (by decide), h31]) (by rw [hcc 19 (by decide) (by decide)]) (by rw [hk 11 (by decide) (by decide) (by decide), h31]) (by rw [hcc 28 (by decide) (by decide)]) (by rw [hk 34 (by decide) (by decide) (by decide), h31])
  have cmp : ∀ r, (wc true (S 9) (S 10) (S 11) (S 5) z r = wc false (S 9) (S 10) (S 11) (S 5) z r ∧ (wc true (S 9) (S 10) (S 11) (S 5) z r).dp = 0) ∨ (¬ (wc true (S 9) (S 10) (S 11) (S 5) z r).dp = 0 ∧ ¬ (wc false (S 9) (S 10) (S 11) (S 5) z r).dp = 0) := fun r => C_wo 24 1 r σ0 rfl
  refine k_14 (z := z) (by omega) hV s1 (fun hno => ⟨_, rfl, i + 1, by omega, ad_1 i, ?_⟩) (fun r hr er q1 T hc => ⟨_, rfl, i + 1, by omega, ad_1 i, ?_⟩) (fun r hr er q1 q2 T hc => ⟨_, rfl, i + 1, by omega, ad_1 i, ?_⟩) (fun r hr er q1 q2 T hc c19 c20 cch => ⟨_, rfl, i + 1, by omega, ad_1 i, ?_⟩)
  · exact k_109 (z := z) (by omega) hW s2 (fun _ => ⟨_, rfl, fun _ => hR _ h, fun hne => absurd rfl hne⟩) (fun r hr er => absurd ⟨r, hr, er⟩ hno) (fun r hr er => absurd ⟨r, hr, er⟩ hno) (fun r hr er => absurd ⟨r, hr, er⟩ hno)
  · obtain ⟨v1, v2, v3, v4, v5, v6⟩ := eW T (fun c n1 _ _ => hc c n1)
    have hd2 : ¬ (wc false (S 9) (S 10) (S 11) (S 5) z r).dp = 0 := (cmp r).elim (fun hh => absurd hh.2 q1) (fun hh => hh.2)
    refine k_109 (z := z) (by omega) v1 v2 (fun hno => absurd ⟨r, hr, er⟩ hno) (fun r' hr' er' q1' T' hc' hk' => ⟨_, rfl, fun _ => hR _ (I2 T T' hc hc' hk'), fun hne => absurd rfl hne⟩) (fun r' hr' er' q1' => ?_) (fun r' hr' er' q1' => ?_)
    · rw [v3, v4, v5, v6, ← nI_inj (by omega) (by omega) (er.symm.trans er')] at q1'
      exact absurd q1' hd2
    · rw [v3, v4, v5, v6, ← nI_inj (by omega) (by omega) (er.symm.trans er')] at q1'
      exact absurd q1' hd2
  · obtain ⟨v1, v2, v3, v4, v5, v6⟩ := eW T (fun c n1 _ _ => hc c n1)
    have hd2 : wc true (S 9) (S 10) (S 11) (S 5) z r = wc false (S 9) (S 10) (S 11) (S 5) z r := (cmp r).elim (fun hh => hh.1) (fun hh => absurd q1 hh.1)
    rw [hd2] at q1 q2
    refine k_109 (z := z) (by omega) v1 v2 (fun hno => absurd ⟨r, hr, er⟩ hno) (fun r' hr' er' q1' => ?_) (fun r' hr' er' q1' q2' T' hc' hk' => ⟨_, rfl, fun _ => hR _ (I2 T T' hc hc' hk'), fun hne => absurd rfl hne⟩) (fun r' hr' er' q1' q2' => ?_)
    · rw [v3, v4, v5, v6, ← nI_inj (by omega) (by omega) (er.symm.trans er')] at q1'
      exact absurd q1 q1'
    · rw [v3, v4, v5, v6, ← nI_inj (by omega) (by omega) (er.symm.trans er')] at q2'
      exact absurd q2' (by omega)
  · obtain ⟨v1, v2, v3, v4, v5, v6⟩ := eW T hc
    have hd2 : wc true (S 9) (S 10) (S 11) (S 5) z r = wc false (S 9) (S 10) (S 11) (S 5) z r := (cmp r).elim (fun hh => hh.1) (fun hh => absurd q1 hh.1)
    rw [hd2] at q1 q2 c19 c20 cch
    rw [hd2]
    refine k_109 (z := z) (by omega) v1 v2 (fun hno => absurd ⟨r, hr, er⟩ hno) (fun r' hr' er' q1' => ?_) (fun r' hr' er' q1' q2' => ?_) (fun r' hr' er' q1' q2' T' hc' hk' c11 c41 => ⟨_, rfl, fun _ => hR _ ?_, fun hne => absurd ?_ hne⟩)
    · rw [v3, v4, v5, v6, ← nI_inj (by omega) (by omega) (er.symm.trans er')] at q1'
      exact absurd q1 q1'
    · rw [v3, v4, v5, v6, ← nI_inj (by omega) (by omega) (er.symm.trans er')] at q2'
      exact absurd q2' (by omega)
    · rw [v3, v4, v5, v6, ← nI_inj (by omega) (by omega) (er.symm.trans er')] at c11 c41
      generalize wc false (S 9) (S 10) (S 11) (S 5) z r = σ at q2 c19 c20 cch c11 c41
      have hcc : ∀ c, ¬ c ∈ cW → c ≠ 19 → c ≠ 20 → ¬ c ∈ cX → c ≠ 41 → T' c = S c := fun c n1 n2 n3 n4 n5 => (hc' c n4 n5).trans (hc c n1 n2 n3)
      have hx : ∀ c, c ∈ [2, 3, 4, 5, 6, 7, 8, 9, 10, 11, 28, 30, 32, 33, 34, 35, 36, 37, 38, 39, 40, 52] → T' c = S c := fun c hm => hcc c (by revert c; decide) (by revert c; decide) (by revert c; decide) (by revert c; decide) (by revert c; decide)
      have e20 : T' 20 = T 20 := hc' 20 (by decide) (by decide)
      have e19 : T' 19 = T 19 := hc' 19 (by decide) (by decide)
      have e41 : T 41 = S 41 := hc 41 (by decide) (by decide) (by decide)
      have e31 : T 31 = S 31 := hc 31 (by decide) (by decide) (by decide)
      have hz2 : ∃ z' n' f', z' = z ∧ n' = σ.out.length ∧ f' = f := ⟨z, _, f, rfl, rfl, rfl⟩
      refine ⟨z, σ.out.length, f, ?_, q2, hf, ?_, ?_, ?_, ?_, ?_⟩
      · rw [hx 2 (by decide), hx 3 (by decide), hx 4 (by decide), hx 5 (by decide), hx 6 (by decide), hx 7 (by decide), hx 9 (by decide), hx 10 (by decide), hx 11 (by decide)]
        exact hV
      · rw [hx 2 (by decide), hx 5 (by decide), hx 6 (by decide), hx 7 (by decide)]
        exact i3
      · rw [hx 2 (by decide), hx 3 (by decide), hx 4 (by decide), hx 5 (by decide), hx 6 (by decide), hx 7 (by decide), hx 32 (by decide), hx 33 (by decide), hx 34 (by decide), hx 35 (by decide), hx 36 (by decide), hx 37 (by decide)]
        exact ⟨e2, e3, e4, e5, e6⟩
      · rw [hx 8 (by decide), hx 9 (by decide), hx 10 (by decide), hx 11 (by decide), hx 38 (by decide), hx 39 (by decide), hx 40 (by decide), hk' 6 (by decide) (by decide) (by decide) (by decide), e31]
        exact ⟨s1, s2, g3, g4, g5⟩
      · refine ⟨by rw [e19]; exact c19, c11, ?_, fun i hi => by rw [e20]; exact cch i hi⟩
        rw [e20]
        funext i
        rw [c41 i, c20 i, e41, t3]
      · rw [hx 28 (by decide), hx 52 (by decide), hx 30 (by decide), hk' 34 (by decide) (by decide) (by decide) (by decide), e31]
        exact ⟨s5, s6, w3⟩
    · rw [v3, v4, v5, v6, ← nI_inj (by omega) (by omega) (er.symm.trans er')]
