/-! the law's cases, one by one: class and reference answer alike, and Inv stays -/
section OP
variable {xs : Nat × (Nat → Int32)} {R : Int32 → Sv → Prop} {S : Sv} {i : Nat}
theorem ad_1 (i : Nat) : nI i + 1 = nI (i + 1) := nI_add i 1
theorem ad_2 (i : Nat) : nI i + 2 = nI (i + 2) := nI_add i 2
theorem ad_3 (i : Nat) : nI i + 3 = nI (i + 3) := nI_add i 3
theorem ad_4 (i : Nat) : nI i + 4 = nI (i + 4) := nI_add i 4
theorem ad_5 (i : Nat) : nI i + 5 = nI (i + 5) := nI_add i 5
theorem op_0 (h : Inv S) (hi : i + 6 ≤ xs.1) (hR : ∀ S', Inv S' → R (nI i + 6) S') : w_law_0 xs R (nI i) S := by
  have hI := h
  obtain ⟨z, n, f, hV, hn, hf, hU, ⟨e2, e3, e4, e5, e6⟩, hg, ht, hfl⟩ := hI
  refine ⟨i + 1, by omega, ad_1 i, i + 2, by omega, ad_2 i, i + 3, by omega, ad_3 i, ?_⟩
  refine c_2 (d := 999) (k_26 (by omega) (fun a ha => ⟨_, rfl, Or.inr rfl, _, rfl, i + 1, by omega, ad_1 i, i + 2, by omega, ad_2 i, i + 3, by omega, ad_3 i, ?_⟩) (fun hno => ⟨_, rfl, Or.inl rfl, _, rfl, i + 1, by omega, ad_1 i, i + 2, by omega, ad_2 i, i + 3, by omega, ad_3 i, ?_⟩))
  · have e32 : us (us (us S 2 a 1) 3 a (xs.2 (i + 2))) 4 a (xs.2 (i + 3)) 32 = S 2 := e2
    refine k_86 (by omega) (fun a' ha' => ⟨_, rfl, fun _ => hR _ ?_, fun h => absurd rfl h⟩) (fun hno => ?_)
    · have haa : a = a' := nI_inj (by have := ha.1; omega) (by have := ha'.1; omega) (ha.2.1.symm.trans ha'.2.1)
      subst haa
      exact Inv_define h ha
    · rw [e32] at hno
      exact absurd ⟨a, ha⟩ hno
  · refine k_86 (by omega) (fun a' ha' => ?_) (fun hno => ⟨_, rfl, fun _ => hR _ h, fun h => absurd rfl h⟩)
    rw [e2] at ha'
    exact absurd ⟨a', ha'⟩ hno
theorem op_1 (h : Inv S) (hi : i + 6 ≤ xs.1) (hR : ∀ S', Inv S' → R (nI i + 6) S') : w_law_1 xs R (nI i) S := by
  obtain ⟨z, n, f, hz, hn, hf, s1, s2, s3, s4, s5, s6, hV, hW⟩ := h.VR
  have hI := h
  obtain ⟨_, _, _, _, _, _, _, ⟨e2, e3, e4, e5, e6⟩, -⟩ := hI
  refine ⟨i + 1, by omega, ad_1 i, i + 2, by omega, ad_2 i, i + 3, by omega, ad_3 i, i + 4, by omega, ad_4 i, i + 5, by omega, ad_5 i, ?_⟩
  refine c_3 (d := 999) (k_27 (by omega) (VI.nm hV) (fun a b hab => ⟨_, rfl, Or.inr rfl, _, rfl, i + 1, by omega, ad_1 i, i + 2, by omega, ad_2 i, i + 3, by omega, ad_3 i, i + 4, by omega, ad_4 i, i + 5, by omega, ad_5 i, ?_⟩) (fun hno => ⟨_, rfl, Or.inl rfl, _, rfl, i + 1, by omega, ad_1 i, i + 2, by omega, ad_2 i, i + 3, by omega, ad_3 i, i + 4, by omega, ad_4 i, i + 5, by omega, ad_5 i, ?_⟩))
  · refine k_87 (z := z) (by omega) hW (fun a' b' hab' => ⟨_, rfl, fun _ => hR _ ?_, fun h => absurd rfl h⟩) (fun hno => ?_)
    · have haa : a = a' := nI_inj (by have := hab.1; omega) (by have := hab'.1; omega) (hab.2.2.1.symm.trans hab'.2.2.1)
      have hbb : b = b' := nI_inj (by have := hab.2.1; omega) (by have := hab'.2.1; omega) (hab.2.2.2.1.symm.trans hab'.2.2.2.1)
      subst haa
      subst hbb
      exact Inv_values h hab
    · have e33 : us (us (us S 5 (3 * a + b) (xs.2 (i + 3))) 6 (3 * a + b) (xs.2 (i + 4))) 7 (3 * a + b) (xs.2 (i + 5)) 33 = S 3 := e3
      rw [e33] at hno
      exact absurd ⟨a, b, hab⟩ hno
  · refine k_87 (z := z) (by omega) hW (fun a' b' hab' => ?_) (fun hno => ⟨_, rfl, fun _ => hR _ h, fun h => absurd rfl h⟩)
    rw [e3] at hab'
    exact absurd ⟨a', b', hab'⟩ hno
theorem op_2 (h : Inv S) (hi : i + 6 ≤ xs.1) (hR : ∀ S', Inv S' → R (nI i + 6) S') : w_law_2 xs R (nI i) S := by
  obtain ⟨z, n, f, hz, hn, hf, s1, s2, s3, s4, s5, s6, hV, hW⟩ := h.VR
  have hI := h
  obtain ⟨_, _, _, _, _, _, _, ⟨e2, e3, e4, e5, e6⟩, -⟩ := hI
  refine ⟨i + 1, by omega, ad_1 i, ?_⟩
  refine c_4 (d := 999) (k_32 (by omega) hV s1 (fun a ha ek hd hzl => ⟨_, rfl, _, rfl, i + 1, by omega, ad_1 i, ?_⟩) (fun hno => ⟨_, rfl, _, rfl, i + 1, by omega, ad_1 i, ?_⟩))
  · refine k_91 (z := z) (by omega) hW s2 (fun a' ha' ek' hd' hzl' => ⟨_, rfl, fun _ => hR _ ?_, fun h => absurd rfl h⟩) (fun hno => ?_)
    · have haa : a = a' := nI_inj (by omega) (by omega) (ek.symm.trans ek')
      subst haa
      exact Inv_make h s1 ha hd hzl
    · have e32 : adS S z a 32 = S 2 := e2
      rw [e32] at hno
      exact absurd ⟨⟨a, ha, ek, hd⟩, hzl⟩ hno
  · refine k_91 (z := z) (by omega) hW s2 (fun a' ha' ek' hd' hzl' => ?_) (fun hno => ⟨_, rfl, fun _ => hR _ h, fun h => absurd rfl h⟩)
    rw [e2] at hd'
    exact absurd ⟨⟨a', ha', ek', hd'⟩, hzl'⟩ hno
theorem op_3 (h : Inv S) (hR : ∀ S', Inv S' → R (nI i + 6) S') : w_law_3 xs R (nI i) S := by
  exact c_5 (d := 999) (c_33 (d := 998) ⟨rfl, rfl, c_92 (d := 999) ⟨rfl, hR _ (Inv_clear h)⟩⟩)
theorem op_4 (h : Inv S) (hR : ∀ S', Inv S' → R (nI i + 6) S') : w_law_4 xs R (nI i) S := by
  obtain ⟨z, n, f, hz, hn, hf, s1, s2, s3, s4, s5, s6, hV, hW⟩ := h.VR
  exact c_6 (d := 999) ⟨_, rfl, c_93 (d := 999) ⟨_, rfl, fun _ => hR _ h, fun hne => absurd (s1.trans s2.symm) hne⟩⟩
theorem op_5 (h : Inv S) (hi : i + 6 ≤ xs.1) (hR : ∀ S', Inv S' → R (nI i + 6) S') : w_law_5 xs R (nI i) S := by
  obtain ⟨z, n, f, hz, hn, hf, s1, s2, s3, s4, s5, s6, hV, hW⟩ := h.VR
  have hI := h
  obtain ⟨_, _, _, _, _, _, _, _, ⟨g1, g2, g3, g4, g5⟩, -⟩ := hI
  refine ⟨i + 1, by omega, ad_1 i, ?_⟩
  refine c_7 (d := 999) (k_34 (by omega) hz s1 (fun j hj e => ⟨_, rfl, _, rfl, i + 1, by omega, ad_1 i, ?_⟩) (fun hno => ⟨_, rfl, _, rfl, i + 1, by omega, ad_1 i, ?_⟩))
  · refine k_94 (by omega) hz s2 (fun j' hj' e' => ⟨_, rfl, fun _ => hR _ h, fun hne => absurd ?_ hne⟩) (fun hno => absurd ⟨j, hj, e⟩ hno)
    rw [nI_inj (by omega) (by omega) (e.symm.trans e'), g3]
  · exact k_94 (by omega) hz s2 (fun j' hj' e' => absurd ⟨j', hj', e'⟩ hno) (fun _ => ⟨_, rfl, fun _ => hR _ h, fun hne => absurd rfl hne⟩)
theorem okN_ref {S : Sv} {z : Nat} {o i v : Int32} {j a b : Nat} (h : Inv S) (hV : VS S z) : okN (S 33) (S 36) (S 37) z (S 38) o i v j a b ↔ okN (S 3) (S 6) (S 7) z (S 9) o i v j a b := by
  obtain ⟨_, _, _, _, _, _, _, ⟨e2, e3, e4, e5, e6⟩, ⟨g1, g2, g3, g4, g5⟩, -⟩ := h
  rw [e3, g3]
  have key : j < z → a < 4 → b < 3 → S 9 j = nI a → S 36 (3 * a + b) = S 6 (3 * a + b) ∧ S 37 (3 * a + b) = S 7 (3 * a + b) := by
    intro hj ha hb hk
    obtain ⟨k, hk4, ek, hd⟩ := VI.kd hV j hj
    rw [nI_inj (by omega) (by omega) (hk.symm.trans ek)]
    exact e6 k hk4 hd b hb
  constructor
  · rintro ⟨q1, q2, q3, q4, q5, q6, q7, q8, q9⟩
    obtain ⟨w1, w2⟩ := key q1 q2 q3 q6
    rw [w1] at q8
    rw [w2] at q9
    exact ⟨q1, q2, q3, q4, q5, q6, q7, q8, q9⟩
  · rintro ⟨q1, q2, q3, q4, q5, q6, q7, q8, q9⟩
    obtain ⟨w1, w2⟩ := key q1 q2 q3 q6
    rw [← w1] at q8
    rw [← w2] at q9
    exact ⟨q1, q2, q3, q4, q5, q6, q7, q8, q9⟩
theorem op_6 (h : Inv S) (hi : i + 6 ≤ xs.1) (hR : ∀ S', Inv S' → R (nI i + 6) S') : w_law_6 xs R (nI i) S := by
  obtain ⟨z, n, f, hz, hn, hf, s1, s2, s3, s4, s5, s6, hV, hW⟩ := h.VR
  refine ⟨i + 1, by omega, ad_1 i, i + 2, by omega, ad_2 i, i + 3, by omega, ad_3 i, ?_⟩
  refine c_8 (d := 999) (k_35 (by omega) hV s1 (fun j a b hab => ⟨_, rfl, Or.inr rfl, _, rfl, i + 1, by omega, ad_1 i, i + 2, by omega, ad_2 i, i + 3, by omega, ad_3 i, ?_⟩) (fun hno => ⟨_, rfl, Or.inl rfl, _, rfl, i + 1, by omega, ad_1 i, i + 2, by omega, ad_2 i, i + 3, by omega, ad_3 i, ?_⟩))
  · refine k_96 (z := z) (by omega) hW s2 (fun j' a' b' hab' => ⟨_, rfl, fun _ => hR _ ?_, fun h => absurd rfl h⟩) (fun hno => absurd ⟨j, a, b, (okN_ref h hV).mpr hab⟩ hno)
    have hjj : j = j' := nI_inj (by have := hab.1; omega) (by have := hab'.1; omega) (hab.2.2.2.1.symm.trans hab'.2.2.2.1)
    have hbb : b = b' := nI_inj (by have := hab.2.2.1; omega) (by have := hab'.2.2.1; omega) (hab.2.2.2.2.1.symm.trans hab'.2.2.2.2.1)
    subst hjj
    subst hbb
    exact Inv_number h s1 hz hab
  · exact k_96 (z := z) (by omega) hW s2 (fun j' a' b' hab' => absurd ⟨j', a', b', (okN_ref h hV).mp hab'⟩ hno) (fun _ => ⟨_, rfl, fun _ => hR _ h, fun h => absurd rfl h⟩)
theorem op_7 (h : Inv S) (hi : i + 6 ≤ xs.1) (hR : ∀ S', Inv S' → R (nI i + 6) S') : w_law_7 xs R (nI i) S := by
  obtain ⟨z, n, f, hz, hn, hf, s1, s2, s3, s4, s5, s6, hV, hW⟩ := h.VR
  have hI := h
  obtain ⟨_, _, _, _, _, _, _, ⟨e2, e3, e4, e5, e6⟩, ⟨g1, g2, g3, g4, g5⟩, -⟩ := hI
  refine ⟨i + 1, by omega, ad_1 i, i + 2, by omega, ad_2 i, i + 3, by omega, ad_3 i, ?_⟩
  refine c_9 (d := 999) (k_36 (by omega) hV s1 (fun j a b hab => ⟨_, rfl, Or.inr rfl, _, rfl, i + 1, by omega, ad_1 i, i + 2, by omega, ad_2 i, i + 3, by omega, ad_3 i, ?_⟩) (fun hno => ⟨_, rfl, Or.inl rfl, _, rfl, i + 1, by omega, ad_1 i, i + 2, by omega, ad_2 i, i + 3, by omega, ad_3 i, ?_⟩))
  · refine k_97 (z := z) (by omega) hW s2 (fun j' a' b' hab' => ⟨_, rfl, fun _ => hR _ ?_, fun h => absurd rfl h⟩) (fun hno => ?_)
    · have hjj : j = j' := nI_inj (by have := hab.1; omega) (by have := hab'.1; omega) (hab.2.2.2.1.symm.trans hab'.2.2.2.1)
      have hbb : b = b' := nI_inj (by have := hab.2.2.1; omega) (by have := hab'.2.2.1; omega) (hab.2.2.2.2.1.symm.trans hab'.2.2.2.2.1)
      subst hjj
      subst hbb
      exact Inv_link h s1 hz hab
    · have w1 : us S 11 (2 * j + b) (xs.2 (i + 3)) 34 = S 4 := e4
      have w2 : us S 11 (2 * j + b) (xs.2 (i + 3)) 38 = S 9 := g3
      rw [w1, w2] at hno
      exact absurd ⟨j, a, b, hab⟩ hno
  · refine k_97 (z := z) (by omega) hW s2 (fun j' a' b' hab' => ?_) (fun _ => ⟨_, rfl, fun _ => hR _ h, fun h => absurd rfl h⟩)
    rw [e4, g3] at hab'
    exact absurd ⟨j', a', b', hab'⟩ hno
theorem op_8 (h : Inv S) (hi : i + 6 ≤ xs.1) (hR : ∀ S', Inv S' → R (nI i + 6) S') : w_law_8 xs R (nI i) S := by
  obtain ⟨z, n, f, hz, hn, hf, s1, s2, s3, s4, s5, s6, hV, hW⟩ := h.VR
  have hI := h
  obtain ⟨_, _, _, _, _, _, _, _, ⟨g1, g2, g3, g4, g5⟩, -⟩ := hI
  refine ⟨i + 1, by omega, ad_1 i, i + 2, by omega, ad_2 i, ?_⟩
  refine c_10 (d := 999) (k_37 (by omega) hV s1 (fun j b hj hb e1 e2 => ⟨_, rfl, _, rfl, i + 1, by omega, ad_1 i, i + 2, by omega, ad_2 i, ?_⟩) (fun hno => ⟨_, rfl, _, rfl, i + 1, by omega, ad_1 i, i + 2, by omega, ad_2 i, ?_⟩))
  · refine k_98 (by omega) hW s2 (fun j' b' hj' hb' e1' e2' => ⟨_, rfl, fun _ => hR _ h, fun hne => absurd ?_ hne⟩) (fun hno => absurd ⟨⟨j, hj, e1⟩, b, hb, e2⟩ hno)
    rw [nI_inj (by omega) (by omega) (e1.symm.trans e1'), nI_inj (by omega) (by omega) (e2.symm.trans e2'), g4]
  · exact k_98 (by omega) hW s2 (fun j' b' hj' hb' e1' e2' => absurd ⟨⟨j', hj', e1'⟩, b', hb', e2'⟩ hno) (fun _ => ⟨_, rfl, fun _ => hR _ h, fun hne => absurd rfl hne⟩)
theorem op_9 (h : Inv S) (hi : i + 6 ≤ xs.1) (hR : ∀ S', Inv S' → R (nI i + 6) S') : w_law_9 xs R (nI i) S := by
  obtain ⟨z, n, f, hz, hn, hf, s1, s2, s3, s4, s5, s6, hV, hW⟩ := h.VR
  have hI := h
  obtain ⟨_, _, _, _, _, _, _, _, ⟨g1, g2, g3, g4, g5⟩, -⟩ := hI
  refine ⟨i + 1, by omega, ad_1 i, i + 2, by omega, ad_2 i, ?_⟩
  refine c_11 (d := 999) (k_38 (by omega) hV s1 (fun j b hj hb e1 e2 => ⟨_, rfl, _, rfl, i + 1, by omega, ad_1 i, i + 2, by omega, ad_2 i, ?_⟩) (fun hno => ⟨_, rfl, _, rfl, i + 1, by omega, ad_1 i, i + 2, by omega, ad_2 i, ?_⟩))
  · refine k_99 (by omega) hW s2 (fun j' b' hj' hb' e1' e2' => ⟨_, rfl, fun _ => hR _ h, fun hne => absurd ?_ hne⟩) (fun hno => absurd ⟨⟨j, hj, e1⟩, b, hb, e2⟩ hno)
    rw [nI_inj (by omega) (by omega) (e1.symm.trans e1'), nI_inj (by omega) (by omega) (e2.symm.trans e2'), g5]
  · exact k_99 (by omega) hW s2 (fun j' b' hj' hb' e1' e2' => absurd ⟨⟨j', hj', e1'⟩, b', hb', e2'⟩ hno) (fun _ => ⟨_, rfl, fun _ => hR _ h, fun hne => absurd rfl hne⟩)
theorem op_13 (h : Inv S) (hi : i + 6 ≤ xs.1) (hR : ∀ S', Inv S' → R (nI i + 6) S') : w_law_13 xs R (nI i) S := by
  obtain ⟨z, n, f, hz, hn, hf, s1, s2, s3, s4, s5, s6, hV, hW⟩ := h.VR
  refine ⟨i + 1, by omega, ad_1 i, ?_⟩
  refine c_15 (d := 999) (k_49 (by omega) hn s3 (fun hl q1 q2 => ⟨_, rfl, Or.inr rfl, _, rfl, i + 1, by omega, ad_1 i, ?_⟩) (fun hno => ⟨_, rfl, Or.inl rfl, _, rfl, i + 1, by omega, ad_1 i, ?_⟩))
  · exact k_110 (by omega) hn s4 (fun _ _ _ => ⟨_, rfl, fun _ => hR _ (Inv_type h s3 hl q1 q2), fun h => absurd rfl h⟩) (fun hno => absurd ⟨hl, q1, q2⟩ hno)
  · exact k_110 (by omega) hn s4 (fun q0 q1 q2 => absurd ⟨q0, q1, q2⟩ hno) (fun _ => ⟨_, rfl, fun _ => hR _ h, fun h => absurd rfl h⟩)
theorem op_14 (h : Inv S) (hR : ∀ S', Inv S' → R (nI i + 6) S') : w_law_14 xs R (nI i) S := by
  exact c_16 (d := 999) ⟨rfl, c_111 (d := 999) ⟨rfl, hR _ (Inv_wipe h)⟩⟩
theorem op_15 (h : Inv S) (hR : ∀ S', Inv S' → R (nI i + 6) S') : w_law_15 xs R (nI i) S := by
  obtain ⟨z, n, f, hz, hn, hf, s1, s2, s3, s4, s5, s6, hV, hW⟩ := h.VR
  exact c_17 (d := 999) ⟨_, rfl, c_112 (d := 999) ⟨_, rfl, fun _ => hR _ h, fun hne => absurd (s3.trans s4.symm) hne⟩⟩
theorem op_16 (h : Inv S) (hi : i + 6 ≤ xs.1) (hR : ∀ S', Inv S' → R (nI i + 6) S') : w_law_16 xs R (nI i) S := by
  obtain ⟨z, n, f, hz, hn, hf, s1, s2, s3, s4, s5, s6, hV, hW⟩ := h.VR
  have hI := h
  obtain ⟨_, _, _, _, _, _, _, _, _, ⟨t1, t2, t3, t4⟩, -⟩ := hI
  refine ⟨i + 1, by omega, ad_1 i, ?_⟩
  refine c_18 (d := 999) (k_50 (by omega) hn s3 (fun j hj e => ⟨_, rfl, _, rfl, i + 1, by omega, ad_1 i, ?_⟩) (fun hno => ⟨_, rfl, _, rfl, i + 1, by omega, ad_1 i, ?_⟩))
  · refine k_113 (by omega) hn s4 (fun j' hj' e' => ⟨_, rfl, fun _ => hR _ h, fun hne => absurd ?_ hne⟩) (fun hno => absurd ⟨j, hj, e⟩ hno)
    have := nI_inj (a := j + 1) (b := j' + 1) (by omega) (by omega) (e.symm.trans e')
    rw [show j = j' by omega, t3]
  · exact k_113 (by omega) hn s4 (fun j' hj' e' => absurd ⟨j', hj', e'⟩ hno) (fun _ => ⟨_, rfl, fun _ => hR _ h, fun hne => absurd rfl hne⟩)
theorem op_18 (h : Inv S) (hR : ∀ S', Inv S' → R (nI i + 6) S') : w_law_18 xs R (nI i) S := by
  obtain ⟨z, n, f, hz, hn, hf, s1, s2, s3, s4, s5, s6, hV, hW⟩ := h.VR
  exact c_20 (d := 999) ⟨_, rfl, c_126 (d := 999) ⟨_, rfl, fun _ => hR _ h, fun hne => absurd (s5.trans s6.symm) hne⟩⟩
theorem op_19 (h : Inv S) (hi : i + 6 ≤ xs.1) (hR : ∀ S', Inv S' → R (nI i + 6) S') : w_law_19 xs R (nI i) S := by
  obtain ⟨z, n, f, hz, hn, hf, s1, s2, s3, s4, s5, s6, hV, hW⟩ := h.VR
  have hI := h
  obtain ⟨_, _, _, _, _, _, _, _, _, _, f1, f2, f3⟩ := hI
  refine ⟨i + 1, by omega, ad_1 i, ?_⟩
  refine c_21 (d := 999) (k_75 (by omega) hf s5 (fun j hj e => ⟨_, rfl, _, rfl, i + 1, by omega, ad_1 i, ?_⟩) (fun hno => ⟨_, rfl, _, rfl, i + 1, by omega, ad_1 i, ?_⟩))
  · refine k_127 (by omega) hf s6 (fun j' hj' e' => ⟨_, rfl, fun _ => hR _ h, fun hne => absurd ?_ hne⟩) (fun hno => absurd ⟨j, hj, e⟩ hno)
    rw [nI_inj (by omega) (by omega) (e.symm.trans e'), f3]
  · exact k_127 (by omega) hf s6 (fun j' hj' e' => absurd ⟨j', hj', e'⟩ hno) (fun _ => ⟨_, rfl, fun _ => hR _ h, fun hne => absurd rfl hne⟩)
end OP
