/-! the reference writes what the function says -/
theorem nI_p1 (n : Nat) : nI (n + 1) - 1 = nI n := by
  rw [← nI_1, Int32.add_sub_cancel]
section PR
variable {xs : Nat × (Nat → Int32)} {d z r : Nat} {S T : Sv} {K : Sv → Option Value → Prop} {out : List Int32}
def wns (kr nr fi : Nat → Int32) (o : Nat) : Nat → Nat → List Int32
  | 0, _ => []
  | j + 1, k => wn1 kr nr fi o k ++ wns kr nr fi o j (k + 1)
theorem wns_nil {kr nr fi : Nat → Int32} {o : Nat} : ∀ {j k : Nat}, (∀ i, k ≤ i → i < k + j → wn1 kr nr fi o i = []) → wns kr nr fi o j k = []
  | 0, _, _ => rfl
  | j + 1, k, h => by
    unfold wns
    rw [h k (by omega) (by omega), wns_nil (fun i h1 h2 => h i (by omega) (by omega))]
    rfl
theorem VR_fq {T' : Sv} (hV : VR T z) (hc : fq T T') : VR T' z := by
  show VI (T' 32) (T' 33) (T' 34) (T' 35) (T' 36) (T' 37) z (T' 38) (T' 39) (T' 40)
  rw [hc.1 32 (by decide) (by decide), hc.1 33 (by decide) (by decide), hc.1 34 (by decide) (by decide), hc.1 35 (by decide) (by decide), hc.1 36 (by decide) (by decide), hc.1 37 (by decide) (by decide), hc.1 38 (by decide) (by decide), hc.1 39 (by decide) (by decide), hc.1 40 (by decide) (by decide)]
  exact hV
theorem lp_112 {o a : Nat} (hd : 2 ≤ d) (ho : o < z) (ha : a < 4) : ∀ (j k : Nat) (T : Sv) (out : List Int32), VR T z → T 38 o = nI a → k + j = 3 → TR T out → out.length + 8 * j < 99000 → (∀ T', fq T T' → TR T' (out ++ wns (T 38) (T 39) (T 35) o j k) → K T' none) → R_108_112 xs d K (nI o) (nI k) T := by
  intro j
  induction j with
  | zero =>
    intro k T out hV ek hk hT hl h
    have hz := VI.zb hV
    obtain ⟨n, hn, en⟩ := VI.nm hV a ha
    refine h_108_112 ⟨o, by omega, rfl, a, ha, ek, fun _ => ?_, fun g => absurd (by rw [en]; exact nI_le (by omega) (by omega)) g⟩
    have := h T fq.rf
    rw [show wns (T 38) (T 39) (T 35) o 0 k = [] from rfl, List.append_nil] at this
    exact this hT
  | succ j ih =>
    intro k T out hV ek hk hT hl h
    have hz := VI.zb hV
    have hnr := VI.nr hV o k ho (by omega)
    refine h_108_112 ⟨o, by omega, rfl, a, ha, ek, fun g => ?_, fun g => ⟨3 * o + k, by omega, m3' o k, o, by omega, rfl, 3 * a + k, by omega, by rw [ek]; exact m3' a k, fun e => ?_, fun e => ?_⟩⟩
    · have e0 : wns (T 38) (T 39) (T 35) o (j + 1) k = [] := by
        refine wns_nil (fun i h1 h2 => ?_)
        have hle : T 33 a ≤ nI i := Int32.le_trans g (nI_le h1 (by omega))
        unfold wn1
        rw [ek, nI_clamp (by omega), VI.fi hV a i ha (by omega) hle, (VI.nr hV o i ho (by omega)).2.2 a ha ek hle]
        rfl
      have := h T fq.rf
      rw [e0, List.append_nil] at this
      exact this hT
    · rw [nI_1]
      refine ih (k + 1) T out hV ek (by omega) hT (by omega) (fun T' f' t' => h T' f' ?_)
      have e1 : wn1 (T 38) (T 39) (T 35) o k = [] := by
        unfold wn1
        rw [ek, nI_clamp (by omega)]
        exact if_pos e
      show TR T' (out ++ (wn1 (T 38) (T 39) (T 35) o k ++ wns (T 38) (T 39) (T 35) o j (k + 1)))
      rw [e1]
      exact t'
    · rw [nI_1]
      have e1 : wn1 (T 38) (T 39) (T 35) o k = nI (120 + k) :: 61 :: dg (T 39 (3 * o + k)) := by
        unfold wn1
        rw [ek, nI_clamp (by omega)]
        exact if_neg e
      rw [show (120 : Int32) + nI k = nI (120 + k) from nI_add 120 k]
      refine k_105 (by omega) (by omega) hT (fun T1 f1 t1 => ⟨rfl, ?_⟩)
      refine k_105 (by omega) (by simp only [List.length_append, List.length_cons, List.length_nil]; omega) t1 (fun T2 f2 t2 => ⟨rfl, 3 * o + k, by omega, m3' o k, ?_⟩)
      have e39 : T2 39 = T 39 := (f1.tr f2).1 39 (by decide) (by decide)
      rw [e39]
      refine k_106 (by omega) hnr.1 hnr.2.1 (by simp only [List.length_append, List.length_cons, List.length_nil]; omega) t2 (fun T3 f3 t3 => ⟨rfl, ?_⟩)
      have f13 := (f1.tr f2).tr f3
      have e38 : T3 38 = T 38 := f13.1 38 (by decide) (by decide)
      have e393 : T3 39 = T 39 := f13.1 39 (by decide) (by decide)
      have e35 : T3 35 = T 35 := f13.1 35 (by decide) (by decide)
      have hlen := dg_len (T 39 (3 * o + k))
      refine ih (k + 1) T3 _ (VR_fq hV f13) (by rw [e38]; exact ek) (by omega) t3 (by simp only [List.length_append, List.length_cons, List.length_nil]; omega) (fun T' f' t' => h T' (f13.tr f') ?_)
      show TR T' (out ++ (wn1 (T 38) (T 39) (T 35) o k ++ wns (T 38) (T 39) (T 35) o j (k + 1)))
      rw [e1]
      rw [e38, e393, e35, List.append_assoc, List.append_assoc, List.append_assoc] at t'
      exact t'
def PR (S T : Sv) (z r : Nat) (σ : WS) : Prop :=
  TR T σ.out ∧ (∀ i, i < 24 → T 47 i = σ.bg i) ∧ (∀ i, i < 24 → ¬ σ.bg i = 0 → shd z (S 40) r i = true → T 46 i = nI (σ.id i + 1)) ∧ T 31 19 = nI σ.ids ∧ (∀ c, c ≠ 31 → c ≠ 42 → c ≠ 46 → c ≠ 47 → c ≠ 48 → c ≠ 49 → T c = S c) ∧ (∀ k, k ≠ 13 → k ≠ 19 → k ≠ 20 → T 31 k = S 31 k)
theorem PR.ap {σ : WS} {T' : Sv} {q : List Int32} (h : PR S T z r σ) (hf : fq T T') (ht : TR T' (σ.out ++ q)) : PR S T' z r (wa σ q) := by
  obtain ⟨h1, h2, h3, h4, h5, h6⟩ := h
  refine ⟨ht, fun i hi => ?_, fun i hi hb hs => ?_, ?_, fun c q1 q2 q3 q4 q5 q6 => ?_, fun k k1 k2 k3 => ?_⟩
  · rw [hf.1 47 (by decide) (by decide)]; exact h2 i hi
  · rw [hf.1 46 (by decide) (by decide)]; exact h3 i hi hb hs
  · rw [hf.2 19 (by decide)]; exact h4
  · rw [hf.1 c q1 q2]; exact h5 c q1 q2 q3 q4 q5 q6
  · rw [hf.2 k k1]; exact h6 k k1 k2 k3
theorem PR.vr {σ : WS} (h : PR S T z r σ) (hV : VR S z) : VR T z := by
  have hc : ∀ c, 32 ≤ c → c ≤ 40 → T c = S c := fun c h1 h2 => h.2.2.2.2.1 c (by omega) (by omega) (by omega) (by omega) (by omega) (by omega)
  show VI (T 32) (T 33) (T 34) (T 35) (T 36) (T 37) z (T 38) (T 39) (T 40)
  rw [hc 32 (by decide) (by decide), hc 33 (by decide) (by decide), hc 34 (by decide) (by decide), hc 35 (by decide) (by decide), hc 36 (by decide) (by decide), hc 37 (by decide) (by decide), hc 38 (by decide) (by decide), hc 39 (by decide) (by decide), hc 40 (by decide) (by decide)]
  exact hV
theorem k_108 {o w s v : Nat} {σ : WS} {U : Nat → Prop} (hd : 5 ≤ d) (hV : VR S z) (hs : S 31 6 = nI z) (hr : r < z) (hX : ∀ t, t < 24 → (¬ S 43 t = 0 ↔ t < z ∧ rc z (S 40) r t)) (hJ : J z (S 40) r σ U s) (hJo : Jo z (S 40) r σ U o) (hw : w ≤ 23) (hP : PR S T z r σ) (h20 : T 31 20 = nI w) (h : ∀ T', PR S T' z r (wh (S 38) (S 39) (S 35) (shd z (S 40) r) v o σ) → T' 31 20 = nI (w + 1) → T' 48 w = nI o → T' 49 w = 0 → (∀ i, i ≠ w → T' 48 i = T 48 i ∧ T' 49 i = T 49 i) → K T' none) : CS xs d 108 T [.ref 31, .int (nI o), .int (nI r)] K := by
  obtain ⟨d, rfl⟩ := cs_d (d := d) (by omega)
  have hz := VI.zb hV
  have ho := hJo.1
  obtain ⟨a, ha, ek, -⟩ := VI.kd hV o ho
  have hlen : σ.out.length ≤ 1536 := by
    have h1 := hJ.2.1
    have h2 := cn_le σ.bg 24
    omega
  have hids : σ.ids < 24 := by
    have := cn_lt (f := σ.bg) (t := o) (n := 24) (by omega) hJo.2.2.1
    have := hJ.1
    omega
  obtain ⟨h1, h2, h3, h4, h5, h6⟩ := hP
  refine c_108 ⟨w, by omega, h20, w, by omega, h20, o, by omega, rfl, ?_⟩
  rw [h20, nI_1]
  have t0 : TR (us (us (us (us T 48 w (nI o)) 49 w 0) 31 20 (nI (w + 1))) 47 o 1) σ.out := h1
  refine k_105 (by omega) (by omega) t0 (fun T1 f1 t1 => ⟨rfl, o, by omega, rfl, ?_⟩)
  have k1 : T1 38 o = nI a := by
    rw [f1.1 38 (by decide) (by decide)]
    show T 38 o = nI a
    rw [h5 38 (by decide) (by decide) (by decide) (by decide) (by decide) (by decide)]
    exact ek
  rw [k1, show (97 : Int32) + nI a = nI (97 + a) from nI_add 97 a]
  refine k_105 (by omega) (by simp only [List.length_append, List.length_cons, List.length_nil]; omega) t1 (fun T2 f2 t2 => ⟨rfl, ?_⟩)
  rw [List.append_assoc] at t2
  have f12 := f1.tr f2
  have eqS : ∀ c, c ≠ 31 → c ≠ 42 → c ≠ 46 → c ≠ 47 → c ≠ 48 → c ≠ 49 → T2 c = S c := by
    intro c n1 n2 n3 n4 n5 n6
    rw [f12.1 c n1 n2, us_ne n4, us_ne n1, us_ne n6, us_ne n5]
    exact h5 c n1 n2 n3 n4 n5 n6
  have hV2 : ∀ T4 : Sv, (∀ c, c ≠ 31 → c ≠ 42 → c ≠ 46 → T4 c = T2 c) → VR T4 z := by
    intro T4 hc4
    have hc : ∀ c, 32 ≤ c → c ≤ 40 → T4 c = S c := fun c h1 h2 => (hc4 c (by omega) (by omega) (by omega)).trans (eqS c (by omega) (by omega) (by omega) (by omega) (by omega) (by omega))
    show VI (T4 32) (T4 33) (T4 34) (T4 35) (T4 36) (T4 37) z (T4 38) (T4 39) (T4 40)
    rw [hc 32 (by decide) (by decide), hc 33 (by decide) (by decide), hc 34 (by decide) (by decide), hc 35 (by decide) (by decide), hc 36 (by decide) (by decide), hc 37 (by decide) (by decide), hc 38 (by decide) (by decide), hc 39 (by decide) (by decide), hc 40 (by decide) (by decide)]
    exact hV
  have e40 : T2 40 = S 40 := eqS 40 (by decide) (by decide) (by decide) (by decide) (by decide) (by decide)
  have e43 : T2 43 = S 43 := eqS 43 (by decide) (by decide) (by decide) (by decide) (by decide) (by decide)
  have e316 : T2 31 6 = nI z := by
    rw [f12.2 6 (by decide)]
    show T 31 6 = nI z
    rw [h6 6 (by decide) (by decide) (by decide)]
    exact hs
  have e19 : T2 31 19 = nI σ.ids := by
    rw [f12.2 19 (by decide)]
    exact h4
  have e20 : T2 31 20 = nI (w + 1) := by
    rw [f12.2 20 (by decide)]
    rfl
  have e46 : T2 46 = T 46 := f12.1 46 (by decide) (by decide)
  have fin : ∀ T4, (∀ c, c ≠ 31 → c ≠ 42 → c ≠ 46 → T4 c = T2 c) → (∀ k, k ≠ 13 → k ≠ 19 → T4 31 k = T2 31 k) → T4 31 19 = nI (if shd z (S 40) r o = true then σ.ids + 1 else σ.ids) → (∀ i, i < 24 → ¬ upd σ.bg o 1 i = 0 → shd z (S 40) r i = true → T4 46 i = nI ((if shd z (S 40) r o = true ∧ i = o then σ.ids else σ.id i) + 1)) → TR T4 (σ.out ++ ([40, nI (97 + a)] ++ wi (shd z (S 40) r) o σ.ids)) → R_108_112 xs d K (nI o) 0 T4 := by
    intro T4 q1 q2 q4 q5 q6
    have hwi := wi_len (shd z (S 40) r) o σ.ids
    have qS : ∀ c, c ≠ 31 → c ≠ 42 → c ≠ 46 → c ≠ 47 → c ≠ 48 → c ≠ 49 → T4 c = S c := fun c n1 n2 n3 n4 n5 n6 => (q1 c n1 n2 n3).trans (eqS c n1 n2 n3 n4 n5 n6)
    have e38 : T4 38 = S 38 := qS 38 (by decide) (by decide) (by decide) (by decide) (by decide) (by decide)
    have e39 : T4 39 = S 39 := qS 39 (by decide) (by decide) (by decide) (by decide) (by decide) (by decide)
    have e35 : T4 35 = S 35 := qS 35 (by decide) (by decide) (by decide) (by decide) (by decide) (by decide)
    refine lp_112 (by omega) ho ha 3 0 T4 _ (hV2 T4 q1) (by rw [e38]; exact ek) (by omega) q6 (by simp only [List.length_append, List.length_cons, List.length_nil]; omega) (fun T5 f5 t5 => h T5 ⟨?_, fun i hi => ?_, fun i hi hb hsi => ?_, ?_, fun c n1 n2 n3 n4 n5 n6 => ?_, fun k k1 k2 k3 => ?_⟩ ?_ ?_ ?_ (fun i hi => ⟨?_, ?_⟩))
    · show TR T5 (σ.out ++ ([40, nI (97 + (S 38 o).toNatClampNeg)] ++ wi (shd z (S 40) r) o σ.ids ++ (wn1 (S 38) (S 39) (S 35) o 0 ++ wn1 (S 38) (S 39) (S 35) o 1 ++ wn1 (S 38) (S 39) (S 35) o 2)))
      rw [ek, nI_clamp (by omega)]
      rw [e38, e39, e35, List.append_assoc, show wns (S 38) (S 39) (S 35) o 3 0 = wn1 (S 38) (S 39) (S 35) o 0 ++ (wn1 (S 38) (S 39) (S 35) o 1 ++ (wn1 (S 38) (S 39) (S 35) o 2 ++ [])) from rfl, List.append_nil] at t5
      rw [List.append_assoc (wn1 (S 38) (S 39) (S 35) o 0)]
      exact t5
    · rw [f5.1 47 (by decide) (by decide), q1 47 (by decide) (by decide) (by decide), f12.1 47 (by decide) (by decide)]
      show upd (T 47) o 1 i = upd σ.bg o 1 i
      by_cases e : i = o
      · rw [e, upd_s, upd_s]
      · rw [upd_n e, upd_n e]; exact h2 i hi
    · rw [f5.1 46 (by decide) (by decide)]
      exact q5 i hi hb hsi
    · rw [f5.2 19 (by decide)]; exact q4
    · rw [f5.1 c n1 n2]; exact qS c n1 n2 n3 n4 n5 n6
    · rw [f5.2 k k1, q2 k k1 k2, f12.2 k k1]
      show upd (T 31) 20 (nI (w + 1)) k = S 31 k
      rw [upd_n k3]
      exact h6 k k1 k2 k3
    · rw [f5.2 20 (by decide), q2 20 (by decide) (by decide)]; exact e20
    · rw [f5.1 48 (by decide) (by decide), q1 48 (by decide) (by decide) (by decide), f12.1 48 (by decide) (by decide)]
      show upd (T 48) w (nI o) w = _
      rw [upd_s]
    · rw [f5.1 49 (by decide) (by decide), q1 49 (by decide) (by decide) (by decide), f12.1 49 (by decide) (by decide)]
      show upd (T 49) w 0 w = _
      rw [upd_s]
    · rw [f5.1 48 (by decide) (by decide), q1 48 (by decide) (by decide) (by decide), f12.1 48 (by decide) (by decide)]
      show upd (T 48) w (nI o) i = _
      rw [upd_n hi]
    · rw [f5.1 49 (by decide) (by decide), q1 49 (by decide) (by decide) (by decide), f12.1 49 (by decide) (by decide)]
      show upd (T 49) w 0 i = _
      rw [upd_n hi]
  have no : shd z (S 40) r o = false → R_108_112 xs d K (nI o) 0 T2 := by
    intro hsh
    refine fin T2 (fun _ _ _ _ => rfl) (fun _ _ _ => rfl) (by rw [hsh]; exact e19) (fun i hi hb hsi => ?_) ?_
    · rw [if_neg (fun hh => by rw [hsh] at hh; exact absurd hh.1 (by decide)), e46]
      have hne : i ≠ o := fun e => by rw [e, hsh] at hsi; exact absurd hsi (by decide)
      rw [upd_n hne] at hb
      exact h3 i hi hb hsi
    · rw [show wi (shd z (S 40) r) o σ.ids = [] by unfold wi; rw [hsh]; rfl]
      exact t2
  have yes : shd z (S 40) r o = true → ∃ j8 : Nat, j8 < 24 ∧ nI o = nI j8 ∧ (CS xs d 105 (us (us T2 31 19 ((T2 31 19) + 1)) 46 j8 ((T2 31 19) + 1)) [.ref 31, .int 35] (fun S9 v9 => v9 = none ∧ (CS xs d 106 S9 [.ref 31, .int ((S9 31 19) - 1)] (fun S10 v10 => v10 = none ∧ (R_108_112 xs d K (nI o) 0 S10))))) := by
    intro hsh
    refine ⟨o, by omega, rfl, ?_⟩
    rw [e19, nI_1]
    have t3 : TR (us (us T2 31 19 (nI (σ.ids + 1))) 46 o (nI (σ.ids + 1))) (σ.out ++ ([40] ++ [nI (97 + a)])) := t2
    refine k_105 (by omega) (by simp only [List.length_append, List.length_cons, List.length_nil]; omega) t3 (fun T4 f4 t4 => ⟨rfl, ?_⟩)
    have e19' : T4 31 19 = nI (σ.ids + 1) := by
      rw [f4.2 19 (by decide)]
      rfl
    rw [e19', nI_p1]
    refine k_106 (by omega) (Int32.le_trans (by decide) (nI_le (a := 0) (b := σ.ids) (by omega) (by omega))) (nI_le (b := 99999) (by omega) (by omega)) (by simp only [List.length_append, List.length_cons, List.length_nil]; omega) t4 (fun T5 f5 t5 => ⟨rfl, fin T5 (fun c n1 n2 n3 => ?_) (fun k k1 k2 => ?_) ?_ (fun i hi hb hsi => ?_) ?_⟩)
    · rw [f5.1 c n1 n2, f4.1 c n1 n2, us_ne n3, us_ne n1]
    · rw [f5.2 k k1, f4.2 k k1]
      show upd (T2 31) 19 (nI (σ.ids + 1)) k = _
      rw [upd_n k2]
    · rw [f5.2 19 (by decide), e19', if_pos hsh]
    · rw [f5.1 46 (by decide) (by decide), f4.1 46 (by decide) (by decide)]
      show upd (T2 46) o (nI (σ.ids + 1)) i = _
      by_cases e : i = o
      · rw [e, upd_s, if_pos ⟨hsh, rfl⟩]
      · rw [upd_n e, if_neg (fun hh => e hh.2), e46]
        rw [upd_n e] at hb
        exact h3 i hi hb hsi
    · rw [show wi (shd z (S 40) r) o σ.ids = 35 :: dg (nI σ.ids) by unfold wi; rw [hsh]; rfl]
      rw [List.append_assoc, List.append_assoc] at t5
      exact t5
  have hld : ld z (S 40) r o ≤ 48 := ld_le
  refine k_107 (z := z) (r := r) (by omega) (hV2 T2 (fun _ _ _ _ => rfl)) e316 ho (by rw [e40, e43]; exact hX) ⟨_, rfl, ?_⟩
  rw [e40]
  refine ⟨fun g => ⟨fun g2 => no ?_, fun g2 => yes ?_⟩, fun g => ⟨fun g2 => no ?_, fun g2 => yes ?_⟩⟩
  · have hne : o ≠ r := fun e => g (by rw [e])
    have := (nI_ltI (b := 2) (by omega) (by omega)).mp g2
    exact decide_eq_false (by rw [if_neg hne]; omega)
  · have hne : o ≠ r := fun e => g (by rw [e])
    refine decide_eq_true ?_
    rw [if_neg hne]
    exact Nat.le_of_not_lt (fun hh => g2 (nI_lt (b := 2) hh (by omega)))
  · have he : o = r := nI_inj (by omega) (by omega) (Classical.byContradiction g)
    have := (nI_ltI (b := 1) (by omega) (by omega)).mp g2
    exact decide_eq_false (by rw [if_pos he]; omega)
  · have he : o = r := nI_inj (by omega) (by omega) (Classical.byContradiction g)
    refine decide_eq_true ?_
    rw [if_pos he]
    exact Nat.le_of_not_lt (fun hh => g2 (nI_lt (b := 1) hh (by omega)))
end PR
