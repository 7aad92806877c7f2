/-! the class writes what the function says -/
section PC
variable {xs : Nat × (Nat → Int32)} {d z r : Nat} {S T : Sv} {K : Sv → Option Value → Prop} {out : List Int32}
theorem VS_fc {T' : Sv} (hV : VS T z) (hc : fc T T') : VS T' z := by
  show VI (T' 2) (T' 3) (T' 4) (T' 5) (T' 6) (T' 7) z (T' 9) (T' 10) (T' 11)
  rw [hc.1 2 (by decide) (by decide) (by decide), hc.1 3 (by decide) (by decide) (by decide), hc.1 4 (by decide) (by decide) (by decide), hc.1 5 (by decide) (by decide) (by decide), hc.1 6 (by decide) (by decide) (by decide), hc.1 7 (by decide) (by decide) (by decide), hc.1 9 (by decide) (by decide) (by decide), hc.1 10 (by decide) (by decide) (by decide), hc.1 11 (by decide) (by decide) (by decide)]
  exact hV
theorem st_57 {o a k : Nat} (hd : 3 ≤ d) (hV : VS T z) (hs : T 8 4 = nI z) (ho : o < z) (ha : a < 4) (ek : T 9 o = nI a) (hk : k < 3) (hT : TC T out) (h : ∀ T', fc T T' → TC T' (out ++ wn1 (T 9) (T 10) (T 5) o k) → R_57_11 xs d K (nI o) (nI a) (nI (k + 1)) T') : R_57_11 xs d K (nI o) (nI a) (nI k) T := by
  have hz := VI.zb hV
  have hnr := VI.nr hV o k ho hk
  have hw : wn1 (T 9) (T 10) (T 5) o k = if T 10 (3 * o + k) = T 5 (3 * a + k) then [] else nI (120 + k) :: 61 :: dg (T 10 (3 * o + k)) := by
    unfold wn1
    rw [ek, nI_clamp (by omega)]
  have core : ∀ v, v = T 5 (3 * a + k) → ((T 10 (3 * o + k) = v → R_57_11 xs d K (nI o) (nI a) (nI k + 1) T) ∧ (¬ (T 10 (3 * o + k) = v) → (CS xs d 60 T [.ref 21, .int ((120 + nI k).toUInt32 % 65536).toInt32] (fun S3 v3 => v3 = none ∧ (CS xs d 60 S3 [.ref 21, .int 61] (fun S4 v4 => v4 = none ∧ (CS xs d 59 S4 [.ref 21, .int (T 10 (3 * o + k))] (fun S5 v5 => v5 = none ∧ (R_57_11 xs d K (nI o) (nI a) (nI k + 1) S5))))))))) := by
    rintro v rfl
    rw [nI_1]
    refine ⟨fun e => ?_, fun e => ?_⟩
    · rw [if_pos e] at hw
      have := h T fc.rf
      rw [hw, List.append_nil] at this
      exact this hT
    · rw [if_neg e] at hw
      rw [show (120 : Int32) + nI k = nI (120 + k) from nI_add 120 k, ch_nI (by omega)]
      refine k_60 (by omega) (by omega) (by omega) hT (fun T1 f1 t1 => ⟨rfl, ?_⟩)
      refine k_60 (q := 61) (by omega) (by omega) (by omega) t1 (fun T2 f2 t2 => ⟨rfl, ?_⟩)
      refine k_59 (by omega) hnr.1 hnr.2.1 t2 (fun T3 f3 t3 => ⟨rfl, h T3 ((f1.tr f2).tr f3) ?_⟩)
      rw [hw]
      rw [List.append_assoc, List.append_assoc] at t3
      exact t3
  refine h_57_11 ⟨fun g => absurd g (nI_ge (b := 3) hk (by omega)), fun _ => ?_⟩
  refine k_37 (by omega) hV hs (fun j b hj hb e1 e2 => ⟨_, rfl, ?_⟩) (fun hn => absurd ⟨⟨o, ho, rfl⟩, k, hk, rfl⟩ hn)
  rw [← nI_inj (by omega) (by omega) e1, ← nI_inj (by omega) (by omega) e2]
  refine k_28 (by omega) (VI.nm hV) (fun a' b' ha' hb' e3 e4 hlt => ⟨_, rfl, ?_⟩) (fun hno => ⟨_, rfl, ?_⟩)
  · rw [← nI_inj (by omega) (by omega) e3, ← nI_inj (by omega) (by omega) e4]
    exact core _ rfl
  · refine core _ (VI.fi hV a k ha hk ?_).symm
    refine Classical.byContradiction (fun hh => hno ⟨a, ha, rfl, ?_, hh⟩)
    exact nI_nlt (a := k) (b := 0) (by omega) (by omega)
theorem k_57 {o : Nat} (hd : 4 ≤ d) (hV : VS T z) (hs : T 8 4 = nI z) (ho : o < z) (hT : TC T out) (h : ∀ T', fc T T' → TC T' (out ++ (wn1 (T 9) (T 10) (T 5) o 0 ++ wn1 (T 9) (T 10) (T 5) o 1 ++ wn1 (T 9) (T 10) (T 5) o 2)) → K T' none) : CS xs d 57 T [.ref 21, .int (nI o)] K := by
  obtain ⟨d, rfl⟩ := cs_d (d := d) (by omega)
  have hz := VI.zb hV
  obtain ⟨a, ha, ek, -⟩ := VI.kd hV o ho
  refine c_57 (k_34 (by omega) hz hs (fun j hj e => ⟨_, rfl, ?_⟩) (fun hn => absurd ⟨o, ho, rfl⟩ hn))
  rw [← nI_inj (by omega) (by omega) e, ek]
  refine st_57 (k := 0) (by omega) hV hs ho ha ek (by omega) hT (fun T1 f1 t1 => ?_)
  have g1 : ∀ {T' : Sv}, fc T T' → T' 8 4 = nI z ∧ T' 9 = T 9 ∧ T' 10 = T 10 ∧ T' 5 = T 5 := fun hf => ⟨by rw [hf.1 8 (by decide) (by decide) (by decide)]; exact hs, hf.1 9 (by decide) (by decide) (by decide), hf.1 10 (by decide) (by decide) (by decide), hf.1 5 (by decide) (by decide) (by decide)⟩
  obtain ⟨q1, q2, q3, q4⟩ := g1 f1
  refine st_57 (k := 1) (by omega) (VS_fc hV f1) q1 ho ha (by rw [q2]; exact ek) (by omega) t1 (fun T2 f2 t2 => ?_)
  obtain ⟨p1, p2, p3, p4⟩ := g1 (f1.tr f2)
  refine st_57 (k := 2) (by omega) (VS_fc hV (f1.tr f2)) p1 ho ha (by rw [p2]; exact ek) (by omega) t2 (fun T3 f3 t3 => ?_)
  refine h_57_11 ⟨fun _ => h T3 ((f1.tr f2).tr f3) ?_, fun g => absurd (by decide) g⟩
  rw [p2, p3, p4, q2, q3, q4] at t3
  rw [List.append_assoc, List.append_assoc] at t3
  rw [List.append_assoc]
  exact t3
def PC (S T : Sv) (z r : Nat) (σ : WS) : Prop :=
  TC T σ.out ∧ (∀ i, i < 24 → T 26 i = σ.bg i) ∧ (∀ i, i < 24 → ¬ σ.bg i = 0 → shd z (S 11) r i = true → T 25 i = nI (σ.id i)) ∧ T 21 8 = nI σ.ids ∧ T 21 9 = σ.dp ∧ T 21 7 = nI r ∧ (∀ c, c ≠ 21 → c ≠ 22 → c ≠ 23 → c ≠ 25 → c ≠ 26 → T c = S c)
theorem PC.ap {σ : WS} {T' : Sv} {q : List Int32} (h : PC S T z r σ) (hf : fc T T') (ht : TC T' (σ.out ++ q)) : PC S T' z r (wa σ q) := by
  obtain ⟨h1, h2, h3, h4, h5, h6, h7⟩ := h
  refine ⟨ht, fun i hi => ?_, fun i hi hb hs => ?_, ?_, ?_, ?_, fun c q1 q2 q3 q4 q5 => ?_⟩
  · rw [hf.1 26 (by decide) (by decide) (by decide)]; exact h2 i hi
  · rw [hf.1 25 (by decide) (by decide) (by decide)]; exact h3 i hi hb hs
  · rw [hf.2 8 (by decide)]; exact h4
  · rw [hf.2 9 (by decide)]; exact h5
  · rw [hf.2 7 (by decide)]; exact h6
  · rw [hf.1 c q1 q2 q3]; exact h7 c q1 q2 q3 q4 q5
theorem PC.vs {σ : WS} (h : PC S T z r σ) (hV : VS S z) : VS T z := by
  have hc := h.2.2.2.2.2.2
  show VI (T 2) (T 3) (T 4) (T 5) (T 6) (T 7) z (T 9) (T 10) (T 11)
  rw [hc 2 (by decide) (by decide) (by decide) (by decide) (by decide), hc 3 (by decide) (by decide) (by decide) (by decide) (by decide), hc 4 (by decide) (by decide) (by decide) (by decide) (by decide), hc 5 (by decide) (by decide) (by decide) (by decide) (by decide), hc 6 (by decide) (by decide) (by decide) (by decide) (by decide), hc 7 (by decide) (by decide) (by decide) (by decide) (by decide), hc 9 (by decide) (by decide) (by decide) (by decide) (by decide), hc 10 (by decide) (by decide) (by decide) (by decide) (by decide), hc 11 (by decide) (by decide) (by decide) (by decide) (by decide)]
  exact hV
theorem PC.eq {σ : WS} (h : PC S T z r σ) : T 8 = S 8 ∧ T 9 = S 9 ∧ T 10 = S 10 ∧ T 11 = S 11 ∧ T 5 = S 5 ∧ T 24 = S 24 := by
  have hc := h.2.2.2.2.2.2
  exact ⟨hc 8 (by decide) (by decide) (by decide) (by decide) (by decide), hc 9 (by decide) (by decide) (by decide) (by decide) (by decide), hc 10 (by decide) (by decide) (by decide) (by decide) (by decide), hc 11 (by decide) (by decide) (by decide) (by decide) (by decide), hc 5 (by decide) (by decide) (by decide) (by decide) (by decide), hc 24 (by decide) (by decide) (by decide) (by decide) (by decide)⟩
/-- what writing an object does, as the class does it -/
def CSim (xs : Nat × (Nat → Int32)) (S : Sv) (z r d m v : Nat) (f : Nat → WS → WS) : Prop := ∀ o σ T U s (K : Sv → Option Value → Prop), J z (S 11) r σ U s → Jo z (S 11) r σ U o → 24 ≤ cn σ.bg 24 + m → PC S T z r σ → (∀ T', PC S T' z r (f o σ) → K T' none) → CS xs d 56 T [.ref 21, .int (nI o), .int (nI v)] K
theorem s_92 {f : Nat → WS → WS} {m v o l s : Nat} {σ : WS} {U : Nat → Prop} (hd : 4 ≤ d) (hV : VS S z) (hs : S 8 4 = nI z) (hf : CSim xs S z r d m (v + 1) f) (ho : o < z) (hl : l < 2) (hP : PC S T z r σ) (hJ : J z (S 11) r σ U (s + 9)) (hb : ¬ σ.bg o = 0) (hU : U (2 * o + l)) (hm : 24 ≤ cn σ.bg 24 + m) (h : ∀ T', PC S T' z r (wl (S 11) f o l σ) → R_56_92 xs (d + 1) K (nI o) (nI v) (nI (l + 1)) T') : R_56_92 xs (d + 1) K (nI o) (nI v) (nI l) T := by
  have hz := VI.zb hV
  obtain ⟨e8, e9, e10, e11, e5, e24⟩ := hP.eq
  have hsT : T 8 4 = nI z := by rw [e8]; exact hs
  refine h_56_92 ⟨fun g => absurd g (nI_ge (b := 2) hl (by omega)), fun _ => ?_⟩
  refine k_38 (by omega) (hP.vs hV) hsT (fun j b hj hb2 e1 e2 => ⟨_, rfl, ?_⟩) (fun hn => absurd ⟨⟨o, ho, rfl⟩, l, hl, rfl⟩ hn)
  rw [← nI_inj (by omega) (by omega) e1, ← nI_inj (by omega) (by omega) e2, e11, nI_1]
  refine k_31 (by omega) hz hsT (fun t ht e => ⟨_, rfl, fun hh => absurd hh (by decide), fun _ => ?_⟩) (fun hno => ⟨_, rfl, fun _ => ?_, fun hh => absurd rfl hh⟩)
  · rw [e]
    refine c_58 ?_
    unfold w_58
    rw [show ((112 : Int32) + nI l) = nI (112 + l) from nI_add 112 l, ch_nI (by omega)]
    refine k_60 (by omega) (by omega) (by omega) hP.1 (fun T1 f1 t1 => ⟨rfl, ?_⟩)
    refine k_60 (q := 61) (by omega) (by omega) (by omega) t1 (fun T2 f2 t2 => ⟨rfl, t, by omega, rfl, ?_⟩)
    rw [List.append_assoc] at t2
    have P2 : PC S T2 z r (wa σ [nI (112 + l), 61]) := hP.ap (f1.tr f2) t2
    have e26 : T2 26 t = σ.bg t := P2.2.1 t (by omega)
    rw [e26, nI_1]
    refine ⟨fun g => ?_, fun g => ?_⟩
    · rw [wl_new (by omega) e g] at h
      exact hf t _ T2 (fun p => U p ∧ p ≠ 2 * o + l) s _ (J_out (s := s + 2) (hJ.wk (fun p hp => hp.1) (by omega)) (by simp only [List.length_cons, List.length_nil]; omega)) (Jo_new hJ hb hl ht e g) hm P2 (fun T' hP' => ⟨rfl, rfl, h T' hP'⟩)
    · rw [wl_old (by omega) e g] at h
      obtain ⟨j1, j2, j3⟩ := J_sh hz hJ hb hU hl e g
      refine k_60 (q := 64) (by omega) (by omega) (by omega) t2 (fun T3 f3 t3 => ⟨rfl, t, by omega, rfl, ?_⟩)
      have e25 : T3 25 t = nI (σ.id t) := by
        rw [f3.1 25 (by decide) (by decide) (by decide)]
        exact P2.2.2.1 t (by omega) g j1
      rw [e25]
      refine k_59 (by omega) (Int32.le_trans (by decide) (nI_le (a := 0) (b := σ.id t) (by omega) (by omega))) (nI_le (b := 99999) (by omega) (by omega)) t3 (fun T4 f4 t4 => ⟨rfl, rfl, h T4 (hP.ap ((f1.tr f2).tr (f3.tr f4)) ?_)⟩)
      rw [List.append_assoc, List.append_assoc] at t4
      exact t4
  · have e : S 11 (2 * o + l) = -1 := by
      rcases (VI.lr hV o l ho hl).1 with e | ⟨t, ht, e⟩
      · exact e
      · exact absurd ⟨t, ht, e⟩ hno
    rw [wl_none e] at h
    exact h T hP
theorem s_56 (hV : VS S z) (hs : S 8 4 = nI z) (hr : r < z) (hl24 : ∀ o, o < 24 → S 24 o = nI (ld z (S 11) r o)) : ∀ m v d, v + m ≤ 100 → 2 * m + 8 ≤ d → CSim xs S z r d m v (wo (S 9) (S 10) (S 11) (S 5) (shd z (S 11) r) true m v) := by
  intro m
  have hz := VI.zb hV
  induction m with
  | zero =>
    intro v d hv hd o σ T U s K hJ hJo hm hP h
    have : cn σ.bg 24 < 24 := cn_lt (by have := hJo.1; omega) hJo.2.2.1
    omega
  | succ m ih =>
    intro v d hv hd o σ T U s K hJ hJo hm hP h
    obtain ⟨d, rfl⟩ := cs_d (d := d) (by omega)
    obtain ⟨d, rfl⟩ := cs_d (d := d) (by omega)
    have ih := ih (v + 1) d (by omega) (by omega)
    have hJf : Jf z (S 11) r (wo (S 9) (S 10) (S 11) (S 5) (shd z (S 11) r) true m (v + 1)) := J_wo hz (fun o l ho hl => (VI.lr hV o l ho hl).1) m (v + 1)
    have ho : o < z := hJo.1
    have hw : wo (S 9) (S 10) (S 11) (S 5) (shd z (S 11) r) true (m + 1) v o σ = if true = true ∧ 10 < v then (σ.1, σ.2.1, σ.2.2.1, σ.2.2.2.1, 1) else we (wl (S 11) (wo (S 9) (S 10) (S 11) (S 5) (shd z (S 11) r) true m (v + 1)) o 1 (wl (S 11) (wo (S 9) (S 10) (S 11) (S 5) (shd z (S 11) r) true m (v + 1)) o 0 (wh (S 9) (S 10) (S 5) (shd z (S 11) r) v o σ))) := rfl
    rw [hw] at h
    refine c_56 ⟨fun g => ?_, fun g => ?_⟩
    · have hv10 : v ≤ 10 := (nI_leI (b := 10) (by omega) (by omega)).mp g
      rw [if_neg (fun hh => absurd hh.2 (by omega))] at h
      refine ⟨o, by omega, rfl, ?_⟩
      obtain ⟨e8, e9, e10, e11, e5, e24⟩ := hP.eq
      obtain ⟨a, ha, ek, -⟩ := VI.kd hV o ho
      obtain ⟨h1, h2, h3, h4, h5, h6, h7⟩ := hP
      have t0 : TC (us T 26 o 1) σ.out := h1
      refine k_60 (q := 40) (by omega) (by omega) (by omega) t0 (fun T1 f1 t1 => ⟨rfl, ?_⟩)
      have s1 : T1 8 4 = nI z := by rw [f1.1 8 (by decide) (by decide) (by decide)]; show T 8 4 = nI z; rw [e8]; exact hs
      have k1 : T1 9 o = nI a := by rw [f1.1 9 (by decide) (by decide) (by decide)]; show T 9 o = nI a; rw [e9]; exact ek
      refine k_34 (by omega) hz s1 (fun j hj e => ⟨_, rfl, ?_⟩) (fun hn => absurd ⟨o, ho, rfl⟩ hn)
      rw [← nI_inj (by omega) (by omega) e, k1, show (97 : Int32) + nI a = nI (97 + a) from nI_add 97 a, ch_nI (by omega)]
      refine k_60 (by omega) (by omega) (by omega) t1 (fun T2 f2 t2 => ⟨rfl, ?_⟩)
      have f12 := f1.tr f2
      have hc := J_wh (kr := S 9) (nr := S 10) (fi := S 5) (v := v) hz hJ hJo
      have hids : σ.ids < 24 := by
        have := cn_lt (f := σ.bg) (t := o) (n := 24) (by omega) hJo.2.2.1
        have := hJ.1
        omega
      have hbg : ∀ i, i < 24 → T2 26 i = upd σ.bg o 1 i := by
        intro i hi
        rw [f12.1 26 (by decide) (by decide) (by decide)]
        show upd (T 26) o 1 i = _
        by_cases e : i = o
        · rw [e, upd_s, upd_s]
        · rw [upd_n e, upd_n e]; exact h2 i hi
      /- the end: what is left after the name -/
      have fin : ∀ T4, (∀ c, c ≠ 21 → c ≠ 22 → c ≠ 23 → c ≠ 25 → T4 c = T2 c) → T4 21 7 = nI r → T4 21 9 = σ.dp → T4 21 8 = nI (if shd z (S 11) r o = true then σ.ids + 1 else σ.ids) → (∀ i, i < 24 → ¬ upd σ.bg o 1 i = 0 → shd z (S 11) r i = true → T4 25 i = nI (if shd z (S 11) r o = true ∧ i = o then σ.ids else σ.id i)) → TC T4 (σ.out ++ ([40, nI (97 + a)] ++ wi (shd z (S 11) r) o σ.ids)) → CS xs (d + 1) 57 T4 [.ref 21, .int (nI o)] (fun S6 v6 => v6 = none ∧ (R_56_92 xs (d + 1) K (nI o) (nI v) 0 S6)) := by
        intro T4 q1 q2 q3 q4 q5 q6
        have q7 : ∀ c, c ≠ 21 → c ≠ 22 → c ≠ 23 → c ≠ 25 → c ≠ 26 → T4 c = S c := by
          intro c n1 n2 n3 n4 n5
          rw [q1 c n1 n2 n3 n4, f12.1 c n1 n2 n3, us_ne n5]
          exact h7 c n1 n2 n3 n4 n5
        have hV4 : VS T4 z := by
          show VI (T4 2) (T4 3) (T4 4) (T4 5) (T4 6) (T4 7) z (T4 9) (T4 10) (T4 11)
          rw [q7 2 (by decide) (by decide) (by decide) (by decide) (by decide), q7 3 (by decide) (by decide) (by decide) (by decide) (by decide), q7 4 (by decide) (by decide) (by decide) (by decide) (by decide), q7 5 (by decide) (by decide) (by decide) (by decide) (by decide), q7 6 (by decide) (by decide) (by decide) (by decide) (by decide), q7 7 (by decide) (by decide) (by decide) (by decide) (by decide), q7 9 (by decide) (by decide) (by decide) (by decide) (by decide), q7 10 (by decide) (by decide) (by decide) (by decide) (by decide), q7 11 (by decide) (by decide) (by decide) (by decide) (by decide)]
          exact hV
        refine k_57 (by omega) hV4 (by rw [q7 8 (by decide) (by decide) (by decide) (by decide) (by decide)]; exact hs) ho q6 (fun T5 f5 t5 => ⟨rfl, ?_⟩)
        rw [q7 9 (by decide) (by decide) (by decide) (by decide) (by decide), q7 10 (by decide) (by decide) (by decide) (by decide) (by decide), q7 5 (by decide) (by decide) (by decide) (by decide) (by decide), List.append_assoc] at t5
        have P5 : PC S T5 z r (wh (S 9) (S 10) (S 5) (shd z (S 11) r) v o σ) := by
          refine ⟨?_, fun i hi => ?_, fun i hi hb hsi => ?_, ?_, ?_, ?_, fun c n1 n2 n3 n4 n5 => ?_⟩
          · show TC T5 (σ.out ++ ([40, nI (97 + (S 9 o).toNatClampNeg)] ++ wi (shd z (S 11) r) o σ.ids ++ (wn1 (S 9) (S 10) (S 5) o 0 ++ wn1 (S 9) (S 10) (S 5) o 1 ++ wn1 (S 9) (S 10) (S 5) o 2)))
            rw [ek, nI_clamp (by omega)]
            exact t5
          · rw [f5.1 26 (by decide) (by decide) (by decide), q1 26 (by decide) (by decide) (by decide) (by decide)]
            exact hbg i hi
          · rw [f5.1 25 (by decide) (by decide) (by decide)]
            exact q5 i hi hb hsi
          · rw [f5.2 8 (by decide)]; exact q4
          · rw [f5.2 9 (by decide), q3]
            show σ.dp = if 10 < v then 1 else σ.dp
            rw [if_neg (by omega)]
          · rw [f5.2 7 (by decide)]; exact q2
          · rw [f5.1 c n1 n2 n3]; exact q7 c n1 n2 n3 n4 n5
        have ho1 : ¬ (wh (S 9) (S 10) (S 5) (shd z (S 11) r) v o σ).bg o = 0 := by
          show ¬ upd σ.bg o 1 o = 0
          rw [upd_s]
          decide
        have hm1 : 24 ≤ cn (wh (S 9) (S 10) (S 5) (shd z (S 11) r) v o σ).bg 24 + m := by rw [hc.2]; omega
        have b := J_wl (s := s + 22) hz hJf (VI.lr hV o 0 ho (by omega)).1 hc.1 ho1 (by omega)
        refine s_92 (s := s + 22) (l := 0) (by omega) hV hs ih ho (by omega) P5 hc.1 ho1 (Or.inr (by omega)) hm1 (fun T6 P6 => ?_)
        refine s_92 (s := s + 13) (l := 1) (by omega) hV hs ih ho (by omega) P6 b.1 (b.2 o ho1) ⟨Or.inr (by omega), by omega⟩ (Nat.le_trans hm1 (Nat.add_le_add_right (cn_mono (fun i _ hi => b.2 i hi)) m)) (fun T7 P7 => ?_)
        refine h_56_92 ⟨fun _ => ?_, fun g => absurd (by decide) g⟩
        exact k_60 (q := 41) (by omega) (by omega) (by omega) P7.1 (fun T8 f8 t8 => ⟨rfl, h T8 (P7.ap f8 t8)⟩)
      have e7 : T2 21 7 = nI r := by rw [f12.2 7 (by decide)]; exact h6
      have e9' : T2 21 9 = σ.dp := by rw [f12.2 9 (by decide)]; exact h5
      have e8' : T2 21 8 = nI σ.ids := by rw [f12.2 8 (by decide)]; exact h4
      have e25 : T2 25 = T 25 := f12.1 25 (by decide) (by decide) (by decide)
      have e24' : T2 24 o = nI (ld z (S 11) r o) := by
        rw [f12.1 24 (by decide) (by decide) (by decide)]
        show T 24 o = _
        rw [e24]; exact hl24 o (by omega)
      rw [List.append_assoc] at t2
      have no : shd z (S 11) r o = false → CS xs (d + 1) 57 T2 [.ref 21, .int (nI o)] (fun S6 v6 => v6 = none ∧ (R_56_92 xs (d + 1) K (nI o) (nI v) 0 S6)) := by
        intro hsh
        refine fin T2 (fun _ _ _ _ _ => rfl) e7 e9' (by rw [hsh]; exact e8') (fun i hi hb hsi => ?_) ?_
        · rw [if_neg (fun hh => by rw [hsh] at hh; exact absurd hh.1 (by decide)), e25]
          have hne : i ≠ o := fun e => by rw [e, hsh] at hsi; exact absurd hsi (by decide)
          rw [upd_n hne] at hb
          exact h3 i hi hb hsi
        · rw [show wi (shd z (S 11) r) o σ.ids = [] by unfold wi; rw [hsh]; rfl]
          exact t2
      have yes : shd z (S 11) r o = true → ∃ j7 : Nat, j7 < 24 ∧ nI o = nI j7 ∧ (CS xs (d + 1) 60 (us (us T2 25 j7 (T2 21 8)) 21 8 ((T2 21 8) + 1)) [.ref 21, .int 35] (fun S8 v8 => v8 = none ∧ (∃ j9 : Nat, j9 < 24 ∧ nI o = nI j9 ∧ (CS xs (d + 1) 59 S8 [.ref 21, .int (S8 25 j9)] (fun S10 v10 => v10 = none ∧ (CS xs (d + 1) 57 S10 [.ref 21, .int (nI o)] (fun S11 v11 => v11 = none ∧ (R_56_92 xs (d + 1) K (nI o) (nI v) 0 S11)))))))) := by
        intro hsh
        refine ⟨o, by omega, rfl, ?_⟩
        rw [e8', nI_1]
        have t3 : TC (us (us T2 25 o (nI σ.ids)) 21 8 (nI (σ.ids + 1))) (σ.out ++ ([40] ++ [nI (97 + a)])) := t2
        refine k_60 (q := 35) (by omega) (by omega) (by omega) t3 (fun T4 f4 t4 => ⟨rfl, o, by omega, rfl, ?_⟩)
        have e25' : T4 25 o = nI σ.ids := by
          rw [f4.1 25 (by decide) (by decide) (by decide)]
          show upd (T2 25) o (nI σ.ids) o = _
          rw [upd_s]
        rw [e25']
        refine k_59 (by omega) (Int32.le_trans (by decide) (nI_le (a := 0) (b := σ.ids) (by omega) (by omega))) (nI_le (b := 99999) (by omega) (by omega)) t4 (fun T5 f5 t5 => ⟨rfl, fin T5 (fun c n1 n2 n3 n4 => ?_) ?_ ?_ ?_ (fun i hi hb hsi => ?_) ?_⟩)
        · rw [f5.1 c n1 n2 n3, f4.1 c n1 n2 n3, us_ne n1, us_ne n4]
        · rw [f5.2 7 (by decide), f4.2 7 (by decide)]; exact e7
        · rw [f5.2 9 (by decide), f4.2 9 (by decide)]; exact e9'
        · rw [f5.2 8 (by decide), f4.2 8 (by decide), if_pos hsh]; rfl
        · rw [f5.1 25 (by decide) (by decide) (by decide), f4.1 25 (by decide) (by decide) (by decide)]
          show upd (T2 25) o (nI σ.ids) i = _
          by_cases e : i = o
          · rw [e, upd_s, if_pos ⟨hsh, rfl⟩]
          · rw [upd_n e, if_neg (fun hh => e hh.2), e25]
            rw [upd_n e] at hb
            exact h3 i hi hb hsi
        · rw [show wi (shd z (S 11) r) o σ.ids = 35 :: dg (nI σ.ids) by unfold wi; rw [hsh]; rfl]
          rw [List.append_assoc, List.append_assoc] at t5
          exact t5
      have hld : ld z (S 11) r o ≤ 48 := ld_le
      refine c_55 ⟨o, by omega, rfl, ?_⟩
      rw [e7, e24']
      refine ⟨fun g => ⟨fun g2 => ⟨_, rfl, fun _ => no ?_, fun hh => absurd rfl hh⟩, fun g2 => ⟨_, rfl, fun hh => absurd hh (by decide), fun _ => yes ?_⟩⟩, fun g => ⟨fun g2 => ⟨_, rfl, fun _ => no ?_, fun hh => absurd rfl hh⟩, fun g2 => ⟨_, rfl, fun hh => absurd hh (by decide), fun _ => yes ?_⟩⟩⟩
      · have hne : o ≠ r := fun e => g (by rw [e])
        have := (nI_ltI (b := 2) (by omega) (by omega)).mp g2
        exact decide_eq_false (by rw [if_neg hne]; omega)
      · have hne : o ≠ r := fun e => g (by rw [e])
        refine decide_eq_true ?_
        rw [if_neg hne]
        exact Nat.le_of_not_lt (fun hh => g2 (nI_lt (b := 2) hh (by omega)))
      · have he : o = r := nI_inj (by omega) (by omega) (Classical.byContradiction g)
        have := (nI_ltI (b := 1) (by omega) (by omega)).mp g2
        exact decide_eq_false (by rw [if_pos he]; omega)
      · have he : o = r := nI_inj (by omega) (by omega) (Classical.byContradiction g)
        refine decide_eq_true ?_
        rw [if_pos he]
        exact Nat.le_of_not_lt (fun hh => g2 (nI_lt (b := 1) hh (by omega)))
    · have hv10 : 10 < v := by
        rcases Nat.lt_or_ge 10 v with hh | hh
        · exact hh
        · exact absurd (nI_le (b := 10) hh (by omega)) g
      rw [if_pos ⟨rfl, hv10⟩] at h
      refine h _ ?_
      obtain ⟨h1, h2, h3, h4, h5, h6, h7⟩ := hP
      exact ⟨h1, h2, h3, h4, rfl, h6, fun c n1 n2 n3 n4 n5 => by rw [us_ne n1]; exact h7 c n1 n2 n3 n4 n5⟩
end PC
