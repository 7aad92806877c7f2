/-! the reference's search: rounds -/
def RI (S T : Sv) (z r n : Nat) : Prop := (∀ c, c ≠ 43 → T c = S c) ∧ n = cn (T 43) 24 ∧ (∀ t, t < 24 → ¬ T 43 t = 0 → t < z ∧ rc z (S 40) r t) ∧ ¬ T 43 r = 0
def RC (S T : Sv) (z : Nat) : Prop := ∀ j t, ¬ T 43 j = 0 → eg z (S 40) j t → ¬ T 43 t = 0
def SC (S T : Sv) (z k l : Nat) : Prop := ∀ j l' t, j < k ∨ (j = k ∧ l' < l) → j < z → l' < 2 → ¬ T 43 j = 0 → S 40 (2 * j + l') = nI t → t < z → ¬ T 43 t = 0
def RQ (S T : Sv) (z n q k l : Nat) : Prop := RC S T z ∨ q + 2 ≤ n ∨ (q + 1 ≤ n ∧ SC S T z k l)
theorem RI_add {S T : Sv} {z r n t : Nat} (hz : z ≤ 24) (h : RI S T z r n) (ht : t < z) (h0 : T 43 t = 0) (hr : rc z (S 40) r t) : RI S (us T 43 t 1) z r (n + 1) := by
  obtain ⟨b1, b2, b3, b4⟩ := h
  refine ⟨fun c h1 => by rw [us_ne h1]; exact b1 c h1, ?_, ?_, ?_⟩
  · show n + 1 = cn (upd (T 43) t 1) 24
    rw [cn_add h0 (by decide) (by omega), ← b2]
  · intro t' ht' hn
    have hn : ¬ upd (T 43) t 1 t' = 0 := hn
    by_cases e : t' = t
    · rw [e]; exact ⟨ht, hr⟩
    · rw [upd_n e] at hn
      exact b3 t' ht' hn
  · show ¬ upd (T 43) t 1 r = 0
    by_cases e : r = t
    · rw [e, upd_s]; decide
    · rw [upd_n e]; exact b4
section SP
variable {xs : Nat × (Nat → Int32)} {d z r : Nat} {S : Sv} {K : Sv → Option Value → Prop}
theorem VR_frame {T : Sv} (hV : VR S z) (hc : ∀ c, c ≠ 43 → T c = S c) : VR T z := by
  show VI (T 32) (T 33) (T 34) (T 35) (T 36) (T 37) z (T 38) (T 39) (T 40)
  rw [hc 32 (by decide), hc 33 (by decide), hc 34 (by decide), hc 35 (by decide), hc 36 (by decide), hc 37 (by decide), hc 38 (by decide), hc 39 (by decide), hc 40 (by decide)]
  exact hV
theorem lp_55 (hd : 3 ≤ d) (hV : VR S z) (hs : S 31 6 = nI z) {q k : Nat} (hkz : k < z) (hk : ∀ T n, RI S T z r n → RQ S T z n q (k + 1) 0 → R_100_43 xs d K (nI n) (nI q) (nI (k + 1)) T) : ∀ (m l : Nat) (T : Sv) (n : Nat), l + m = 2 → RI S T z r n → RQ S T z n q k l → R_100_55 xs d K (nI n) (nI q) (nI k) (nI l) T := by
  have hz := VI.zb hV
  intro m
  induction m with
  | zero =>
    intro l T n hl hB hQ
    refine h_100_55 ⟨fun _ => ?_, fun h => absurd (nI_le (a := 2) (b := l) (by omega) (by omega)) h⟩
    rw [nI_1]
    refine hk T n hB ?_
    rcases hQ with h | h | ⟨h1, h2⟩
    · exact Or.inl h
    · exact Or.inr (Or.inl h)
    · exact Or.inr (Or.inr ⟨h1, fun j l' t hj hjz hl' => h2 j l' t (by omega) hjz hl'⟩)
  | succ m ih =>
    intro l T n hl hB hQ
    have hB0 := hB
    obtain ⟨b1, b2, b3, b4⟩ := hB
    have e6 : T 31 6 = nI z := by rw [b1 31 (by decide)]; exact hs
    have e40 : T 40 = S 40 := b1 40 (by decide)
    have skip : (¬ T 43 k = 0 → ∀ t, S 40 (2 * k + l) = nI t → t < z → ¬ T 43 t = 0) → R_100_55 xs d K (nI n) (nI q) (nI k) (nI l + 1) T := by
      intro hsk
      rw [nI_1]
      refine ih (l + 1) T n (by omega) hB0 ?_
      rcases hQ with h | h | ⟨h1, h2⟩
      · exact Or.inl h
      · exact Or.inr (Or.inl h)
      · refine Or.inr (Or.inr ⟨h1, fun j l' t hj hjz hl' hn ht htz => ?_⟩)
        by_cases e : j = k ∧ l' = l
        · obtain ⟨rfl, rfl⟩ := e
          exact hsk hn t ht htz
        · exact h2 j l' t (by omega) hjz hl' hn ht htz
    refine h_100_55 ⟨fun h => absurd h (nI_ge (b := 2) (by omega) (by omega)), fun _ => ⟨k, by omega, rfl, fun h0 => skip (fun hn => absurd h0 hn), fun hn => ?_⟩⟩
    refine k_99 hd (VR_frame hV b1) e6 (fun j' l' hj' hl' e1 e2 => ⟨_, rfl, ?_⟩) (fun h => absurd ⟨⟨k, hkz, rfl⟩, l, by omega, rfl⟩ h)
    have hjj : k = j' := nI_inj (by omega) (by omega) e1
    have hll : l = l' := nI_inj (by omega) (by omega) e2
    subst hjj
    subst hll
    rw [e40]
    refine ⟨fun hm1 => skip (fun _ t ht htz => ?_), fun hm1 => ?_⟩
    · rw [hm1] at ht
      exfalso
      have h1 : (nI t).toInt = (t : Int) := nI_toInt (by omega)
      rw [← ht, show (-1 : Int32).toInt = -1 from by decide] at h1
      omega
    · obtain ⟨t, htz, et⟩ := ((VI.lr hV k l hkz (by omega)).1).resolve_left hm1
      refine ⟨t, by omega, et, fun hs1 => skip (fun _ t' ht' htz' => ?_), fun hs1 => ⟨t, by omega, et, ?_⟩⟩
      · rw [nI_inj (by omega) (by omega) (ht'.symm.trans et)]
        exact hs1
      · have hs1 : T 43 t = 0 := Classical.byContradiction hs1
        have hrt : rc z (S 40) r t := rc_step (b3 k (by omega) hn).2 ⟨hkz, htz, l, hl', et⟩
        rw [nI_1, nI_1]
        refine ih (l + 1) _ (n + 1) (by omega) (RI_add hz hB0 htz hs1 hrt) ?_
        rcases hQ with h | h | ⟨h1, h2⟩
        · exact absurd hs1 (h k t hn ⟨hkz, htz, l, hl', et⟩)
        · exact Or.inr (Or.inl (by omega))
        · exact Or.inr (Or.inl (by omega))
theorem lp_43 (hd : 3 ≤ d) (hV : VR S z) (hs : S 31 6 = nI z) {q : Nat} (hk : ∀ T n, RI S T z r n → RC S T z ∨ q + 2 ≤ n → R_100_34 xs d K (nI n) (nI (q + 1)) T) : ∀ (m k : Nat) (T : Sv) (n : Nat), k + m = z → RI S T z r n → RQ S T z n q k 0 → R_100_43 xs d K (nI n) (nI q) (nI k) T := by
  have hz := VI.zb hV
  intro m
  induction m with
  | zero =>
    intro k T n hkm hB hQ
    have e6 : T 31 6 = nI z := by rw [hB.1 31 (by decide)]; exact hs
    refine h_100_43 ⟨fun _ => ?_, fun h => absurd (by rw [e6]; exact nI_le (by omega) (by omega)) h⟩
    rw [nI_1]
    refine hk T n hB ?_
    rcases hQ with h | h | ⟨h1, h2⟩
    · exact Or.inl h
    · exact Or.inr h
    · refine Or.inl (fun j t hn he => ?_)
      obtain ⟨e1, e2, l, hl, el⟩ := he
      exact h2 j l t (by omega) e1 hl hn el e2
  | succ m ih =>
    intro k T n hkm hB hQ
    have e6 : T 31 6 = nI z := by rw [hB.1 31 (by decide)]; exact hs
    refine h_100_43 ⟨fun h => absurd h (by rw [e6]; exact nI_ge (by omega) (by omega)), fun _ => ?_⟩
    exact lp_55 (q := q) (k := k) hd hV hs (by omega) (fun T' n' hB' hQ' => ih (k + 1) T' n' (by omega) hB' hQ') 2 0 T n (by omega) hB hQ
/-- behind the reference's search -/
def RE (S T : Sv) (z r n : Nat) : Prop := RI S T z r n ∧ ∀ t, t < z → (rc z (S 40) r t ↔ ¬ T 43 t = 0)
theorem lp_34 (hd : 3 ≤ d) (hV : VR S z) (hs : S 31 6 = nI z) (hr : r < z) (hk : ∀ T n, RE S T z r n → K T (some (.int (nI n)))) : ∀ (m q : Nat) (T : Sv) (n : Nat), q + m = 24 → RI S T z r n → RC S T z ∨ q + 1 ≤ n → R_100_34 xs d K (nI n) (nI q) T := by
  have hz := VI.zb hV
  intro m
  induction m with
  | zero =>
    intro q T n hq hB hC
    refine h_100_34 ⟨fun _ => hk T n ⟨hB, fun t ht => ⟨fun h => ?_, fun h => (hB.2.2.1 t (by omega) h).2⟩⟩, fun h => absurd (nI_le (a := 24) (b := q) (by omega) (by omega)) h⟩
    have hn : n ≤ 24 := by rw [hB.2.1]; exact cn_le _ _
    have hC : RC S T z := hC.resolve_right (by omega)
    exact h (fun t => ¬ T 43 t = 0) hB.2.2.2 (fun j t hj he => hC j t hj he)
  | succ m ih =>
    intro q T n hq hB hC
    refine h_100_34 ⟨fun h => absurd h (nI_ge (b := 24) (by omega) (by omega)), fun _ => ?_⟩
    refine lp_43 (q := q) hd hV hs (fun T' n' hB' hC' => ih (q + 1) T' n' (by omega) hB' hC') z 0 T n (by omega) hB ?_
    rcases hC with h | h
    · exact Or.inl h
    · exact Or.inr (Or.inr ⟨h, fun j l' t hj => absurd hj (by omega)⟩)
theorem lp_100_2 (hr : r < z) (hz : z ≤ 24) (hk : ∀ T, RI S T z r 1 → R_100_34 xs d K 1 0 T) : ∀ (m q : Nat) (T : Sv), q + m = 24 → (∀ c, c ≠ 43 → T c = S c) → (∀ i, i < q → T 43 i = if i = r then 1 else 0) → R_100_2 xs d K (nI r) (nI q) T := by
  intro m
  induction m with
  | zero =>
    intro q T hq hf h0
    refine h_100_2 ⟨fun _ => hk T ⟨hf, ?_, fun t ht hn => ?_, ?_⟩, fun h => absurd (nI_le (a := 24) (b := q) (by omega) (by omega)) h⟩
    · have h1 : cn (T 43) 24 = cn (upd (fun _ => 0) r 1) 24 := cn_congr (fun i hi => by
        rw [h0 i (by omega)]
        by_cases e : i = r
        · rw [if_pos e, e, upd_s]
        · rw [if_neg e, upd_n e])
      rw [h1, cn_add rfl (by decide) (by omega), cn_zero (fun _ _ => rfl)]
    · rw [h0 t (by omega)] at hn
      by_cases e : t = r
      · rw [e]; exact ⟨hr, rc_refl⟩
      · rw [if_neg e] at hn
        exact absurd rfl hn
    · rw [h0 r (by omega), if_pos rfl]
      decide
  | succ m ih =>
    intro q T hq hf h0
    have step : ∀ v : Int32, v = (if q = r then 1 else 0) → R_100_2 xs d K (nI r) (nI q + 1) (us T 43 q v) := by
      intro v hv
      rw [nI_1]
      refine ih (q + 1) _ (by omega) (fun c h1 => by rw [us_ne h1]; exact hf c h1) (fun i hi => ?_)
      show upd (T 43) q v i = _
      by_cases e : i = q
      · rw [e, upd_s]; exact hv
      · rw [upd_n e]; exact h0 i (by omega)
    refine h_100_2 ⟨fun h => absurd h (nI_ge (b := 24) (by omega) (by omega)), fun _ => ⟨fun hne => ⟨q, by omega, rfl, step 0 ?_⟩, fun heq => ⟨q, by omega, rfl, step 1 ?_⟩⟩⟩
    · rw [if_neg (fun e => hne (by rw [e]))]
    · have heq : nI q = nI r := Classical.byContradiction heq
      rw [if_pos (nI_inj (by omega) (by omega) heq)]
theorem k_100 (hd : 4 ≤ d) (hV : VR S z) (hs : S 31 6 = nI z) (hr : r < z) (h1 : ∀ T n, RE S T z r n → K T (some (.int (nI n)))) : CS xs d 100 S [.ref 31, .int (nI r)] K := by
  obtain ⟨d, rfl⟩ := cs_d (d := d) (by omega)
  have hz := VI.zb hV
  exact c_100 (lp_100_2 (S := S) hr hz (fun T hB => lp_34 (S := S) (r := r) (by omega) hV hs hr h1 24 0 T 1 (by omega) hB (Or.inr (by omega))) 24 0 S (by omega) (fun _ _ => rfl) (fun i hi => absurd hi (by omega)))
/-- the two searches find equally many -/
theorem rc_count {S T T' : Sv} {m n : Nat} (hz : z ≤ 24) (h1 : BE S T z r m) (h2 : RE S T' z r n) (e : S 40 = S 11) : m = n := by
  rw [h1.1.2.2.1, h2.1.2.1]
  refine cn_congr (fun i hi => ?_)
  by_cases hiz : i < z
  · have a := h1.2 i hiz
    have b := h2.2 i hiz
    rw [e] at b
    constructor
    · intro h
      exact Classical.byContradiction (fun h3 => (a.mp (b.mpr h3)) h)
    · intro h
      exact Classical.byContradiction (fun h3 => (b.mp (a.mpr h3)) h)
  · constructor
    · intro _
      exact Classical.byContradiction (fun h3 => hiz (h2.1.2.2.1 i hi h3).1)
    · intro _
      exact Classical.byContradiction (fun h3 => hiz (h1.1.2.2.2.2.1 i hi h3).1)
end SP
theorem Inv_b {S T : Sv} (h : Inv S) (hc : ∀ c, c ≠ 12 → c ≠ 13 → c ≠ 14 → T c = S c) : Inv T := by
  have h1 : ∀ c, kp c → T c = S c := fun c hk => hc c (by rintro rfl; revert hk; decide) (by rintro rfl; revert hk; decide) (by rintro rfl; revert hk; decide)
  exact h.of_same h1 (by rw [hc 8 (by decide) (by decide) (by decide)]) (by rw [hc 31 (by decide) (by decide) (by decide)]) (by rw [hc 19 (by decide) (by decide) (by decide)]) (by rw [hc 31 (by decide) (by decide) (by decide)]) (by rw [hc 28 (by decide) (by decide) (by decide)]) (by rw [hc 31 (by decide) (by decide) (by decide)])
theorem Inv_r {S T : Sv} (h : Inv S) (hc : ∀ c, c ≠ 43 → T c = S c) : Inv T := by
  have h1 : ∀ c, kp c → T c = S c := fun c hk => hc c (by rintro rfl; revert hk; decide)
  exact h.of_same h1 (by rw [hc 8 (by decide)]) (by rw [hc 31 (by decide)]) (by rw [hc 19 (by decide)]) (by rw [hc 31 (by decide)]) (by rw [hc 28 (by decide)]) (by rw [hc 31 (by decide)])
theorem op_10 : op_ok w_law_10 := by
  intro xs R S i h hi hR
  obtain ⟨z, n, f, hz, hn, hf, s1, s2, s3, s4, s5, s6, hV, hW⟩ := h.VR
  have hI := h
  obtain ⟨_, _, _, _, _, _, _, _, ⟨g1, g2, g3, g4, g5⟩, -⟩ := hI
  refine ⟨i + 1, by omega, ad_1 i, ?_⟩
  refine c_12 (d := 999) (k_41 (by omega) hV s1 (fun r hr er T m hE => ⟨rfl, _, rfl, i + 1, by omega, ad_1 i, ?_⟩) (fun hno T hc h0 => ⟨rfl, _, rfl, i + 1, by omega, ad_1 i, ?_⟩))
  · have hc := hE.1.1
    have hT := Inv_b h hc
    have e6 : T 31 6 = nI z := by rw [hc 31 (by decide) (by decide) (by decide)]; exact s2
    have hWT : VR T z := by
      show VI (T 32) (T 33) (T 34) (T 35) (T 36) (T 37) z (T 38) (T 39) (T 40)
      rw [hc 32 (by decide) (by decide) (by decide), hc 33 (by decide) (by decide) (by decide), hc 34 (by decide) (by decide) (by decide), hc 35 (by decide) (by decide) (by decide), hc 36 (by decide) (by decide) (by decide), hc 37 (by decide) (by decide) (by decide), hc 38 (by decide) (by decide) (by decide), hc 39 (by decide) (by decide) (by decide), hc 40 (by decide) (by decide) (by decide)]
      exact hW
    rw [er]
    refine c_101 (d := 999) (k_88 (by omega) hz e6 (fun j hj e => ⟨_, rfl, fun h => absurd h (by decide), fun _ => ?_⟩) (fun hno => absurd ⟨r, hr, rfl⟩ hno))
    refine k_100 (r := r) (by omega) hWT e6 hr (fun T' n' hE' => ⟨_, rfl, _, rfl, fun _ => hR _ (Inv_r hT hE'.1.1), fun hne => absurd ?_ hne⟩)
    rw [hE.1.2.1]
    have e40 : T 40 = S 40 := hc 40 (by decide) (by decide) (by decide)
    have e11 : T 11 = S 11 := hc 11 (by decide) (by decide) (by decide)
    have hE2 : BE T T z r m := by
      refine ⟨⟨fun _ _ _ _ => rfl, hE.1.2.1, hE.1.2.2.1, hE.1.2.2.2.1, ?_, hE.1.2.2.2.2.2⟩, ?_⟩
      · rw [e11]; exact hE.1.2.2.2.2.1
      · rw [e11]; exact hE.2
    rw [rc_count hz hE2 hE' (by rw [e40, e11]; exact g5)]
  · have hT := Inv_b h hc
    have e6 : T 31 6 = nI z := by rw [hc 31 (by decide) (by decide) (by decide)]; exact s2
    exact c_101 (d := 999) (k_88 (by omega) hz e6 (fun j hj e => absurd ⟨j, hj, e⟩ hno) (fun _ => ⟨_, rfl, fun _ => ⟨_, rfl, fun _ => hR _ hT, fun hne => absurd h0 hne⟩, fun h => absurd rfl h⟩))
