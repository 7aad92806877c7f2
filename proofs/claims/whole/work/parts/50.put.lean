/-! writing characters and numbers: class and reference -/
def dl (m : Nat) : Nat → Nat → List Int32
  | 0, _ => []
  | f + 1, u => if u = 0 then [] else nI (48 + m / u % 10) :: dl m f (u / 10)
def un (m : Nat) : Nat := if 9999 < m then 10000 else if 999 < m then 1000 else if 99 < m then 100 else if 9 < m then 10 else 1
def dg (v : Int32) : List Int32 := (if v < 0 then [45] else []) ++ dl v.toInt.natAbs 5 (un v.toInt.natAbs)
theorem dl_len (m : Nat) : ∀ f u, (dl m f u).length ≤ f
  | 0, _ => Nat.le_refl _
  | f + 1, u => by
    unfold dl
    split
    · exact Nat.zero_le _
    · rw [List.length_cons]
      have := dl_len m f (u / 10)
      omega
theorem dg_len (v : Int32) : (dg v).length ≤ 6 := by
  unfold dg
  rw [List.length_append]
  have h1 := dl_len v.toInt.natAbs 5 (un v.toInt.natAbs)
  have h2 : (if v < 0 then ([45] : List Int32) else []).length ≤ 1 := by
    split
    · exact Nat.le_refl _
    · exact Nat.zero_le _
  omega
theorem ch_nI {q : Nat} (h : q < 65536) : ((nI q).toUInt32 % 65536).toInt32 = nI q := by
  rw [pk_char, pk_tn (by omega), Nat.mod_eq_of_lt h]
theorem gD_app {out : List Int32} {c : Int32} {i : Nat} (h : i < out.length) : (out ++ [c]).getD i 0 = out.getD i 0 := by
  rw [List.getD_eq_getElem?_getD, List.getD_eq_getElem?_getD, List.getElem?_append_left h]
theorem gD_last {out : List Int32} {c : Int32} : (out ++ [c]).getD out.length 0 = c := by
  rw [List.getD_eq_getElem?_getD, List.getElem?_append_right (Nat.le_refl _), Nat.sub_self]
  rfl
/-- the class's draft is out, as far as it goes -/
def TC (T : Sv) (out : List Int32) : Prop := (∀ i, i < out.length → i < 300 → T 23 i = out.getD i 0 ∧ 32 ≤ T 23 i ∧ T 23 i ≤ 126) ∧ ((out.length ≤ 300 ∧ T 22 1 = nI out.length ∧ T 21 10 = 0) ∨ (300 < out.length ∧ T 22 1 = nI 300 ∧ T 21 10 = 1))
def fc (T T' : Sv) : Prop := (∀ c, c ≠ 21 → c ≠ 22 → c ≠ 23 → T' c = T c) ∧ ∀ k, k ≠ 10 → T' 21 k = T 21 k
theorem fc.rf {T : Sv} : fc T T := ⟨fun _ _ _ _ => rfl, fun _ _ => rfl⟩
theorem fc.tr {T T' T'' : Sv} (h : fc T T') (h' : fc T' T'') : fc T T'' := ⟨fun c q1 q2 q3 => (h'.1 c q1 q2 q3).trans (h.1 c q1 q2 q3), fun k hk => (h'.2 k hk).trans (h.2 k hk)⟩
/-- the reference's out -/
def TR (T : Sv) (out : List Int32) : Prop := T 31 13 = nI out.length ∧ ∀ i, i < out.length → i < 300 → T 42 i = out.getD i 0
def fq (T T' : Sv) : Prop := (∀ c, c ≠ 31 → c ≠ 42 → T' c = T c) ∧ ∀ k, k ≠ 13 → T' 31 k = T 31 k
theorem fq.rf {T : Sv} : fq T T := ⟨fun _ _ _ => rfl, fun _ _ => rfl⟩
theorem fq.tr {T T' T'' : Sv} (h : fq T T') (h' : fq T' T'') : fq T T'' := ⟨fun c q1 q2 => (h'.1 c q1 q2).trans (h.1 c q1 q2), fun k hk => (h'.2 k hk).trans (h.2 k hk)⟩
section PU
variable {xs : Nat × (Nat → Int32)} {d : Nat} {T : Sv} {K : Sv → Option Value → Prop} {out : List Int32}
theorem k_60 {q : Nat} (hd : 2 ≤ d) (h32 : 32 ≤ q) (h126 : q ≤ 126) (hT : TC T out) (h : ∀ T', fc T T' → TC T' (out ++ [nI q]) → K T' none) : CS xs d 60 T [.ref 21, .int (nI q)] K := by
  obtain ⟨d, rfl⟩ := cs_d (d := d) (by omega)
  obtain ⟨d, rfl⟩ := cs_d (d := d) (by omega)
  obtain ⟨h1, h2⟩ := hT
  have g1 : ¬ nI q < 32 := nI_nlt (a := q) (b := 32) h32 (by omega)
  have g2 : ¬ 126 < nI q := nI_nlt (a := 126) (b := q) h126 (by decide)
  refine c_60 (c_49_22 ⟨fun g => absurd g g1, fun _ => ⟨fun g => absurd g g2, fun _ => ⟨fun g3 => ?_, fun g3 => ⟨_, rfl, fun h => absurd rfl h, fun _ => h _ ⟨fun c q1 q2 q3 => us_ne q1, fun k hk => ?_⟩ ?_⟩⟩⟩⟩)
  · rcases h2 with ⟨p1, p2, p3⟩ | ⟨p1, p2, p3⟩
    · rw [p2] at g3 ⊢
      have hl : out.length < 300 := (nI_ltI (b := 300) (by omega) (by omega)).mp g3
      rw [nar_c g1 g2, nI_1]
      refine ⟨out.length, hl, rfl, _, rfl, fun _ => h _ ⟨fun c q1 q2 q3 => by rw [us_ne q2, us_ne q3], fun k hk => rfl⟩ ⟨fun i hi hi3 => ?_, Or.inl ⟨by rw [List.length_append]; exact hl, ?_, p3⟩⟩, fun h => absurd (by decide) h⟩
      · show upd (T 23) out.length (nI q) i = _ ∧ 32 ≤ upd (T 23) out.length (nI q) i ∧ upd (T 23) out.length (nI q) i ≤ 126
        rw [List.length_append] at hi
        have hi : i < out.length + 1 := hi
        by_cases e : i = out.length
        · rw [e, upd_s, gD_last]
          exact ⟨rfl, Int32.not_lt.mp g1, Int32.not_lt.mp g2⟩
        · rw [upd_n e, gD_app (by omega)]
          exact h1 i (by omega) hi3
      · rw [List.length_append]
        rfl
    · rw [p2] at g3
      exact absurd g3 (by decide)
  · show upd (T 21) 10 1 k = T 21 k
    exact upd_n hk
  · rcases h2 with ⟨p1, p2, p3⟩ | ⟨p1, p2, p3⟩
    · rw [p2] at g3
      have hl : out.length = 300 := by
        rcases Nat.lt_or_ge out.length 300 with hh | hh
        · exact absurd (nI_lt (b := 300) hh (by decide)) g3
        · omega
      refine ⟨fun i hi hi3 => ?_, Or.inr ⟨by rw [List.length_append]; show 300 < out.length + 1; omega, by rw [← hl]; exact p2, rfl⟩⟩
      rw [gD_app (by omega)]
      exact h1 i (by omega) hi3
    · refine ⟨fun i hi hi3 => ?_, Or.inr ⟨by rw [List.length_append]; exact Nat.lt_of_lt_of_le p1 (Nat.le_add_right _ _), p2, rfl⟩⟩
      rw [gD_app (by omega)]
      exact h1 i (by omega) hi3
theorem k_105 {c : Int32} (hd : 1 ≤ d) (hl : out.length < 100000) (hT : TR T out) (h : ∀ T', fq T T' → TR T' (out ++ [c]) → K T' none) : CS xs d 105 T [.ref 31, .int c] K := by
  obtain ⟨d, rfl⟩ := cs_d hd
  obtain ⟨h1, h2⟩ := hT
  refine c_105 ⟨fun g => h _ ⟨fun c q1 q2 => us_ne q1, fun k hk => ?_⟩ ⟨?_, fun i hi hi3 => ?_⟩, fun g => ?_⟩
  · show upd (T 31) 13 _ k = T 31 k
    exact upd_n hk
  · show T 31 13 + 1 = _
    rw [h1, nI_1, List.length_append]
    rfl
  · show T 42 i = _
    rw [h1] at g
    have : 300 ≤ out.length := (nI_leI (a := 300) (by omega) (by omega)).mp g
    rw [gD_app (by omega)]
    exact h2 i (by omega) hi3
  · rw [h1] at g ⊢
    have hlt : out.length < 300 := by
      rcases Nat.lt_or_ge out.length 300 with hh | hh
      · exact hh
      · exact absurd (nI_le (a := 300) hh (by omega)) g
    rw [nI_1]
    refine ⟨out.length, hlt, rfl, h _ ⟨fun c q1 q2 => by rw [us_ne q1, us_ne q2], fun k hk => ?_⟩ ⟨?_, fun i hi hi3 => ?_⟩⟩
    · show upd (T 31) 13 _ k = T 31 k
      exact upd_n hk
    · show nI (out.length + 1) = _
      rw [List.length_append]
      rfl
    · show upd (T 42) out.length c i = _
      rw [List.length_append] at hi
      have hi : i < out.length + 1 := hi
      by_cases e : i = out.length
      · rw [e, upd_s, gD_last]
      · rw [upd_n e, gD_app (by omega)]
        exact h2 i (by omega) hi3
theorem dig {m u : Nat} (hm : m < 100000) (hu : u < 100000) (h0 : 0 < u) : 48 + (nI m / nI u - nI m / nI u / 10 * 10) = nI (48 + m / u % 10) := by
  rw [pk_div (by omega) h0 (by omega)]
  have h1 : m / u < 100000 := Nat.lt_of_le_of_lt (Nat.div_le_self _ _) hm
  have h2 := pk_rem (a := m / u) (d := 10) (by omega) (by omega) (by omega)
  rw [show (10 : Int32) = nI 10 from rfl, h2, show (48 : Int32) = nI 48 from rfl, nI_add]
theorem lp_59 {m : Nat} (hd : 2 ≤ d) (hm : m < 100000) : ∀ (f u : Nat) (T : Sv) (out : List Int32), u < 10 ^ f → u < 100000 → TC T out → (∀ T', fc T T' → TC T' (out ++ dl m f u) → K T' none) → R_59_51 xs d K (nI m) (nI u) T := by
  intro f
  induction f with
  | zero =>
    intro u T out hu hu5 hT h
    have hu0 : u = 0 := by simpa using hu
    subst hu0
    refine h_59_51 ⟨fun _ => ?_, fun g => absurd (by decide) g⟩
    have := h T fc.rf
    rw [show dl m 0 0 = [] from rfl, List.append_nil] at this
    exact this hT
  | succ f ih =>
    intro u T out hu hu5 hT h
    by_cases hu0 : u = 0
    · subst hu0
      refine h_59_51 ⟨fun _ => ?_, fun g => absurd (by decide) g⟩
      have h2 := h T fc.rf
      rw [show dl m (f + 1) 0 = [] from rfl, List.append_nil] at h2
      exact h2 hT
    · have hpos : 0 < u := Nat.pos_of_ne_zero hu0
      refine h_59_51 ⟨fun g => absurd g (nI_nle hpos (by omega)), fun _ => ⟨nI_ne0 hpos (by omega), ?_⟩⟩
      have hmod : m / u % 10 < 10 := Nat.mod_lt _ (by omega)
      rw [dig hm hu5 hpos, ch_nI (by omega), show nI u / 10 = nI (u / 10) from pk_div (d := 10) (by omega) (by omega) (by omega)]
      refine k_60 hd (by omega) (by omega) hT (fun T' hF hT' => ⟨rfl, ih (u / 10) T' _ (by rw [Nat.pow_succ] at hu; omega) (by omega) hT' (fun T'' hF' hT'' => h T'' (hF.tr hF') ?_)⟩)
      rw [show dl m (f + 1) u = nI (48 + m / u % 10) :: dl m f (u / 10) from if_neg hu0]
      rw [List.append_assoc] at hT''
      exact hT''
theorem lp_106 {m : Nat} (hd : 1 ≤ d) (hm : m < 100000) : ∀ (f u : Nat) (T : Sv) (out : List Int32), u < 10 ^ f → u < 100000 → out.length + f < 100000 → TR T out → (∀ T', fq T T' → TR T' (out ++ dl m f u) → K T' none) → R_106_71 xs d K (nI m) (nI u) T := by
  intro f
  induction f with
  | zero =>
    intro u T out hu hu5 hl hT h
    have hu0 : u = 0 := by simpa using hu
    subst hu0
    refine h_106_71 ⟨fun _ => ?_, fun g => absurd (by decide) g⟩
    have := h T fq.rf
    rw [show dl m 0 0 = [] from rfl, List.append_nil] at this
    exact this hT
  | succ f ih =>
    intro u T out hu hu5 hl hT h
    by_cases hu0 : u = 0
    · subst hu0
      refine h_106_71 ⟨fun _ => ?_, fun g => absurd (by decide) g⟩
      have h2 := h T fq.rf
      rw [show dl m (f + 1) 0 = [] from rfl, List.append_nil] at h2
      exact h2 hT
    · have hpos : 0 < u := Nat.pos_of_ne_zero hu0
      refine h_106_71 ⟨fun g => absurd g (nI_nle hpos (by omega)), fun _ => ⟨nI_ne0 hpos (by omega), ?_⟩⟩
      have hmod : m / u % 10 < 10 := Nat.mod_lt _ (by omega)
      rw [dig hm hu5 hpos, show nI u / 10 = nI (u / 10) from pk_div (d := 10) (by omega) (by omega) (by omega)]
      refine k_105 hd (by omega) hT (fun T' hF hT' => ⟨rfl, ih (u / 10) T' _ (by rw [Nat.pow_succ] at hu; omega) (by omega) (by rw [List.length_append]; show out.length + 1 + f < 100000; omega) hT' (fun T'' hF' hT'' => h T'' (hF.tr hF') ?_)⟩)
      rw [show dl m (f + 1) u = nI (48 + m / u % 10) :: dl m f (u / 10) from if_neg hu0]
      rw [List.append_assoc] at hT''
      exact hT''
theorem un_lt (m : Nat) : un m < 100000 ∧ un m < 10 ^ 5 ∧ 0 < un m := by
  unfold un
  split
  · decide
  · split
    · decide
    · split
      · decide
      · split <;> decide
theorem lp_59_26 {m : Nat} (hd : 2 ≤ d) (hm : m < 100000) (hT : TC T out) (h : ∀ T', fc T T' → TC T' (out ++ dl m 5 (un m)) → K T' none) : R_59_26 xs d K (nI m) 1 1 T := by
  have go : ∀ u, u = un m → R_59_51 xs d K (nI m) (nI u) T := fun u hu => lp_59 hd hm 5 u T out (by rw [hu]; exact (un_lt m).2.1) (by rw [hu]; exact (un_lt m).1) hT (fun T' q1 q2 => h T' q1 (by rw [hu] at q2; exact q2))
  have dv : ∀ u, 0 < u → u < 100000 → nI m / nI u = nI (m / u) := fun u h1 h2 => pk_div (by omega) h1 (by omega)
  have st : ∀ (k u : Nat), k < 5 → 0 < u → u < 100000 → (m / u < 10 → u = un m) → (¬ m / u < 10 → R_59_26 xs d K (nI m) (nI (u * 10)) (nI (k + 1)) T) → R_59_26 xs d K (nI m) (nI u) (nI k) T := by
    intro k u hk hu hu5 h1 h2
    refine h_59_26 ⟨fun g => absurd g (nI_ge (b := 5) hk (by decide)), fun _ => ⟨nI_ne0 hu (by omega), ?_⟩⟩
    rw [dv u hu hu5]
    have hq : m / u < 100000 := Nat.lt_of_le_of_lt (Nat.div_le_self _ _) hm
    refine ⟨fun g => go u (h1 ((nI_ltI (b := 10) (by omega) (by omega)).mp g)), fun g => ?_⟩
    rw [show nI u * 10 = nI (u * 10) from pk_mul u 10, nI_1]
    exact h2 (fun hh => g (nI_lt (b := 10) hh (by decide)))
  have f5 : ¬ m / 1000 < 10 → R_59_26 xs d K (nI m) (nI 10000) (nI 5) T := by
    intro hh
    refine h_59_26 ⟨fun _ => go 10000 ?_, fun g => absurd (by decide) g⟩
    unfold un
    rw [if_pos (by omega)]
  refine st 1 1 (by omega) (by omega) (by omega) (fun hh => ?_) (fun hh => st 2 10 (by omega) (by omega) (by omega) (fun h2 => ?_) (fun h2 => st 3 100 (by omega) (by omega) (by omega) (fun h3 => ?_) (fun h3 => st 4 1000 (by omega) (by omega) (by omega) (fun h4 => ?_) f5)))
  · unfold un
    rw [if_neg (by omega), if_neg (by omega), if_neg (by omega), if_neg (by omega)]
  · unfold un
    rw [if_neg (by omega), if_neg (by omega), if_neg (by omega), if_pos (by omega)]
  · unfold un
    rw [if_neg (by omega), if_neg (by omega), if_pos (by omega)]
  · unfold un
    rw [if_neg (by omega), if_pos (by omega)]
theorem lp_106_21 {m : Nat} (hd : 1 ≤ d) (hm : m < 100000) (hl : out.length + 5 < 100000) (hT : TR T out) (h : ∀ T', fq T T' → TR T' (out ++ dl m 5 (un m)) → K T' none) : R_106_21 xs d K (nI m) T := by
  have go : ∀ u, u = un m → R_106_71 xs d K (nI m) (nI u) T := fun u hu => lp_106 hd hm 5 u T out (by rw [hu]; exact (un_lt m).2.1) (by rw [hu]; exact (un_lt m).1) hl hT (fun T' q1 q2 => h T' q1 (by rw [hu] at q2; exact q2))
  have le : ∀ c, c < 100000 → (nI m ≤ nI c ↔ m ≤ c) := fun c hc => nI_leI (by omega) (by omega)
  refine h_106_21 ⟨fun g1 => ⟨fun g2 => ⟨fun g3 => ⟨fun g4 => go 1 ?_, fun g4 => go 10 ?_⟩, fun g3 => go 100 ?_⟩, fun g2 => go 1000 ?_⟩, fun g1 => go 10000 ?_⟩
  · have q1 := (le 9999 (by omega)).mp g1
    have q2 := (le 999 (by omega)).mp g2
    have q3 := (le 99 (by omega)).mp g3
    have q4 := (le 9 (by omega)).mp g4
    unfold un
    rw [if_neg (by omega), if_neg (by omega), if_neg (by omega), if_neg (by omega)]
  · have q1 := (le 9999 (by omega)).mp g1
    have q2 := (le 999 (by omega)).mp g2
    have q3 := (le 99 (by omega)).mp g3
    have q4 : ¬ m ≤ 9 := fun hh => g4 ((le 9 (by omega)).mpr hh)
    unfold un
    rw [if_neg (by omega), if_neg (by omega), if_neg (by omega), if_pos (by omega)]
  · have q1 := (le 9999 (by omega)).mp g1
    have q2 := (le 999 (by omega)).mp g2
    have q3 : ¬ m ≤ 99 := fun hh => g3 ((le 99 (by omega)).mpr hh)
    unfold un
    rw [if_neg (by omega), if_neg (by omega), if_pos (by omega)]
  · have q1 := (le 9999 (by omega)).mp g1
    have q2 : ¬ m ≤ 999 := fun hh => g2 ((le 999 (by omega)).mpr hh)
    unfold un
    rw [if_neg (by omega), if_pos (by omega)]
  · have q1 : ¬ m ≤ 9999 := fun hh => g1 ((le 9999 (by omega)).mpr hh)
    unfold un
    rw [if_pos (by omega)]
/-- a number between -99999 and 99999: its size -/
theorem sz_v {v : Int32} (h1 : -99999 ≤ v) (h2 : v ≤ 99999) : (0 ≤ v ∧ ¬ v < 0 ∧ v = nI v.toInt.natAbs ∧ v.toInt.natAbs < 100000) ∨ (¬ 0 ≤ v ∧ v < 0 ∧ -v = nI v.toInt.natAbs ∧ v.toInt.natAbs < 100000) := by
  have e1 := ti_le h1
  have e2 := ti_le h2
  rw [show (-99999 : Int32).toInt = -99999 from by decide] at e1
  rw [show (99999 : Int32).toInt = 99999 from by decide] at e2
  rcases Int.lt_or_le v.toInt 0 with h | h
  · have hv : v < 0 := Int32.lt_iff_toInt_lt.mpr (by rw [Int32.toInt_zero]; exact h)
    have e3 : v = -nI v.toInt.natAbs := Int32.toInt_inj.mp (by rw [sb_negT (by omega)]; omega)
    refine Or.inr ⟨Int32.not_le.mpr hv, hv, ?_, by omega⟩
    have h3 := congrArg (fun x => -x) e3
    have h4 : -v = - -nI v.toInt.natAbs := h3
    rw [h4, Int32.neg_neg]
  · have hv : ¬ v < 0 := fun hh => by
      have := Int32.lt_iff_toInt_lt.mp hh
      rw [Int32.toInt_zero] at this
      omega
    exact Or.inl ⟨Int32.not_lt.mp hv, hv, nI_of_toInt (by omega), by omega⟩
theorem k_59 {v : Int32} (hd : 3 ≤ d) (h1 : -99999 ≤ v) (h2 : v ≤ 99999) (hT : TC T out) (h : ∀ T', fc T T' → TC T' (out ++ dg v) → K T' none) : CS xs d 59 T [.ref 21, .int v] K := by
  obtain ⟨d, rfl⟩ := cs_d (d := d) (by omega)
  rcases sz_v h1 h2 with ⟨p1, p2, p3, p4⟩ | ⟨p1, p2, p3, p4⟩
  · refine c_59 ⟨fun _ => h_59_10 ⟨fun _ => ?_, fun g => absurd p1 g⟩, fun g => absurd p1 g⟩
    have e : dg v = dl v.toInt.natAbs 5 (un v.toInt.natAbs) := by
      unfold dg
      rw [if_neg p2]
      rfl
    rw [e] at h
    rw [p3]
    exact lp_59_26 (by omega) p4 hT h
  · refine c_59 ⟨fun g => absurd g p1, fun _ => ?_⟩
    have e : dg v = 45 :: dl v.toInt.natAbs 5 (un v.toInt.natAbs) := by
      unfold dg
      rw [if_pos p2]
      rfl
    rw [e] at h
    refine k_60 (q := 45) (by omega) (by omega) (by omega) hT (fun T' hF hT' => ⟨rfl, h_59_10 ⟨fun g => absurd g p1, fun _ => ?_⟩⟩)
    rw [p3]
    refine lp_59_26 (by omega) p4 hT' (fun T'' hF' hT'' => h T'' (hF.tr hF') ?_)
    rw [List.append_assoc] at hT''
    exact hT''
theorem k_106 {v : Int32} (hd : 2 ≤ d) (h1 : -99999 ≤ v) (h2 : v ≤ 99999) (hl : out.length + 6 < 100000) (hT : TR T out) (h : ∀ T', fq T T' → TR T' (out ++ dg v) → K T' none) : CS xs d 106 T [.ref 31, .int v] K := by
  obtain ⟨d, rfl⟩ := cs_d (d := d) (by omega)
  rcases sz_v h1 h2 with ⟨p1, p2, p3, p4⟩ | ⟨p1, p2, p3, p4⟩
  · refine c_106 ⟨fun _ => ⟨fun _ => ?_, fun g => absurd p1 g⟩, fun g => absurd p1 g⟩
    have e : dg v = dl v.toInt.natAbs 5 (un v.toInt.natAbs) := by
      unfold dg
      rw [if_neg p2]
      rfl
    rw [e] at h
    rw [p3]
    exact lp_106_21 (by omega) p4 (by omega) hT h
  · refine c_106 ⟨fun g => absurd g p1, fun _ => ⟨fun g => absurd g p1, fun _ => ?_⟩⟩
    have e : dg v = 45 :: dl v.toInt.natAbs 5 (un v.toInt.natAbs) := by
      unfold dg
      rw [if_pos p2]
      rfl
    rw [e] at h
    refine k_105 (by omega) (by omega) hT (fun T' hF hT' => ⟨rfl, ?_⟩)
    rw [p3]
    refine lp_106_21 (by omega) p4 (by rw [List.length_append]; show out.length + 1 + 5 < 100000; omega) hT' (fun T'' hF' hT'' => h T'' (hF.tr hF') ?_)
    rw [List.append_assoc] at hT''
    exact hT''
end PU
