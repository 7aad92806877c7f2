/-! the class replays: its pieces against the same steps -/
def RQL (S T V : Sv) : Prop := (∀ a, ¬ a ∈ [8, 9, 10, 11, 28, 29, 30] → T a = S a) ∧ (∀ a, a ∈ [32, 33, 34, 35, 36, 37, 41] → V a = S a) ∧ T 8 4 = V 31 6 ∧ T 9 = V 38 ∧ T 10 = V 39 ∧ T 11 = V 40 ∧ (∀ i, i < 100 → T 29 i = V 51 i) ∧ T 30 = V 52 ∧ T 28 4 = V 31 34
def TB (S : Sv) : Prop := S 32 = S 2 ∧ S 33 = S 3 ∧ S 34 = S 4 ∧ S 35 = S 5 ∧ (∀ k, k < 4 → S 2 k = 0 ∨ S 2 k = 1) ∧ ∀ k, k < 4 → S 2 k = 1 → ∀ i, i < 3 → S 36 (3 * k + i) = S 6 (3 * k + i) ∧ S 37 (3 * k + i) = S 7 (3 * k + i)
section RP
variable {xs : Nat × (Nat → Int32)} {d : Nat} {S T V : Sv} {K : Sv → Option Value → Prop} {z f : Nat}
theorem RQL.pl (h : RQL S T V) (x : Int32) : RQL S (us T 28 5 x) V := by
  obtain ⟨h1, h2, h3, h4, h5, h6, h7, h8, h9⟩ := h
  exact ⟨fun a ha => by rw [us_ne (fun e => ha (by rw [e]; decide))]; exact h1 a ha, h2, h3, h4, h5, h6, h7, h8, h9⟩
theorem RQL.ct {k : Nat} (h : RQL S T V) (hk : k ≠ 6) (hk2 : k ≠ 34) (x : Int32) : RQL S T (us V 31 k x) := by
  obtain ⟨h1, h2, h3, h4, h5, h6, h7, h8, h9⟩ := h
  refine ⟨h1, fun a ha => by rw [us_ne (fun e => by rw [e] at ha; exact absurd ha (by decide))]; exact h2 a ha, ?_, h4, h5, h6, h7, h8, ?_⟩
  · show T 8 4 = upd (V 31) k x 6
    rw [upd_n (Ne.symm hk)]; exact h3
  · show T 28 4 = upd (V 31) k x 34
    rw [upd_n (Ne.symm hk2)]; exact h9
theorem RQL.st {a k : Nat} (h : RQL S T V) (ha : a = 48 ∨ a = 49 ∨ a = 50) (x : Int32) : RQL S T (us V a k x) := by
  obtain ⟨h1, h2, h3, h4, h5, h6, h7, h8, h9⟩ := h
  have e : ∀ b, b ≠ a → us V a k x b = V b := fun b hb => us_ne hb
  refine ⟨h1, fun b hb => ?_, by rw [e 31 (by omega)]; exact h3, by rw [e 38 (by omega)]; exact h4, by rw [e 39 (by omega)]; exact h5, by rw [e 40 (by omega)]; exact h6, by rw [e 51 (by omega)]; exact h7, by rw [e 52 (by omega)]; exact h8, by rw [e 31 (by omega)]; exact h9⟩
  rw [e b (fun e2 => by rw [e2] at hb; rcases ha with rfl | rfl | rfl <;> exact absurd hb (by decide))]
  exact h2 b hb
theorem RQL.vs (hT : TB S) (h : RQL S T V) (hV : VR V z) : VS T z := by
  obtain ⟨t1, t2, t3, t4, t5, t6⟩ := hT
  obtain ⟨h1, h2, h3, h4, h5, h6, h7, h8, h9⟩ := h
  have hV : VI (V 32) (V 33) (V 34) (V 35) (V 36) (V 37) z (V 38) (V 39) (V 40) := hV
  rw [h2 32 (by decide), h2 33 (by decide), h2 34 (by decide), h2 35 (by decide), h2 36 (by decide), h2 37 (by decide), ← h4, ← h5, ← h6, t1, t2, t3, t4] at hV
  show VI (T 2) (T 3) (T 4) (T 5) (T 6) (T 7) z (T 9) (T 10) (T 11)
  rw [h1 2 (by decide), h1 3 (by decide), h1 4 (by decide), h1 5 (by decide), h1 6 (by decide), h1 7 (by decide)]
  obtain ⟨v1, v2, v3, v4, v5, v6, v7, v8, v9, v10⟩ := hV
  refine ⟨v1, v2, v3, v4, fun k i hk hi hd => ?_, v6, v7, v8, v9, v10⟩
  rw [← (t6 k hk hd i hi).1, ← (t6 k hk hd i hi).2]
  exact v5 k i hk hi hd
theorem k_76 {x : Int32} (hd : 1 ≤ d) (hR : RQL S T V) (h34 : V 31 34 = nI f) (hf : f < 300) (h : ∀ T', RQL S T' (vF V x) → T' 28 5 = T 28 5 → K T' none) : CS xs d 76 T [.ref 28, .int x] K := by
  obtain ⟨d, rfl⟩ := cs_d hd
  obtain ⟨h1, h2, h3, h4, h5, h6, h7, h8, h9⟩ := hR
  have e4 : T 28 4 = nI f := h9.trans h34
  refine c_76 ?_
  unfold w_76
  rw [e4, nI_1]
  refine ⟨fun g => absurd g (nI_ge (b := 300) hf (by omega)), fun _ => ⟨f, hf, rfl, h _ ⟨fun a ha => ?_, fun a ha => ?_, ?_, h4, h5, h6, h7, ?_, ?_⟩ rfl⟩⟩
  · rw [us_ne (fun e => ha (by rw [e]; decide)), us_ne (fun e => ha (by rw [e]; decide))]; exact h1 a ha
  · unfold vF
    rw [us_ne (fun e => by rw [e] at ha; exact absurd ha (by decide)), us_ne (fun e => by rw [e] at ha; exact absurd ha (by decide))]; exact h2 a ha
  · exact h3
  · show upd (T 30) f x = upd (V 52) (cl (V 31 34)) x
    rw [h34, cl_nI (by omega), h8]
  · show nI (f + 1) = V 31 34 + 1
    rw [h34, nI_1]
/-- a number's statement -/
theorem k_35v {dep : Nat} {o l v x : Int32} (hd : 3 ≤ d) (hT : TB S) (hR : RQL S T V) (hD : DW V z f dep) (hf : f < 300) (ho : vtop V = o) (hl : V 31 28 = l) (hv : vv V = v) (hx : V 31 29 = x) (h : ∀ T', RQL S T' (vA V) → T' 28 5 = T 28 5 → K T' none) : CS xs d 35 T [.ref 8, .int o, .int (l - 120), .int v] (fun S7 v7 => ∃ r7 : Int32, v7 = some (.int r7) ∧ ((¬ r7 = 0 → (K S7 none)) ∧ (¬ (¬ r7 = 0) → (CS xs d 76 S7 [.ref 28, .int x] (fun S8 v8 => v8 = none ∧ (K S8 none)))))) := by
  have hz := VI.zb hD.1
  have hR' := hR
  obtain ⟨h1, h2, h3, h4, h5, h6, h7, h8, h9⟩ := hR
  obtain ⟨t1, t2, t3, t4, t5, t6⟩ := hT
  have hVS : VS T z := hR'.vs ⟨t1, t2, t3, t4, t5, t6⟩ hD.1
  have hs : T 8 4 = nI z := h3.trans hD.2.1
  have e6 : cl (V 31 6) = z := by rw [hD.2.1]; exact cl_nI (by omega)
  have eq : ∀ j a b, okN (T 3) (T 6) (T 7) z (T 9) o (l - 120) v j a b ↔ okN (V 33) (V 36) (V 37) z (V 38) o (l - 120) v j a b := by
    intro j a b
    unfold okN
    rw [h1 3 (by decide), h1 6 (by decide), h1 7 (by decide), h2 33 (by decide), h2 36 (by decide), h2 37 (by decide), t2, h4]
    constructor
    · rintro ⟨a1, a2, a3, a4, a5, a6, a7, a8, a9⟩
      have hd1 : S 2 a = 1 := by
        obtain ⟨k, hk, ek, hdk⟩ := VI.kd hD.1 j a1
        rw [← nI_inj (by omega) (by omega) (ek.symm.trans a6)]
        rw [h2 32 (by decide), t1] at hdk
        exact hdk
      rw [(t6 a a2 hd1 b a3).1, (t6 a a2 hd1 b a3).2]
      exact ⟨a1, a2, a3, a4, a5, a6, a7, a8, a9⟩
    · rintro ⟨a1, a2, a3, a4, a5, a6, a7, a8, a9⟩
      have hd1 : S 2 a = 1 := by
        obtain ⟨k, hk, ek, hdk⟩ := VI.kd hD.1 j a1
        rw [← nI_inj (by omega) (by omega) (ek.symm.trans a6)]
        rw [h2 32 (by decide), t1] at hdk
        exact hdk
      rw [(t6 a a2 hd1 b a3).1, (t6 a a2 hd1 b a3).2] at *
      exact ⟨a1, a2, a3, a4, a5, a6, a7, a8, a9⟩
  unfold vA at h
  rw [e6, ho, hl, hv, hx] at h
  refine k_35 (by omega) hVS hs (fun j a b hok => ⟨_, rfl, fun _ => ?_, fun hh => absurd (by decide) hh⟩) (fun hno => ⟨_, rfl, fun hh => absurd rfl hh, fun _ => ?_⟩)
  · rw [ifS_t ⟨j, a, b, (eq j a b).mp hok⟩, hok.2.2.2.1, hok.2.2.2.2.1, cl_nI (by have := hok.1; omega), cl_nI (by have := hok.2.2.1; omega)] at h
    refine h _ ⟨fun a ha => ?_, fun a ha => ?_, h3, h4, ?_, h6, h7, h8, h9⟩ rfl
    · rw [us_ne (fun e => ha (by rw [e]; decide))]; exact h1 a ha
    · rw [us_ne (fun e => by rw [e] at ha; exact absurd ha (by decide))]; exact h2 a ha
    · show upd (T 10) _ _ = upd (V 39) _ _
      rw [h5]
  · rw [ifS_f (fun hh => hno (by obtain ⟨j, a, b, hok⟩ := hh; exact ⟨j, a, b, (eq j a b).mpr hok⟩))] at h
    exact k_76 (by omega) hR' hD.2.2.1 hf (fun T' r' p' => ⟨rfl, h T' r' p'⟩)
/-- a link's statement -/
theorem k_36v {dep : Nat} {o l v x t : Int32} {g : Prop} (hd : 3 ≤ d) (hT : TB S) (hR : RQL S T V) (hD : DW V z f dep) (hf : f < 300) (ho : vtop V = o) (hl : V 31 28 = l) (hx : V 31 29 = x) (hg : (g ∧ v = t ∧ (t = -1 ∨ isO z t)) ∨ (¬ g ∧ v = -2)) (h : ∀ T', RQL S T' (vL V t g) → T' 28 5 = T 28 5 → K T' none) : CS xs d 36 T [.ref 8, .int o, .int (l - 112), .int v] (fun S4 v4 => ∃ r4 : Int32, v4 = some (.int r4) ∧ ((¬ r4 = 0 → (K S4 none)) ∧ (¬ (¬ r4 = 0) → (CS xs d 76 S4 [.ref 28, .int x] (fun S5 v5 => v5 = none ∧ (K S5 none)))))) := by
  have hz := VI.zb hD.1
  have hR' := hR
  obtain ⟨h1, h2, h3, h4, h5, h6, h7, h8, h9⟩ := hR
  have hVS : VS T z := hR'.vs hT hD.1
  obtain ⟨t1, t2, t3, t4, t5, t6⟩ := hT
  have hs : T 8 4 = nI z := h3.trans hD.2.1
  have e6 : cl (V 31 6) = z := by rw [hD.2.1]; exact cl_nI (by omega)
  have e4 : T 4 = V 34 := by rw [h1 4 (by decide), h2 34 (by decide), t3]
  have nv : ¬ g → v = -2 := fun hh => (hg.resolve_left (fun q => hh q.1)).2
  have n2 : ¬ ((-2 : Int32) = -1 ∨ isO z (-2)) := by
    rintro (e | ⟨j, hj, e⟩)
    · exact absurd e (by decide)
    · have h0 : (-2 : Int32) < 0 := by decide
      rw [e] at h0
      exact nI_pos (by omega) h0
  unfold vL at h
  rw [e6, ho, hl, hx] at h
  refine k_36 (by omega) hVS hs (fun j a b hok => ⟨_, rfl, fun _ => ?_, fun hh => absurd (by decide) hh⟩) (fun hno => ⟨_, rfl, fun hh => absurd rfl hh, fun _ => ?_⟩)
  · obtain ⟨o1, o2, o3, o4, o5, o6, o7, o8⟩ := hok
    have hgg : g := Classical.byContradiction (fun hh => by rw [nv hh] at o8; exact n2 o8)
    have ev : v = t := (hg.resolve_right (fun q => q.1 hgg)).2.1
    rw [h4] at o6
    rw [e4] at o7
    rw [ifS_t ⟨hgg, j, a, b, o1, o2, o3, o4, o5, o6, o7⟩, o4, o5, cl_nI (by omega), cl_nI (by omega)] at h
    refine h _ ⟨fun a ha => ?_, fun a ha => ?_, h3, h4, h5, ?_, h7, h8, h9⟩ rfl
    · rw [us_ne (fun e => ha (by rw [e]; decide))]; exact h1 a ha
    · rw [us_ne (fun e => by rw [e] at ha; exact absurd ha (by decide))]; exact h2 a ha
    · show upd (T 11) _ _ = upd (V 40) _ _
      rw [h6, ev]
  · rw [ifS_f ?_] at h
    · exact k_76 (by omega) hR' hD.2.2.1 hf (fun T' r' p' => ⟨rfl, h T' r' p'⟩)
    · rintro ⟨hgg, j, a, b, o1, o2, o3, o4, o5, o6, o7⟩
      have q := hg.resolve_right (fun q => q.1 hgg)
      exact hno ⟨j, a, b, o1, o2, o3, o4, o5, by rw [h4]; exact o6, by rw [e4]; exact o7, by rw [q.2.1]; exact q.2.2⟩
end RP
