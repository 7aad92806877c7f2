/-! the small machine's world in the machine -/
def mm_KK (D : va_G) (dA : FieldType → ClassId) (cl : List vw_C) (nF : List mm_F) (nM : List mm_N) (U : State) : Prop :=
  va_K D cl [(dA .int, .int), (dA .boolean, .boolean), (dA .char, .char)] U ∧ (∀ q ∈ nF, va_Nw (.fieldLinkNest q.1 q.2.1 q.2.2.1 q.2.2.2.1 q.2.2.2.2.1 q.2.2.2.2.2) U) ∧ (∀ q ∈ nM, va_Nw (.methodLinkNest q.1 q.2.1 q.2.2.1 q.2.2.2) U)
theorem mm_KK.warm {D : va_G} {dA : FieldType → ClassId} {cl : List vw_C} {nF : List mm_F} {nM : List mm_N} {s U : State} (hW : s.WarmedH U.vm) (h : mm_KK D dA cl nF nM s) : mm_KK D dA cl nF nM U :=
  ⟨va_K.moved hW.alike h.1, fun q hq => va_Nw.warmF hW (h.2.1 q hq), fun q hq => va_Nw.warmM hW (h.2.2 q hq)⟩
theorem mm_KK.same {D : va_G} {dA : FieldType → ClassId} {cl : List vw_C} {nF : List mm_F} {nM : List mm_N} {s U : State} (hv : s.vm = U.vm) (h : mm_KK D dA cl nF nM s) : mm_KK D dA cl nF nM U :=
  ⟨va_K.moved (by rw [hv]; exact Vm.Alike.refl _) h.1, fun q hq => va_Nw.same rfl hv (h.2.1 q hq), fun q hq => va_Nw.same rfl hv (h.2.2 q hq)⟩
def mm_Pc (D : va_G) (dA : FieldType → ClassId) (cl : List vw_C) (nF : List mm_F) (nM : List mm_N) (b : Nat) (xs : Nat × (Nat → Int32)) (φ : Nat → Nat) (h : mm_H) (as : List Value) (sz : Nat) : Array Value → State → Prop :=
  va_Pc (as.map (mm_v b φ)) (fun U => U.heap.size = sz ∧ va_P D cl (mm_w b φ dA h) U.heap ∧ mm_KK D dA cl nF nM U ∧ va_D (fun _ => True) (mm_w b φ dA h) ∧ va_X b xs.1 xs.2 U U.heap ∧ b < U.heap.size ∧ ∀ (k : Nat) (q : Nat × va_E), (mm_w b φ dA h)[k]? = some q → q.1 ≠ b)
theorem mm_Pc_blind {D : va_G} {dA : FieldType → ClassId} {cl : List vw_C} {nF : List mm_F} {nM : List mm_N} {b : Nat} {xs : Nat × (Nat → Int32)} {φ : Nat → Nat} {h : mm_H} {as : List Value} {sz : Nat} : FrameBlind (mm_Pc D dA cl nF nM b xs φ h as sz) := by
  intro a U g mk q
  obtain ⟨h0, h1, h2, h3, h4, h5, h6, h7⟩ := q
  exact ⟨h0, h1, h2, mm_KK.same (s := U) (U := U.calling g mk a) rfl h3, h4, va_X.moved (u := U) (U := U.calling g mk a) (Vm.Alike.refl U.vm) h5, h6, h7⟩
def mm_Qc (D : va_G) (dA : FieldType → ClassId) (cl : List vw_C) (b : Nat) (φ : Nat → Nat) (h : mm_H) (sz mc : Nat) (P : mm_H → Option Value → Prop) : Array Value → State → Outcome → State → Prop := fun _ st oc t =>
  ∃ (h' : mm_H) (r : Option Value) (φ' : Nat → Nat), (∀ k, k < h.length → φ' k = φ k) ∧ (mc = 0 → φ' = φ) ∧ h.length ≤ h'.length ∧ P h' r ∧ oc = .returned (r.map (mm_v b φ')) ∧ va_P D cl (mm_w b φ' dA h') t.heap ∧ va_D (va_A (mm_w b φ dA h) sz) (mm_w b φ' dA h') ∧ va_F (va_A (mm_w b φ dA h) sz) st t
def mm_rm (d : Nat) (M : mm_M) : Room := { frames := d, cells := mm_mc M, slots := mm_ms M, locals := 60 * d }
section MG
variable {p : Program} {l : Launch} {e : Env} {R : Room} {s : State} {m : MethodId} {args : Array Value} {below : List Frame} {meth : Method} {c : Code} {Q : State → Prop}
/-- from a state of the small machine the machine comes to Q -/
def mm_Go (p : Program) (l : Launch) (e : Env) (R : Room) (s : State) (m : MethodId) (args : Array Value) (below : List Frame) (meth : Method) (c : Code) (Q : State → Prop) (D : va_G) (dA : FieldType → ClassId) (cl : List vw_C) (b : Nat) (A : Nat → Prop) (φ0 : Nat → Nat) (n0 nL : Nat) : mm_K := fun pc L st h kc ks =>
  ∀ (φ : Nat → Nat) (H : Heap) (locs : List Loc) (ls : Array Slot), (∀ k, k < n0 → φ k = φ0 k) → (kc = 0 → φ = φ0) → n0 ≤ h.length → kc ≤ R.cells → ks ≤ R.slots → va_P D cl (mm_w b φ dA h) H → va_D A (mm_w b φ dA h) → va_S A s.heap H locs → lv_has ls nL (mm_l b φ L) → W p l e R s m args below meth c H locs kc ks Q (F0 m pc ls (st.map (mm_v b φ)))
theorem mm_callg {H : Heap} {locs : List Loc} {cells slots mc ms pc : Nat} {ls : Array Slot} {st0 rest : List Value} {Qa : State → Outcome → State → Prop} {free : Addr → Prop} (hr : va_Run p l e R s m args below meth c H locs cells slots mc ms (F0 m pc ls st0) rest Qa free)
    (kk : ∀ (v : Option Value) (st₀ t : State) (H1 : Heap) (Ls : List Loc), st₀.heap = H → Qa st₀ (.returned v) t → t.heap = H1 → (∀ q ∈ Ls, free q.base) → W p l e R s m args below meth c H1 (locs ++ Ls) (cells + mc) (slots + ms) Q (F0 m (pc + 3) ls (v.toList ++ rest))) : W p l e R s m args below meth c H locs cells slots Q (F0 m pc ls st0) := by
  intro T hT X
  obtain ⟨v, st₀, t, T', L, h0, X', hL, e1, e2, hq, st⟩ := hr T hT X
  obtain ⟨t2, a1, b1⟩ := kk v st₀ t T'.heap L h0 hq e1.symm hL T' rfl X'
  exact ⟨t2, st t2 a1, b1⟩
theorem mm_back {D : va_G} {dA : FieldType → ClassId} {cl : List vw_C} {b : Nat} {A : Nat → Prop} {φ0 φ : Nat → Nat} {n0 nL : Nat} {H : Heap} {locs : List Loc} {kc ks mc ms pc : Nat} {ls : Array Slot} {st0 rest : List Value} {h : mm_H} {L : mm_L} {av : Array Value} {Pk : mm_H → Option Value → Prop}
    (hr : va_Run p l e R s m args below meth c H locs kc ks mc ms (F0 m pc ls st0) (rest.map (mm_v b φ)) (mm_Qc D dA cl b φ h H.size mc Pk av) (va_A (mm_w b φ dA h) H.size))
    (hA : ∀ q, s.heap.size ≤ q → A q) (hk1 : kc + mc ≤ R.cells) (hk2 : ks + ms ≤ R.slots) (hwf : mc = 0 ∨ (L.all (mm_wfo h.length) && rest.all (mm_wfv h.length)) = true)
    (f0 : ∀ k, k < n0 → φ k = φ0 k) (g0 : kc = 0 → φ = φ0) (hn : n0 ≤ h.length) (hD : va_D A (mm_w b φ dA h)) (hS : va_S A s.heap H locs) (hl : lv_has ls nL (mm_l b φ L))
    (hgo : ∀ h' v, Pk h' v → mm_Go p l e R s m args below meth c Q D dA cl b A φ0 n0 nL (pc + 3) L (v.toList ++ rest) h' (kc + mc) (ks + ms)) : W p l e R s m args below meth c H locs kc ks Q (F0 m pc ls st0) := by
  refine mm_callg hr fun v st₀ t H1 Ls e0 hq e1 hL => ?_
  obtain ⟨h', r, φ', f1, f2, f3, hPk, hv, hP1, hD1, hF1, hF2⟩ := hq
  have hv : v = r.map (mm_v b φ') := Outcome.returned.inj hv
  subst hv
  rw [e1] at hP1 hF1 hF2
  rw [e0] at hF1 hF2
  have hfr : ∀ q, va_A (mm_w b φ dA h) H.size q → A q := fun q hq => by
    rcases hq with ⟨k, e, hk⟩ | hq
    · exact hD.2 k _ hk
    · exact hA q (Nat.le_trans hS.1 hq)
  have hrest : rest.map (mm_v b φ) = rest.map (mm_v b φ') := by
    rcases hwf with h0 | h0
    · rw [f2 h0]
    · exact (mm_vs_ext (Bool.and_eq_true_iff.mp h0).2 f1).symm
  have hl' : lv_has ls nL (mm_l b φ' L) := by
    rcases hwf with h0 | h0
    · rw [f2 h0]; exact hl
    · exact mm_lsub hl (mm_l_ext (Bool.and_eq_true_iff.mp h0).1 f1)
  have hst : (r.map (mm_v b φ')).toList ++ rest.map (mm_v b φ) = (r.toList ++ rest).map (mm_v b φ') := by
    rw [hrest, List.map_append]
    cases r <;> rfl
  rw [hst]
  refine hgo h' r hPk φ' H1 (locs ++ Ls) ls (fun k hk => (f1 k (Nat.lt_of_lt_of_le hk hn)).trans (f0 k hk)) (fun hz => ?_) (Nat.le_trans hn f3) hk1 hk2 hP1 (hD1.weaken (fun k q _ hq => hfr q.1 hq)) ⟨Nat.le_trans hS.1 hF1, fun q h1 h2 => ?_, fun q hq => ?_⟩ hl'
  · rw [f2 (by omega), g0 (by omega)]
  · rw [hF2 q (Nat.lt_of_lt_of_le h1 hS.1) (fun z => h2 (hfr q z))]
    exact hS.2.1 q h1 h2
  · rcases List.mem_append.mp hq with hq | hq
    · exact hS.2.2 q hq
    · exact hfr _ (hL q hq)
end MG
