/-! the law's loop, out of its cases -/
def op_ok (w : (Nat × (Nat → Int32)) → (Int32 → Sv → Prop) → Int32 → Sv → Prop) : Prop := ∀ (xs : Nat × (Nat → Int32)) (R : Int32 → Sv → Prop) (S : Sv) (i : Nat), Inv S → i + 6 ≤ xs.1 → (∀ S', Inv S' → R (nI i + 6) S') → w xs R (nI i) S
theorem law_go (h10 : op_ok w_law_10) (h11 : op_ok w_law_11) (h12 : op_ok w_law_12) (h17 : op_ok w_law_17) {xs : Nat × (Nat → Int32)} (hn : xs.1 ≤ 3072) : ∀ (m i : Nat) (S : Sv), i ≤ xs.1 + 6 → xs.1 + 6 ≤ i + m → Inv S → RL xs 18 [some (.retAddr 0), some (.ref 0), some (.ref 31), some (.int (nI i))] [] S := by
  intro m
  induction m with
  | zero =>
    intro i S h1 h2 hI
    refine h_law (by omega) ⟨fun _ => trivial, fun hc => ?_⟩
    exfalso
    have e1 := ti_ge hc
    rw [show nI xs.1 - 6 = nI xs.1 - nI 6 from rfl, pk_sub_toInt (by omega) (by omega), nI_toInt (by omega)] at e1
    omega
  | succ m ih =>
    intro i S h1 h2 hI
    refine h_law (by omega) ⟨fun _ => trivial, fun hc => ?_⟩
    have hi : i + 6 ≤ xs.1 := by
      have e1 := ti_ge hc
      rw [show nI xs.1 - 6 = nI xs.1 - nI 6 from rfl, pk_sub_toInt (by omega) (by omega), nI_toInt (by omega)] at e1
      omega
    have hR : ∀ S', Inv S' → RL xs 18 [some (.retAddr 0), some (.ref 0), some (.ref 31), some (.int (nI i + 6))] [] S' := by
      intro S' hI'
      rw [show nI i + 6 = nI (i + 6) from nI_add i 6]
      exact ih (i + 6) S' (by omega) (by omega) hI'
    exact ⟨i, by omega, rfl, fun _ => op_0 hI hi hR, fun _ => op_1 hI hi hR, fun _ => op_2 hI hi hR, fun _ => op_3 hI hR, fun _ => op_4 hI hR, fun _ => op_5 hI hi hR, fun _ => op_6 hI hi hR, fun _ => op_7 hI hi hR, fun _ => op_8 hI hi hR, fun _ => op_9 hI hi hR, fun _ => h10 xs _ S i hI hi hR, fun _ => h11 xs _ S i hI hi hR, fun _ => h12 xs _ S i hI hi hR, fun _ => op_13 hI hi hR, fun _ => op_14 hI hR, fun _ => op_15 hI hR, fun _ => op_16 hI hi hR, fun _ => h17 xs _ S i hI hi hR, fun _ => op_18 hI hR, fun _ => op_19 hI hi hR, fun _ => hR S hI⟩
/-- OPEN in the four cases that are left: reachable, alike, write, read -/
theorem st_open (h10 : op_ok w_law_10) (h11 : op_ok w_law_11) (h12 : op_ok w_law_12) (h17 : op_ok w_law_17) : st_pure := by
  intro L xs hL
  exact st_from (law_go h10 h11 h12 h17 (xs := (L, xs)) hL (L + 6) 0 S0 (Nat.zero_le _) (by show L + 6 ≤ 0 + (L + 6); omega) Inv_S0)
