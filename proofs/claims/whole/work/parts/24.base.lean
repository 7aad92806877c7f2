/-! numbers, truth values, and what a state means -/
noncomputable def b2 (P : Prop) : Int32 := @ite Int32 P (Classical.propDecidable P) 1 0
theorem b2_t {P : Prop} (h : P) : b2 P = 1 := if_pos h
theorem b2_f {P : Prop} (h : ¬ P) : b2 P = 0 := if_neg h
theorem b2_01 (P : Prop) : b2 P = 0 ∨ b2 P = 1 := by
  by_cases h : P
  · exact Or.inr (b2_t h)
  · exact Or.inl (b2_f h)
theorem b2_eq {P Q : Prop} (h : P ↔ Q) : b2 P = b2 Q := by
  rw [propext h]
theorem b2_0 {P : Prop} : b2 P = 0 ↔ ¬ P := by
  by_cases h : P
  · rw [b2_t h]; exact ⟨fun z => absurd z (by decide), fun z => absurd h z⟩
  · rw [b2_f h]; exact ⟨fun _ => h, fun _ => rfl⟩
theorem b2_n {P : Prop} : ¬ b2 P = 0 ↔ P := by
  rw [b2_0]
  exact ⟨fun h => Classical.byContradiction h, fun h z => z h⟩
theorem nI_of_toInt {x : Int32} {j : Nat} (h : x.toInt = (j : Int)) : x = nI j := by
  have h1 : x.toInt < 2 ^ 31 := Int32.toInt_lt x
  exact Int32.toInt_inj.mp (by rw [nI_toInt (by omega)]; exact h)
theorem nI_ofn {x : Int32} (h : 0 ≤ x.toInt) : x = nI x.toInt.toNat := nI_of_toInt (by omega)
/-- an index that was looked at from both sides -/
theorem in_n {x : Int32} {n : Nat} (hn : n < 2 ^ 31) (h0 : ¬ x < 0) (h1 : ¬ nI n ≤ x) : ∃ j : Nat, j < n ∧ x = nI j := by
  rcases pk_ix x hn with h | h | h
  · exact absurd h h0
  · exact absurd h h1
  · exact h
theorem nI_inj {a b : Nat} (ha : a < 2 ^ 31) (hb : b < 2 ^ 31) (h : nI a = nI b) : a = b := (nI_eq ha hb).mp h
theorem m3 (a b : Nat) : nI a * 3 + nI b = nI (a * 3 + b) := by
  rw [show (3 : Int32) = nI 3 from rfl, pk_mul, nI_add]
theorem m3' (a b : Nat) : 3 * nI a + nI b = nI (3 * a + b) := by
  rw [show (3 : Int32) = nI 3 from rfl, pk_mul, nI_add]
theorem m2 (a b : Nat) : nI a * 2 + nI b = nI (a * 2 + b) := by
  rw [show (2 : Int32) = nI 2 from rfl, pk_mul, nI_add]
theorem m2' (a b : Nat) : 2 * nI a + nI b = nI (2 * a + b) := by
  rw [show (2 : Int32) = nI 2 from rfl, pk_mul, nI_add]
theorem us_self (S : Sv) (c j : Nat) (v : Int32) : us S c j v c = upd (S c) j v := if_pos rfl
theorem us_ne {S : Sv} {c j a : Nat} {v : Int32} (h : a ≠ c) : us S c j v a = S a := if_neg h
theorem uf_self (S : Sv) (c : Nat) (f : Nat → Int32) : uf S c f c = f := if_pos rfl
theorem uf_ne {S : Sv} {c a : Nat} {f : Nat → Int32} (h : a ≠ c) : uf S c f a = S a := if_neg h
theorem upd_s {f : Nat → Int32} {k : Nat} {x : Int32} : upd f k x k = x := if_pos rfl
theorem upd_n {f : Nat → Int32} {k j : Nat} {x : Int32} (h : j ≠ k) : upd f k x j = f j := if_neg h
/-- what the tables of kinds and the rows of objects are (class and reference alike): defined, numbers, links, first, least, greatest; how many objects; kind, numbers, links -/
def VI (df nm lk fi le gr : Nat → Int32) (z : Nat) (kr nr lr : Nat → Int32) : Prop :=
  (∀ k, k < 4 → df k = 0 ∨ df k = 1) ∧ (∀ k, k < 4 → ∃ a, a ≤ 3 ∧ nm k = nI a) ∧ (∀ k, k < 4 → ∃ a, a ≤ 2 ∧ lk k = nI a) ∧ (∀ k, k < 4 → df k = 0 → nm k = 0 ∧ lk k = 0) ∧
  (∀ k i, k < 4 → i < 3 → df k = 1 → -99999 ≤ le (3 * k + i) ∧ le (3 * k + i) ≤ fi (3 * k + i) ∧ fi (3 * k + i) ≤ gr (3 * k + i) ∧ gr (3 * k + i) ≤ 99999) ∧
  (∀ k i, k < 4 → i < 3 → nm k ≤ nI i → fi (3 * k + i) = 0) ∧ z ≤ 24 ∧ (∀ o, o < z → ∃ k, k < 4 ∧ kr o = nI k ∧ df k = 1) ∧
  (∀ o i, o < z → i < 3 → -99999 ≤ nr (3 * o + i) ∧ nr (3 * o + i) ≤ 99999 ∧ ∀ k, k < 4 → kr o = nI k → nm k ≤ nI i → nr (3 * o + i) = 0) ∧
  (∀ o i, o < z → i < 2 → (lr (2 * o + i) = -1 ∨ ∃ t, t < z ∧ lr (2 * o + i) = nI t) ∧ ∀ k, k < 4 → kr o = nI k → lk k ≤ nI i → lr (2 * o + i) = -1)
/-- the class's state means what the reference's means -/
def Inv (S : Sv) : Prop := ∃ z n f : Nat,
  VI (S 2) (S 3) (S 4) (S 5) (S 6) (S 7) z (S 9) (S 10) (S 11) ∧ n ≤ 300 ∧ f ≤ 300 ∧
  (∀ k, k < 4 → S 2 k = 0 → ∀ i, i < 3 → S 5 (3 * k + i) = 0 ∧ S 6 (3 * k + i) = -1000 ∧ S 7 (3 * k + i) = 1000) ∧
  (S 32 = S 2 ∧ S 33 = S 3 ∧ S 34 = S 4 ∧ S 35 = S 5 ∧ ∀ k, k < 4 → S 2 k = 1 → ∀ i, i < 3 → S 36 (3 * k + i) = S 6 (3 * k + i) ∧ S 37 (3 * k + i) = S 7 (3 * k + i)) ∧
  (S 8 4 = nI z ∧ S 31 6 = nI z ∧ S 38 = S 9 ∧ S 39 = S 10 ∧ S 40 = S 11) ∧
  (S 19 1 = nI n ∧ S 31 11 = nI n ∧ S 41 = S 20 ∧ ∀ i, i < n → 32 ≤ S 20 i ∧ S 20 i ≤ 126) ∧
  (S 28 4 = nI f ∧ S 31 34 = nI f ∧ S 52 = S 30)
/-- what of a state the simulation speaks of -/
abbrev kp (c : Nat) : Prop := c ∈ [2, 3, 4, 5, 6, 7, 9, 10, 11, 20, 30, 32, 33, 34, 35, 36, 37, 38, 39, 40, 41, 52]
theorem Inv.of_same {S S' : Sv} (h : Inv S) (hc : ∀ c, kp c → S' c = S c) (h1 : S' 8 4 = S 8 4) (h2 : S' 31 6 = S 31 6) (h3 : S' 19 1 = S 19 1) (h4 : S' 31 11 = S 31 11) (h5 : S' 28 4 = S 28 4) (h6 : S' 31 34 = S 31 34) : Inv S' := by
  unfold Inv at h ⊢
  rw [hc 2 (by decide), hc 3 (by decide), hc 4 (by decide), hc 5 (by decide), hc 6 (by decide), hc 7 (by decide), hc 9 (by decide), hc 10 (by decide), hc 11 (by decide), hc 20 (by decide), hc 30 (by decide), hc 32 (by decide), hc 33 (by decide), hc 34 (by decide), hc 35 (by decide), hc 36 (by decide), hc 37 (by decide), hc 38 (by decide), hc 39 (by decide), hc 40 (by decide), hc 41 (by decide), hc 52 (by decide), h1, h2, h3, h4, h5, h6]
  exact h
theorem Inv_S0 : Inv S0 := by
  refine ⟨0, 0, 0, ⟨fun k hk => Or.inl rfl, fun k hk => ⟨0, by omega, rfl⟩, fun k hk => ⟨0, by omega, rfl⟩, fun k hk _ => ⟨rfl, rfl⟩, fun k i hk hi h => absurd h (by show ¬ (0 : Int32) = 1; decide), fun k i hk hi _ => rfl, by omega, fun o ho => absurd ho (by omega), fun o i ho => absurd ho (by omega), fun o i ho => absurd ho (by omega)⟩, by omega, by omega, fun k hk _ i hi => ⟨rfl, ?_, ?_⟩, ⟨rfl, rfl, rfl, rfl, fun k hk h => absurd h (by show ¬ (0 : Int32) = 1; decide)⟩, ⟨rfl, rfl, rfl, rfl, rfl⟩, ⟨rfl, rfl, rfl, fun i hi => absurd hi (by omega)⟩, rfl, rfl, rfl⟩
  · show (if 3 * k + i < 12 then (-1000 : Int32) else 0) = -1000
    rw [if_pos (by omega)]
  · show (if 3 * k + i < 12 then (1000 : Int32) else 0) = 1000
    rw [if_pos (by omega)]
