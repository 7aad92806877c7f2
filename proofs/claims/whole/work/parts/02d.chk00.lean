theorem tq_in {t : Nat → Option mm_E} {g : Nat → mm_E → Bool} {n : Nat} (h : (List.range n).all (fun pc => match t pc with | none => true | some E => g pc E) = true) : ∀ pc E, cond (Nat.blt pc n) (t pc) none = some E → g pc E = true := by
  intro pc E hE
  cases hb : Nat.blt pc n with
  | false => rw [hb] at hE; cases hE
  | true =>
    rw [hb] at hE
    have hl : pc < n := Nat.le_of_ble_eq_true hb
    have h1 := List.all_eq_true.mp h pc (List.mem_range.mpr hl)
    have h2 : t pc = some E := hE
    rw [h2] at h1
    exact h1
set_option maxRecDepth 100000 in
theorem tk_0 : (List.range 21).all (fun pc => match tt_0 pc with | none => true | some E => mm_ok tmi tcl tws tnF tnM 128 0 pc E) = true := by decide +kernel
theorem tp_0 : ∀ pc E, ttb 0 pc = some E → mm_ok tmi tcl tws tnF tnM 128 0 pc E = true := tq_in tk_0
set_option maxRecDepth 100000 in
theorem tk_1 : (List.range 129).all (fun pc => match tt_1 pc with | none => true | some E => mm_ok tmi tcl tws tnF tnM 128 1 pc E) = true := by decide +kernel
theorem tp_1 : ∀ pc E, ttb 1 pc = some E → mm_ok tmi tcl tws tnF tnM 128 1 pc E = true := tq_in tk_1
set_option maxRecDepth 100000 in
theorem tk_2 : (List.range 11).all (fun pc => match tt_2 pc with | none => true | some E => mm_ok tmi tcl tws tnF tnM 128 2 pc E) = true := by decide +kernel
theorem tp_2 : ∀ pc E, ttb 2 pc = some E → mm_ok tmi tcl tws tnF tnM 128 2 pc E = true := tq_in tk_2
set_option maxRecDepth 100000 in
theorem tk_3 : (List.range 15).all (fun pc => match tt_3 pc with | none => true | some E => mm_ok tmi tcl tws tnF tnM 128 3 pc E) = true := by decide +kernel
theorem tp_3 : ∀ pc E, ttb 3 pc = some E → mm_ok tmi tcl tws tnF tnM 128 3 pc E = true := tq_in tk_3
set_option maxRecDepth 100000 in
theorem tk_4 : (List.range 9).all (fun pc => match tt_4 pc with | none => true | some E => mm_ok tmi tcl tws tnF tnM 128 4 pc E) = true := by decide +kernel
theorem tp_4 : ∀ pc E, ttb 4 pc = some E → mm_ok tmi tcl tws tnF tnM 128 4 pc E = true := tq_in tk_4
set_option maxRecDepth 100000 in
theorem tk_5 : (List.range 8).all (fun pc => match tt_5 pc with | none => true | some E => mm_ok tmi tcl tws tnF tnM 128 5 pc E) = true := by decide +kernel
theorem tp_5 : ∀ pc E, ttb 5 pc = some E → mm_ok tmi tcl tws tnF tnM 128 5 pc E = true := tq_in tk_5
set_option maxRecDepth 100000 in
theorem tk_6 : (List.range 8).all (fun pc => match tt_6 pc with | none => true | some E => mm_ok tmi tcl tws tnF tnM 128 6 pc E) = true := by decide +kernel
theorem tp_6 : ∀ pc E, ttb 6 pc = some E → mm_ok tmi tcl tws tnF tnM 128 6 pc E = true := tq_in tk_6
set_option maxRecDepth 100000 in
theorem tk_7 : (List.range 9).all (fun pc => match tt_7 pc with | none => true | some E => mm_ok tmi tcl tws tnF tnM 128 7 pc E) = true := by decide +kernel
theorem tp_7 : ∀ pc E, ttb 7 pc = some E → mm_ok tmi tcl tws tnF tnM 128 7 pc E = true := tq_in tk_7
set_option maxRecDepth 100000 in
theorem tk_8 : (List.range 11).all (fun pc => match tt_8 pc with | none => true | some E => mm_ok tmi tcl tws tnF tnM 128 8 pc E) = true := by decide +kernel
theorem tp_8 : ∀ pc E, ttb 8 pc = some E → mm_ok tmi tcl tws tnF tnM 128 8 pc E = true := tq_in tk_8
set_option maxRecDepth 100000 in
theorem tk_9 : (List.range 11).all (fun pc => match tt_9 pc with | none => true | some E => mm_ok tmi tcl tws tnF tnM 128 9 pc E) = true := by decide +kernel
theorem tp_9 : ∀ pc E, ttb 9 pc = some E → mm_ok tmi tcl tws tnF tnM 128 9 pc E = true := tq_in tk_9
set_option maxRecDepth 100000 in
theorem tk_10 : (List.range 10).all (fun pc => match tt_10 pc with | none => true | some E => mm_ok tmi tcl tws tnF tnM 128 10 pc E) = true := by decide +kernel
theorem tp_10 : ∀ pc E, ttb 10 pc = some E → mm_ok tmi tcl tws tnF tnM 128 10 pc E = true := tq_in tk_10
set_option maxRecDepth 100000 in
theorem tk_11 : (List.range 10).all (fun pc => match tt_11 pc with | none => true | some E => mm_ok tmi tcl tws tnF tnM 128 11 pc E) = true := by decide +kernel
theorem tp_11 : ∀ pc E, ttb 11 pc = some E → mm_ok tmi tcl tws tnF tnM 128 11 pc E = true := tq_in tk_11
set_option maxRecDepth 100000 in
theorem tk_12 : (List.range 16).all (fun pc => match tt_12 pc with | none => true | some E => mm_ok tmi tcl tws tnF tnM 128 12 pc E) = true := by decide +kernel
theorem tp_12 : ∀ pc E, ttb 12 pc = some E → mm_ok tmi tcl tws tnF tnM 128 12 pc E = true := tq_in tk_12
set_option maxRecDepth 100000 in
theorem tk_13 : (List.range 10).all (fun pc => match tt_13 pc with | none => true | some E => mm_ok tmi tcl tws tnF tnM 128 13 pc E) = true := by decide +kernel
theorem tp_13 : ∀ pc E, ttb 13 pc = some E → mm_ok tmi tcl tws tnF tnM 128 13 pc E = true := tq_in tk_13
set_option maxRecDepth 100000 in
theorem tk_14 : (List.range 69).all (fun pc => match tt_14 pc with | none => true | some E => mm_ok tmi tcl tws tnF tnM 128 14 pc E) = true := by decide +kernel
theorem tp_14 : ∀ pc E, ttb 14 pc = some E → mm_ok tmi tcl tws tnF tnM 128 14 pc E = true := tq_in tk_14
set_option maxRecDepth 100000 in
theorem tk_15 : (List.range 9).all (fun pc => match tt_15 pc with | none => true | some E => mm_ok tmi tcl tws tnF tnM 128 15 pc E) = true := by decide +kernel
theorem tp_15 : ∀ pc E, ttb 15 pc = some E → mm_ok tmi tcl tws tnF tnM 128 15 pc E = true := tq_in tk_15
set_option maxRecDepth 100000 in
theorem tk_16 : (List.range 9).all (fun pc => match tt_16 pc with | none => true | some E => mm_ok tmi tcl tws tnF tnM 128 16 pc E) = true := by decide +kernel
theorem tp_16 : ∀ pc E, ttb 16 pc = some E → mm_ok tmi tcl tws tnF tnM 128 16 pc E = true := tq_in tk_16
set_option maxRecDepth 100000 in
theorem tk_17 : (List.range 8).all (fun pc => match tt_17 pc with | none => true | some E => mm_ok tmi tcl tws tnF tnM 128 17 pc E) = true := by decide +kernel
theorem tp_17 : ∀ pc E, ttb 17 pc = some E → mm_ok tmi tcl tws tnF tnM 128 17 pc E = true := tq_in tk_17
set_option maxRecDepth 100000 in
theorem tk_18 : (List.range 9).all (fun pc => match tt_18 pc with | none => true | some E => mm_ok tmi tcl tws tnF tnM 128 18 pc E) = true := by decide +kernel
theorem tp_18 : ∀ pc E, ttb 18 pc = some E → mm_ok tmi tcl tws tnF tnM 128 18 pc E = true := tq_in tk_18
set_option maxRecDepth 100000 in
theorem tk_19 : (List.range 26).all (fun pc => match tt_19 pc with | none => true | some E => mm_ok tmi tcl tws tnF tnM 128 19 pc E) = true := by decide +kernel
theorem tp_19 : ∀ pc E, ttb 19 pc = some E → mm_ok tmi tcl tws tnF tnM 128 19 pc E = true := tq_in tk_19
set_option maxRecDepth 100000 in
theorem tk_20 : (List.range 8).all (fun pc => match tt_20 pc with | none => true | some E => mm_ok tmi tcl tws tnF tnM 128 20 pc E) = true := by decide +kernel
theorem tp_20 : ∀ pc E, ttb 20 pc = some E → mm_ok tmi tcl tws tnF tnM 128 20 pc E = true := tq_in tk_20
set_option maxRecDepth 100000 in
theorem tk_21 : (List.range 9).all (fun pc => match tt_21 pc with | none => true | some E => mm_ok tmi tcl tws tnF tnM 128 21 pc E) = true := by decide +kernel
theorem tp_21 : ∀ pc E, ttb 21 pc = some E → mm_ok tmi tcl tws tnF tnM 128 21 pc E = true := tq_in tk_21
set_option maxRecDepth 100000 in
theorem tk_22 : (List.range 70).all (fun pc => match tt_22 pc with | none => true | some E => mm_ok tmi tcl tws tnF tnM 128 22 pc E) = true := by decide +kernel
theorem tp_22 : ∀ pc E, ttb 22 pc = some E → mm_ok tmi tcl tws tnF tnM 128 22 pc E = true := tq_in tk_22
set_option maxRecDepth 100000 in
theorem tk_23 : (List.range 24).all (fun pc => match tt_23 pc with | none => true | some E => mm_ok tmi tcl tws tnF tnM 128 23 pc E) = true := by decide +kernel
theorem tp_23 : ∀ pc E, ttb 23 pc = some E → mm_ok tmi tcl tws tnF tnM 128 23 pc E = true := tq_in tk_23
set_option maxRecDepth 100000 in
theorem tk_24 : (List.range 29).all (fun pc => match tt_24 pc with | none => true | some E => mm_ok tmi tcl tws tnF tnM 128 24 pc E) = true := by decide +kernel
theorem tp_24 : ∀ pc E, ttb 24 pc = some E → mm_ok tmi tcl tws tnF tnM 128 24 pc E = true := tq_in tk_24
set_option maxRecDepth 100000 in
theorem tk_25 : (List.range 29).all (fun pc => match tt_25 pc with | none => true | some E => mm_ok tmi tcl tws tnF tnM 128 25 pc E) = true := by decide +kernel
theorem tp_25 : ∀ pc E, ttb 25 pc = some E → mm_ok tmi tcl tws tnF tnM 128 25 pc E = true := tq_in tk_25
set_option maxRecDepth 100000 in
theorem tk_26 : (List.range 65).all (fun pc => match tt_26 pc with | none => true | some E => mm_ok tmi tcl tws tnF tnM 128 26 pc E) = true := by decide +kernel
theorem tp_26 : ∀ pc E, ttb 26 pc = some E → mm_ok tmi tcl tws tnF tnM 128 26 pc E = true := tq_in tk_26
set_option maxRecDepth 100000 in
theorem tk_27 : (List.range 76).all (fun pc => match tt_27 pc with | none => true | some E => mm_ok tmi tcl tws tnF tnM 128 27 pc E) = true := by decide +kernel
theorem tp_27 : ∀ pc E, ttb 27 pc = some E → mm_ok tmi tcl tws tnF tnM 128 27 pc E = true := tq_in tk_27
set_option maxRecDepth 100000 in
theorem tk_28 : (List.range 24).all (fun pc => match tt_28 pc with | none => true | some E => mm_ok tmi tcl tws tnF tnM 128 28 pc E) = true := by decide +kernel
theorem tp_28 : ∀ pc E, ttb 28 pc = some E → mm_ok tmi tcl tws tnF tnM 128 28 pc E = true := tq_in tk_28
set_option maxRecDepth 100000 in
theorem tk_29 : (List.range 46).all (fun pc => match tt_29 pc with | none => true | some E => mm_ok tmi tcl tws tnF tnM 128 29 pc E) = true := by decide +kernel
theorem tp_29 : ∀ pc E, ttb 29 pc = some E → mm_ok tmi tcl tws tnF tnM 128 29 pc E = true := tq_in tk_29
set_option maxRecDepth 100000 in
theorem tk_30 : (List.range 34).all (fun pc => match tt_30 pc with | none => true | some E => mm_ok tmi tcl tws tnF tnM 128 30 pc E) = true := by decide +kernel
theorem tp_30 : ∀ pc E, ttb 30 pc = some E → mm_ok tmi tcl tws tnF tnM 128 30 pc E = true := tq_in tk_30
set_option maxRecDepth 100000 in
theorem tk_31 : (List.range 18).all (fun pc => match tt_31 pc with | none => true | some E => mm_ok tmi tcl tws tnF tnM 128 31 pc E) = true := by decide +kernel
theorem tp_31 : ∀ pc E, ttb 31 pc = some E → mm_ok tmi tcl tws tnF tnM 128 31 pc E = true := tq_in tk_31
set_option maxRecDepth 100000 in
theorem tk_32 : (List.range 102).all (fun pc => match tt_32 pc with | none => true | some E => mm_ok tmi tcl tws tnF tnM 128 32 pc E) = true := by decide +kernel
theorem tp_32 : ∀ pc E, ttb 32 pc = some E → mm_ok tmi tcl tws tnF tnM 128 32 pc E = true := tq_in tk_32
set_option maxRecDepth 100000 in
theorem tk_33 : (List.range 6).all (fun pc => match tt_33 pc with | none => true | some E => mm_ok tmi tcl tws tnF tnM 128 33 pc E) = true := by decide +kernel
theorem tp_33 : ∀ pc E, ttb 33 pc = some E → mm_ok tmi tcl tws tnF tnM 128 33 pc E = true := tq_in tk_33
set_option maxRecDepth 100000 in
theorem tk_34 : (List.range 19).all (fun pc => match tt_34 pc with | none => true | some E => mm_ok tmi tcl tws tnF tnM 128 34 pc E) = true := by decide +kernel
theorem tp_34 : ∀ pc E, ttb 34 pc = some E → mm_ok tmi tcl tws tnF tnM 128 34 pc E = true := tq_in tk_34
set_option maxRecDepth 100000 in
theorem tk_35 : (List.range 32).all (fun pc => match tt_35 pc with | none => true | some E => mm_ok tmi tcl tws tnF tnM 128 35 pc E) = true := by decide +kernel
theorem tp_35 : ∀ pc E, ttb 35 pc = some E → mm_ok tmi tcl tws tnF tnM 128 35 pc E = true := tq_in tk_35
set_option maxRecDepth 100000 in
theorem tk_36 : (List.range 46).all (fun pc => match tt_36 pc with | none => true | some E => mm_ok tmi tcl tws tnF tnM 128 36 pc E) = true := by decide +kernel
theorem tp_36 : ∀ pc E, ttb 36 pc = some E → mm_ok tmi tcl tws tnF tnM 128 36 pc E = true := tq_in tk_36
set_option maxRecDepth 100000 in
theorem tk_37 : (List.range 31).all (fun pc => match tt_37 pc with | none => true | some E => mm_ok tmi tcl tws tnF tnM 128 37 pc E) = true := by decide +kernel
theorem tp_37 : ∀ pc E, ttb 37 pc = some E → mm_ok tmi tcl tws tnF tnM 128 37 pc E = true := tq_in tk_37
set_option maxRecDepth 100000 in
theorem tk_38 : (List.range 31).all (fun pc => match tt_38 pc with | none => true | some E => mm_ok tmi tcl tws tnF tnM 128 38 pc E) = true := by decide +kernel
theorem tp_38 : ∀ pc E, ttb 38 pc = some E → mm_ok tmi tcl tws tnF tnM 128 38 pc E = true := tq_in tk_38
set_option maxRecDepth 100000 in
theorem tk_39 : (List.range 47).all (fun pc => match tt_39 pc with | none => true | some E => mm_ok tmi tcl tws tnF tnM 128 39 pc E) = true := by decide +kernel
theorem tp_39 : ∀ pc E, ttb 39 pc = some E → mm_ok tmi tcl tws tnF tnM 128 39 pc E = true := tq_in tk_39
set_option maxRecDepth 100000 in
theorem tk_40 : (List.range 26).all (fun pc => match tt_40 pc with | none => true | some E => mm_ok tmi tcl tws tnF tnM 128 40 pc E) = true := by decide +kernel
theorem tp_40 : ∀ pc E, ttb 40 pc = some E → mm_ok tmi tcl tws tnF tnM 128 40 pc E = true := tq_in tk_40
set_option maxRecDepth 100000 in
theorem tk_41 : (List.range 85).all (fun pc => match tt_41 pc with | none => true | some E => mm_ok tmi tcl tws tnF tnM 128 41 pc E) = true := by decide +kernel
theorem tp_41 : ∀ pc E, ttb 41 pc = some E → mm_ok tmi tcl tws tnF tnM 128 41 pc E = true := tq_in tk_41
