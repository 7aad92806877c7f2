theorem tk_128 : (List.range 664).all (fun pc => match tt_128 pc with | none => true | some E => mm_ok tmi tcl tws tnF tnM 128 128 pc E) = true := by
  refine List.all_eq_true.mpr fun pc hpc => ?_
  have hl := List.mem_range.mp hpc
  by_cases h0 : pc < 112
  · exact List.all_eq_true.mp tk_128_0 pc (List.mem_range'_1.mpr ⟨by omega, by omega⟩)
  by_cases h1 : pc < 224
  · exact List.all_eq_true.mp tk_128_1 pc (List.mem_range'_1.mpr ⟨by omega, by omega⟩)
  by_cases h2 : pc < 336
  · exact List.all_eq_true.mp tk_128_2 pc (List.mem_range'_1.mpr ⟨by omega, by omega⟩)
  by_cases h3 : pc < 448
  · exact List.all_eq_true.mp tk_128_3 pc (List.mem_range'_1.mpr ⟨by omega, by omega⟩)
  by_cases h4 : pc < 560
  · exact List.all_eq_true.mp tk_128_4 pc (List.mem_range'_1.mpr ⟨by omega, by omega⟩)
  by_cases h5 : pc < 664
  · exact List.all_eq_true.mp tk_128_5 pc (List.mem_range'_1.mpr ⟨by omega, by omega⟩)
  omega
theorem tp_128 : ∀ pc E, ttb 128 pc = some E → mm_ok tmi tcl tws tnF tnM 128 128 pc E = true := tq_in tk_128
