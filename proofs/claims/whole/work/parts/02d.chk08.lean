set_option maxRecDepth 100000 in
theorem tk_128_2 : (List.range' 224 112).all (fun pc => match tt_128 pc with | none => true | some E => mm_ok tmi tcl tws tnF tnM 128 128 pc E) = true := by decide +kernel
