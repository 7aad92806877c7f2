set_option maxRecDepth 100000 in
theorem tk_128_1 : (List.range' 112 112).all (fun pc => match tt_128 pc with | none => true | some E => mm_ok tmi tcl tws tnF tnM 128 128 pc E) = true := by decide +kernel
