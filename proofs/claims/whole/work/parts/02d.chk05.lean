set_option maxRecDepth 100000 in
theorem tk_126 : (List.range 5).all (fun pc => match tt_126 pc with | none => true | some E => mm_ok tmi tcl tws tnF tnM 128 126 pc E) = true := by decide +kernel
theorem tp_126 : ∀ pc E, ttb 126 pc = some E → mm_ok tmi tcl tws tnF tnM 128 126 pc E = true := tq_in tk_126
set_option maxRecDepth 100000 in
theorem tk_127 : (List.range 23).all (fun pc => match tt_127 pc with | none => true | some E => mm_ok tmi tcl tws tnF tnM 128 127 pc E) = true := by decide +kernel
theorem tp_127 : ∀ pc E, ttb 127 pc = some E → mm_ok tmi tcl tws tnF tnM 128 127 pc E = true := tq_in tk_127
