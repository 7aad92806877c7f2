set_option maxRecDepth 100000 in
theorem tk_110 : (List.range 46).all (fun pc => match tt_110 pc with | none => true | some E => mm_ok tmi tcl tws tnF tnM 128 110 pc E) = true := by decide +kernel
theorem tp_110 : ∀ pc E, ttb 110 pc = some E → mm_ok tmi tcl tws tnF tnM 128 110 pc E = true := tq_in tk_110
set_option maxRecDepth 100000 in
theorem tk_111 : (List.range 6).all (fun pc => match tt_111 pc with | none => true | some E => mm_ok tmi tcl tws tnF tnM 128 111 pc E) = true := by decide +kernel
theorem tp_111 : ∀ pc E, ttb 111 pc = some E → mm_ok tmi tcl tws tnF tnM 128 111 pc E = true := tq_in tk_111
set_option maxRecDepth 100000 in
theorem tk_112 : (List.range 5).all (fun pc => match tt_112 pc with | none => true | some E => mm_ok tmi tcl tws tnF tnM 128 112 pc E) = true := by decide +kernel
theorem tp_112 : ∀ pc E, ttb 112 pc = some E → mm_ok tmi tcl tws tnF tnM 128 112 pc E = true := tq_in tk_112
set_option maxRecDepth 100000 in
theorem tk_113 : (List.range 26).all (fun pc => match tt_113 pc with | none => true | some E => mm_ok tmi tcl tws tnF tnM 128 113 pc E) = true := by decide +kernel
theorem tp_113 : ∀ pc E, ttb 113 pc = some E → mm_ok tmi tcl tws tnF tnM 128 113 pc E = true := tq_in tk_113
set_option maxRecDepth 100000 in
theorem tk_114 : (List.range 18).all (fun pc => match tt_114 pc with | none => true | some E => mm_ok tmi tcl tws tnF tnM 128 114 pc E) = true := by decide +kernel
theorem tp_114 : ∀ pc E, ttb 114 pc = some E → mm_ok tmi tcl tws tnF tnM 128 114 pc E = true := tq_in tk_114
set_option maxRecDepth 100000 in
theorem tk_115 : (List.range 347).all (fun pc => match tt_115 pc with | none => true | some E => mm_ok tmi tcl tws tnF tnM 128 115 pc E) = true := by decide +kernel
theorem tp_115 : ∀ pc E, ttb 115 pc = some E → mm_ok tmi tcl tws tnF tnM 128 115 pc E = true := tq_in tk_115
set_option maxRecDepth 100000 in
theorem tk_116 : (List.range 104).all (fun pc => match tt_116 pc with | none => true | some E => mm_ok tmi tcl tws tnF tnM 128 116 pc E) = true := by decide +kernel
theorem tp_116 : ∀ pc E, ttb 116 pc = some E → mm_ok tmi tcl tws tnF tnM 128 116 pc E = true := tq_in tk_116
set_option maxRecDepth 100000 in
theorem tk_117 : (List.range 66).all (fun pc => match tt_117 pc with | none => true | some E => mm_ok tmi tcl tws tnF tnM 128 117 pc E) = true := by decide +kernel
theorem tp_117 : ∀ pc E, ttb 117 pc = some E → mm_ok tmi tcl tws tnF tnM 128 117 pc E = true := tq_in tk_117
set_option maxRecDepth 100000 in
theorem tk_118 : (List.range 21).all (fun pc => match tt_118 pc with | none => true | some E => mm_ok tmi tcl tws tnF tnM 128 118 pc E) = true := by decide +kernel
theorem tp_118 : ∀ pc E, ttb 118 pc = some E → mm_ok tmi tcl tws tnF tnM 128 118 pc E = true := tq_in tk_118
set_option maxRecDepth 100000 in
theorem tk_119 : (List.range 52).all (fun pc => match tt_119 pc with | none => true | some E => mm_ok tmi tcl tws tnF tnM 128 119 pc E) = true := by decide +kernel
theorem tp_119 : ∀ pc E, ttb 119 pc = some E → mm_ok tmi tcl tws tnF tnM 128 119 pc E = true := tq_in tk_119
set_option maxRecDepth 100000 in
theorem tk_120 : (List.range 87).all (fun pc => match tt_120 pc with | none => true | some E => mm_ok tmi tcl tws tnF tnM 128 120 pc E) = true := by decide +kernel
theorem tp_120 : ∀ pc E, ttb 120 pc = some E → mm_ok tmi tcl tws tnF tnM 128 120 pc E = true := tq_in tk_120
set_option maxRecDepth 100000 in
theorem tk_121 : (List.range 64).all (fun pc => match tt_121 pc with | none => true | some E => mm_ok tmi tcl tws tnF tnM 128 121 pc E) = true := by decide +kernel
theorem tp_121 : ∀ pc E, ttb 121 pc = some E → mm_ok tmi tcl tws tnF tnM 128 121 pc E = true := tq_in tk_121
set_option maxRecDepth 100000 in
theorem tk_122 : (List.range 280).all (fun pc => match tt_122 pc with | none => true | some E => mm_ok tmi tcl tws tnF tnM 128 122 pc E) = true := by decide +kernel
theorem tp_122 : ∀ pc E, ttb 122 pc = some E → mm_ok tmi tcl tws tnF tnM 128 122 pc E = true := tq_in tk_122
set_option maxRecDepth 100000 in
theorem tk_123 : (List.range 79).all (fun pc => match tt_123 pc with | none => true | some E => mm_ok tmi tcl tws tnF tnM 128 123 pc E) = true := by decide +kernel
theorem tp_123 : ∀ pc E, ttb 123 pc = some E → mm_ok tmi tcl tws tnF tnM 128 123 pc E = true := tq_in tk_123
set_option maxRecDepth 100000 in
theorem tk_124 : (List.range 86).all (fun pc => match tt_124 pc with | none => true | some E => mm_ok tmi tcl tws tnF tnM 128 124 pc E) = true := by decide +kernel
theorem tp_124 : ∀ pc E, ttb 124 pc = some E → mm_ok tmi tcl tws tnF tnM 128 124 pc E = true := tq_in tk_124
set_option maxRecDepth 100000 in
theorem tk_125 : (List.range 53).all (fun pc => match tt_125 pc with | none => true | some E => mm_ok tmi tcl tws tnF tnM 128 125 pc E) = true := by decide +kernel
theorem tp_125 : ∀ pc E, ttb 125 pc = some E → mm_ok tmi tcl tws tnF tnM 128 125 pc E = true := tq_in tk_125
