set_option maxRecDepth 100000 in
theorem tk_92 : (List.range 6).all (fun pc => match tt_92 pc with | none => true | some E => mm_ok tmi tcl tws tnF tnM 128 92 pc E) = true := by decide +kernel
theorem tp_92 : ∀ pc E, ttb 92 pc = some E → mm_ok tmi tcl tws tnF tnM 128 92 pc E = true := tq_in tk_92
set_option maxRecDepth 100000 in
theorem tk_93 : (List.range 5).all (fun pc => match tt_93 pc with | none => true | some E => mm_ok tmi tcl tws tnF tnM 128 93 pc E) = true := by decide +kernel
theorem tp_93 : ∀ pc E, ttb 93 pc = some E → mm_ok tmi tcl tws tnF tnM 128 93 pc E = true := tq_in tk_93
set_option maxRecDepth 100000 in
theorem tk_94 : (List.range 19).all (fun pc => match tt_94 pc with | none => true | some E => mm_ok tmi tcl tws tnF tnM 128 94 pc E) = true := by decide +kernel
theorem tp_94 : ∀ pc E, ttb 94 pc = some E → mm_ok tmi tcl tws tnF tnM 128 94 pc E = true := tq_in tk_94
set_option maxRecDepth 100000 in
theorem tk_95 : (List.range 40).all (fun pc => match tt_95 pc with | none => true | some E => mm_ok tmi tcl tws tnF tnM 128 95 pc E) = true := by decide +kernel
theorem tp_95 : ∀ pc E, ttb 95 pc = some E → mm_ok tmi tcl tws tnF tnM 128 95 pc E = true := tq_in tk_95
set_option maxRecDepth 100000 in
theorem tk_96 : (List.range 34).all (fun pc => match tt_96 pc with | none => true | some E => mm_ok tmi tcl tws tnF tnM 128 96 pc E) = true := by decide +kernel
theorem tp_96 : ∀ pc E, ttb 96 pc = some E → mm_ok tmi tcl tws tnF tnM 128 96 pc E = true := tq_in tk_96
set_option maxRecDepth 100000 in
theorem tk_97 : (List.range 37).all (fun pc => match tt_97 pc with | none => true | some E => mm_ok tmi tcl tws tnF tnM 128 97 pc E) = true := by decide +kernel
theorem tp_97 : ∀ pc E, ttb 97 pc = some E → mm_ok tmi tcl tws tnF tnM 128 97 pc E = true := tq_in tk_97
set_option maxRecDepth 100000 in
theorem tk_98 : (List.range 24).all (fun pc => match tt_98 pc with | none => true | some E => mm_ok tmi tcl tws tnF tnM 128 98 pc E) = true := by decide +kernel
theorem tp_98 : ∀ pc E, ttb 98 pc = some E → mm_ok tmi tcl tws tnF tnM 128 98 pc E = true := tq_in tk_98
set_option maxRecDepth 100000 in
theorem tk_99 : (List.range 24).all (fun pc => match tt_99 pc with | none => true | some E => mm_ok tmi tcl tws tnF tnM 128 99 pc E) = true := by decide +kernel
theorem tp_99 : ∀ pc E, ttb 99 pc = some E → mm_ok tmi tcl tws tnF tnM 128 99 pc E = true := tq_in tk_99
set_option maxRecDepth 100000 in
theorem tk_100 : (List.range 132).all (fun pc => match tt_100 pc with | none => true | some E => mm_ok tmi tcl tws tnF tnM 128 100 pc E) = true := by decide +kernel
theorem tp_100 : ∀ pc E, ttb 100 pc = some E → mm_ok tmi tcl tws tnF tnM 128 100 pc E = true := tq_in tk_100
set_option maxRecDepth 100000 in
theorem tk_101 : (List.range 18).all (fun pc => match tt_101 pc with | none => true | some E => mm_ok tmi tcl tws tnF tnM 128 101 pc E) = true := by decide +kernel
theorem tp_101 : ∀ pc E, ttb 101 pc = some E → mm_ok tmi tcl tws tnF tnM 128 101 pc E = true := tq_in tk_101
set_option maxRecDepth 100000 in
theorem tk_102 : (List.range 83).all (fun pc => match tt_102 pc with | none => true | some E => mm_ok tmi tcl tws tnF tnM 128 102 pc E) = true := by decide +kernel
theorem tp_102 : ∀ pc E, ttb 102 pc = some E → mm_ok tmi tcl tws tnF tnM 128 102 pc E = true := tq_in tk_102
set_option maxRecDepth 100000 in
theorem tk_103 : (List.range 65).all (fun pc => match tt_103 pc with | none => true | some E => mm_ok tmi tcl tws tnF tnM 128 103 pc E) = true := by decide +kernel
theorem tp_103 : ∀ pc E, ttb 103 pc = some E → mm_ok tmi tcl tws tnF tnM 128 103 pc E = true := tq_in tk_103
set_option maxRecDepth 100000 in
theorem tk_104 : (List.range 170).all (fun pc => match tt_104 pc with | none => true | some E => mm_ok tmi tcl tws tnF tnM 128 104 pc E) = true := by decide +kernel
theorem tp_104 : ∀ pc E, ttb 104 pc = some E → mm_ok tmi tcl tws tnF tnM 128 104 pc E = true := tq_in tk_104
set_option maxRecDepth 100000 in
theorem tk_105 : (List.range 31).all (fun pc => match tt_105 pc with | none => true | some E => mm_ok tmi tcl tws tnF tnM 128 105 pc E) = true := by decide +kernel
theorem tp_105 : ∀ pc E, ttb 105 pc = some E → mm_ok tmi tcl tws tnF tnM 128 105 pc E = true := tq_in tk_105
set_option maxRecDepth 100000 in
theorem tk_106 : (List.range 97).all (fun pc => match tt_106 pc with | none => true | some E => mm_ok tmi tcl tws tnF tnM 128 106 pc E) = true := by decide +kernel
theorem tp_106 : ∀ pc E, ttb 106 pc = some E → mm_ok tmi tcl tws tnF tnM 128 106 pc E = true := tq_in tk_106
set_option maxRecDepth 100000 in
theorem tk_107 : (List.range 63).all (fun pc => match tt_107 pc with | none => true | some E => mm_ok tmi tcl tws tnF tnM 128 107 pc E) = true := by decide +kernel
theorem tp_107 : ∀ pc E, ttb 107 pc = some E → mm_ok tmi tcl tws tnF tnM 128 107 pc E = true := tq_in tk_107
set_option maxRecDepth 100000 in
theorem tk_108 : (List.range 190).all (fun pc => match tt_108 pc with | none => true | some E => mm_ok tmi tcl tws tnF tnM 128 108 pc E) = true := by decide +kernel
theorem tp_108 : ∀ pc E, ttb 108 pc = some E → mm_ok tmi tcl tws tnF tnM 128 108 pc E = true := tq_in tk_108
set_option maxRecDepth 100000 in
theorem tk_109 : (List.range 301).all (fun pc => match tt_109 pc with | none => true | some E => mm_ok tmi tcl tws tnF tnM 128 109 pc E) = true := by decide +kernel
theorem tp_109 : ∀ pc E, ttb 109 pc = some E → mm_ok tmi tcl tws tnF tnM 128 109 pc E = true := tq_in tk_109
