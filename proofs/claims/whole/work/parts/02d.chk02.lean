set_option maxRecDepth 100000 in
theorem tk_64 : (List.range 24).all (fun pc => match tt_64 pc with | none => true | some E => mm_ok tmi tcl tws tnF tnM 128 64 pc E) = true := by decide +kernel
theorem tp_64 : ∀ pc E, ttb 64 pc = some E → mm_ok tmi tcl tws tnF tnM 128 64 pc E = true := tq_in tk_64
set_option maxRecDepth 100000 in
theorem tk_65 : (List.range 24).all (fun pc => match tt_65 pc with | none => true | some E => mm_ok tmi tcl tws tnF tnM 128 65 pc E) = true := by decide +kernel
theorem tp_65 : ∀ pc E, ttb 65 pc = some E → mm_ok tmi tcl tws tnF tnM 128 65 pc E = true := tq_in tk_65
set_option maxRecDepth 100000 in
theorem tk_66 : (List.range 8).all (fun pc => match tt_66 pc with | none => true | some E => mm_ok tmi tcl tws tnF tnM 128 66 pc E) = true := by decide +kernel
theorem tp_66 : ∀ pc E, ttb 66 pc = some E → mm_ok tmi tcl tws tnF tnM 128 66 pc E = true := tq_in tk_66
set_option maxRecDepth 100000 in
theorem tk_67 : (List.range 30).all (fun pc => match tt_67 pc with | none => true | some E => mm_ok tmi tcl tws tnF tnM 128 67 pc E) = true := by decide +kernel
theorem tp_67 : ∀ pc E, ttb 67 pc = some E → mm_ok tmi tcl tws tnF tnM 128 67 pc E = true := tq_in tk_67
set_option maxRecDepth 100000 in
theorem tk_68 : (List.range 36).all (fun pc => match tt_68 pc with | none => true | some E => mm_ok tmi tcl tws tnF tnM 128 68 pc E) = true := by decide +kernel
theorem tp_68 : ∀ pc E, ttb 68 pc = some E → mm_ok tmi tcl tws tnF tnM 128 68 pc E = true := tq_in tk_68
set_option maxRecDepth 100000 in
theorem tk_69 : (List.range 51).all (fun pc => match tt_69 pc with | none => true | some E => mm_ok tmi tcl tws tnF tnM 128 69 pc E) = true := by decide +kernel
theorem tp_69 : ∀ pc E, ttb 69 pc = some E → mm_ok tmi tcl tws tnF tnM 128 69 pc E = true := tq_in tk_69
set_option maxRecDepth 100000 in
theorem tk_70 : (List.range 18).all (fun pc => match tt_70 pc with | none => true | some E => mm_ok tmi tcl tws tnF tnM 128 70 pc E) = true := by decide +kernel
theorem tp_70 : ∀ pc E, ttb 70 pc = some E → mm_ok tmi tcl tws tnF tnM 128 70 pc E = true := tq_in tk_70
set_option maxRecDepth 100000 in
theorem tk_71 : (List.range 18).all (fun pc => match tt_71 pc with | none => true | some E => mm_ok tmi tcl tws tnF tnM 128 71 pc E) = true := by decide +kernel
theorem tp_71 : ∀ pc E, ttb 71 pc = some E → mm_ok tmi tcl tws tnF tnM 128 71 pc E = true := tq_in tk_71
set_option maxRecDepth 100000 in
theorem tk_72 : (List.range 25).all (fun pc => match tt_72 pc with | none => true | some E => mm_ok tmi tcl tws tnF tnM 128 72 pc E) = true := by decide +kernel
theorem tp_72 : ∀ pc E, ttb 72 pc = some E → mm_ok tmi tcl tws tnF tnM 128 72 pc E = true := tq_in tk_72
set_option maxRecDepth 100000 in
theorem tk_73 : (List.range 32).all (fun pc => match tt_73 pc with | none => true | some E => mm_ok tmi tcl tws tnF tnM 128 73 pc E) = true := by decide +kernel
theorem tp_73 : ∀ pc E, ttb 73 pc = some E → mm_ok tmi tcl tws tnF tnM 128 73 pc E = true := tq_in tk_73
set_option maxRecDepth 100000 in
theorem tk_74 : (List.range 24).all (fun pc => match tt_74 pc with | none => true | some E => mm_ok tmi tcl tws tnF tnM 128 74 pc E) = true := by decide +kernel
theorem tp_74 : ∀ pc E, ttb 74 pc = some E → mm_ok tmi tcl tws tnF tnM 128 74 pc E = true := tq_in tk_74
set_option maxRecDepth 100000 in
theorem tk_75 : (List.range 23).all (fun pc => match tt_75 pc with | none => true | some E => mm_ok tmi tcl tws tnF tnM 128 75 pc E) = true := by decide +kernel
theorem tp_75 : ∀ pc E, ttb 75 pc = some E → mm_ok tmi tcl tws tnF tnM 128 75 pc E = true := tq_in tk_75
set_option maxRecDepth 100000 in
theorem tk_76 : (List.range 31).all (fun pc => match tt_76 pc with | none => true | some E => mm_ok tmi tcl tws tnF tnM 128 76 pc E) = true := by decide +kernel
theorem tp_76 : ∀ pc E, ttb 76 pc = some E → mm_ok tmi tcl tws tnF tnM 128 76 pc E = true := tq_in tk_76
set_option maxRecDepth 100000 in
theorem tk_77 : (List.range 126).all (fun pc => match tt_77 pc with | none => true | some E => mm_ok tmi tcl tws tnF tnM 128 77 pc E) = true := by decide +kernel
theorem tp_77 : ∀ pc E, ttb 77 pc = some E → mm_ok tmi tcl tws tnF tnM 128 77 pc E = true := tq_in tk_77
set_option maxRecDepth 100000 in
theorem tk_78 : (List.range 52).all (fun pc => match tt_78 pc with | none => true | some E => mm_ok tmi tcl tws tnF tnM 128 78 pc E) = true := by decide +kernel
theorem tp_78 : ∀ pc E, ttb 78 pc = some E → mm_ok tmi tcl tws tnF tnM 128 78 pc E = true := tq_in tk_78
set_option maxRecDepth 100000 in
theorem tk_79 : (List.range 89).all (fun pc => match tt_79 pc with | none => true | some E => mm_ok tmi tcl tws tnF tnM 128 79 pc E) = true := by decide +kernel
theorem tp_79 : ∀ pc E, ttb 79 pc = some E → mm_ok tmi tcl tws tnF tnM 128 79 pc E = true := tq_in tk_79
set_option maxRecDepth 100000 in
theorem tk_80 : (List.range 53).all (fun pc => match tt_80 pc with | none => true | some E => mm_ok tmi tcl tws tnF tnM 128 80 pc E) = true := by decide +kernel
theorem tp_80 : ∀ pc E, ttb 80 pc = some E → mm_ok tmi tcl tws tnF tnM 128 80 pc E = true := tq_in tk_80
set_option maxRecDepth 100000 in
theorem tk_81 : (List.range 63).all (fun pc => match tt_81 pc with | none => true | some E => mm_ok tmi tcl tws tnF tnM 128 81 pc E) = true := by decide +kernel
theorem tp_81 : ∀ pc E, ttb 81 pc = some E → mm_ok tmi tcl tws tnF tnM 128 81 pc E = true := tq_in tk_81
set_option maxRecDepth 100000 in
theorem tk_82 : (List.range 12).all (fun pc => match tt_82 pc with | none => true | some E => mm_ok tmi tcl tws tnF tnM 128 82 pc E) = true := by decide +kernel
theorem tp_82 : ∀ pc E, ttb 82 pc = some E → mm_ok tmi tcl tws tnF tnM 128 82 pc E = true := tq_in tk_82
set_option maxRecDepth 100000 in
theorem tk_83 : (List.range 64).all (fun pc => match tt_83 pc with | none => true | some E => mm_ok tmi tcl tws tnF tnM 128 83 pc E) = true := by decide +kernel
theorem tp_83 : ∀ pc E, ttb 83 pc = some E → mm_ok tmi tcl tws tnF tnM 128 83 pc E = true := tq_in tk_83
set_option maxRecDepth 100000 in
theorem tk_84 : (List.range 173).all (fun pc => match tt_84 pc with | none => true | some E => mm_ok tmi tcl tws tnF tnM 128 84 pc E) = true := by decide +kernel
theorem tp_84 : ∀ pc E, ttb 84 pc = some E → mm_ok tmi tcl tws tnF tnM 128 84 pc E = true := tq_in tk_84
set_option maxRecDepth 100000 in
theorem tk_85 : (List.range 24).all (fun pc => match tt_85 pc with | none => true | some E => mm_ok tmi tcl tws tnF tnM 128 85 pc E) = true := by decide +kernel
theorem tp_85 : ∀ pc E, ttb 85 pc = some E → mm_ok tmi tcl tws tnF tnM 128 85 pc E = true := tq_in tk_85
set_option maxRecDepth 100000 in
theorem tk_86 : (List.range 110).all (fun pc => match tt_86 pc with | none => true | some E => mm_ok tmi tcl tws tnF tnM 128 86 pc E) = true := by decide +kernel
theorem tp_86 : ∀ pc E, ttb 86 pc = some E → mm_ok tmi tcl tws tnF tnM 128 86 pc E = true := tq_in tk_86
set_option maxRecDepth 100000 in
theorem tk_87 : (List.range 87).all (fun pc => match tt_87 pc with | none => true | some E => mm_ok tmi tcl tws tnF tnM 128 87 pc E) = true := by decide +kernel
theorem tp_87 : ∀ pc E, ttb 87 pc = some E → mm_ok tmi tcl tws tnF tnM 128 87 pc E = true := tq_in tk_87
set_option maxRecDepth 100000 in
theorem tk_88 : (List.range 18).all (fun pc => match tt_88 pc with | none => true | some E => mm_ok tmi tcl tws tnF tnM 128 88 pc E) = true := by decide +kernel
theorem tp_88 : ∀ pc E, ttb 88 pc = some E → mm_ok tmi tcl tws tnF tnM 128 88 pc E = true := tq_in tk_88
set_option maxRecDepth 100000 in
theorem tk_89 : (List.range 33).all (fun pc => match tt_89 pc with | none => true | some E => mm_ok tmi tcl tws tnF tnM 128 89 pc E) = true := by decide +kernel
theorem tp_89 : ∀ pc E, ttb 89 pc = some E → mm_ok tmi tcl tws tnF tnM 128 89 pc E = true := tq_in tk_89
set_option maxRecDepth 100000 in
theorem tk_90 : (List.range 33).all (fun pc => match tt_90 pc with | none => true | some E => mm_ok tmi tcl tws tnF tnM 128 90 pc E) = true := by decide +kernel
theorem tp_90 : ∀ pc E, ttb 90 pc = some E → mm_ok tmi tcl tws tnF tnM 128 90 pc E = true := tq_in tk_90
set_option maxRecDepth 100000 in
theorem tk_91 : (List.range 108).all (fun pc => match tt_91 pc with | none => true | some E => mm_ok tmi tcl tws tnF tnM 128 91 pc E) = true := by decide +kernel
theorem tp_91 : ∀ pc E, ttb 91 pc = some E → mm_ok tmi tcl tws tnF tnM 128 91 pc E = true := tq_in tk_91
