set_option maxRecDepth 100000 in
theorem tk_42 : (List.range 48).all (fun pc => match tt_42 pc with | none => true | some E => mm_ok tmi tcl tws tnF tnM 128 42 pc E) = true := by decide +kernel
theorem tp_42 : ∀ pc E, ttb 42 pc = some E → mm_ok tmi tcl tws tnF tnM 128 42 pc E = true := tq_in tk_42
set_option maxRecDepth 100000 in
theorem tk_43 : (List.range 34).all (fun pc => match tt_43 pc with | none => true | some E => mm_ok tmi tcl tws tnF tnM 128 43 pc E) = true := by decide +kernel
theorem tp_43 : ∀ pc E, ttb 43 pc = some E → mm_ok tmi tcl tws tnF tnM 128 43 pc E = true := tq_in tk_43
set_option maxRecDepth 100000 in
theorem tk_44 : (List.range 106).all (fun pc => match tt_44 pc with | none => true | some E => mm_ok tmi tcl tws tnF tnM 128 44 pc E) = true := by decide +kernel
theorem tp_44 : ∀ pc E, ttb 44 pc = some E → mm_ok tmi tcl tws tnF tnM 128 44 pc E = true := tq_in tk_44
set_option maxRecDepth 100000 in
theorem tk_45 : (List.range 42).all (fun pc => match tt_45 pc with | none => true | some E => mm_ok tmi tcl tws tnF tnM 128 45 pc E) = true := by decide +kernel
theorem tp_45 : ∀ pc E, ttb 45 pc = some E → mm_ok tmi tcl tws tnF tnM 128 45 pc E = true := tq_in tk_45
set_option maxRecDepth 100000 in
theorem tk_46 : (List.range 40).all (fun pc => match tt_46 pc with | none => true | some E => mm_ok tmi tcl tws tnF tnM 128 46 pc E) = true := by decide +kernel
theorem tp_46 : ∀ pc E, ttb 46 pc = some E → mm_ok tmi tcl tws tnF tnM 128 46 pc E = true := tq_in tk_46
set_option maxRecDepth 100000 in
theorem tk_47 : (List.range 86).all (fun pc => match tt_47 pc with | none => true | some E => mm_ok tmi tcl tws tnF tnM 128 47 pc E) = true := by decide +kernel
theorem tp_47 : ∀ pc E, ttb 47 pc = some E → mm_ok tmi tcl tws tnF tnM 128 47 pc E = true := tq_in tk_47
set_option maxRecDepth 100000 in
theorem tk_48 : (List.range 14).all (fun pc => match tt_48 pc with | none => true | some E => mm_ok tmi tcl tws tnF tnM 128 48 pc E) = true := by decide +kernel
theorem tp_48 : ∀ pc E, ttb 48 pc = some E → mm_ok tmi tcl tws tnF tnM 128 48 pc E = true := tq_in tk_48
set_option maxRecDepth 100000 in
theorem tk_49 : (List.range 46).all (fun pc => match tt_49 pc with | none => true | some E => mm_ok tmi tcl tws tnF tnM 128 49 pc E) = true := by decide +kernel
theorem tp_49 : ∀ pc E, ttb 49 pc = some E → mm_ok tmi tcl tws tnF tnM 128 49 pc E = true := tq_in tk_49
set_option maxRecDepth 100000 in
theorem tk_50 : (List.range 26).all (fun pc => match tt_50 pc with | none => true | some E => mm_ok tmi tcl tws tnF tnM 128 50 pc E) = true := by decide +kernel
theorem tp_50 : ∀ pc E, ttb 50 pc = some E → mm_ok tmi tcl tws tnF tnM 128 50 pc E = true := tq_in tk_50
set_option maxRecDepth 100000 in
theorem tk_51 : (List.range 26).all (fun pc => match tt_51 pc with | none => true | some E => mm_ok tmi tcl tws tnF tnM 128 51 pc E) = true := by decide +kernel
theorem tp_51 : ∀ pc E, ttb 51 pc = some E → mm_ok tmi tcl tws tnF tnM 128 51 pc E = true := tq_in tk_51
set_option maxRecDepth 100000 in
theorem tk_52 : (List.range 55).all (fun pc => match tt_52 pc with | none => true | some E => mm_ok tmi tcl tws tnF tnM 128 52 pc E) = true := by decide +kernel
theorem tp_52 : ∀ pc E, ttb 52 pc = some E → mm_ok tmi tcl tws tnF tnM 128 52 pc E = true := tq_in tk_52
set_option maxRecDepth 100000 in
theorem tk_53 : (List.range 60).all (fun pc => match tt_53 pc with | none => true | some E => mm_ok tmi tcl tws tnF tnM 128 53 pc E) = true := by decide +kernel
theorem tp_53 : ∀ pc E, ttb 53 pc = some E → mm_ok tmi tcl tws tnF tnM 128 53 pc E = true := tq_in tk_53
set_option maxRecDepth 100000 in
theorem tk_54 : (List.range 91).all (fun pc => match tt_54 pc with | none => true | some E => mm_ok tmi tcl tws tnF tnM 128 54 pc E) = true := by decide +kernel
theorem tp_54 : ∀ pc E, ttb 54 pc = some E → mm_ok tmi tcl tws tnF tnM 128 54 pc E = true := tq_in tk_54
set_option maxRecDepth 100000 in
theorem tk_55 : (List.range 28).all (fun pc => match tt_55 pc with | none => true | some E => mm_ok tmi tcl tws tnF tnM 128 55 pc E) = true := by decide +kernel
theorem tp_55 : ∀ pc E, ttb 55 pc = some E → mm_ok tmi tcl tws tnF tnM 128 55 pc E = true := tq_in tk_55
set_option maxRecDepth 100000 in
theorem tk_56 : (List.range 141).all (fun pc => match tt_56 pc with | none => true | some E => mm_ok tmi tcl tws tnF tnM 128 56 pc E) = true := by decide +kernel
theorem tp_56 : ∀ pc E, ttb 56 pc = some E → mm_ok tmi tcl tws tnF tnM 128 56 pc E = true := tq_in tk_56
set_option maxRecDepth 100000 in
theorem tk_57 : (List.range 69).all (fun pc => match tt_57 pc with | none => true | some E => mm_ok tmi tcl tws tnF tnM 128 57 pc E) = true := by decide +kernel
theorem tp_57 : ∀ pc E, ttb 57 pc = some E → mm_ok tmi tcl tws tnF tnM 128 57 pc E = true := tq_in tk_57
set_option maxRecDepth 100000 in
theorem tk_58 : (List.range 52).all (fun pc => match tt_58 pc with | none => true | some E => mm_ok tmi tcl tws tnF tnM 128 58 pc E) = true := by decide +kernel
theorem tp_58 : ∀ pc E, ttb 58 pc = some E → mm_ok tmi tcl tws tnF tnM 128 58 pc E = true := tq_in tk_58
set_option maxRecDepth 100000 in
theorem tk_59 : (List.range 78).all (fun pc => match tt_59 pc with | none => true | some E => mm_ok tmi tcl tws tnF tnM 128 59 pc E) = true := by decide +kernel
theorem tp_59 : ∀ pc E, ttb 59 pc = some E → mm_ok tmi tcl tws tnF tnM 128 59 pc E = true := tq_in tk_59
set_option maxRecDepth 100000 in
theorem tk_60 : (List.range 17).all (fun pc => match tt_60 pc with | none => true | some E => mm_ok tmi tcl tws tnF tnM 128 60 pc E) = true := by decide +kernel
theorem tp_60 : ∀ pc E, ttb 60 pc = some E → mm_ok tmi tcl tws tnF tnM 128 60 pc E = true := tq_in tk_60
set_option maxRecDepth 100000 in
theorem tk_61 : (List.range 10).all (fun pc => match tt_61 pc with | none => true | some E => mm_ok tmi tcl tws tnF tnM 128 61 pc E) = true := by decide +kernel
theorem tp_61 : ∀ pc E, ttb 61 pc = some E → mm_ok tmi tcl tws tnF tnM 128 61 pc E = true := tq_in tk_61
set_option maxRecDepth 100000 in
theorem tk_62 : (List.range 84).all (fun pc => match tt_62 pc with | none => true | some E => mm_ok tmi tcl tws tnF tnM 128 62 pc E) = true := by decide +kernel
theorem tp_62 : ∀ pc E, ttb 62 pc = some E → mm_ok tmi tcl tws tnF tnM 128 62 pc E = true := tq_in tk_62
set_option maxRecDepth 100000 in
theorem tk_63 : (List.range 206).all (fun pc => match tt_63 pc with | none => true | some E => mm_ok tmi tcl tws tnF tnM 128 63 pc E) = true := by decide +kernel
theorem tp_63 : ∀ pc E, ttb 63 pc = some E → mm_ok tmi tcl tws tnF tnM 128 63 pc E = true := tq_in tk_63
