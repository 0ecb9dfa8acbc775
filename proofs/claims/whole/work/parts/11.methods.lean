/-! methods and calls -/
def M_X0_init : zM := (yX0_init, cX0_init, 1, none, [])
set_option maxRecDepth 100000 in
theorem K_X0_init : zKm M_X0_init 0 := ⟨zmem 342 rfl rfl, zmem 119 (by decide +kernel) (by decide +kernel), by decide +kernel, by decide +kernel, by decide +kernel, rfl, by decide⟩
theorem I_X0_init : Cond.instanceMethod yX0_init ∈ zG := zmem 341 (by decide +kernel) (by decide +kernel)
def M_X0_begin : zM := (yX0_begin, cX0_begin, 4, none, [])
set_option maxRecDepth 100000 in
theorem K_X0_begin : zKm M_X0_begin 3 := ⟨zmem 657 rfl rfl, zmem 119 (by decide +kernel) (by decide +kernel), by decide +kernel, by decide +kernel, by decide +kernel, rfl, by decide⟩
theorem I_X0_begin : Cond.instanceMethod yX0_begin ∈ zG := zmem 655 (by decide +kernel) (by decide +kernel)
theorem V_X0_begin : zKv M_X0_begin 0 := ⟨I_X0_begin, zmem 656 (by decide +kernel) (by decide +kernel), _, rfl, rfl, by decide⟩
def M_X1_init : zM := (yX1_init, cX1_init, 1, none, [])
set_option maxRecDepth 100000 in
theorem K_X1_init : zKm M_X1_init 0 := ⟨zmem 284 rfl rfl, zmem 118 (by decide +kernel) (by decide +kernel), by decide +kernel, by decide +kernel, by decide +kernel, rfl, by decide⟩
theorem I_X1_init : Cond.instanceMethod yX1_init ∈ zG := zmem 283 (by decide +kernel) (by decide +kernel)
def M_X1_begin : zM := (yX1_begin, cX1_begin, 5, none, [])
set_option maxRecDepth 100000 in
theorem K_X1_begin : zKm M_X1_begin 4 := ⟨zmem 652 rfl rfl, zmem 118 (by decide +kernel) (by decide +kernel), by decide +kernel, by decide +kernel, by decide +kernel, rfl, by decide⟩
theorem I_X1_begin : Cond.instanceMethod yX1_begin ∈ zG := zmem 650 (by decide +kernel) (by decide +kernel)
theorem V_X1_begin : zKv M_X1_begin 1 := ⟨I_X1_begin, zmem 651 (by decide +kernel) (by decide +kernel), _, rfl, rfl, by decide⟩
def M_X1_copy : zM := (yX1_copy, cX1_copy, 2, none, [])
set_option maxRecDepth 100000 in
theorem K_X1_copy : zKm M_X1_copy 1 := ⟨zmem 648 rfl rfl, zmem 118 (by decide +kernel) (by decide +kernel), by decide +kernel, by decide +kernel, by decide +kernel, rfl, by decide⟩
theorem I_X1_copy : Cond.instanceMethod yX1_copy ∈ zG := zmem 646 (by decide +kernel) (by decide +kernel)
theorem V_X1_copy : zKv M_X1_copy 1 := ⟨I_X1_copy, zmem 647 (by decide +kernel) (by decide +kernel), _, rfl, rfl, by decide⟩
def M_X1_addHold : zM := (yX1_addHold, cX1_addHold, 4, some .int, [])
set_option maxRecDepth 100000 in
theorem K_X1_addHold : zKm M_X1_addHold 3 := ⟨zmem 1164 rfl rfl, zmem 118 (by decide +kernel) (by decide +kernel), by decide +kernel, by decide +kernel, by decide +kernel, rfl, by decide⟩
theorem I_X1_addHold : Cond.instanceMethod yX1_addHold ∈ zG := zmem 1162 (by decide +kernel) (by decide +kernel)
theorem V_X1_addHold : zKv M_X1_addHold 1 := ⟨I_X1_addHold, zmem 1163 (by decide +kernel) (by decide +kernel), _, rfl, rfl, by decide⟩
def M_X1_finderBits : zM := (yX1_finderBits, cX1_finderBits, 5, some .int, [])
set_option maxRecDepth 100000 in
theorem K_X1_finderBits : zKm M_X1_finderBits 0 := ⟨zmem 1175 rfl rfl, zmem 118 (by decide +kernel) (by decide +kernel), by decide +kernel, by decide +kernel, by decide +kernel, rfl, by decide⟩
theorem I_X1_finderBits : Cond.instanceMethod yX1_finderBits ∈ zG := zmem 1173 (by decide +kernel) (by decide +kernel)
theorem V_X1_finderBits : zKv M_X1_finderBits 1 := ⟨I_X1_finderBits, zmem 1174 (by decide +kernel) (by decide +kernel), _, rfl, rfl, by decide⟩
def M_X1_hadBy : zM := (yX1_hadBy, cX1_hadBy, 1, some .int, [])
set_option maxRecDepth 100000 in
theorem K_X1_hadBy : zKm M_X1_hadBy 0 := ⟨zmem 1439 rfl rfl, zmem 118 (by decide +kernel) (by decide +kernel), by decide +kernel, by decide +kernel, by decide +kernel, rfl, by decide⟩
theorem I_X1_hadBy : Cond.instanceMethod yX1_hadBy ∈ zG := zmem 1437 (by decide +kernel) (by decide +kernel)
theorem V_X1_hadBy : zKv M_X1_hadBy 1 := ⟨I_X1_hadBy, zmem 1438 (by decide +kernel) (by decide +kernel), _, rfl, rfl, by decide⟩
def M_X1_leftOn : zM := (yX1_leftOn, cX1_leftOn, 2, some .int, [])
set_option maxRecDepth 100000 in
theorem K_X1_leftOn : zKm M_X1_leftOn 1 := ⟨zmem 1413 rfl rfl, zmem 118 (by decide +kernel) (by decide +kernel), by decide +kernel, by decide +kernel, by decide +kernel, rfl, by decide⟩
theorem I_X1_leftOn : Cond.instanceMethod yX1_leftOn ∈ zG := zmem 1411 (by decide +kernel) (by decide +kernel)
theorem V_X1_leftOn : zKv M_X1_leftOn 1 := ⟨I_X1_leftOn, zmem 1412 (by decide +kernel) (by decide +kernel), _, rfl, rfl, by decide⟩
def M_X2_init : zM := (yX2_init, cX2_init, 1, none, [])
set_option maxRecDepth 100000 in
theorem K_X2_init : zKm M_X2_init 0 := ⟨zmem 452 rfl rfl, zmem 121 (by decide +kernel) (by decide +kernel), by decide +kernel, by decide +kernel, by decide +kernel, rfl, by decide⟩
theorem I_X2_init : Cond.instanceMethod yX2_init ∈ zG := zmem 451 (by decide +kernel) (by decide +kernel)
def M_X2_narrow : zM := (yX2_narrow, cX2_narrow, 5, none, [])
set_option maxRecDepth 100000 in
theorem K_X2_narrow : zKm M_X2_narrow 3 := ⟨zmem 951 rfl rfl, zmem 121 (by decide +kernel) (by decide +kernel), by decide +kernel, by decide +kernel, by decide +kernel, rfl, by decide⟩
theorem I_X2_narrow : Cond.instanceMethod yX2_narrow ∈ zG := zmem 949 (by decide +kernel) (by decide +kernel)
theorem V_X2_narrow : zKv M_X2_narrow 2 := ⟨I_X2_narrow, zmem 950 (by decide +kernel) (by decide +kernel), _, rfl, rfl, by decide⟩
def M_X2_decide : zM := (yX2_decide, cX2_decide, 7, none, [])
set_option maxRecDepth 100000 in
theorem K_X2_decide : zKm M_X2_decide 4 := ⟨zmem 1195 rfl rfl, zmem 121 (by decide +kernel) (by decide +kernel), by decide +kernel, by decide +kernel, by decide +kernel, rfl, by decide⟩
theorem I_X2_decide : Cond.instanceMethod yX2_decide ∈ zG := zmem 1193 (by decide +kernel) (by decide +kernel)
theorem V_X2_decide : zKv M_X2_decide 2 := ⟨I_X2_decide, zmem 1194 (by decide +kernel) (by decide +kernel), _, rfl, rfl, by decide⟩
def M_X2_give : zM := (yX2_give, cX2_give, 8, some .boolean, [])
set_option maxRecDepth 100000 in
theorem K_X2_give : zKm M_X2_give 2 := ⟨zmem 1203 rfl rfl, zmem 121 (by decide +kernel) (by decide +kernel), by decide +kernel, by decide +kernel, by decide +kernel, rfl, by decide⟩
theorem I_X2_give : Cond.instanceMethod yX2_give ∈ zG := zmem 1202 (by decide +kernel) (by decide +kernel)
theorem V_X2_give : zKv M_X2_give 2 := ⟨I_X2_give, zmem 47 (by decide +kernel) (by decide +kernel), _, rfl, rfl, by decide⟩
def M_X2_anyUndecided : zM := (yX2_anyUndecided, cX2_anyUndecided, 2, some .boolean, [])
set_option maxRecDepth 100000 in
theorem K_X2_anyUndecided : zKm M_X2_anyUndecided 0 := ⟨zmem 1208 rfl rfl, zmem 121 (by decide +kernel) (by decide +kernel), by decide +kernel, by decide +kernel, by decide +kernel, rfl, by decide⟩
theorem I_X2_anyUndecided : Cond.instanceMethod yX2_anyUndecided ∈ zG := zmem 1207 (by decide +kernel) (by decide +kernel)
theorem V_X2_anyUndecided : zKv M_X2_anyUndecided 2 := ⟨I_X2_anyUndecided, zmem 48 (by decide +kernel) (by decide +kernel), _, rfl, rfl, by decide⟩
def M_X2_workCondition : zM := (yX2_workCondition, cX2_workCondition, 7, none, [])
set_option maxRecDepth 100000 in
theorem K_X2_workCondition : zKm M_X2_workCondition 3 := ⟨zmem 955 rfl rfl, zmem 121 (by decide +kernel) (by decide +kernel), by decide +kernel, by decide +kernel, by decide +kernel, rfl, by decide⟩
theorem I_X2_workCondition : Cond.instanceMethod yX2_workCondition ∈ zG := zmem 954 (by decide +kernel) (by decide +kernel)
theorem V_X2_workCondition : zKv M_X2_workCondition 2 := ⟨I_X2_workCondition, zmem 29 (by decide +kernel) (by decide +kernel), _, rfl, rfl, by decide⟩
def M_X2_step : zM := (yX2_step, cX2_step, 4, none, [])
set_option maxRecDepth 100000 in
theorem K_X2_step : zKm M_X2_step 3 := ⟨zmem 973 rfl rfl, zmem 121 (by decide +kernel) (by decide +kernel), by decide +kernel, by decide +kernel, by decide +kernel, rfl, by decide⟩
theorem I_X2_step : Cond.instanceMethod yX2_step ∈ zG := zmem 972 (by decide +kernel) (by decide +kernel)
theorem V_X2_step : zKv M_X2_step 2 := ⟨I_X2_step, zmem 33 (by decide +kernel) (by decide +kernel), _, rfl, rfl, by decide⟩
def M_X2_reckon : zM := (yX2_reckon, cX2_reckon, 4, none, [])
set_option maxRecDepth 100000 in
theorem K_X2_reckon : zKm M_X2_reckon 2 := ⟨zmem 998 rfl rfl, zmem 121 (by decide +kernel) (by decide +kernel), by decide +kernel, by decide +kernel, by decide +kernel, rfl, by decide⟩
theorem I_X2_reckon : Cond.instanceMethod yX2_reckon ∈ zG := zmem 997 (by decide +kernel) (by decide +kernel)
theorem V_X2_reckon : zKv M_X2_reckon 2 := ⟨I_X2_reckon, zmem 39 (by decide +kernel) (by decide +kernel), _, rfl, rfl, by decide⟩
def M_X2_pushNumber : zM := (yX2_pushNumber, cX2_pushNumber, 2, none, [])
set_option maxRecDepth 100000 in
theorem K_X2_pushNumber : zKm M_X2_pushNumber 1 := ⟨zmem 977 rfl rfl, zmem 121 (by decide +kernel) (by decide +kernel), by decide +kernel, by decide +kernel, by decide +kernel, rfl, by decide⟩
theorem I_X2_pushNumber : Cond.instanceMethod yX2_pushNumber ∈ zG := zmem 976 (by decide +kernel) (by decide +kernel)
theorem V_X2_pushNumber : zKv M_X2_pushNumber 2 := ⟨I_X2_pushNumber, zmem 34 (by decide +kernel) (by decide +kernel), _, rfl, rfl, by decide⟩
def M_X2_popNumber : zM := (yX2_popNumber, cX2_popNumber, 1, some .int, [])
set_option maxRecDepth 100000 in
theorem K_X2_popNumber : zKm M_X2_popNumber 0 := ⟨zmem 994 rfl rfl, zmem 121 (by decide +kernel) (by decide +kernel), by decide +kernel, by decide +kernel, by decide +kernel, rfl, by decide⟩
theorem I_X2_popNumber : Cond.instanceMethod yX2_popNumber ∈ zG := zmem 993 (by decide +kernel) (by decide +kernel)
theorem V_X2_popNumber : zKv M_X2_popNumber 2 := ⟨I_X2_popNumber, zmem 38 (by decide +kernel) (by decide +kernel), _, rfl, rfl, by decide⟩
def M_X2_pushAll : zM := (yX2_pushAll, cX2_pushAll, 4, none, [])
set_option maxRecDepth 100000 in
theorem K_X2_pushAll : zKm M_X2_pushAll 1 := ⟨zmem 968 rfl rfl, zmem 121 (by decide +kernel) (by decide +kernel), by decide +kernel, by decide +kernel, by decide +kernel, rfl, by decide⟩
theorem I_X2_pushAll : Cond.instanceMethod yX2_pushAll ∈ zG := zmem 967 (by decide +kernel) (by decide +kernel)
theorem V_X2_pushAll : zKv M_X2_pushAll 2 := ⟨I_X2_pushAll, zmem 32 (by decide +kernel) (by decide +kernel), _, rfl, rfl, by decide⟩
def M_X2_pushUnknown : zM := (yX2_pushUnknown, cX2_pushUnknown, 4, none, [])
set_option maxRecDepth 100000 in
theorem K_X2_pushUnknown : zKm M_X2_pushUnknown 1 := ⟨zmem 981 rfl rfl, zmem 121 (by decide +kernel) (by decide +kernel), by decide +kernel, by decide +kernel, by decide +kernel, rfl, by decide⟩
theorem I_X2_pushUnknown : Cond.instanceMethod yX2_pushUnknown ∈ zG := zmem 980 (by decide +kernel) (by decide +kernel)
theorem V_X2_pushUnknown : zKv M_X2_pushUnknown 2 := ⟨I_X2_pushUnknown, zmem 35 (by decide +kernel) (by decide +kernel), _, rfl, rfl, by decide⟩
def M_X2_turn : zM := (yX2_turn, cX2_turn, 3, none, [])
set_option maxRecDepth 100000 in
theorem K_X2_turn : zKm M_X2_turn 0 := ⟨zmem 986 rfl rfl, zmem 121 (by decide +kernel) (by decide +kernel), by decide +kernel, by decide +kernel, by decide +kernel, rfl, by decide⟩
theorem I_X2_turn : Cond.instanceMethod yX2_turn ∈ zG := zmem 985 (by decide +kernel) (by decide +kernel)
theorem V_X2_turn : zKv M_X2_turn 2 := ⟨I_X2_turn, zmem 36 (by decide +kernel) (by decide +kernel), _, rfl, rfl, by decide⟩
def M_X2_join : zM := (yX2_join, cX2_join, 5, none, [])
set_option maxRecDepth 100000 in
theorem K_X2_join : zKm M_X2_join 1 := ⟨zmem 990 rfl rfl, zmem 121 (by decide +kernel) (by decide +kernel), by decide +kernel, by decide +kernel, by decide +kernel, rfl, by decide⟩
theorem I_X2_join : Cond.instanceMethod yX2_join ∈ zG := zmem 989 (by decide +kernel) (by decide +kernel)
theorem V_X2_join : zKv M_X2_join 2 := ⟨I_X2_join, zmem 37 (by decide +kernel) (by decide +kernel), _, rfl, rfl, by decide⟩
def M_X3_init : zM := (yX3_init, cX3_init, 1, none, [])
set_option maxRecDepth 100000 in
theorem K_X3_init : zKm M_X3_init 0 := ⟨zmem 158 rfl rfl, zmem 115 (by decide +kernel) (by decide +kernel), by decide +kernel, by decide +kernel, by decide +kernel, rfl, by decide⟩
theorem I_X3_init : Cond.instanceMethod yX3_init ∈ zG := zmem 157 (by decide +kernel) (by decide +kernel)
def M_X3_clear : zM := (yX3_clear, cX3_clear, 1, none, [])
set_option maxRecDepth 100000 in
theorem K_X3_clear : zKm M_X3_clear 0 := ⟨zmem 851 rfl rfl, zmem 115 (by decide +kernel) (by decide +kernel), by decide +kernel, by decide +kernel, by decide +kernel, rfl, by decide⟩
theorem I_X3_clear : Cond.instanceMethod yX3_clear ∈ zG := zmem 849 (by decide +kernel) (by decide +kernel)
theorem V_X3_clear : zKv M_X3_clear 3 := ⟨I_X3_clear, zmem 850 (by decide +kernel) (by decide +kernel), _, rfl, rfl, by decide⟩
def M_X3_addRule : zM := (yX3_addRule, cX3_addRule, 3, none, [])
set_option maxRecDepth 100000 in
theorem K_X3_addRule : zKm M_X3_addRule 2 := ⟨zmem 878 rfl rfl, zmem 115 (by decide +kernel) (by decide +kernel), by decide +kernel, by decide +kernel, by decide +kernel, rfl, by decide⟩
theorem I_X3_addRule : Cond.instanceMethod yX3_addRule ∈ zG := zmem 876 (by decide +kernel) (by decide +kernel)
theorem V_X3_addRule : zKv M_X3_addRule 3 := ⟨I_X3_addRule, zmem 877 (by decide +kernel) (by decide +kernel), _, rfl, rfl, by decide⟩
def M_X3_addCode : zM := (yX3_addCode, cX3_addCode, 3, none, [])
set_option maxRecDepth 100000 in
theorem K_X3_addCode : zKm M_X3_addCode 2 := ⟨zmem 902 rfl rfl, zmem 115 (by decide +kernel) (by decide +kernel), by decide +kernel, by decide +kernel, by decide +kernel, rfl, by decide⟩
theorem I_X3_addCode : Cond.instanceMethod yX3_addCode ∈ zG := zmem 900 (by decide +kernel) (by decide +kernel)
theorem V_X3_addCode : zKv M_X3_addCode 3 := ⟨I_X3_addCode, zmem 901 (by decide +kernel) (by decide +kernel), _, rfl, rfl, by decide⟩
def M_X3_addUse : zM := (yX3_addUse, cX3_addUse, 2, none, [])
set_option maxRecDepth 100000 in
theorem K_X3_addUse : zKm M_X3_addUse 1 := ⟨zmem 934 rfl rfl, zmem 115 (by decide +kernel) (by decide +kernel), by decide +kernel, by decide +kernel, by decide +kernel, rfl, by decide⟩
theorem I_X3_addUse : Cond.instanceMethod yX3_addUse ∈ zG := zmem 932 (by decide +kernel) (by decide +kernel)
theorem V_X3_addUse : zKv M_X3_addUse 3 := ⟨I_X3_addUse, zmem 933 (by decide +kernel) (by decide +kernel), _, rfl, rfl, by decide⟩
def M_X3_startOf : zM := (yX3_startOf, cX3_startOf, 2, some .int, [])
set_option maxRecDepth 100000 in
theorem K_X3_startOf : zKm M_X3_startOf 1 := ⟨zmem 959 rfl rfl, zmem 115 (by decide +kernel) (by decide +kernel), by decide +kernel, by decide +kernel, by decide +kernel, rfl, by decide⟩
theorem I_X3_startOf : Cond.instanceMethod yX3_startOf ∈ zG := zmem 958 (by decide +kernel) (by decide +kernel)
theorem V_X3_startOf : zKv M_X3_startOf 3 := ⟨I_X3_startOf, zmem 30 (by decide +kernel) (by decide +kernel), _, rfl, rfl, by decide⟩
def M_X3_endOf : zM := (yX3_endOf, cX3_endOf, 2, some .int, [])
set_option maxRecDepth 100000 in
theorem K_X3_endOf : zKm M_X3_endOf 1 := ⟨zmem 963 rfl rfl, zmem 115 (by decide +kernel) (by decide +kernel), by decide +kernel, by decide +kernel, by decide +kernel, rfl, by decide⟩
theorem I_X3_endOf : Cond.instanceMethod yX3_endOf ∈ zG := zmem 962 (by decide +kernel) (by decide +kernel)
theorem V_X3_endOf : zKv M_X3_endOf 3 := ⟨I_X3_endOf, zmem 31 (by decide +kernel) (by decide +kernel), _, rfl, rfl, by decide⟩
def M_X4_init : zM := (yX4_init, cX4_init, 1, none, [])
set_option maxRecDepth 100000 in
theorem K_X4_init : zKm M_X4_init 0 := ⟨zmem 363 rfl rfl, zmem 120 (by decide +kernel) (by decide +kernel), by decide +kernel, by decide +kernel, by decide +kernel, rfl, by decide⟩
theorem I_X4_init : Cond.instanceMethod yX4_init ∈ zG := zmem 362 (by decide +kernel) (by decide +kernel)
def M_X4_begin : zM := (yX4_begin, cX4_begin, 5, none, [])
set_option maxRecDepth 100000 in
theorem K_X4_begin : zKm M_X4_begin 4 := ⟨zmem 661 rfl rfl, zmem 120 (by decide +kernel) (by decide +kernel), by decide +kernel, by decide +kernel, by decide +kernel, rfl, by decide⟩
theorem I_X4_begin : Cond.instanceMethod yX4_begin ∈ zG := zmem 659 (by decide +kernel) (by decide +kernel)
theorem V_X4_begin : zKv M_X4_begin 4 := ⟨I_X4_begin, zmem 660 (by decide +kernel) (by decide +kernel), _, rfl, rfl, by decide⟩
def M_X5_init : zM := (yX5_init, cX5_init, 1, none, [])
set_option maxRecDepth 100000 in
theorem K_X5_init : zKm M_X5_init 0 := ⟨zmem 260 rfl rfl, zmem 117 (by decide +kernel) (by decide +kernel), by decide +kernel, by decide +kernel, by decide +kernel, rfl, by decide⟩
theorem I_X5_init : Cond.instanceMethod yX5_init ∈ zG := zmem 259 (by decide +kernel) (by decide +kernel)
def M_X5_begin : zM := (yX5_begin, cX5_begin, 4, none, [])
set_option maxRecDepth 100000 in
theorem K_X5_begin : zKm M_X5_begin 2 := ⟨zmem 1047 rfl rfl, zmem 117 (by decide +kernel) (by decide +kernel), by decide +kernel, by decide +kernel, by decide +kernel, rfl, by decide⟩
theorem I_X5_begin : Cond.instanceMethod yX5_begin ∈ zG := zmem 1045 (by decide +kernel) (by decide +kernel)
theorem V_X5_begin : zKv M_X5_begin 5 := ⟨I_X5_begin, zmem 1046 (by decide +kernel) (by decide +kernel), _, rfl, rfl, by decide⟩
def M_X5_copy : zM := (yX5_copy, cX5_copy, 2, none, [])
set_option maxRecDepth 100000 in
theorem K_X5_copy : zKm M_X5_copy 1 := ⟨zmem 643 rfl rfl, zmem 117 (by decide +kernel) (by decide +kernel), by decide +kernel, by decide +kernel, by decide +kernel, rfl, by decide⟩
theorem I_X5_copy : Cond.instanceMethod yX5_copy ∈ zG := zmem 641 (by decide +kernel) (by decide +kernel)
theorem V_X5_copy : zKv M_X5_copy 5 := ⟨I_X5_copy, zmem 642 (by decide +kernel) (by decide +kernel), _, rfl, rfl, by decide⟩
def M_X6_init : zM := (yX6_init, cX6_init, 1, none, [])
set_option maxRecDepth 100000 in
theorem K_X6_init : zKm M_X6_init 0 := ⟨zmem 152 rfl rfl, zmem 114 (by decide +kernel) (by decide +kernel), by decide +kernel, by decide +kernel, by decide +kernel, rfl, by decide⟩
theorem I_X6_init : Cond.instanceMethod yX6_init ∈ zG := zmem 151 (by decide +kernel) (by decide +kernel)
def M_X6_put : zM := (yX6_put, cX6_put, 3, none, [])
set_option maxRecDepth 100000 in
theorem K_X6_put : zKm M_X6_put 1 := ⟨zmem 585 rfl rfl, zmem 114 (by decide +kernel) (by decide +kernel), by decide +kernel, by decide +kernel, by decide +kernel, rfl, by decide⟩
theorem I_X6_put : Cond.instanceMethod yX6_put ∈ zG := zmem 583 (by decide +kernel) (by decide +kernel)
theorem V_X6_put : zKv M_X6_put 6 := ⟨I_X6_put, zmem 584 (by decide +kernel) (by decide +kernel), _, rfl, rfl, by decide⟩
def M_X6_empty : zM := (yX6_empty, cX6_empty, 1, none, [])
set_option maxRecDepth 100000 in
theorem K_X6_empty : zKm M_X6_empty 0 := ⟨zmem 757 rfl rfl, zmem 114 (by decide +kernel) (by decide +kernel), by decide +kernel, by decide +kernel, by decide +kernel, rfl, by decide⟩
theorem I_X6_empty : Cond.instanceMethod yX6_empty ∈ zG := zmem 755 (by decide +kernel) (by decide +kernel)
theorem V_X6_empty : zKv M_X6_empty 6 := ⟨I_X6_empty, zmem 756 (by decide +kernel) (by decide +kernel), _, rfl, rfl, by decide⟩
def M_X6_readLaw : zM := (yX6_readLaw, cX6_readLaw, 4, some .boolean, [])
set_option maxRecDepth 100000 in
theorem K_X6_readLaw : zKm M_X6_readLaw 2 := ⟨zmem 761 rfl rfl, zmem 114 (by decide +kernel) (by decide +kernel), by decide +kernel, by decide +kernel, by decide +kernel, rfl, by decide⟩
theorem I_X6_readLaw : Cond.instanceMethod yX6_readLaw ∈ zG := zmem 759 (by decide +kernel) (by decide +kernel)
theorem V_X6_readLaw : zKv M_X6_readLaw 6 := ⟨I_X6_readLaw, zmem 760 (by decide +kernel) (by decide +kernel), _, rfl, rfl, by decide⟩
def M_X6_readCondition : zM := (yX6_readCondition, cX6_readCondition, 2, some .boolean, [])
set_option maxRecDepth 100000 in
theorem K_X6_readCondition : zKm M_X6_readCondition 1 := ⟨zmem 945 rfl rfl, zmem 114 (by decide +kernel) (by decide +kernel), by decide +kernel, by decide +kernel, by decide +kernel, rfl, by decide⟩
theorem I_X6_readCondition : Cond.instanceMethod yX6_readCondition ∈ zG := zmem 943 (by decide +kernel) (by decide +kernel)
theorem V_X6_readCondition : zKv M_X6_readCondition 6 := ⟨I_X6_readCondition, zmem 944 (by decide +kernel) (by decide +kernel), _, rfl, rfl, by decide⟩
def M_X6_start : zM := (yX6_start, cX6_start, 3, none, [])
set_option maxRecDepth 100000 in
theorem K_X6_start : zKm M_X6_start 2 := ⟨zmem 765 rfl rfl, zmem 114 (by decide +kernel) (by decide +kernel), by decide +kernel, by decide +kernel, by decide +kernel, rfl, by decide⟩
theorem I_X6_start : Cond.instanceMethod yX6_start ∈ zG := zmem 764 (by decide +kernel) (by decide +kernel)
theorem V_X6_start : zKv M_X6_start 6 := ⟨I_X6_start, zmem 5 (by decide +kernel) (by decide +kernel), _, rfl, rfl, by decide⟩
def M_X6_refuse : zM := (yX6_refuse, cX6_refuse, 2, some .boolean, [])
set_option maxRecDepth 100000 in
theorem K_X6_refuse : zKm M_X6_refuse 1 := ⟨zmem 866 rfl rfl, zmem 114 (by decide +kernel) (by decide +kernel), by decide +kernel, by decide +kernel, by decide +kernel, rfl, by decide⟩
theorem I_X6_refuse : Cond.instanceMethod yX6_refuse ∈ zG := zmem 865 (by decide +kernel) (by decide +kernel)
theorem V_X6_refuse : zKv M_X6_refuse 6 := ⟨I_X6_refuse, zmem 14 (by decide +kernel) (by decide +kernel), _, rfl, rfl, by decide⟩
def M_X6_readRule : zM := (yX6_readRule, cX6_readRule, 3, some .boolean, [])
set_option maxRecDepth 100000 in
theorem K_X6_readRule : zKm M_X6_readRule 0 := ⟨zmem 862 rfl rfl, zmem 114 (by decide +kernel) (by decide +kernel), by decide +kernel, by decide +kernel, by decide +kernel, rfl, by decide⟩
theorem I_X6_readRule : Cond.instanceMethod yX6_readRule ∈ zG := zmem 861 (by decide +kernel) (by decide +kernel)
theorem V_X6_readRule : zKv M_X6_readRule 6 := ⟨I_X6_readRule, zmem 13 (by decide +kernel) (by decide +kernel), _, rfl, rfl, by decide⟩
def M_X6_readOr : zM := (yX6_readOr, cX6_readOr, 2, some .boolean, [])
set_option maxRecDepth 100000 in
theorem K_X6_readOr : zKm M_X6_readOr 0 := ⟨zmem 882 rfl rfl, zmem 114 (by decide +kernel) (by decide +kernel), by decide +kernel, by decide +kernel, by decide +kernel, rfl, by decide⟩
theorem I_X6_readOr : Cond.instanceMethod yX6_readOr ∈ zG := zmem 881 (by decide +kernel) (by decide +kernel)
theorem V_X6_readOr : zKv M_X6_readOr 6 := ⟨I_X6_readOr, zmem 17 (by decide +kernel) (by decide +kernel), _, rfl, rfl, by decide⟩
def M_X6_readAnd : zM := (yX6_readAnd, cX6_readAnd, 2, some .boolean, [])
set_option maxRecDepth 100000 in
theorem K_X6_readAnd : zKm M_X6_readAnd 0 := ⟨zmem 886 rfl rfl, zmem 114 (by decide +kernel) (by decide +kernel), by decide +kernel, by decide +kernel, by decide +kernel, rfl, by decide⟩
theorem I_X6_readAnd : Cond.instanceMethod yX6_readAnd ∈ zG := zmem 885 (by decide +kernel) (by decide +kernel)
theorem V_X6_readAnd : zKv M_X6_readAnd 6 := ⟨I_X6_readAnd, zmem 18 (by decide +kernel) (by decide +kernel), _, rfl, rfl, by decide⟩
def M_X6_readBasic : zM := (yX6_readBasic, cX6_readBasic, 1, some .boolean, [])
set_option maxRecDepth 100000 in
theorem K_X6_readBasic : zKm M_X6_readBasic 0 := ⟨zmem 890 rfl rfl, zmem 114 (by decide +kernel) (by decide +kernel), by decide +kernel, by decide +kernel, by decide +kernel, rfl, by decide⟩
theorem I_X6_readBasic : Cond.instanceMethod yX6_readBasic ∈ zG := zmem 889 (by decide +kernel) (by decide +kernel)
theorem V_X6_readBasic : zKv M_X6_readBasic 6 := ⟨I_X6_readBasic, zmem 19 (by decide +kernel) (by decide +kernel), _, rfl, rfl, by decide⟩
def M_X6_readNot : zM := (yX6_readNot, cX6_readNot, 1, some .boolean, [])
set_option maxRecDepth 100000 in
theorem K_X6_readNot : zKm M_X6_readNot 0 := ⟨zmem 894 rfl rfl, zmem 114 (by decide +kernel) (by decide +kernel), by decide +kernel, by decide +kernel, by decide +kernel, rfl, by decide⟩
theorem I_X6_readNot : Cond.instanceMethod yX6_readNot ∈ zG := zmem 893 (by decide +kernel) (by decide +kernel)
theorem V_X6_readNot : zKv M_X6_readNot 6 := ⟨I_X6_readNot, zmem 20 (by decide +kernel) (by decide +kernel), _, rfl, rfl, by decide⟩
def M_X6_readBracket : zM := (yX6_readBracket, cX6_readBracket, 1, some .boolean, [])
set_option maxRecDepth 100000 in
theorem K_X6_readBracket : zKm M_X6_readBracket 0 := ⟨zmem 910 rfl rfl, zmem 114 (by decide +kernel) (by decide +kernel), by decide +kernel, by decide +kernel, by decide +kernel, rfl, by decide⟩
theorem I_X6_readBracket : Cond.instanceMethod yX6_readBracket ∈ zG := zmem 909 (by decide +kernel) (by decide +kernel)
theorem V_X6_readBracket : zKv M_X6_readBracket 6 := ⟨I_X6_readBracket, zmem 23 (by decide +kernel) (by decide +kernel), _, rfl, rfl, by decide⟩
def M_X6_readComparison : zM := (yX6_readComparison, cX6_readComparison, 2, some .boolean, [])
set_option maxRecDepth 100000 in
theorem K_X6_readComparison : zKm M_X6_readComparison 0 := ⟨zmem 918 rfl rfl, zmem 114 (by decide +kernel) (by decide +kernel), by decide +kernel, by decide +kernel, by decide +kernel, rfl, by decide⟩
theorem I_X6_readComparison : Cond.instanceMethod yX6_readComparison ∈ zG := zmem 917 (by decide +kernel) (by decide +kernel)
theorem V_X6_readComparison : zKv M_X6_readComparison 6 := ⟨I_X6_readComparison, zmem 25 (by decide +kernel) (by decide +kernel), _, rfl, rfl, by decide⟩
def M_X6_readSum : zM := (yX6_readSum, cX6_readSum, 3, some .boolean, [])
set_option maxRecDepth 100000 in
theorem K_X6_readSum : zKm M_X6_readSum 0 := ⟨zmem 922 rfl rfl, zmem 114 (by decide +kernel) (by decide +kernel), by decide +kernel, by decide +kernel, by decide +kernel, rfl, by decide⟩
theorem I_X6_readSum : Cond.instanceMethod yX6_readSum ∈ zG := zmem 921 (by decide +kernel) (by decide +kernel)
theorem V_X6_readSum : zKv M_X6_readSum 6 := ⟨I_X6_readSum, zmem 26 (by decide +kernel) (by decide +kernel), _, rfl, rfl, by decide⟩
def M_X6_readTerm : zM := (yX6_readTerm, cX6_readTerm, 2, some .boolean, [])
set_option maxRecDepth 100000 in
theorem K_X6_readTerm : zKm M_X6_readTerm 0 := ⟨zmem 926 rfl rfl, zmem 114 (by decide +kernel) (by decide +kernel), by decide +kernel, by decide +kernel, by decide +kernel, rfl, by decide⟩
theorem I_X6_readTerm : Cond.instanceMethod yX6_readTerm ∈ zG := zmem 925 (by decide +kernel) (by decide +kernel)
theorem V_X6_readTerm : zKv M_X6_readTerm 6 := ⟨I_X6_readTerm, zmem 27 (by decide +kernel) (by decide +kernel), _, rfl, rfl, by decide⟩
def M_X6_readParenthesis : zM := (yX6_readParenthesis, cX6_readParenthesis, 1, some .boolean, [])
set_option maxRecDepth 100000 in
theorem K_X6_readParenthesis : zKm M_X6_readParenthesis 0 := ⟨zmem 930 rfl rfl, zmem 114 (by decide +kernel) (by decide +kernel), by decide +kernel, by decide +kernel, by decide +kernel, rfl, by decide⟩
theorem I_X6_readParenthesis : Cond.instanceMethod yX6_readParenthesis ∈ zG := zmem 929 (by decide +kernel) (by decide +kernel)
theorem V_X6_readParenthesis : zKv M_X6_readParenthesis 6 := ⟨I_X6_readParenthesis, zmem 28 (by decide +kernel) (by decide +kernel), _, rfl, rfl, by decide⟩
def M_X6_mayOpen : zM := (yX6_mayOpen, cX6_mayOpen, 1, some .boolean, [])
set_option maxRecDepth 100000 in
theorem K_X6_mayOpen : zKm M_X6_mayOpen 0 := ⟨zmem 898 rfl rfl, zmem 114 (by decide +kernel) (by decide +kernel), by decide +kernel, by decide +kernel, by decide +kernel, rfl, by decide⟩
theorem I_X6_mayOpen : Cond.instanceMethod yX6_mayOpen ∈ zG := zmem 897 (by decide +kernel) (by decide +kernel)
theorem V_X6_mayOpen : zKv M_X6_mayOpen 6 := ⟨I_X6_mayOpen, zmem 21 (by decide +kernel) (by decide +kernel), _, rfl, rfl, by decide⟩
def M_X6_readSign : zM := (yX6_readSign, cX6_readSign, 2, some .boolean, [])
set_option maxRecDepth 100000 in
theorem K_X6_readSign : zKm M_X6_readSign 1 := ⟨zmem 914 rfl rfl, zmem 114 (by decide +kernel) (by decide +kernel), by decide +kernel, by decide +kernel, by decide +kernel, rfl, by decide⟩
theorem I_X6_readSign : Cond.instanceMethod yX6_readSign ∈ zG := zmem 913 (by decide +kernel) (by decide +kernel)
theorem V_X6_readSign : zKv M_X6_readSign 6 := ⟨I_X6_readSign, zmem 24 (by decide +kernel) (by decide +kernel), _, rfl, rfl, by decide⟩
def M_X6_needNumber : zM := (yX6_needNumber, cX6_needNumber, 1, some .boolean, [])
set_option maxRecDepth 100000 in
theorem K_X6_needNumber : zKm M_X6_needNumber 0 := ⟨zmem 874 rfl rfl, zmem 114 (by decide +kernel) (by decide +kernel), by decide +kernel, by decide +kernel, by decide +kernel, rfl, by decide⟩
theorem I_X6_needNumber : Cond.instanceMethod yX6_needNumber ∈ zG := zmem 873 (by decide +kernel) (by decide +kernel)
theorem V_X6_needNumber : zKv M_X6_needNumber 6 := ⟨I_X6_needNumber, zmem 16 (by decide +kernel) (by decide +kernel), _, rfl, rfl, by decide⟩
def M_X6_isSign : zM := (yX6_isSign, cX6_isSign, 2, some .boolean, [])
set_option maxRecDepth 100000 in
theorem K_X6_isSign : zKm M_X6_isSign 1 := ⟨zmem 906 rfl rfl, zmem 114 (by decide +kernel) (by decide +kernel), by decide +kernel, by decide +kernel, by decide +kernel, rfl, by decide⟩
theorem I_X6_isSign : Cond.instanceMethod yX6_isSign ∈ zG := zmem 905 (by decide +kernel) (by decide +kernel)
theorem V_X6_isSign : zKv M_X6_isSign 6 := ⟨I_X6_isSign, zmem 22 (by decide +kernel) (by decide +kernel), _, rfl, rfl, by decide⟩
def M_X6_isWord : zM := (yX6_isWord, cX6_isWord, 2, some .boolean, [])
set_option maxRecDepth 100000 in
theorem K_X6_isWord : zKm M_X6_isWord 1 := ⟨zmem 870 rfl rfl, zmem 114 (by decide +kernel) (by decide +kernel), by decide +kernel, by decide +kernel, by decide +kernel, rfl, by decide⟩
theorem I_X6_isWord : Cond.instanceMethod yX6_isWord ∈ zG := zmem 869 (by decide +kernel) (by decide +kernel)
theorem V_X6_isWord : zKv M_X6_isWord 6 := ⟨I_X6_isWord, zmem 15 (by decide +kernel) (by decide +kernel), _, rfl, rfl, by decide⟩
def M_X6_goOn : zM := (yX6_goOn, cX6_goOn, 1, none, [])
set_option maxRecDepth 100000 in
theorem K_X6_goOn : zKm M_X6_goOn 0 := ⟨zmem 855 rfl rfl, zmem 114 (by decide +kernel) (by decide +kernel), by decide +kernel, by decide +kernel, by decide +kernel, rfl, by decide⟩
theorem I_X6_goOn : Cond.instanceMethod yX6_goOn ∈ zG := zmem 854 (by decide +kernel) (by decide +kernel)
theorem V_X6_goOn : zKv M_X6_goOn 6 := ⟨I_X6_goOn, zmem 12 (by decide +kernel) (by decide +kernel), _, rfl, rfl, by decide⟩
def M_X6_cut : zM := (yX6_cut, cX6_cut, 4, none, [])
set_option maxRecDepth 100000 in
theorem K_X6_cut : zKm M_X6_cut 0 := ⟨zmem 772 rfl rfl, zmem 114 (by decide +kernel) (by decide +kernel), by decide +kernel, by decide +kernel, by decide +kernel, rfl, by decide⟩
theorem I_X6_cut : Cond.instanceMethod yX6_cut ∈ zG := zmem 771 (by decide +kernel) (by decide +kernel)
theorem V_X6_cut : zKv M_X6_cut 6 := ⟨I_X6_cut, zmem 6 (by decide +kernel) (by decide +kernel), _, rfl, rfl, by decide⟩
def M_X6_addPiece : zM := (yX6_addPiece, cX6_addPiece, 4, none, [])
set_option maxRecDepth 100000 in
theorem K_X6_addPiece : zKm M_X6_addPiece 3 := ⟨zmem 790 rfl rfl, zmem 114 (by decide +kernel) (by decide +kernel), by decide +kernel, by decide +kernel, by decide +kernel, rfl, by decide⟩
theorem I_X6_addPiece : Cond.instanceMethod yX6_addPiece ∈ zG := zmem 789 (by decide +kernel) (by decide +kernel)
theorem V_X6_addPiece : zKv M_X6_addPiece 6 := ⟨I_X6_addPiece, zmem 9 (by decide +kernel) (by decide +kernel), _, rfl, rfl, by decide⟩
def M_X6_cutWord : zM := (yX6_cutWord, cX6_cutWord, 4, some .int, [])
set_option maxRecDepth 100000 in
theorem K_X6_cutWord : zKm M_X6_cutWord 1 := ⟨zmem 783 rfl rfl, zmem 114 (by decide +kernel) (by decide +kernel), by decide +kernel, by decide +kernel, by decide +kernel, rfl, by decide⟩
theorem I_X6_cutWord : Cond.instanceMethod yX6_cutWord ∈ zG := zmem 782 (by decide +kernel) (by decide +kernel)
theorem V_X6_cutWord : zKv M_X6_cutWord 6 := ⟨I_X6_cutWord, zmem 8 (by decide +kernel) (by decide +kernel), _, rfl, rfl, by decide⟩
def M_X6_wordNumber : zM := (yX6_wordNumber, cX6_wordNumber, 7, some .int, [])
set_option maxRecDepth 100000 in
theorem K_X6_wordNumber : zKm M_X6_wordNumber 2 := ⟨zmem 794 rfl rfl, zmem 114 (by decide +kernel) (by decide +kernel), by decide +kernel, by decide +kernel, by decide +kernel, rfl, by decide⟩
theorem I_X6_wordNumber : Cond.instanceMethod yX6_wordNumber ∈ zG := zmem 793 (by decide +kernel) (by decide +kernel)
theorem V_X6_wordNumber : zKv M_X6_wordNumber 6 := ⟨I_X6_wordNumber, zmem 10 (by decide +kernel) (by decide +kernel), _, rfl, rfl, by decide⟩
def M_X6_cutDigits : zM := (yX6_cutDigits, cX6_cutDigits, 5, some .int, [])
set_option maxRecDepth 100000 in
theorem K_X6_cutDigits : zKm M_X6_cutDigits 1 := ⟨zmem 847 rfl rfl, zmem 114 (by decide +kernel) (by decide +kernel), by decide +kernel, by decide +kernel, by decide +kernel, rfl, by decide⟩
theorem I_X6_cutDigits : Cond.instanceMethod yX6_cutDigits ∈ zG := zmem 846 (by decide +kernel) (by decide +kernel)
theorem V_X6_cutDigits : zKv M_X6_cutDigits 6 := ⟨I_X6_cutDigits, zmem 11 (by decide +kernel) (by decide +kernel), _, rfl, rfl, by decide⟩
def M_X6_byteAt : zM := (yX6_byteAt, cX6_byteAt, 2, some .int, [])
set_option maxRecDepth 100000 in
theorem K_X6_byteAt : zKm M_X6_byteAt 1 := ⟨zmem 776 rfl rfl, zmem 114 (by decide +kernel) (by decide +kernel), by decide +kernel, by decide +kernel, by decide +kernel, rfl, by decide⟩
theorem I_X6_byteAt : Cond.instanceMethod yX6_byteAt ∈ zG := zmem 775 (by decide +kernel) (by decide +kernel)
theorem V_X6_byteAt : zKv M_X6_byteAt 6 := ⟨I_X6_byteAt, zmem 7 (by decide +kernel) (by decide +kernel), _, rfl, rfl, by decide⟩
def M_X6_isLetter : zM := (yX6_isLetter, cX6_isLetter, 1, some .boolean, [])
set_option maxRecDepth 100000 in
theorem K_X6_isLetter : zKm M_X6_isLetter 1 := ⟨zmem 779 rfl rfl, zmem 114 (by decide +kernel) (by decide +kernel), by decide +kernel, by decide +kernel, by decide +kernel, rfl, by decide⟩
theorem S_X6_isLetter : Cond.static yX6_isLetter ∈ zG := zmem 778 (by decide +kernel) (by decide +kernel)
def M_X6_isDigit : zM := (yX6_isDigit, cX6_isDigit, 1, some .boolean, [])
set_option maxRecDepth 100000 in
theorem K_X6_isDigit : zKm M_X6_isDigit 1 := ⟨zmem 786 rfl rfl, zmem 114 (by decide +kernel) (by decide +kernel), by decide +kernel, by decide +kernel, by decide +kernel, rfl, by decide⟩
theorem S_X6_isDigit : Cond.static yX6_isDigit ∈ zG := zmem 785 (by decide +kernel) (by decide +kernel)
def M_X7_init : zM := (yX7_init, cX7_init, 1, none, [])
set_option maxRecDepth 100000 in
theorem K_X7_init : zKm M_X7_init 0 := ⟨zmem 496 rfl rfl, zmem 123 (by decide +kernel) (by decide +kernel), by decide +kernel, by decide +kernel, by decide +kernel, rfl, by decide⟩
theorem I_X7_init : Cond.instanceMethod yX7_init ∈ zG := zmem 495 (by decide +kernel) (by decide +kernel)
def M_X7_pose : zM := (yX7_pose, cX7_pose, 7, none, [])
set_option maxRecDepth 100000 in
theorem K_X7_pose : zKm M_X7_pose 3 := ⟨zmem 1257 rfl rfl, zmem 123 (by decide +kernel) (by decide +kernel), by decide +kernel, by decide +kernel, by decide +kernel, rfl, by decide⟩
theorem I_X7_pose : Cond.instanceMethod yX7_pose ∈ zG := zmem 1255 (by decide +kernel) (by decide +kernel)
theorem V_X7_pose : zKv M_X7_pose 7 := ⟨I_X7_pose, zmem 1256 (by decide +kernel) (by decide +kernel), _, rfl, rfl, by decide⟩
def M_X7_seekTelling : zM := (yX7_seekTelling, cX7_seekTelling, 2, none, [])
set_option maxRecDepth 100000 in
theorem K_X7_seekTelling : zKm M_X7_seekTelling 0 := ⟨zmem 1262 rfl rfl, zmem 123 (by decide +kernel) (by decide +kernel), by decide +kernel, by decide +kernel, by decide +kernel, rfl, by decide⟩
theorem I_X7_seekTelling : Cond.instanceMethod yX7_seekTelling ∈ zG := zmem 1261 (by decide +kernel) (by decide +kernel)
theorem V_X7_seekTelling : zKv M_X7_seekTelling 7 := ⟨I_X7_seekTelling, zmem 51 (by decide +kernel) (by decide +kernel), _, rfl, rfl, by decide⟩
def M_X7_differs : zM := (yX7_differs, cX7_differs, 5, some .boolean, [])
set_option maxRecDepth 100000 in
theorem K_X7_differs : zKm M_X7_differs 2 := ⟨zmem 1266 rfl rfl, zmem 123 (by decide +kernel) (by decide +kernel), by decide +kernel, by decide +kernel, by decide +kernel, rfl, by decide⟩
theorem I_X7_differs : Cond.instanceMethod yX7_differs ∈ zG := zmem 1265 (by decide +kernel) (by decide +kernel)
theorem V_X7_differs : zKv M_X7_differs 7 := ⟨I_X7_differs, zmem 52 (by decide +kernel) (by decide +kernel), _, rfl, rfl, by decide⟩
def M_X7_hanging : zM := (yX7_hanging, cX7_hanging, 3, some .int, [])
set_option maxRecDepth 100000 in
theorem K_X7_hanging : zKm M_X7_hanging 0 := ⟨zmem 1270 rfl rfl, zmem 123 (by decide +kernel) (by decide +kernel), by decide +kernel, by decide +kernel, by decide +kernel, rfl, by decide⟩
theorem I_X7_hanging : Cond.instanceMethod yX7_hanging ∈ zG := zmem 1268 (by decide +kernel) (by decide +kernel)
theorem V_X7_hanging : zKv M_X7_hanging 7 := ⟨I_X7_hanging, zmem 1269 (by decide +kernel) (by decide +kernel), _, rfl, rfl, by decide⟩
def M_X7_leastSettling : zM := (yX7_leastSettling, cX7_leastSettling, 5, some .int, [])
set_option maxRecDepth 100000 in
theorem K_X7_leastSettling : zKm M_X7_leastSettling 0 := ⟨zmem 1281 rfl rfl, zmem 123 (by decide +kernel) (by decide +kernel), by decide +kernel, by decide +kernel, by decide +kernel, rfl, by decide⟩
theorem I_X7_leastSettling : Cond.instanceMethod yX7_leastSettling ∈ zG := zmem 1279 (by decide +kernel) (by decide +kernel)
theorem V_X7_leastSettling : zKv M_X7_leastSettling 7 := ⟨I_X7_leastSettling, zmem 1280 (by decide +kernel) (by decide +kernel), _, rfl, rfl, by decide⟩
def M_X7_settling : zM := (yX7_settling, cX7_settling, 5, some .boolean, [])
set_option maxRecDepth 100000 in
theorem K_X7_settling : zKm M_X7_settling 1 := ⟨zmem 1287 rfl rfl, zmem 123 (by decide +kernel) (by decide +kernel), by decide +kernel, by decide +kernel, by decide +kernel, rfl, by decide⟩
theorem I_X7_settling : Cond.instanceMethod yX7_settling ∈ zG := zmem 1286 (by decide +kernel) (by decide +kernel)
theorem V_X7_settling : zKv M_X7_settling 7 := ⟨I_X7_settling, zmem 53 (by decide +kernel) (by decide +kernel), _, rfl, rfl, by decide⟩
def M_X7_fewestQuestions : zM := (yX7_fewestQuestions, cX7_fewestQuestions, 1, some .int, [])
set_option maxRecDepth 100000 in
theorem K_X7_fewestQuestions : zKm M_X7_fewestQuestions 0 := ⟨zmem 1298 rfl rfl, zmem 123 (by decide +kernel) (by decide +kernel), by decide +kernel, by decide +kernel, by decide +kernel, rfl, by decide⟩
theorem I_X7_fewestQuestions : Cond.instanceMethod yX7_fewestQuestions ∈ zG := zmem 1296 (by decide +kernel) (by decide +kernel)
theorem V_X7_fewestQuestions : zKv M_X7_fewestQuestions 7 := ⟨I_X7_fewestQuestions, zmem 1297 (by decide +kernel) (by decide +kernel), _, rfl, rfl, by decide⟩
def M_X7_firstQuestion : zM := (yX7_firstQuestion, cX7_firstQuestion, 4, some .int, [])
set_option maxRecDepth 100000 in
theorem K_X7_firstQuestion : zKm M_X7_firstQuestion 0 := ⟨zmem 1346 rfl rfl, zmem 123 (by decide +kernel) (by decide +kernel), by decide +kernel, by decide +kernel, by decide +kernel, rfl, by decide⟩
theorem I_X7_firstQuestion : Cond.instanceMethod yX7_firstQuestion ∈ zG := zmem 1344 (by decide +kernel) (by decide +kernel)
theorem V_X7_firstQuestion : zKv M_X7_firstQuestion 7 := ⟨I_X7_firstQuestion, zmem 1345 (by decide +kernel) (by decide +kernel), _, rfl, rfl, by decide⟩
def M_X7_powerOf : zM := (yX7_powerOf, cX7_powerOf, 3, some .int, [])
set_option maxRecDepth 100000 in
theorem K_X7_powerOf : zKm M_X7_powerOf 1 := ⟨zmem 1305 rfl rfl, zmem 123 (by decide +kernel) (by decide +kernel), by decide +kernel, by decide +kernel, by decide +kernel, rfl, by decide⟩
theorem S_X7_powerOf : Cond.static yX7_powerOf ∈ zG := zmem 1304 (by decide +kernel) (by decide +kernel)
def M_X7_fillCubes : zM := (yX7_fillCubes, cX7_fillCubes, 3, none, [])
set_option maxRecDepth 100000 in
theorem K_X7_fillCubes : zKm M_X7_fillCubes 0 := ⟨zmem 1302 rfl rfl, zmem 123 (by decide +kernel) (by decide +kernel), by decide +kernel, by decide +kernel, by decide +kernel, rfl, by decide⟩
theorem I_X7_fillCubes : Cond.instanceMethod yX7_fillCubes ∈ zG := zmem 1301 (by decide +kernel) (by decide +kernel)
theorem V_X7_fillCubes : zKv M_X7_fillCubes 7 := ⟨I_X7_fillCubes, zmem 54 (by decide +kernel) (by decide +kernel), _, rfl, rfl, by decide⟩
def M_X7_countOn : zM := (yX7_countOn, cX7_countOn, 2, none, [])
set_option maxRecDepth 100000 in
theorem K_X7_countOn : zKm M_X7_countOn 0 := ⟨zmem 1335 rfl rfl, zmem 123 (by decide +kernel) (by decide +kernel), by decide +kernel, by decide +kernel, by decide +kernel, rfl, by decide⟩
theorem I_X7_countOn : Cond.instanceMethod yX7_countOn ∈ zG := zmem 1334 (by decide +kernel) (by decide +kernel)
theorem V_X7_countOn : zKv M_X7_countOn 7 := ⟨I_X7_countOn, zmem 61 (by decide +kernel) (by decide +kernel), _, rfl, rfl, by decide⟩
def M_X7_cubeValue : zM := (yX7_cubeValue, cX7_cubeValue, 7, some .int, [])
set_option maxRecDepth 100000 in
theorem K_X7_cubeValue : zKm M_X7_cubeValue 1 := ⟨zmem 1309 rfl rfl, zmem 123 (by decide +kernel) (by decide +kernel), by decide +kernel, by decide +kernel, by decide +kernel, rfl, by decide⟩
theorem I_X7_cubeValue : Cond.instanceMethod yX7_cubeValue ∈ zG := zmem 1308 (by decide +kernel) (by decide +kernel)
theorem V_X7_cubeValue : zKv M_X7_cubeValue 7 := ⟨I_X7_cubeValue, zmem 55 (by decide +kernel) (by decide +kernel), _, rfl, rfl, by decide⟩
def M_X7_firstFree : zM := (yX7_firstFree, cX7_firstFree, 2, some .int, [])
set_option maxRecDepth 100000 in
theorem K_X7_firstFree : zKm M_X7_firstFree 0 := ⟨zmem 1313 rfl rfl, zmem 123 (by decide +kernel) (by decide +kernel), by decide +kernel, by decide +kernel, by decide +kernel, rfl, by decide⟩
theorem I_X7_firstFree : Cond.instanceMethod yX7_firstFree ∈ zG := zmem 1312 (by decide +kernel) (by decide +kernel)
theorem V_X7_firstFree : zKv M_X7_firstFree 7 := ⟨I_X7_firstFree, zmem 56 (by decide +kernel) (by decide +kernel), _, rfl, rfl, by decide⟩
def M_X7_worldOfDigits : zM := (yX7_worldOfDigits, cX7_worldOfDigits, 3, some .int, [])
set_option maxRecDepth 100000 in
theorem K_X7_worldOfDigits : zKm M_X7_worldOfDigits 0 := ⟨zmem 1317 rfl rfl, zmem 123 (by decide +kernel) (by decide +kernel), by decide +kernel, by decide +kernel, by decide +kernel, rfl, by decide⟩
theorem I_X7_worldOfDigits : Cond.instanceMethod yX7_worldOfDigits ∈ zG := zmem 1316 (by decide +kernel) (by decide +kernel)
theorem V_X7_worldOfDigits : zKv M_X7_worldOfDigits 7 := ⟨I_X7_worldOfDigits, zmem 57 (by decide +kernel) (by decide +kernel), _, rfl, rfl, by decide⟩
def M_X7_questionsBy : zM := (yX7_questionsBy, cX7_questionsBy, 3, some .int, [])
set_option maxRecDepth 100000 in
theorem K_X7_questionsBy : zKm M_X7_questionsBy 2 := ⟨zmem 1325 rfl rfl, zmem 123 (by decide +kernel) (by decide +kernel), by decide +kernel, by decide +kernel, by decide +kernel, rfl, by decide⟩
theorem I_X7_questionsBy : Cond.instanceMethod yX7_questionsBy ∈ zG := zmem 1324 (by decide +kernel) (by decide +kernel)
theorem V_X7_questionsBy : zKv M_X7_questionsBy 7 := ⟨I_X7_questionsBy, zmem 59 (by decide +kernel) (by decide +kernel), _, rfl, rfl, by decide⟩
def M_X7_questionsIn : zM := (yX7_questionsIn, cX7_questionsIn, 2, some .int, [])
set_option maxRecDepth 100000 in
theorem K_X7_questionsIn : zKm M_X7_questionsIn 1 := ⟨zmem 1329 rfl rfl, zmem 123 (by decide +kernel) (by decide +kernel), by decide +kernel, by decide +kernel, by decide +kernel, rfl, by decide⟩
theorem I_X7_questionsIn : Cond.instanceMethod yX7_questionsIn ∈ zG := zmem 1328 (by decide +kernel) (by decide +kernel)
theorem V_X7_questionsIn : zKv M_X7_questionsIn 7 := ⟨I_X7_questionsIn, zmem 60 (by decide +kernel) (by decide +kernel), _, rfl, rfl, by decide⟩
def M_X7_valueAt : zM := (yX7_valueAt, cX7_valueAt, 2, some .int, [])
set_option maxRecDepth 100000 in
theorem K_X7_valueAt : zKm M_X7_valueAt 1 := ⟨zmem 1321 rfl rfl, zmem 123 (by decide +kernel) (by decide +kernel), by decide +kernel, by decide +kernel, by decide +kernel, rfl, by decide⟩
theorem I_X7_valueAt : Cond.instanceMethod yX7_valueAt ∈ zG := zmem 1320 (by decide +kernel) (by decide +kernel)
theorem V_X7_valueAt : zKv M_X7_valueAt 7 := ⟨I_X7_valueAt, zmem 58 (by decide +kernel) (by decide +kernel), _, rfl, rfl, by decide⟩
def M_X8_init : zM := (yX8_init, cX8_init, 2, none, [])
set_option maxRecDepth 100000 in
theorem K_X8_init : zKm M_X8_init 0 := ⟨zmem 246 rfl rfl, zmem 116 (by decide +kernel) (by decide +kernel), by decide +kernel, by decide +kernel, by decide +kernel, rfl, by decide⟩
theorem I_X8_init : Cond.instanceMethod yX8_init ∈ zG := zmem 245 (by decide +kernel) (by decide +kernel)
def M_X8_copy : zM := (yX8_copy, cX8_copy, 4, none, [])
set_option maxRecDepth 100000 in
theorem K_X8_copy : zKm M_X8_copy 1 := ⟨zmem 636 rfl rfl, zmem 116 (by decide +kernel) (by decide +kernel), by decide +kernel, by decide +kernel, by decide +kernel, rfl, by decide⟩
theorem I_X8_copy : Cond.instanceMethod yX8_copy ∈ zG := zmem 634 (by decide +kernel) (by decide +kernel)
theorem V_X8_copy : zKv M_X8_copy 8 := ⟨I_X8_copy, zmem 635 (by decide +kernel) (by decide +kernel), _, rfl, rfl, by decide⟩
def M_X8_openUnknowns : zM := (yX8_openUnknowns, cX8_openUnknowns, 3, some .int, [])
set_option maxRecDepth 100000 in
theorem K_X8_openUnknowns : zKm M_X8_openUnknowns 0 := ⟨zmem 673 rfl rfl, zmem 116 (by decide +kernel) (by decide +kernel), by decide +kernel, by decide +kernel, by decide +kernel, rfl, by decide⟩
theorem I_X8_openUnknowns : Cond.instanceMethod yX8_openUnknowns ∈ zG := zmem 671 (by decide +kernel) (by decide +kernel)
theorem V_X8_openUnknowns : zKv M_X8_openUnknowns 8 := ⟨I_X8_openUnknowns, zmem 672 (by decide +kernel) (by decide +kernel), _, rfl, rfl, by decide⟩
def M_X8_nameOf : zM := (yX8_nameOf, cX8_nameOf, 4, some .int, [])
set_option maxRecDepth 100000 in
theorem K_X8_nameOf : zKm M_X8_nameOf 3 := ⟨zmem 1130 rfl rfl, zmem 116 (by decide +kernel) (by decide +kernel), by decide +kernel, by decide +kernel, by decide +kernel, rfl, by decide⟩
theorem I_X8_nameOf : Cond.instanceMethod yX8_nameOf ∈ zG := zmem 1128 (by decide +kernel) (by decide +kernel)
theorem V_X8_nameOf : zKv M_X8_nameOf 8 := ⟨I_X8_nameOf, zmem 1129 (by decide +kernel) (by decide +kernel), _, rfl, rfl, by decide⟩
def M_X8_rareness : zM := (yX8_rareness, cX8_rareness, 4, some .int, [])
set_option maxRecDepth 100000 in
theorem K_X8_rareness : zKm M_X8_rareness 1 := ⟨zmem 1140 rfl rfl, zmem 116 (by decide +kernel) (by decide +kernel), by decide +kernel, by decide +kernel, by decide +kernel, rfl, by decide⟩
theorem I_X8_rareness : Cond.instanceMethod yX8_rareness ∈ zG := zmem 1139 (by decide +kernel) (by decide +kernel)
theorem V_X8_rareness : zKv M_X8_rareness 8 := ⟨I_X8_rareness, zmem 42 (by decide +kernel) (by decide +kernel), _, rfl, rfl, by decide⟩
def M_X8_ownHundredths : zM := (yX8_ownHundredths, cX8_ownHundredths, 6, some .int, [])
set_option maxRecDepth 100000 in
theorem K_X8_ownHundredths : zKm M_X8_ownHundredths 1 := ⟨zmem 1149 rfl rfl, zmem 116 (by decide +kernel) (by decide +kernel), by decide +kernel, by decide +kernel, by decide +kernel, rfl, by decide⟩
theorem I_X8_ownHundredths : Cond.instanceMethod yX8_ownHundredths ∈ zG := zmem 1148 (by decide +kernel) (by decide +kernel)
theorem V_X8_ownHundredths : zKv M_X8_ownHundredths 8 := ⟨I_X8_ownHundredths, zmem 43 (by decide +kernel) (by decide +kernel), _, rfl, rfl, by decide⟩
def M_X8_claimsOf : zM := (yX8_claimsOf, cX8_claimsOf, 4, some .int, [])
set_option maxRecDepth 100000 in
theorem K_X8_claimsOf : zKm M_X8_claimsOf 1 := ⟨zmem 1153 rfl rfl, zmem 116 (by decide +kernel) (by decide +kernel), by decide +kernel, by decide +kernel, by decide +kernel, rfl, by decide⟩
theorem I_X8_claimsOf : Cond.instanceMethod yX8_claimsOf ∈ zG := zmem 1152 (by decide +kernel) (by decide +kernel)
theorem V_X8_claimsOf : zKv M_X8_claimsOf 8 := ⟨I_X8_claimsOf, zmem 44 (by decide +kernel) (by decide +kernel), _, rfl, rfl, by decide⟩
def M_X8_havers : zM := (yX8_havers, cX8_havers, 4, some .int, [])
set_option maxRecDepth 100000 in
theorem K_X8_havers : zKm M_X8_havers 1 := ⟨zmem 1144 rfl rfl, zmem 116 (by decide +kernel) (by decide +kernel), by decide +kernel, by decide +kernel, by decide +kernel, rfl, by decide⟩
theorem I_X8_havers : Cond.instanceMethod yX8_havers ∈ zG := zmem 1142 (by decide +kernel) (by decide +kernel)
theorem V_X8_havers : zKv M_X8_havers 8 := ⟨I_X8_havers, zmem 1143 (by decide +kernel) (by decide +kernel), _, rfl, rfl, by decide⟩
def M_X8_fits : zM := (yX8_fits, cX8_fits, 2, some .boolean, [])
set_option maxRecDepth 100000 in
theorem K_X8_fits : zKm M_X8_fits 1 := ⟨zmem 1367 rfl rfl, zmem 116 (by decide +kernel) (by decide +kernel), by decide +kernel, by decide +kernel, by decide +kernel, rfl, by decide⟩
theorem I_X8_fits : Cond.instanceMethod yX8_fits ∈ zG := zmem 1365 (by decide +kernel) (by decide +kernel)
theorem V_X8_fits : zKv M_X8_fits 8 := ⟨I_X8_fits, zmem 1366 (by decide +kernel) (by decide +kernel), _, rfl, rfl, by decide⟩
def M_X9_init : zM := (yX9_init, cX9_init, 1, none, [])
set_option maxRecDepth 100000 in
theorem K_X9_init : zKm M_X9_init 0 := ⟨zmem 474 rfl rfl, zmem 122 (by decide +kernel) (by decide +kernel), by decide +kernel, by decide +kernel, by decide +kernel, rfl, by decide⟩
theorem I_X9_init : Cond.instanceMethod yX9_init ∈ zG := zmem 473 (by decide +kernel) (by decide +kernel)
def M_X9_clear : zM := (yX9_clear, cX9_clear, 2, none, [])
set_option maxRecDepth 100000 in
theorem K_X9_clear : zKm M_X9_clear 0 := ⟨zmem 1199 rfl rfl, zmem 122 (by decide +kernel) (by decide +kernel), by decide +kernel, by decide +kernel, by decide +kernel, rfl, by decide⟩
theorem I_X9_clear : Cond.instanceMethod yX9_clear ∈ zG := zmem 1197 (by decide +kernel) (by decide +kernel)
theorem V_X9_clear : zKv M_X9_clear 9 := ⟨I_X9_clear, zmem 1198 (by decide +kernel) (by decide +kernel), _, rfl, rfl, by decide⟩
def M_X9_whoBits : zM := (yX9_whoBits, cX9_whoBits, 3, some .int, [])
set_option maxRecDepth 100000 in
theorem K_X9_whoBits : zKm M_X9_whoBits 0 := ⟨zmem 1228 rfl rfl, zmem 122 (by decide +kernel) (by decide +kernel), by decide +kernel, by decide +kernel, by decide +kernel, rfl, by decide⟩
theorem I_X9_whoBits : Cond.instanceMethod yX9_whoBits ∈ zG := zmem 1226 (by decide +kernel) (by decide +kernel)
theorem V_X9_whoBits : zKv M_X9_whoBits 9 := ⟨I_X9_whoBits, zmem 1227 (by decide +kernel) (by decide +kernel), _, rfl, rfl, by decide⟩
def M_X9_whoIn : zM := (yX9_whoIn, cX9_whoIn, 3, some .int, [])
set_option maxRecDepth 100000 in
theorem K_X9_whoIn : zKm M_X9_whoIn 1 := ⟨zmem 1212 rfl rfl, zmem 122 (by decide +kernel) (by decide +kernel), by decide +kernel, by decide +kernel, by decide +kernel, rfl, by decide⟩
theorem I_X9_whoIn : Cond.instanceMethod yX9_whoIn ∈ zG := zmem 1210 (by decide +kernel) (by decide +kernel)
theorem V_X9_whoIn : zKv M_X9_whoIn 9 := ⟨I_X9_whoIn, zmem 1211 (by decide +kernel) (by decide +kernel), _, rfl, rfl, by decide⟩
def M_X9_partsFrom : zM := (yX9_partsFrom, cX9_partsFrom, 3, some .boolean, [])
set_option maxRecDepth 100000 in
theorem K_X9_partsFrom : zKm M_X9_partsFrom 1 := ⟨zmem 1477 rfl rfl, zmem 122 (by decide +kernel) (by decide +kernel), by decide +kernel, by decide +kernel, by decide +kernel, rfl, by decide⟩
theorem I_X9_partsFrom : Cond.instanceMethod yX9_partsFrom ∈ zG := zmem 1475 (by decide +kernel) (by decide +kernel)
theorem V_X9_partsFrom : zKv M_X9_partsFrom 9 := ⟨I_X9_partsFrom, zmem 1476 (by decide +kernel) (by decide +kernel), _, rfl, rfl, by decide⟩
def M_X10_init : zM := (yX10_init, cX10_init, 2, none, [])
set_option maxRecDepth 100000 in
theorem K_X10_init : zKm M_X10_init 0 := ⟨zmem 144 rfl rfl, zmem 113 (by decide +kernel) (by decide +kernel), by decide +kernel, by decide +kernel, by decide +kernel, rfl, by decide⟩
theorem I_X10_init : Cond.instanceMethod yX10_init ∈ zG := zmem 143 (by decide +kernel) (by decide +kernel)
def M_X10_feed : zM := (yX10_feed, cX10_feed, 6, some .int, [])
set_option maxRecDepth 100000 in
theorem K_X10_feed : zKm M_X10_feed 5 := ⟨zmem 581 rfl rfl, zmem 113 (by decide +kernel) (by decide +kernel), by decide +kernel, by decide +kernel, by decide +kernel, rfl, by decide⟩
theorem I_X10_feed : Cond.instanceMethod yX10_feed ∈ zG := zmem 579 (by decide +kernel) (by decide +kernel)
theorem V_X10_feed : zKv M_X10_feed 10 := ⟨I_X10_feed, zmem 580 (by decide +kernel) (by decide +kernel), _, rfl, rfl, by decide⟩
def M_X10_law : zM := (yX10_law, cX10_law, 2, some .int, [])
set_option maxRecDepth 100000 in
theorem K_X10_law : zKm M_X10_law 1 := ⟨zmem 681 rfl rfl, zmem 113 (by decide +kernel) (by decide +kernel), by decide +kernel, by decide +kernel, by decide +kernel, rfl, by decide⟩
theorem I_X10_law : Cond.instanceMethod yX10_law ∈ zG := zmem 679 (by decide +kernel) (by decide +kernel)
theorem V_X10_law : zKv M_X10_law 10 := ⟨I_X10_law, zmem 680 (by decide +kernel) (by decide +kernel), _, rfl, rfl, by decide⟩
def M_X10_holds : zM := (yX10_holds, cX10_holds, 2, some .int, [])
set_option maxRecDepth 100000 in
theorem K_X10_holds : zKm M_X10_holds 1 := ⟨zmem 941 rfl rfl, zmem 113 (by decide +kernel) (by decide +kernel), by decide +kernel, by decide +kernel, by decide +kernel, rfl, by decide⟩
theorem I_X10_holds : Cond.instanceMethod yX10_holds ∈ zG := zmem 939 (by decide +kernel) (by decide +kernel)
theorem V_X10_holds : zKv M_X10_holds 10 := ⟨I_X10_holds, zmem 940 (by decide +kernel) (by decide +kernel), _, rfl, rfl, by decide⟩
def M_X10_takeTape : zM := (yX10_takeTape, cX10_takeTape, 2, none, [])
set_option maxRecDepth 100000 in
theorem K_X10_takeTape : zKm M_X10_takeTape 1 := ⟨zmem 685 rfl rfl, zmem 113 (by decide +kernel) (by decide +kernel), by decide +kernel, by decide +kernel, by decide +kernel, rfl, by decide⟩
theorem I_X10_takeTape : Cond.instanceMethod yX10_takeTape ∈ zG := zmem 684 (by decide +kernel) (by decide +kernel)
theorem V_X10_takeTape : zKv M_X10_takeTape 10 := ⟨I_X10_takeTape, zmem 3 (by decide +kernel) (by decide +kernel), _, rfl, rfl, by decide⟩
def M_X10_fault : zM := (yX10_fault, cX10_fault, 1, some .int, [])
set_option maxRecDepth 100000 in
theorem K_X10_fault : zKm M_X10_fault 0 := ⟨zmem 589 rfl rfl, zmem 113 (by decide +kernel) (by decide +kernel), by decide +kernel, by decide +kernel, by decide +kernel, rfl, by decide⟩
theorem I_X10_fault : Cond.instanceMethod yX10_fault ∈ zG := zmem 587 (by decide +kernel) (by decide +kernel)
theorem V_X10_fault : zKv M_X10_fault 10 := ⟨I_X10_fault, zmem 588 (by decide +kernel) (by decide +kernel), _, rfl, rfl, by decide⟩
def M_X10_know : zM := (yX10_know, cX10_know, 4, some .int, [])
set_option maxRecDepth 100000 in
theorem K_X10_know : zKm M_X10_know 2 := ⟨zmem 1006 rfl rfl, zmem 113 (by decide +kernel) (by decide +kernel), by decide +kernel, by decide +kernel, by decide +kernel, rfl, by decide⟩
theorem I_X10_know : Cond.instanceMethod yX10_know ∈ zG := zmem 1004 (by decide +kernel) (by decide +kernel)
theorem V_X10_know : zKv M_X10_know 10 := ⟨I_X10_know, zmem 1005 (by decide +kernel) (by decide +kernel), _, rfl, rfl, by decide⟩
def M_X10_weigh : zM := (yX10_weigh, cX10_weigh, 4, some .int, [])
set_option maxRecDepth 100000 in
theorem K_X10_weigh : zKm M_X10_weigh 2 := ⟨zmem 1036 rfl rfl, zmem 113 (by decide +kernel) (by decide +kernel), by decide +kernel, by decide +kernel, by decide +kernel, rfl, by decide⟩
theorem I_X10_weigh : Cond.instanceMethod yX10_weigh ∈ zG := zmem 1034 (by decide +kernel) (by decide +kernel)
theorem V_X10_weigh : zKv M_X10_weigh 10 := ⟨I_X10_weigh, zmem 1035 (by decide +kernel) (by decide +kernel), _, rfl, rfl, by decide⟩
def M_X10_testUnknown : zM := (yX10_testUnknown, cX10_testUnknown, 1, none, [])
set_option maxRecDepth 100000 in
theorem K_X10_testUnknown : zKm M_X10_testUnknown 1 := ⟨zmem 1009 rfl rfl, zmem 113 (by decide +kernel) (by decide +kernel), by decide +kernel, by decide +kernel, by decide +kernel, rfl, by decide⟩
theorem S_X10_testUnknown : Cond.static yX10_testUnknown ∈ zG := zmem 1008 (by decide +kernel) (by decide +kernel)
def M_X10_testRange : zM := (yX10_testRange, cX10_testRange, 3, none, [])
set_option maxRecDepth 100000 in
theorem K_X10_testRange : zKm M_X10_testRange 3 := ⟨zmem 1028 rfl rfl, zmem 113 (by decide +kernel) (by decide +kernel), by decide +kernel, by decide +kernel, by decide +kernel, rfl, by decide⟩
theorem S_X10_testRange : Cond.static yX10_testRange ∈ zG := zmem 1027 (by decide +kernel) (by decide +kernel)
def M_X10_worlds : zM := (yX10_worlds, cX10_worlds, 3, some .int, [])
set_option maxRecDepth 100000 in
theorem K_X10_worlds : zKm M_X10_worlds 0 := ⟨zmem 593 rfl rfl, zmem 113 (by decide +kernel) (by decide +kernel), by decide +kernel, by decide +kernel, by decide +kernel, rfl, by decide⟩
theorem I_X10_worlds : Cond.instanceMethod yX10_worlds ∈ zG := zmem 591 (by decide +kernel) (by decide +kernel)
theorem V_X10_worlds : zKv M_X10_worlds 10 := ⟨I_X10_worlds, zmem 592 (by decide +kernel) (by decide +kernel), _, rfl, rfl, by decide⟩
def M_X10_world : zM := (yX10_world, cX10_world, 4, some .int, [])
set_option maxRecDepth 100000 in
theorem K_X10_world : zKm M_X10_world 1 := ⟨zmem 613 rfl rfl, zmem 113 (by decide +kernel) (by decide +kernel), by decide +kernel, by decide +kernel, by decide +kernel, rfl, by decide⟩
theorem I_X10_world : Cond.instanceMethod yX10_world ∈ zG := zmem 611 (by decide +kernel) (by decide +kernel)
theorem V_X10_world : zKv M_X10_world 10 := ⟨I_X10_world, zmem 612 (by decide +kernel) (by decide +kernel), _, rfl, rfl, by decide⟩
def M_X10_all : zM := (yX10_all, cX10_all, 1, some .long, [])
set_option maxRecDepth 100000 in
theorem K_X10_all : zKm M_X10_all 0 := ⟨zmem 620 rfl rfl, zmem 113 (by decide +kernel) (by decide +kernel), by decide +kernel, by decide +kernel, by decide +kernel, rfl, by decide⟩
theorem I_X10_all : Cond.instanceMethod yX10_all ∈ zG := zmem 618 (by decide +kernel) (by decide +kernel)
theorem V_X10_all : zKv M_X10_all 10 := ⟨I_X10_all, zmem 619 (by decide +kernel) (by decide +kernel), _, rfl, rfl, by decide⟩
def M_X10_fillWorldSet : zM := (yX10_fillWorldSet, cX10_fillWorldSet, 7, none, [])
set_option maxRecDepth 100000 in
theorem K_X10_fillWorldSet : zKm M_X10_fillWorldSet 0 := ⟨zmem 597 rfl rfl, zmem 113 (by decide +kernel) (by decide +kernel), by decide +kernel, by decide +kernel, by decide +kernel, rfl, by decide⟩
theorem I_X10_fillWorldSet : Cond.instanceMethod yX10_fillWorldSet ∈ zG := zmem 596 (by decide +kernel) (by decide +kernel)
theorem V_X10_fillWorldSet : zKv M_X10_fillWorldSet 10 := ⟨I_X10_fillWorldSet, zmem 0 (by decide +kernel) (by decide +kernel), _, rfl, rfl, by decide⟩
def M_X10_trueBits : zM := (yX10_trueBits, cX10_trueBits, 2, some .long, [])
set_option maxRecDepth 100000 in
theorem K_X10_trueBits : zKm M_X10_trueBits 2 := ⟨zmem 600 rfl rfl, zmem 113 (by decide +kernel) (by decide +kernel), by decide +kernel, by decide +kernel, by decide +kernel, rfl, by decide⟩
theorem S_X10_trueBits : Cond.static yX10_trueBits ∈ zG := zmem 599 (by decide +kernel) (by decide +kernel)
def M_X10_hasWorld : zM := (yX10_hasWorld, cX10_hasWorld, 4, some .boolean, [])
set_option maxRecDepth 100000 in
theorem K_X10_hasWorld : zKm M_X10_hasWorld 3 := ⟨zmem 616 rfl rfl, zmem 113 (by decide +kernel) (by decide +kernel), by decide +kernel, by decide +kernel, by decide +kernel, rfl, by decide⟩
theorem S_X10_hasWorld : Cond.static yX10_hasWorld ∈ zG := zmem 615 (by decide +kernel) (by decide +kernel)
def M_X10_weightOf : zM := (yX10_weightOf, cX10_weightOf, 6, some .long, [])
set_option maxRecDepth 100000 in
theorem K_X10_weightOf : zKm M_X10_weightOf 2 := ⟨zmem 624 rfl rfl, zmem 113 (by decide +kernel) (by decide +kernel), by decide +kernel, by decide +kernel, by decide +kernel, rfl, by decide⟩
theorem I_X10_weightOf : Cond.instanceMethod yX10_weightOf ∈ zG := zmem 623 (by decide +kernel) (by decide +kernel)
theorem V_X10_weightOf : zKv M_X10_weightOf 10 := ⟨I_X10_weightOf, zmem 1 (by decide +kernel) (by decide +kernel), _, rfl, rfl, by decide⟩
def M_X10_fillWeights : zM := (yX10_fillWeights, cX10_fillWeights, 7, none, [])
set_option maxRecDepth 100000 in
theorem K_X10_fillWeights : zKm M_X10_fillWeights 0 := ⟨zmem 628 rfl rfl, zmem 113 (by decide +kernel) (by decide +kernel), by decide +kernel, by decide +kernel, by decide +kernel, rfl, by decide⟩
theorem I_X10_fillWeights : Cond.instanceMethod yX10_fillWeights ∈ zG := zmem 627 (by decide +kernel) (by decide +kernel)
theorem V_X10_fillWeights : zKv M_X10_fillWeights 10 := ⟨I_X10_fillWeights, zmem 2 (by decide +kernel) (by decide +kernel), _, rfl, rfl, by decide⟩
def M_X10_person : zM := (yX10_person, cX10_person, 3, some .int, [])
set_option maxRecDepth 100000 in
theorem K_X10_person : zKm M_X10_person 2 := ⟨zmem 1043 rfl rfl, zmem 113 (by decide +kernel) (by decide +kernel), by decide +kernel, by decide +kernel, by decide +kernel, rfl, by decide⟩
theorem I_X10_person : Cond.instanceMethod yX10_person ∈ zG := zmem 1041 (by decide +kernel) (by decide +kernel)
theorem V_X10_person : zKv M_X10_person 10 := ⟨I_X10_person, zmem 1042 (by decide +kernel) (by decide +kernel), _, rfl, rfl, by decide⟩
def M_X10_passes : zM := (yX10_passes, cX10_passes, 6, some .int, [])
set_option maxRecDepth 100000 in
theorem K_X10_passes : zKm M_X10_passes 3 := ⟨zmem 1055 rfl rfl, zmem 113 (by decide +kernel) (by decide +kernel), by decide +kernel, by decide +kernel, by decide +kernel, rfl, by decide⟩
theorem I_X10_passes : Cond.instanceMethod yX10_passes ∈ zG := zmem 1053 (by decide +kernel) (by decide +kernel)
theorem V_X10_passes : zKv M_X10_passes 10 := ⟨I_X10_passes, zmem 1054 (by decide +kernel) (by decide +kernel), _, rfl, rfl, by decide⟩
def M_X10_ground : zM := (yX10_ground, cX10_ground, 5, some .int, [])
set_option maxRecDepth 100000 in
theorem K_X10_ground : zKm M_X10_ground 3 := ⟨zmem 1082 rfl rfl, zmem 113 (by decide +kernel) (by decide +kernel), by decide +kernel, by decide +kernel, by decide +kernel, rfl, by decide⟩
theorem I_X10_ground : Cond.instanceMethod yX10_ground ∈ zG := zmem 1080 (by decide +kernel) (by decide +kernel)
theorem V_X10_ground : zKv M_X10_ground 10 := ⟨I_X10_ground, zmem 1081 (by decide +kernel) (by decide +kernel), _, rfl, rfl, by decide⟩
def M_X10_personOf : zM := (yX10_personOf, cX10_personOf, 2, some (.object "FoundThings$Person"), [])
set_option maxRecDepth 100000 in
theorem K_X10_personOf : zKm M_X10_personOf 1 := ⟨zmem 1059 rfl rfl, zmem 113 (by decide +kernel) (by decide +kernel), by decide +kernel, by decide +kernel, by decide +kernel, rfl, by decide⟩
theorem I_X10_personOf : Cond.instanceMethod yX10_personOf ∈ zG := zmem 1058 (by decide +kernel) (by decide +kernel)
theorem V_X10_personOf : zKv M_X10_personOf 10 := ⟨I_X10_personOf, zmem 40 (by decide +kernel) (by decide +kernel), _, rfl, rfl, by decide⟩
def M_X10_days : zM := (yX10_days, cX10_days, 2, some .int, [])
set_option maxRecDepth 100000 in
theorem K_X10_days : zKm M_X10_days 1 := ⟨zmem 1090 rfl rfl, zmem 113 (by decide +kernel) (by decide +kernel), by decide +kernel, by decide +kernel, by decide +kernel, rfl, by decide⟩
theorem I_X10_days : Cond.instanceMethod yX10_days ∈ zG := zmem 1088 (by decide +kernel) (by decide +kernel)
theorem V_X10_days : zKv M_X10_days 10 := ⟨I_X10_days, zmem 1089 (by decide +kernel) (by decide +kernel), _, rfl, rfl, by decide⟩
def M_X10_find : zM := (yX10_find, cX10_find, 7, some .int, [])
set_option maxRecDepth 100000 in
theorem K_X10_find : zKm M_X10_find 5 := ⟨zmem 1113 rfl rfl, zmem 113 (by decide +kernel) (by decide +kernel), by decide +kernel, by decide +kernel, by decide +kernel, rfl, by decide⟩
theorem I_X10_find : Cond.instanceMethod yX10_find ∈ zG := zmem 1111 (by decide +kernel) (by decide +kernel)
theorem V_X10_find : zKv M_X10_find 10 := ⟨I_X10_find, zmem 1112 (by decide +kernel) (by decide +kernel), _, rfl, rfl, by decide⟩
def M_X10_findOf : zM := (yX10_findOf, cX10_findOf, 2, some (.object "FoundThings$Find"), [])
set_option maxRecDepth 100000 in
theorem K_X10_findOf : zKm M_X10_findOf 1 := ⟨zmem 1125 rfl rfl, zmem 113 (by decide +kernel) (by decide +kernel), by decide +kernel, by decide +kernel, by decide +kernel, rfl, by decide⟩
theorem I_X10_findOf : Cond.instanceMethod yX10_findOf ∈ zG := zmem 1124 (by decide +kernel) (by decide +kernel)
theorem V_X10_findOf : zKv M_X10_findOf 10 := ⟨I_X10_findOf, zmem 41 (by decide +kernel) (by decide +kernel), _, rfl, rfl, by decide⟩
def M_X10_name : zM := (yX10_name, cX10_name, 4, some .int, [])
set_option maxRecDepth 100000 in
theorem K_X10_name : zKm M_X10_name 2 := ⟨zmem 1121 rfl rfl, zmem 113 (by decide +kernel) (by decide +kernel), by decide +kernel, by decide +kernel, by decide +kernel, rfl, by decide⟩
theorem I_X10_name : Cond.instanceMethod yX10_name ∈ zG := zmem 1119 (by decide +kernel) (by decide +kernel)
theorem V_X10_name : zKv M_X10_name 10 := ⟨I_X10_name, zmem 1120 (by decide +kernel) (by decide +kernel), _, rfl, rfl, by decide⟩
def M_X10_fillNames : zM := (yX10_fillNames, cX10_fillNames, 4, none, [])
set_option maxRecDepth 100000 in
theorem K_X10_fillNames : zKm M_X10_fillNames 2 := ⟨zmem 1191 rfl rfl, zmem 113 (by decide +kernel) (by decide +kernel), by decide +kernel, by decide +kernel, by decide +kernel, rfl, by decide⟩
theorem I_X10_fillNames : Cond.instanceMethod yX10_fillNames ∈ zG := zmem 1190 (by decide +kernel) (by decide +kernel)
theorem V_X10_fillNames : zKv M_X10_fillNames 10 := ⟨I_X10_fillNames, zmem 46 (by decide +kernel) (by decide +kernel), _, rfl, rfl, by decide⟩
def M_X10_hold : zM := (yX10_hold, cX10_hold, 6, some .int, [])
set_option maxRecDepth 100000 in
theorem K_X10_hold : zKm M_X10_hold 4 := ⟨zmem 1160 rfl rfl, zmem 113 (by decide +kernel) (by decide +kernel), by decide +kernel, by decide +kernel, by decide +kernel, rfl, by decide⟩
theorem I_X10_hold : Cond.instanceMethod yX10_hold ∈ zG := zmem 1158 (by decide +kernel) (by decide +kernel)
theorem V_X10_hold : zKv M_X10_hold 10 := ⟨I_X10_hold, zmem 1159 (by decide +kernel) (by decide +kernel), _, rfl, rfl, by decide⟩
def M_X10_finders : zM := (yX10_finders, cX10_finders, 2, some .int, [])
set_option maxRecDepth 100000 in
theorem K_X10_finders : zKm M_X10_finders 1 := ⟨zmem 1171 rfl rfl, zmem 113 (by decide +kernel) (by decide +kernel), by decide +kernel, by decide +kernel, by decide +kernel, rfl, by decide⟩
theorem I_X10_finders : Cond.instanceMethod yX10_finders ∈ zG := zmem 1169 (by decide +kernel) (by decide +kernel)
theorem V_X10_finders : zKv M_X10_finders 10 := ⟨I_X10_finders, zmem 1170 (by decide +kernel) (by decide +kernel), _, rfl, rfl, by decide⟩
def M_X10_whose : zM := (yX10_whose, cX10_whose, 8, some .int, [])
set_option maxRecDepth 100000 in
theorem K_X10_whose : zKm M_X10_whose 4 := ⟨zmem 1182 rfl rfl, zmem 113 (by decide +kernel) (by decide +kernel), by decide +kernel, by decide +kernel, by decide +kernel, rfl, by decide⟩
theorem I_X10_whose : Cond.instanceMethod yX10_whose ∈ zG := zmem 1180 (by decide +kernel) (by decide +kernel)
theorem V_X10_whose : zKv M_X10_whose 10 := ⟨I_X10_whose, zmem 1181 (by decide +kernel) (by decide +kernel), _, rfl, rfl, by decide⟩
def M_X10_lawOf : zM := (yX10_lawOf, cX10_lawOf, 2, some (.object "FoundThings$Law"), [])
set_option maxRecDepth 100000 in
theorem K_X10_lawOf : zKm M_X10_lawOf 1 := ⟨zmem 1186 rfl rfl, zmem 113 (by decide +kernel) (by decide +kernel), by decide +kernel, by decide +kernel, by decide +kernel, rfl, by decide⟩
theorem I_X10_lawOf : Cond.instanceMethod yX10_lawOf ∈ zG := zmem 1185 (by decide +kernel) (by decide +kernel)
theorem V_X10_lawOf : zKv M_X10_lawOf 10 := ⟨I_X10_lawOf, zmem 45 (by decide +kernel) (by decide +kernel), _, rfl, rfl, by decide⟩
def M_X10_decideFind : zM := (yX10_decideFind, cX10_decideFind, 5, none, [])
set_option maxRecDepth 100000 in
theorem K_X10_decideFind : zKm M_X10_decideFind 2 := ⟨zmem 1224 rfl rfl, zmem 113 (by decide +kernel) (by decide +kernel), by decide +kernel, by decide +kernel, by decide +kernel, rfl, by decide⟩
theorem I_X10_decideFind : Cond.instanceMethod yX10_decideFind ∈ zG := zmem 1223 (by decide +kernel) (by decide +kernel)
theorem V_X10_decideFind : zKv M_X10_decideFind 10 := ⟨I_X10_decideFind, zmem 49 (by decide +kernel) (by decide +kernel), _, rfl, rfl, by decide⟩
def M_X10_sure : zM := (yX10_sure, cX10_sure, 5, some .int, [])
set_option maxRecDepth 100000 in
theorem K_X10_sure : zKm M_X10_sure 2 := ⟨zmem 1220 rfl rfl, zmem 113 (by decide +kernel) (by decide +kernel), by decide +kernel, by decide +kernel, by decide +kernel, rfl, by decide⟩
theorem I_X10_sure : Cond.instanceMethod yX10_sure ∈ zG := zmem 1218 (by decide +kernel) (by decide +kernel)
theorem V_X10_sure : zKv M_X10_sure 10 := ⟨I_X10_sure, zmem 1219 (by decide +kernel) (by decide +kernel), _, rfl, rfl, by decide⟩
def M_X10_may : zM := (yX10_may, cX10_may, 3, some .int, [])
set_option maxRecDepth 100000 in
theorem K_X10_may : zKm M_X10_may 2 := ⟨zmem 1235 rfl rfl, zmem 113 (by decide +kernel) (by decide +kernel), by decide +kernel, by decide +kernel, by decide +kernel, rfl, by decide⟩
theorem I_X10_may : Cond.instanceMethod yX10_may ∈ zG := zmem 1233 (by decide +kernel) (by decide +kernel)
theorem V_X10_may : zKv M_X10_may 10 := ⟨I_X10_may, zmem 1234 (by decide +kernel) (by decide +kernel), _, rfl, rfl, by decide⟩
def M_X10_part : zM := (yX10_part, cX10_part, 4, some .long, [])
set_option maxRecDepth 100000 in
theorem K_X10_part : zKm M_X10_part 3 := ⟨zmem 1242 rfl rfl, zmem 113 (by decide +kernel) (by decide +kernel), by decide +kernel, by decide +kernel, by decide +kernel, rfl, by decide⟩
theorem I_X10_part : Cond.instanceMethod yX10_part ∈ zG := zmem 1240 (by decide +kernel) (by decide +kernel)
theorem V_X10_part : zKv M_X10_part 10 := ⟨I_X10_part, zmem 1241 (by decide +kernel) (by decide +kernel), _, rfl, rfl, by decide⟩
def M_X10_hangs : zM := (yX10_hangs, cX10_hangs, 3, some .int, [])
set_option maxRecDepth 100000 in
theorem K_X10_hangs : zKm M_X10_hangs 2 := ⟨zmem 1249 rfl rfl, zmem 113 (by decide +kernel) (by decide +kernel), by decide +kernel, by decide +kernel, by decide +kernel, rfl, by decide⟩
theorem I_X10_hangs : Cond.instanceMethod yX10_hangs ∈ zG := zmem 1247 (by decide +kernel) (by decide +kernel)
theorem V_X10_hangs : zKv M_X10_hangs 10 := ⟨I_X10_hangs, zmem 1248 (by decide +kernel) (by decide +kernel), _, rfl, rfl, by decide⟩
def M_X10_settles : zM := (yX10_settles, cX10_settles, 3, some .int, [])
set_option maxRecDepth 100000 in
theorem K_X10_settles : zKm M_X10_settles 2 := ⟨zmem 1277 rfl rfl, zmem 113 (by decide +kernel) (by decide +kernel), by decide +kernel, by decide +kernel, by decide +kernel, rfl, by decide⟩
theorem I_X10_settles : Cond.instanceMethod yX10_settles ∈ zG := zmem 1275 (by decide +kernel) (by decide +kernel)
theorem V_X10_settles : zKv M_X10_settles 10 := ⟨I_X10_settles, zmem 1276 (by decide +kernel) (by decide +kernel), _, rfl, rfl, by decide⟩
def M_X10_questions : zM := (yX10_questions, cX10_questions, 3, some .int, [])
set_option maxRecDepth 100000 in
theorem K_X10_questions : zKm M_X10_questions 2 := ⟨zmem 1294 rfl rfl, zmem 113 (by decide +kernel) (by decide +kernel), by decide +kernel, by decide +kernel, by decide +kernel, rfl, by decide⟩
theorem I_X10_questions : Cond.instanceMethod yX10_questions ∈ zG := zmem 1292 (by decide +kernel) (by decide +kernel)
theorem V_X10_questions : zKv M_X10_questions 10 := ⟨I_X10_questions, zmem 1293 (by decide +kernel) (by decide +kernel), _, rfl, rfl, by decide⟩
def M_X10_ask : zM := (yX10_ask, cX10_ask, 3, some .int, [])
set_option maxRecDepth 100000 in
theorem K_X10_ask : zKm M_X10_ask 2 := ⟨zmem 1342 rfl rfl, zmem 113 (by decide +kernel) (by decide +kernel), by decide +kernel, by decide +kernel, by decide +kernel, rfl, by decide⟩
theorem I_X10_ask : Cond.instanceMethod yX10_ask ∈ zG := zmem 1340 (by decide +kernel) (by decide +kernel)
theorem V_X10_ask : zKv M_X10_ask 10 := ⟨I_X10_ask, zmem 1341 (by decide +kernel) (by decide +kernel), _, rfl, rfl, by decide⟩
def M_X10_pose : zM := (yX10_pose, cX10_pose, 6, none, [])
set_option maxRecDepth 100000 in
theorem K_X10_pose : zKm M_X10_pose 2 := ⟨zmem 1253 rfl rfl, zmem 113 (by decide +kernel) (by decide +kernel), by decide +kernel, by decide +kernel, by decide +kernel, rfl, by decide⟩
theorem I_X10_pose : Cond.instanceMethod yX10_pose ∈ zG := zmem 1252 (by decide +kernel) (by decide +kernel)
theorem V_X10_pose : zKv M_X10_pose 10 := ⟨I_X10_pose, zmem 50 (by decide +kernel) (by decide +kernel), _, rfl, rfl, by decide⟩
def M_X10_claim : zM := (yX10_claim, cX10_claim, 4, some .int, [])
set_option maxRecDepth 100000 in
theorem K_X10_claim : zKm M_X10_claim 3 := ⟨zmem 1354 rfl rfl, zmem 113 (by decide +kernel) (by decide +kernel), by decide +kernel, by decide +kernel, by decide +kernel, rfl, by decide⟩
theorem I_X10_claim : Cond.instanceMethod yX10_claim ∈ zG := zmem 1352 (by decide +kernel) (by decide +kernel)
theorem V_X10_claim : zKv M_X10_claim 10 := ⟨I_X10_claim, zmem 1353 (by decide +kernel) (by decide +kernel), _, rfl, rfl, by decide⟩
def M_X10_claimed : zM := (yX10_claimed, cX10_claimed, 4, some .int, [])
set_option maxRecDepth 100000 in
theorem K_X10_claimed : zKm M_X10_claimed 2 := ⟨zmem 1362 rfl rfl, zmem 113 (by decide +kernel) (by decide +kernel), by decide +kernel, by decide +kernel, by decide +kernel, rfl, by decide⟩
theorem I_X10_claimed : Cond.instanceMethod yX10_claimed ∈ zG := zmem 1360 (by decide +kernel) (by decide +kernel)
theorem V_X10_claimed : zKv M_X10_claimed 10 := ⟨I_X10_claimed, zmem 1361 (by decide +kernel) (by decide +kernel), _, rfl, rfl, by decide⟩
def M_X10_best : zM := (yX10_best, cX10_best, 7, some .int, [])
set_option maxRecDepth 100000 in
theorem K_X10_best : zKm M_X10_best 1 := ⟨zmem 1376 rfl rfl, zmem 113 (by decide +kernel) (by decide +kernel), by decide +kernel, by decide +kernel, by decide +kernel, rfl, by decide⟩
theorem I_X10_best : Cond.instanceMethod yX10_best ∈ zG := zmem 1374 (by decide +kernel) (by decide +kernel)
theorem V_X10_best : zKv M_X10_best 10 := ⟨I_X10_best, zmem 1375 (by decide +kernel) (by decide +kernel), _, rfl, rfl, by decide⟩
def M_X10_added : zM := (yX10_added, cX10_added, 8, some .int, [])
set_option maxRecDepth 100000 in
theorem K_X10_added : zKm M_X10_added 2 := ⟨zmem 1383 rfl rfl, zmem 113 (by decide +kernel) (by decide +kernel), by decide +kernel, by decide +kernel, by decide +kernel, rfl, by decide⟩
theorem I_X10_added : Cond.instanceMethod yX10_added ∈ zG := zmem 1381 (by decide +kernel) (by decide +kernel)
theorem V_X10_added : zKv M_X10_added 10 := ⟨I_X10_added, zmem 1382 (by decide +kernel) (by decide +kernel), _, rfl, rfl, by decide⟩
def M_X10_cry : zM := (yX10_cry, cX10_cry, 3, some .int, [])
set_option maxRecDepth 100000 in
theorem K_X10_cry : zKm M_X10_cry 1 := ⟨zmem 1390 rfl rfl, zmem 113 (by decide +kernel) (by decide +kernel), by decide +kernel, by decide +kernel, by decide +kernel, rfl, by decide⟩
theorem I_X10_cry : Cond.instanceMethod yX10_cry ∈ zG := zmem 1388 (by decide +kernel) (by decide +kernel)
theorem V_X10_cry : zKv M_X10_cry 10 := ⟨I_X10_cry, zmem 1389 (by decide +kernel) (by decide +kernel), _, rfl, rfl, by decide⟩
def M_X10_due : zM := (yX10_due, cX10_due, 3, some .int, [])
set_option maxRecDepth 100000 in
theorem K_X10_due : zKm M_X10_due 2 := ⟨zmem 1397 rfl rfl, zmem 113 (by decide +kernel) (by decide +kernel), by decide +kernel, by decide +kernel, by decide +kernel, rfl, by decide⟩
theorem I_X10_due : Cond.instanceMethod yX10_due ∈ zG := zmem 1395 (by decide +kernel) (by decide +kernel)
theorem V_X10_due : zKv M_X10_due 10 := ⟨I_X10_due, zmem 1396 (by decide +kernel) (by decide +kernel), _, rfl, rfl, by decide⟩
def M_X10_dueByVerdict : zM := (yX10_dueByVerdict, cX10_dueByVerdict, 2, some .int, [])
set_option maxRecDepth 100000 in
theorem K_X10_dueByVerdict : zKm M_X10_dueByVerdict 1 := ⟨zmem 1401 rfl rfl, zmem 113 (by decide +kernel) (by decide +kernel), by decide +kernel, by decide +kernel, by decide +kernel, rfl, by decide⟩
theorem I_X10_dueByVerdict : Cond.instanceMethod yX10_dueByVerdict ∈ zG := zmem 1400 (by decide +kernel) (by decide +kernel)
theorem V_X10_dueByVerdict : zKv M_X10_dueByVerdict 10 := ⟨I_X10_dueByVerdict, zmem 62 (by decide +kernel) (by decide +kernel), _, rfl, rfl, by decide⟩
def M_X10_left : zM := (yX10_left, cX10_left, 4, some .int, [])
set_option maxRecDepth 100000 in
theorem K_X10_left : zKm M_X10_left 2 := ⟨zmem 1409 rfl rfl, zmem 113 (by decide +kernel) (by decide +kernel), by decide +kernel, by decide +kernel, by decide +kernel, rfl, by decide⟩
theorem I_X10_left : Cond.instanceMethod yX10_left ∈ zG := zmem 1407 (by decide +kernel) (by decide +kernel)
theorem V_X10_left : zKv M_X10_left 10 := ⟨I_X10_left, zmem 1408 (by decide +kernel) (by decide +kernel), _, rfl, rfl, by decide⟩
def M_X10_gone : zM := (yX10_gone, cX10_gone, 4, some .int, [])
set_option maxRecDepth 100000 in
theorem K_X10_gone : zKm M_X10_gone 1 := ⟨zmem 1421 rfl rfl, zmem 113 (by decide +kernel) (by decide +kernel), by decide +kernel, by decide +kernel, by decide +kernel, rfl, by decide⟩
theorem I_X10_gone : Cond.instanceMethod yX10_gone ∈ zG := zmem 1419 (by decide +kernel) (by decide +kernel)
theorem V_X10_gone : zKv M_X10_gone 10 := ⟨I_X10_gone, zmem 1420 (by decide +kernel) (by decide +kernel), _, rfl, rfl, by decide⟩
def M_X10_late : zM := (yX10_late, cX10_late, 6, some .int, [])
set_option maxRecDepth 100000 in
theorem K_X10_late : zKm M_X10_late 2 := ⟨zmem 1428 rfl rfl, zmem 113 (by decide +kernel) (by decide +kernel), by decide +kernel, by decide +kernel, by decide +kernel, rfl, by decide⟩
theorem I_X10_late : Cond.instanceMethod yX10_late ∈ zG := zmem 1426 (by decide +kernel) (by decide +kernel)
theorem V_X10_late : zKv M_X10_late 10 := ⟨I_X10_late, zmem 1427 (by decide +kernel) (by decide +kernel), _, rfl, rfl, by decide⟩
def M_X10_pass : zM := (yX10_pass, cX10_pass, 6, some .int, [])
set_option maxRecDepth 100000 in
theorem K_X10_pass : zKm M_X10_pass 4 := ⟨zmem 1435 rfl rfl, zmem 113 (by decide +kernel) (by decide +kernel), by decide +kernel, by decide +kernel, by decide +kernel, rfl, by decide⟩
theorem I_X10_pass : Cond.instanceMethod yX10_pass ∈ zG := zmem 1433 (by decide +kernel) (by decide +kernel)
theorem V_X10_pass : zKv M_X10_pass 10 := ⟨I_X10_pass, zmem 1434 (by decide +kernel) (by decide +kernel), _, rfl, rfl, by decide⟩
def M_X10_has : zM := (yX10_has, cX10_has, 2, some .int, [])
set_option maxRecDepth 100000 in
theorem K_X10_has : zKm M_X10_has 1 := ⟨zmem 1448 rfl rfl, zmem 113 (by decide +kernel) (by decide +kernel), by decide +kernel, by decide +kernel, by decide +kernel, rfl, by decide⟩
theorem I_X10_has : Cond.instanceMethod yX10_has ∈ zG := zmem 1446 (by decide +kernel) (by decide +kernel)
theorem V_X10_has : zKv M_X10_has 10 := ⟨I_X10_has, zmem 1447 (by decide +kernel) (by decide +kernel), _, rfl, rfl, by decide⟩
def M_X10_away : zM := (yX10_away, cX10_away, 5, some .boolean, [])
set_option maxRecDepth 100000 in
theorem K_X10_away : zKm M_X10_away 2 := ⟨zmem 1455 rfl rfl, zmem 113 (by decide +kernel) (by decide +kernel), by decide +kernel, by decide +kernel, by decide +kernel, rfl, by decide⟩
theorem I_X10_away : Cond.instanceMethod yX10_away ∈ zG := zmem 1453 (by decide +kernel) (by decide +kernel)
theorem V_X10_away : zKv M_X10_away 10 := ⟨I_X10_away, zmem 1454 (by decide +kernel) (by decide +kernel), _, rfl, rfl, by decide⟩
def M_X10_loss : zM := (yX10_loss, cX10_loss, 6, some .int, [])
set_option maxRecDepth 100000 in
theorem K_X10_loss : zKm M_X10_loss 2 := ⟨zmem 1462 rfl rfl, zmem 113 (by decide +kernel) (by decide +kernel), by decide +kernel, by decide +kernel, by decide +kernel, rfl, by decide⟩
theorem I_X10_loss : Cond.instanceMethod yX10_loss ∈ zG := zmem 1460 (by decide +kernel) (by decide +kernel)
theorem V_X10_loss : zKv M_X10_loss 10 := ⟨I_X10_loss, zmem 1461 (by decide +kernel) (by decide +kernel), _, rfl, rfl, by decide⟩
def M_X10_beside : zM := (yX10_beside, cX10_beside, 7, some .int, [])
set_option maxRecDepth 100000 in
theorem K_X10_beside : zKm M_X10_beside 2 := ⟨zmem 1469 rfl rfl, zmem 113 (by decide +kernel) (by decide +kernel), by decide +kernel, by decide +kernel, by decide +kernel, rfl, by decide⟩
theorem I_X10_beside : Cond.instanceMethod yX10_beside ∈ zG := zmem 1467 (by decide +kernel) (by decide +kernel)
theorem V_X10_beside : zKv M_X10_beside 10 := ⟨I_X10_beside, zmem 1468 (by decide +kernel) (by decide +kernel), _, rfl, rfl, by decide⟩
def M_X10_partAt : zM := (yX10_partAt, cX10_partAt, 5, some .boolean, [])
set_option maxRecDepth 100000 in
theorem K_X10_partAt : zKm M_X10_partAt 4 := ⟨zmem 1473 rfl rfl, zmem 113 (by decide +kernel) (by decide +kernel), by decide +kernel, by decide +kernel, by decide +kernel, rfl, by decide⟩
theorem I_X10_partAt : Cond.instanceMethod yX10_partAt ∈ zG := zmem 1472 (by decide +kernel) (by decide +kernel)
theorem V_X10_partAt : zKv M_X10_partAt 10 := ⟨I_X10_partAt, zmem 63 (by decide +kernel) (by decide +kernel), _, rfl, rfl, by decide⟩
def M_X10_least : zM := (yX10_least, cX10_least, 13, some .int, [])
set_option maxRecDepth 100000 in
theorem K_X10_least : zKm M_X10_least 3 := ⟨zmem 1484 rfl rfl, zmem 113 (by decide +kernel) (by decide +kernel), by decide +kernel, by decide +kernel, by decide +kernel, rfl, by decide⟩
theorem I_X10_least : Cond.instanceMethod yX10_least ∈ zG := zmem 1482 (by decide +kernel) (by decide +kernel)
theorem V_X10_least : zKv M_X10_least 10 := ⟨I_X10_least, zmem 1483 (by decide +kernel) (by decide +kernel), _, rfl, rfl, by decide⟩
def M_X10_image : zM := (yX10_image, cX10_image, 1, some .int, [])
set_option maxRecDepth 100000 in
theorem K_X10_image : zKm M_X10_image 0 := ⟨zmem 632 rfl rfl, zmem 113 (by decide +kernel) (by decide +kernel), by decide +kernel, by decide +kernel, by decide +kernel, rfl, by decide⟩
theorem I_X10_image : Cond.instanceMethod yX10_image ∈ zG := zmem 630 (by decide +kernel) (by decide +kernel)
theorem V_X10_image : zKv M_X10_image 10 := ⟨I_X10_image, zmem 631 (by decide +kernel) (by decide +kernel), _, rfl, rfl, by decide⟩
def M_X10_restore : zM := (yX10_restore, cX10_restore, 1, some .int, [])
set_option maxRecDepth 100000 in
theorem K_X10_restore : zKm M_X10_restore 0 := ⟨zmem 665 rfl rfl, zmem 113 (by decide +kernel) (by decide +kernel), by decide +kernel, by decide +kernel, by decide +kernel, rfl, by decide⟩
theorem I_X10_restore : Cond.instanceMethod yX10_restore ∈ zG := zmem 663 (by decide +kernel) (by decide +kernel)
theorem V_X10_restore : zKv M_X10_restore 10 := ⟨I_X10_restore, zmem 664 (by decide +kernel) (by decide +kernel), _, rfl, rfl, by decide⟩
def M_X10_count : zM := (yX10_count, cX10_count, 2, some .int, [])
set_option maxRecDepth 100000 in
theorem K_X10_count : zKm M_X10_count 1 := ⟨zmem 669 rfl rfl, zmem 113 (by decide +kernel) (by decide +kernel), by decide +kernel, by decide +kernel, by decide +kernel, rfl, by decide⟩
theorem I_X10_count : Cond.instanceMethod yX10_count ∈ zG := zmem 667 (by decide +kernel) (by decide +kernel)
theorem V_X10_count : zKv M_X10_count 10 := ⟨I_X10_count, zmem 668 (by decide +kernel) (by decide +kernel), _, rfl, rfl, by decide⟩
def M_X11_thrown : zM := (yX11_thrown, cX11_thrown, 1, some .int, [])
set_option maxRecDepth 100000 in
theorem K_X11_thrown : zKm M_X11_thrown 0 := ⟨zmem 1488 rfl rfl, zmem 124 (by decide +kernel) (by decide +kernel), by decide +kernel, by decide +kernel, by decide +kernel, rfl, by decide⟩
theorem I_X11_thrown : Cond.instanceMethod yX11_thrown ∈ zG := zmem 1486 (by decide +kernel) (by decide +kernel)
theorem V_X11_thrown : zKv M_X11_thrown 11 := ⟨I_X11_thrown, zmem 1487 (by decide +kernel) (by decide +kernel), _, rfl, rfl, by decide⟩
def M_X11_may : zM := (yX11_may, cX11_may, 3, some .boolean, [])
set_option maxRecDepth 100000 in
theorem K_X11_may : zKm M_X11_may 2 := ⟨zmem 1614 rfl rfl, zmem 124 (by decide +kernel) (by decide +kernel), by decide +kernel, by decide +kernel, by decide +kernel, rfl, by decide⟩
theorem I_X11_may : Cond.instanceMethod yX11_may ∈ zG := zmem 1613 (by decide +kernel) (by decide +kernel)
theorem V_X11_may : zKv M_X11_may 11 := ⟨I_X11_may, zmem 64 (by decide +kernel) (by decide +kernel), _, rfl, rfl, by decide⟩
def M_X11_within : zM := (yX11_within, cX11_within, 3, some .boolean, [])
set_option maxRecDepth 100000 in
theorem K_X11_within : zKm M_X11_within 3 := ⟨zmem 1733 rfl rfl, zmem 124 (by decide +kernel) (by decide +kernel), by decide +kernel, by decide +kernel, by decide +kernel, rfl, by decide⟩
theorem S_X11_within : Cond.static yX11_within ∈ zG := zmem 1732 (by decide +kernel) (by decide +kernel)
def M_X11_init : zM := (yX11_init, cX11_init, 2, none, [])
set_option maxRecDepth 100000 in
theorem K_X11_init : zKm M_X11_init 0 := ⟨zmem 1493 rfl rfl, zmem 124 (by decide +kernel) (by decide +kernel), by decide +kernel, by decide +kernel, by decide +kernel, rfl, by decide⟩
theorem I_X11_init : Cond.instanceMethod yX11_init ∈ zG := zmem 1492 (by decide +kernel) (by decide +kernel)
def M_X11_feed : zM := (yX11_feed, cX11_feed, 8, some .int, [])
set_option maxRecDepth 100000 in
theorem K_X11_feed : zKm M_X11_feed 5 := ⟨zmem 1606 rfl rfl, zmem 124 (by decide +kernel) (by decide +kernel), by decide +kernel, by decide +kernel, by decide +kernel, rfl, by decide⟩
theorem I_X11_feed : Cond.instanceMethod yX11_feed ∈ zG := zmem 1604 (by decide +kernel) (by decide +kernel)
theorem V_X11_feed : zKv M_X11_feed 11 := ⟨I_X11_feed, zmem 1605 (by decide +kernel) (by decide +kernel), _, rfl, rfl, by decide⟩
def M_X11_fine : zM := (yX11_fine, cX11_fine, 1, some .boolean, [])
set_option maxRecDepth 100000 in
theorem K_X11_fine : zKm M_X11_fine 0 := ⟨zmem 1622 rfl rfl, zmem 124 (by decide +kernel) (by decide +kernel), by decide +kernel, by decide +kernel, by decide +kernel, rfl, by decide⟩
theorem I_X11_fine : Cond.instanceMethod yX11_fine ∈ zG := zmem 1621 (by decide +kernel) (by decide +kernel)
theorem V_X11_fine : zKv M_X11_fine 11 := ⟨I_X11_fine, zmem 66 (by decide +kernel) (by decide +kernel), _, rfl, rfl, by decide⟩
def M_X11_wrong : zM := (yX11_wrong, cX11_wrong, 3, none, [])
set_option maxRecDepth 100000 in
theorem K_X11_wrong : zKm M_X11_wrong 2 := ⟨zmem 1653 rfl rfl, zmem 124 (by decide +kernel) (by decide +kernel), by decide +kernel, by decide +kernel, by decide +kernel, rfl, by decide⟩
theorem I_X11_wrong : Cond.instanceMethod yX11_wrong ∈ zG := zmem 1652 (by decide +kernel) (by decide +kernel)
theorem V_X11_wrong : zKv M_X11_wrong 11 := ⟨I_X11_wrong, zmem 71 (by decide +kernel) (by decide +kernel), _, rfl, rfl, by decide⟩
def M_X11_here : zM := (yX11_here, cX11_here, 1, some .int, [])
set_option maxRecDepth 100000 in
theorem K_X11_here : zKm M_X11_here 0 := ⟨zmem 1630 rfl rfl, zmem 124 (by decide +kernel) (by decide +kernel), by decide +kernel, by decide +kernel, by decide +kernel, rfl, by decide⟩
theorem I_X11_here : Cond.instanceMethod yX11_here ∈ zG := zmem 1629 (by decide +kernel) (by decide +kernel)
theorem V_X11_here : zKv M_X11_here 11 := ⟨I_X11_here, zmem 68 (by decide +kernel) (by decide +kernel), _, rfl, rfl, by decide⟩
def M_X11_isSmall : zM := (yX11_isSmall, cX11_isSmall, 1, some .boolean, [])
set_option maxRecDepth 100000 in
theorem K_X11_isSmall : zKm M_X11_isSmall 1 := ⟨zmem 1641 rfl rfl, zmem 124 (by decide +kernel) (by decide +kernel), by decide +kernel, by decide +kernel, by decide +kernel, rfl, by decide⟩
theorem S_X11_isSmall : Cond.static yX11_isSmall ∈ zG := zmem 1640 (by decide +kernel) (by decide +kernel)
def M_X11_isDigit : zM := (yX11_isDigit, cX11_isDigit, 1, some .boolean, [])
set_option maxRecDepth 100000 in
theorem K_X11_isDigit : zKm M_X11_isDigit 1 := ⟨zmem 1664 rfl rfl, zmem 124 (by decide +kernel) (by decide +kernel), by decide +kernel, by decide +kernel, by decide +kernel, rfl, by decide⟩
theorem S_X11_isDigit : Cond.static yX11_isDigit ∈ zG := zmem 1663 (by decide +kernel) (by decide +kernel)
def M_X11_atPlace : zM := (yX11_atPlace, cX11_atPlace, 2, some .int, [])
set_option maxRecDepth 100000 in
theorem K_X11_atPlace : zKm M_X11_atPlace 1 := ⟨zmem 1696 rfl rfl, zmem 124 (by decide +kernel) (by decide +kernel), by decide +kernel, by decide +kernel, by decide +kernel, rfl, by decide⟩
theorem I_X11_atPlace : Cond.instanceMethod yX11_atPlace ∈ zG := zmem 1695 (by decide +kernel) (by decide +kernel)
theorem V_X11_atPlace : zKv M_X11_atPlace 11 := ⟨I_X11_atPlace, zmem 81 (by decide +kernel) (by decide +kernel), _, rfl, rfl, by decide⟩
def M_X11_word : zM := (yX11_word, cX11_word, 4, some .int, [])
set_option maxRecDepth 100000 in
theorem K_X11_word : zKm M_X11_word 0 := ⟨zmem 1638 rfl rfl, zmem 124 (by decide +kernel) (by decide +kernel), by decide +kernel, by decide +kernel, by decide +kernel, rfl, by decide⟩
theorem I_X11_word : Cond.instanceMethod yX11_word ∈ zG := zmem 1637 (by decide +kernel) (by decide +kernel)
theorem V_X11_word : zKv M_X11_word 11 := ⟨I_X11_word, zmem 70 (by decide +kernel) (by decide +kernel), _, rfl, rfl, by decide⟩
def M_X11_pass : zM := (yX11_pass, cX11_pass, 1, none, [])
set_option maxRecDepth 100000 in
theorem K_X11_pass : zKm M_X11_pass 0 := ⟨zmem 1657 rfl rfl, zmem 124 (by decide +kernel) (by decide +kernel), by decide +kernel, by decide +kernel, by decide +kernel, rfl, by decide⟩
theorem I_X11_pass : Cond.instanceMethod yX11_pass ∈ zG := zmem 1656 (by decide +kernel) (by decide +kernel)
theorem V_X11_pass : zKv M_X11_pass 11 := ⟨I_X11_pass, zmem 72 (by decide +kernel) (by decide +kernel), _, rfl, rfl, by decide⟩
def M_X11_nameOf : zM := (yX11_nameOf, cX11_nameOf, 1, some .int, [])
set_option maxRecDepth 100000 in
theorem K_X11_nameOf : zKm M_X11_nameOf 1 := ⟨zmem 1707 rfl rfl, zmem 124 (by decide +kernel) (by decide +kernel), by decide +kernel, by decide +kernel, by decide +kernel, rfl, by decide⟩
theorem S_X11_nameOf : Cond.static yX11_nameOf ∈ zG := zmem 1706 (by decide +kernel) (by decide +kernel)
def M_X11_whoOf : zM := (yX11_whoOf, cX11_whoOf, 1, some .int, [])
set_option maxRecDepth 100000 in
theorem K_X11_whoOf : zKm M_X11_whoOf 1 := ⟨zmem 1644 rfl rfl, zmem 124 (by decide +kernel) (by decide +kernel), by decide +kernel, by decide +kernel, by decide +kernel, rfl, by decide⟩
theorem S_X11_whoOf : Cond.static yX11_whoOf ∈ zG := zmem 1643 (by decide +kernel) (by decide +kernel)
def M_X11_readNumber : zM := (yX11_readNumber, cX11_readNumber, 4, some .int, [])
set_option maxRecDepth 100000 in
theorem K_X11_readNumber : zKm M_X11_readNumber 0 := ⟨zmem 1661 rfl rfl, zmem 124 (by decide +kernel) (by decide +kernel), by decide +kernel, by decide +kernel, by decide +kernel, rfl, by decide⟩
theorem I_X11_readNumber : Cond.instanceMethod yX11_readNumber ∈ zG := zmem 1660 (by decide +kernel) (by decide +kernel)
theorem V_X11_readNumber : zKv M_X11_readNumber 11 := ⟨I_X11_readNumber, zmem 73 (by decide +kernel) (by decide +kernel), _, rfl, rfl, by decide⟩
def M_X11_need : zM := (yX11_need, cX11_need, 2, none, [])
set_option maxRecDepth 100000 in
theorem K_X11_need : zKm M_X11_need 1 := ⟨zmem 1688 rfl rfl, zmem 124 (by decide +kernel) (by decide +kernel), by decide +kernel, by decide +kernel, by decide +kernel, rfl, by decide⟩
theorem I_X11_need : Cond.instanceMethod yX11_need ∈ zG := zmem 1687 (by decide +kernel) (by decide +kernel)
theorem V_X11_need : zKv M_X11_need 11 := ⟨I_X11_need, zmem 79 (by decide +kernel) (by decide +kernel), _, rfl, rfl, by decide⟩
def M_X11_emit : zM := (yX11_emit, cX11_emit, 3, none, [])
set_option maxRecDepth 100000 in
theorem K_X11_emit : zKm M_X11_emit 2 := ⟨zmem 1692 rfl rfl, zmem 124 (by decide +kernel) (by decide +kernel), by decide +kernel, by decide +kernel, by decide +kernel, rfl, by decide⟩
theorem I_X11_emit : Cond.instanceMethod yX11_emit ∈ zG := zmem 1691 (by decide +kernel) (by decide +kernel)
theorem V_X11_emit : zKv M_X11_emit 11 := ⟨I_X11_emit, zmem 80 (by decide +kernel) (by decide +kernel), _, rfl, rfl, by decide⟩
def M_X11_opensOne : zM := (yX11_opensOne, cX11_opensOne, 2, none, [])
set_option maxRecDepth 100000 in
theorem K_X11_opensOne : zKm M_X11_opensOne 1 := ⟨zmem 1680 rfl rfl, zmem 124 (by decide +kernel) (by decide +kernel), by decide +kernel, by decide +kernel, by decide +kernel, rfl, by decide⟩
theorem I_X11_opensOne : Cond.instanceMethod yX11_opensOne ∈ zG := zmem 1679 (by decide +kernel) (by decide +kernel)
theorem V_X11_opensOne : zKv M_X11_opensOne 11 := ⟨I_X11_opensOne, zmem 77 (by decide +kernel) (by decide +kernel), _, rfl, rfl, by decide⟩
def M_X11_closesOne : zM := (yX11_closesOne, cX11_closesOne, 2, none, [])
set_option maxRecDepth 100000 in
theorem K_X11_closesOne : zKm M_X11_closesOne 1 := ⟨zmem 1684 rfl rfl, zmem 124 (by decide +kernel) (by decide +kernel), by decide +kernel, by decide +kernel, by decide +kernel, rfl, by decide⟩
theorem I_X11_closesOne : Cond.instanceMethod yX11_closesOne ∈ zG := zmem 1683 (by decide +kernel) (by decide +kernel)
theorem V_X11_closesOne : zKv M_X11_closesOne 11 := ⟨I_X11_closesOne, zmem 78 (by decide +kernel) (by decide +kernel), _, rfl, rfl, by decide⟩
def M_X11_term : zM := (yX11_term, cX11_term, 3, none, [])
set_option maxRecDepth 100000 in
theorem K_X11_term : zKm M_X11_term 0 := ⟨zmem 1704 rfl rfl, zmem 124 (by decide +kernel) (by decide +kernel), by decide +kernel, by decide +kernel, by decide +kernel, rfl, by decide⟩
theorem I_X11_term : Cond.instanceMethod yX11_term ∈ zG := zmem 1703 (by decide +kernel) (by decide +kernel)
theorem V_X11_term : zKv M_X11_term 11 := ⟨I_X11_term, zmem 83 (by decide +kernel) (by decide +kernel), _, rfl, rfl, by decide⟩
def M_X11_sum : zM := (yX11_sum, cX11_sum, 2, none, [])
set_option maxRecDepth 100000 in
theorem K_X11_sum : zKm M_X11_sum 0 := ⟨zmem 1700 rfl rfl, zmem 124 (by decide +kernel) (by decide +kernel), by decide +kernel, by decide +kernel, by decide +kernel, rfl, by decide⟩
theorem I_X11_sum : Cond.instanceMethod yX11_sum ∈ zG := zmem 1699 (by decide +kernel) (by decide +kernel)
theorem V_X11_sum : zKv M_X11_sum 11 := ⟨I_X11_sum, zmem 82 (by decide +kernel) (by decide +kernel), _, rfl, rfl, by decide⟩
def M_X11_anyOf : zM := (yX11_anyOf, cX11_anyOf, 1, none, [])
set_option maxRecDepth 100000 in
theorem K_X11_anyOf : zKm M_X11_anyOf 0 := ⟨zmem 1668 rfl rfl, zmem 124 (by decide +kernel) (by decide +kernel), by decide +kernel, by decide +kernel, by decide +kernel, rfl, by decide⟩
theorem I_X11_anyOf : Cond.instanceMethod yX11_anyOf ∈ zG := zmem 1667 (by decide +kernel) (by decide +kernel)
theorem V_X11_anyOf : zKv M_X11_anyOf 11 := ⟨I_X11_anyOf, zmem 74 (by decide +kernel) (by decide +kernel), _, rfl, rfl, by decide⟩
def M_X11_allOf : zM := (yX11_allOf, cX11_allOf, 1, none, [])
set_option maxRecDepth 100000 in
theorem K_X11_allOf : zKm M_X11_allOf 0 := ⟨zmem 1672 rfl rfl, zmem 124 (by decide +kernel) (by decide +kernel), by decide +kernel, by decide +kernel, by decide +kernel, rfl, by decide⟩
theorem I_X11_allOf : Cond.instanceMethod yX11_allOf ∈ zG := zmem 1671 (by decide +kernel) (by decide +kernel)
theorem V_X11_allOf : zKv M_X11_allOf 11 := ⟨I_X11_allOf, zmem 75 (by decide +kernel) (by decide +kernel), _, rfl, rfl, by decide⟩
def M_X11_one : zM := (yX11_one, cX11_one, 3, none, [])
set_option maxRecDepth 100000 in
theorem K_X11_one : zKm M_X11_one 0 := ⟨zmem 1676 rfl rfl, zmem 124 (by decide +kernel) (by decide +kernel), by decide +kernel, by decide +kernel, by decide +kernel, rfl, by decide⟩
theorem I_X11_one : Cond.instanceMethod yX11_one ∈ zG := zmem 1675 (by decide +kernel) (by decide +kernel)
theorem V_X11_one : zKv M_X11_one 11 := ⟨I_X11_one, zmem 76 (by decide +kernel) (by decide +kernel), _, rfl, rfl, by decide⟩
def M_X11_isMore : zM := (yX11_isMore, cX11_isMore, 1, some .boolean, [])
set_option maxRecDepth 100000 in
theorem K_X11_isMore : zKm M_X11_isMore 0 := ⟨zmem 1626 rfl rfl, zmem 124 (by decide +kernel) (by decide +kernel), by decide +kernel, by decide +kernel, by decide +kernel, rfl, by decide⟩
theorem I_X11_isMore : Cond.instanceMethod yX11_isMore ∈ zG := zmem 1625 (by decide +kernel) (by decide +kernel)
theorem V_X11_isMore : zKv M_X11_isMore 11 := ⟨I_X11_isMore, zmem 67 (by decide +kernel) (by decide +kernel), _, rfl, rfl, by decide⟩
def M_X11_beginsReading : zM := (yX11_beginsReading, cX11_beginsReading, 3, none, [])
set_option maxRecDepth 100000 in
theorem K_X11_beginsReading : zKm M_X11_beginsReading 2 := ⟨zmem 1618 rfl rfl, zmem 124 (by decide +kernel) (by decide +kernel), by decide +kernel, by decide +kernel, by decide +kernel, rfl, by decide⟩
theorem I_X11_beginsReading : Cond.instanceMethod yX11_beginsReading ∈ zG := zmem 1617 (by decide +kernel) (by decide +kernel)
theorem V_X11_beginsReading : zKv M_X11_beginsReading 11 := ⟨I_X11_beginsReading, zmem 65 (by decide +kernel) (by decide +kernel), _, rfl, rfl, by decide⟩
def M_X11_readRule : zM := (yX11_readRule, cX11_readRule, 3, none, [])
set_option maxRecDepth 100000 in
theorem K_X11_readRule : zKm M_X11_readRule 0 := ⟨zmem 1634 rfl rfl, zmem 124 (by decide +kernel) (by decide +kernel), by decide +kernel, by decide +kernel, by decide +kernel, rfl, by decide⟩
theorem I_X11_readRule : Cond.instanceMethod yX11_readRule ∈ zG := zmem 1633 (by decide +kernel) (by decide +kernel)
theorem V_X11_readRule : zKv M_X11_readRule 11 := ⟨I_X11_readRule, zmem 69 (by decide +kernel) (by decide +kernel), _, rfl, rfl, by decide⟩
def M_X11_law : zM := (yX11_law, cX11_law, 3, some .int, [])
set_option maxRecDepth 100000 in
theorem K_X11_law : zKm M_X11_law 1 := ⟨zmem 1610 rfl rfl, zmem 124 (by decide +kernel) (by decide +kernel), by decide +kernel, by decide +kernel, by decide +kernel, rfl, by decide⟩
theorem I_X11_law : Cond.instanceMethod yX11_law ∈ zG := zmem 1608 (by decide +kernel) (by decide +kernel)
theorem V_X11_law : zKv M_X11_law 11 := ⟨I_X11_law, zmem 1609 (by decide +kernel) (by decide +kernel), _, rfl, rfl, by decide⟩
def M_X11_holds : zM := (yX11_holds, cX11_holds, 3, some .int, [])
set_option maxRecDepth 100000 in
theorem K_X11_holds : zKm M_X11_holds 1 := ⟨zmem 1718 rfl rfl, zmem 124 (by decide +kernel) (by decide +kernel), by decide +kernel, by decide +kernel, by decide +kernel, rfl, by decide⟩
theorem I_X11_holds : Cond.instanceMethod yX11_holds ∈ zG := zmem 1716 (by decide +kernel) (by decide +kernel)
theorem V_X11_holds : zKv M_X11_holds 11 := ⟨I_X11_holds, zmem 1717 (by decide +kernel) (by decide +kernel), _, rfl, rfl, by decide⟩
def M_X11_fault : zM := (yX11_fault, cX11_fault, 1, some .int, [])
set_option maxRecDepth 100000 in
theorem K_X11_fault : zKm M_X11_fault 0 := ⟨zmem 1722 rfl rfl, zmem 124 (by decide +kernel) (by decide +kernel), by decide +kernel, by decide +kernel, by decide +kernel, rfl, by decide⟩
theorem I_X11_fault : Cond.instanceMethod yX11_fault ∈ zG := zmem 1720 (by decide +kernel) (by decide +kernel)
theorem V_X11_fault : zKv M_X11_fault 11 := ⟨I_X11_fault, zmem 1721 (by decide +kernel) (by decide +kernel), _, rfl, rfl, by decide⟩
def M_X11_isSo : zM := (yX11_isSo, cX11_isSo, 9, some .boolean, [])
set_option maxRecDepth 100000 in
theorem K_X11_isSo : zKm M_X11_isSo 3 := ⟨zmem 1749 rfl rfl, zmem 124 (by decide +kernel) (by decide +kernel), by decide +kernel, by decide +kernel, by decide +kernel, rfl, by decide⟩
theorem I_X11_isSo : Cond.instanceMethod yX11_isSo ∈ zG := zmem 1748 (by decide +kernel) (by decide +kernel)
theorem V_X11_isSo : zKv M_X11_isSo 11 := ⟨I_X11_isSo, zmem 86 (by decide +kernel) (by decide +kernel), _, rfl, rfl, by decide⟩
def M_X11_findWorlds : zM := (yX11_findWorlds, cX11_findWorlds, 4, none, [])
set_option maxRecDepth 100000 in
theorem K_X11_findWorlds : zKm M_X11_findWorlds 0 := ⟨zmem 1745 rfl rfl, zmem 124 (by decide +kernel) (by decide +kernel), by decide +kernel, by decide +kernel, by decide +kernel, rfl, by decide⟩
theorem I_X11_findWorlds : Cond.instanceMethod yX11_findWorlds ∈ zG := zmem 1744 (by decide +kernel) (by decide +kernel)
theorem V_X11_findWorlds : zKv M_X11_findWorlds 11 := ⟨I_X11_findWorlds, zmem 85 (by decide +kernel) (by decide +kernel), _, rfl, rfl, by decide⟩
def M_X11_isUnknown : zM := (yX11_isUnknown, cX11_isUnknown, 2, some .boolean, [])
set_option maxRecDepth 100000 in
theorem K_X11_isUnknown : zKm M_X11_isUnknown 1 := ⟨zmem 1730 rfl rfl, zmem 124 (by decide +kernel) (by decide +kernel), by decide +kernel, by decide +kernel, by decide +kernel, rfl, by decide⟩
theorem I_X11_isUnknown : Cond.instanceMethod yX11_isUnknown ∈ zG := zmem 1729 (by decide +kernel) (by decide +kernel)
theorem V_X11_isUnknown : zKv M_X11_isUnknown 11 := ⟨I_X11_isUnknown, zmem 84 (by decide +kernel) (by decide +kernel), _, rfl, rfl, by decide⟩
def M_X11_know : zM := (yX11_know, cX11_know, 4, some .int, [])
set_option maxRecDepth 100000 in
theorem K_X11_know : zKm M_X11_know 2 := ⟨zmem 1726 rfl rfl, zmem 124 (by decide +kernel) (by decide +kernel), by decide +kernel, by decide +kernel, by decide +kernel, rfl, by decide⟩
theorem I_X11_know : Cond.instanceMethod yX11_know ∈ zG := zmem 1724 (by decide +kernel) (by decide +kernel)
theorem V_X11_know : zKv M_X11_know 11 := ⟨I_X11_know, zmem 1725 (by decide +kernel) (by decide +kernel), _, rfl, rfl, by decide⟩
def M_X11_weigh : zM := (yX11_weigh, cX11_weigh, 4, some .int, [])
set_option maxRecDepth 100000 in
theorem K_X11_weigh : zKm M_X11_weigh 2 := ⟨zmem 1737 rfl rfl, zmem 124 (by decide +kernel) (by decide +kernel), by decide +kernel, by decide +kernel, by decide +kernel, rfl, by decide⟩
theorem I_X11_weigh : Cond.instanceMethod yX11_weigh ∈ zG := zmem 1735 (by decide +kernel) (by decide +kernel)
theorem V_X11_weigh : zKv M_X11_weigh 11 := ⟨I_X11_weigh, zmem 1736 (by decide +kernel) (by decide +kernel), _, rfl, rfl, by decide⟩
def M_X11_worlds : zM := (yX11_worlds, cX11_worlds, 1, some .int, [])
set_option maxRecDepth 100000 in
theorem K_X11_worlds : zKm M_X11_worlds 0 := ⟨zmem 1741 rfl rfl, zmem 124 (by decide +kernel) (by decide +kernel), by decide +kernel, by decide +kernel, by decide +kernel, rfl, by decide⟩
theorem I_X11_worlds : Cond.instanceMethod yX11_worlds ∈ zG := zmem 1739 (by decide +kernel) (by decide +kernel)
theorem V_X11_worlds : zKv M_X11_worlds 11 := ⟨I_X11_worlds, zmem 1740 (by decide +kernel) (by decide +kernel), _, rfl, rfl, by decide⟩
def M_X11_world : zM := (yX11_world, cX11_world, 4, some .int, [])
set_option maxRecDepth 100000 in
theorem K_X11_world : zKm M_X11_world 1 := ⟨zmem 1753 rfl rfl, zmem 124 (by decide +kernel) (by decide +kernel), by decide +kernel, by decide +kernel, by decide +kernel, rfl, by decide⟩
theorem I_X11_world : Cond.instanceMethod yX11_world ∈ zG := zmem 1751 (by decide +kernel) (by decide +kernel)
theorem V_X11_world : zKv M_X11_world 11 := ⟨I_X11_world, zmem 1752 (by decide +kernel) (by decide +kernel), _, rfl, rfl, by decide⟩
def M_X11_weightOf : zM := (yX11_weightOf, cX11_weightOf, 5, some .long, [])
set_option maxRecDepth 100000 in
theorem K_X11_weightOf : zKm M_X11_weightOf 1 := ⟨zmem 1761 rfl rfl, zmem 124 (by decide +kernel) (by decide +kernel), by decide +kernel, by decide +kernel, by decide +kernel, rfl, by decide⟩
theorem I_X11_weightOf : Cond.instanceMethod yX11_weightOf ∈ zG := zmem 1760 (by decide +kernel) (by decide +kernel)
theorem V_X11_weightOf : zKv M_X11_weightOf 11 := ⟨I_X11_weightOf, zmem 87 (by decide +kernel) (by decide +kernel), _, rfl, rfl, by decide⟩
def M_X11_all : zM := (yX11_all, cX11_all, 4, some .long, [])
set_option maxRecDepth 100000 in
theorem K_X11_all : zKm M_X11_all 0 := ⟨zmem 1757 rfl rfl, zmem 124 (by decide +kernel) (by decide +kernel), by decide +kernel, by decide +kernel, by decide +kernel, rfl, by decide⟩
theorem I_X11_all : Cond.instanceMethod yX11_all ∈ zG := zmem 1755 (by decide +kernel) (by decide +kernel)
theorem V_X11_all : zKv M_X11_all 11 := ⟨I_X11_all, zmem 1756 (by decide +kernel) (by decide +kernel), _, rfl, rfl, by decide⟩
def M_X11_isMarks : zM := (yX11_isMarks, cX11_isMarks, 1, some .boolean, [])
set_option maxRecDepth 100000 in
theorem K_X11_isMarks : zKm M_X11_isMarks 1 := ⟨zmem 1768 rfl rfl, zmem 124 (by decide +kernel) (by decide +kernel), by decide +kernel, by decide +kernel, by decide +kernel, rfl, by decide⟩
theorem S_X11_isMarks : Cond.static yX11_isMarks ∈ zG := zmem 1767 (by decide +kernel) (by decide +kernel)
def M_X11_isPerson : zM := (yX11_isPerson, cX11_isPerson, 3, some .boolean, [])
set_option maxRecDepth 100000 in
theorem K_X11_isPerson : zKm M_X11_isPerson 2 := ⟨zmem 1776 rfl rfl, zmem 124 (by decide +kernel) (by decide +kernel), by decide +kernel, by decide +kernel, by decide +kernel, rfl, by decide⟩
theorem I_X11_isPerson : Cond.instanceMethod yX11_isPerson ∈ zG := zmem 1775 (by decide +kernel) (by decide +kernel)
theorem V_X11_isPerson : zKv M_X11_isPerson 11 := ⟨I_X11_isPerson, zmem 88 (by decide +kernel) (by decide +kernel), _, rfl, rfl, by decide⟩
def M_X11_isPlace : zM := (yX11_isPlace, cX11_isPlace, 1, some .boolean, [])
set_option maxRecDepth 100000 in
theorem K_X11_isPlace : zKm M_X11_isPlace 1 := ⟨zmem 1779 rfl rfl, zmem 124 (by decide +kernel) (by decide +kernel), by decide +kernel, by decide +kernel, by decide +kernel, rfl, by decide⟩
theorem S_X11_isPlace : Cond.static yX11_isPlace ∈ zG := zmem 1778 (by decide +kernel) (by decide +kernel)
def M_X11_person : zM := (yX11_person, cX11_person, 5, some .int, [])
set_option maxRecDepth 100000 in
theorem K_X11_person : zKm M_X11_person 2 := ⟨zmem 1765 rfl rfl, zmem 124 (by decide +kernel) (by decide +kernel), by decide +kernel, by decide +kernel, by decide +kernel, rfl, by decide⟩
theorem I_X11_person : Cond.instanceMethod yX11_person ∈ zG := zmem 1763 (by decide +kernel) (by decide +kernel)
theorem V_X11_person : zKv M_X11_person 11 := ⟨I_X11_person, zmem 1764 (by decide +kernel) (by decide +kernel), _, rfl, rfl, by decide⟩
def M_X11_passes : zM := (yX11_passes, cX11_passes, 5, some .int, [])
set_option maxRecDepth 100000 in
theorem K_X11_passes : zKm M_X11_passes 3 := ⟨zmem 1772 rfl rfl, zmem 124 (by decide +kernel) (by decide +kernel), by decide +kernel, by decide +kernel, by decide +kernel, rfl, by decide⟩
theorem I_X11_passes : Cond.instanceMethod yX11_passes ∈ zG := zmem 1770 (by decide +kernel) (by decide +kernel)
theorem V_X11_passes : zKv M_X11_passes 11 := ⟨I_X11_passes, zmem 1771 (by decide +kernel) (by decide +kernel), _, rfl, rfl, by decide⟩
def M_X11_ground : zM := (yX11_ground, cX11_ground, 5, some .int, [])
set_option maxRecDepth 100000 in
theorem K_X11_ground : zKm M_X11_ground 3 := ⟨zmem 1783 rfl rfl, zmem 124 (by decide +kernel) (by decide +kernel), by decide +kernel, by decide +kernel, by decide +kernel, rfl, by decide⟩
theorem I_X11_ground : Cond.instanceMethod yX11_ground ∈ zG := zmem 1781 (by decide +kernel) (by decide +kernel)
theorem V_X11_ground : zKv M_X11_ground 11 := ⟨I_X11_ground, zmem 1782 (by decide +kernel) (by decide +kernel), _, rfl, rfl, by decide⟩
def M_X11_days : zM := (yX11_days, cX11_days, 2, some .int, [])
set_option maxRecDepth 100000 in
theorem K_X11_days : zKm M_X11_days 1 := ⟨zmem 1787 rfl rfl, zmem 124 (by decide +kernel) (by decide +kernel), by decide +kernel, by decide +kernel, by decide +kernel, rfl, by decide⟩
theorem I_X11_days : Cond.instanceMethod yX11_days ∈ zG := zmem 1785 (by decide +kernel) (by decide +kernel)
theorem V_X11_days : zKv M_X11_days 11 := ⟨I_X11_days, zmem 1786 (by decide +kernel) (by decide +kernel), _, rfl, rfl, by decide⟩
def M_X11_find : zM := (yX11_find, cX11_find, 7, some .int, [])
set_option maxRecDepth 100000 in
theorem K_X11_find : zKm M_X11_find 5 := ⟨zmem 1791 rfl rfl, zmem 124 (by decide +kernel) (by decide +kernel), by decide +kernel, by decide +kernel, by decide +kernel, rfl, by decide⟩
theorem I_X11_find : Cond.instanceMethod yX11_find ∈ zG := zmem 1789 (by decide +kernel) (by decide +kernel)
theorem V_X11_find : zKv M_X11_find 11 := ⟨I_X11_find, zmem 1790 (by decide +kernel) (by decide +kernel), _, rfl, rfl, by decide⟩
def M_X11_isFind : zM := (yX11_isFind, cX11_isFind, 2, some .boolean, [])
set_option maxRecDepth 100000 in
theorem K_X11_isFind : zKm M_X11_isFind 1 := ⟨zmem 1799 rfl rfl, zmem 124 (by decide +kernel) (by decide +kernel), by decide +kernel, by decide +kernel, by decide +kernel, rfl, by decide⟩
theorem I_X11_isFind : Cond.instanceMethod yX11_isFind ∈ zG := zmem 1798 (by decide +kernel) (by decide +kernel)
theorem V_X11_isFind : zKv M_X11_isFind 11 := ⟨I_X11_isFind, zmem 89 (by decide +kernel) (by decide +kernel), _, rfl, rfl, by decide⟩
def M_X11_find_ : zM := (yX11_find_, cX11_find_, 1, some .int, [])
set_option maxRecDepth 100000 in
theorem K_X11_find_ : zKm M_X11_find_ 1 := ⟨zmem 1806 rfl rfl, zmem 124 (by decide +kernel) (by decide +kernel), by decide +kernel, by decide +kernel, by decide +kernel, rfl, by decide⟩
theorem S_X11_find_ : Cond.static yX11_find_ ∈ zG := zmem 1805 (by decide +kernel) (by decide +kernel)
def M_X11_bitsOf : zM := (yX11_bitsOf, cX11_bitsOf, 3, some .int, [])
set_option maxRecDepth 100000 in
theorem K_X11_bitsOf : zKm M_X11_bitsOf 1 := ⟨zmem 1809 rfl rfl, zmem 124 (by decide +kernel) (by decide +kernel), by decide +kernel, by decide +kernel, by decide +kernel, rfl, by decide⟩
theorem S_X11_bitsOf : Cond.static yX11_bitsOf ∈ zG := zmem 1808 (by decide +kernel) (by decide +kernel)
def M_X11_have : zM := (yX11_have, cX11_have, 4, some .int, [])
set_option maxRecDepth 100000 in
theorem K_X11_have : zKm M_X11_have 1 := ⟨zmem 1816 rfl rfl, zmem 124 (by decide +kernel) (by decide +kernel), by decide +kernel, by decide +kernel, by decide +kernel, rfl, by decide⟩
theorem I_X11_have : Cond.instanceMethod yX11_have ∈ zG := zmem 1815 (by decide +kernel) (by decide +kernel)
theorem V_X11_have : zKv M_X11_have 11 := ⟨I_X11_have, zmem 91 (by decide +kernel) (by decide +kernel), _, rfl, rfl, by decide⟩
def M_X11_ownOf : zM := (yX11_ownOf, cX11_ownOf, 5, some .int, [])
set_option maxRecDepth 100000 in
theorem K_X11_ownOf : zKm M_X11_ownOf 1 := ⟨zmem 1820 rfl rfl, zmem 124 (by decide +kernel) (by decide +kernel), by decide +kernel, by decide +kernel, by decide +kernel, rfl, by decide⟩
theorem I_X11_ownOf : Cond.instanceMethod yX11_ownOf ∈ zG := zmem 1819 (by decide +kernel) (by decide +kernel)
theorem V_X11_ownOf : zKv M_X11_ownOf 11 := ⟨I_X11_ownOf, zmem 92 (by decide +kernel) (by decide +kernel), _, rfl, rfl, by decide⟩
def M_X11_nameFind : zM := (yX11_nameFind, cX11_nameFind, 4, none, [])
set_option maxRecDepth 100000 in
theorem K_X11_nameFind : zKm M_X11_nameFind 1 := ⟨zmem 1803 rfl rfl, zmem 124 (by decide +kernel) (by decide +kernel), by decide +kernel, by decide +kernel, by decide +kernel, rfl, by decide⟩
theorem I_X11_nameFind : Cond.instanceMethod yX11_nameFind ∈ zG := zmem 1802 (by decide +kernel) (by decide +kernel)
theorem V_X11_nameFind : zKv M_X11_nameFind 11 := ⟨I_X11_nameFind, zmem 90 (by decide +kernel) (by decide +kernel), _, rfl, rfl, by decide⟩
def M_X11_isFirstMark : zM := (yX11_isFirstMark, cX11_isFirstMark, 2, some .boolean, [])
set_option maxRecDepth 100000 in
theorem K_X11_isFirstMark : zKm M_X11_isFirstMark 2 := ⟨zmem 1812 rfl rfl, zmem 124 (by decide +kernel) (by decide +kernel), by decide +kernel, by decide +kernel, by decide +kernel, rfl, by decide⟩
theorem S_X11_isFirstMark : Cond.static yX11_isFirstMark ∈ zG := zmem 1811 (by decide +kernel) (by decide +kernel)
def M_X11_name : zM := (yX11_name, cX11_name, 3, some .int, [])
set_option maxRecDepth 100000 in
theorem K_X11_name : zKm M_X11_name 2 := ⟨zmem 1795 rfl rfl, zmem 124 (by decide +kernel) (by decide +kernel), by decide +kernel, by decide +kernel, by decide +kernel, rfl, by decide⟩
theorem I_X11_name : Cond.instanceMethod yX11_name ∈ zG := zmem 1793 (by decide +kernel) (by decide +kernel)
theorem V_X11_name : zKv M_X11_name 11 := ⟨I_X11_name, zmem 1794 (by decide +kernel) (by decide +kernel), _, rfl, rfl, by decide⟩
def M_X11_hold : zM := (yX11_hold, cX11_hold, 7, some .int, [])
set_option maxRecDepth 100000 in
theorem K_X11_hold : zKm M_X11_hold 4 := ⟨zmem 1824 rfl rfl, zmem 124 (by decide +kernel) (by decide +kernel), by decide +kernel, by decide +kernel, by decide +kernel, rfl, by decide⟩
theorem I_X11_hold : Cond.instanceMethod yX11_hold ∈ zG := zmem 1822 (by decide +kernel) (by decide +kernel)
theorem V_X11_hold : zKv M_X11_hold 11 := ⟨I_X11_hold, zmem 1823 (by decide +kernel) (by decide +kernel), _, rfl, rfl, by decide⟩
def M_X11_findersOf : zM := (yX11_findersOf, cX11_findersOf, 8, some .int, [])
set_option maxRecDepth 100000 in
theorem K_X11_findersOf : zKm M_X11_findersOf 1 := ⟨zmem 1832 rfl rfl, zmem 124 (by decide +kernel) (by decide +kernel), by decide +kernel, by decide +kernel, by decide +kernel, rfl, by decide⟩
theorem I_X11_findersOf : Cond.instanceMethod yX11_findersOf ∈ zG := zmem 1831 (by decide +kernel) (by decide +kernel)
theorem V_X11_findersOf : zKv M_X11_findersOf 11 := ⟨I_X11_findersOf, zmem 93 (by decide +kernel) (by decide +kernel), _, rfl, rfl, by decide⟩
def M_X11_finders : zM := (yX11_finders, cX11_finders, 2, some .int, [])
set_option maxRecDepth 100000 in
theorem K_X11_finders : zKm M_X11_finders 1 := ⟨zmem 1828 rfl rfl, zmem 124 (by decide +kernel) (by decide +kernel), by decide +kernel, by decide +kernel, by decide +kernel, rfl, by decide⟩
theorem I_X11_finders : Cond.instanceMethod yX11_finders ∈ zG := zmem 1826 (by decide +kernel) (by decide +kernel)
theorem V_X11_finders : zKv M_X11_finders 11 := ⟨I_X11_finders, zmem 1827 (by decide +kernel) (by decide +kernel), _, rfl, rfl, by decide⟩
def M_X11_ruleOf : zM := (yX11_ruleOf, cX11_ruleOf, 4, some .int, [])
set_option maxRecDepth 100000 in
theorem K_X11_ruleOf : zKm M_X11_ruleOf 2 := ⟨zmem 1844 rfl rfl, zmem 124 (by decide +kernel) (by decide +kernel), by decide +kernel, by decide +kernel, by decide +kernel, rfl, by decide⟩
theorem I_X11_ruleOf : Cond.instanceMethod yX11_ruleOf ∈ zG := zmem 1843 (by decide +kernel) (by decide +kernel)
theorem V_X11_ruleOf : zKv M_X11_ruleOf 11 := ⟨I_X11_ruleOf, zmem 95 (by decide +kernel) (by decide +kernel), _, rfl, rfl, by decide⟩
def M_X11_whoIn : zM := (yX11_whoIn, cX11_whoIn, 4, some .int, [])
set_option maxRecDepth 100000 in
theorem K_X11_whoIn : zKm M_X11_whoIn 2 := ⟨zmem 1848 rfl rfl, zmem 124 (by decide +kernel) (by decide +kernel), by decide +kernel, by decide +kernel, by decide +kernel, rfl, by decide⟩
theorem I_X11_whoIn : Cond.instanceMethod yX11_whoIn ∈ zG := zmem 1847 (by decide +kernel) (by decide +kernel)
theorem V_X11_whoIn : zKv M_X11_whoIn 11 := ⟨I_X11_whoIn, zmem 96 (by decide +kernel) (by decide +kernel), _, rfl, rfl, by decide⟩
def M_X11_isLaw : zM := (yX11_isLaw, cX11_isLaw, 3, some .boolean, [])
set_option maxRecDepth 100000 in
theorem K_X11_isLaw : zKm M_X11_isLaw 2 := ⟨zmem 1840 rfl rfl, zmem 124 (by decide +kernel) (by decide +kernel), by decide +kernel, by decide +kernel, by decide +kernel, rfl, by decide⟩
theorem I_X11_isLaw : Cond.instanceMethod yX11_isLaw ∈ zG := zmem 1839 (by decide +kernel) (by decide +kernel)
theorem V_X11_isLaw : zKv M_X11_isLaw 11 := ⟨I_X11_isLaw, zmem 94 (by decide +kernel) (by decide +kernel), _, rfl, rfl, by decide⟩
def M_X11_whose : zM := (yX11_whose, cX11_whose, 6, some .int, [])
set_option maxRecDepth 100000 in
theorem K_X11_whose : zKm M_X11_whose 4 := ⟨zmem 1836 rfl rfl, zmem 124 (by decide +kernel) (by decide +kernel), by decide +kernel, by decide +kernel, by decide +kernel, rfl, by decide⟩
theorem I_X11_whose : Cond.instanceMethod yX11_whose ∈ zG := zmem 1834 (by decide +kernel) (by decide +kernel)
theorem V_X11_whose : zKv M_X11_whose 11 := ⟨I_X11_whose, zmem 1835 (by decide +kernel) (by decide +kernel), _, rfl, rfl, by decide⟩
def M_X11_findWho : zM := (yX11_findWho, cX11_findWho, 6, none, [])
set_option maxRecDepth 100000 in
theorem K_X11_findWho : zKm M_X11_findWho 2 := ⟨zmem 1860 rfl rfl, zmem 124 (by decide +kernel) (by decide +kernel), by decide +kernel, by decide +kernel, by decide +kernel, rfl, by decide⟩
theorem I_X11_findWho : Cond.instanceMethod yX11_findWho ∈ zG := zmem 1859 (by decide +kernel) (by decide +kernel)
theorem V_X11_findWho : zKv M_X11_findWho 11 := ⟨I_X11_findWho, zmem 98 (by decide +kernel) (by decide +kernel), _, rfl, rfl, by decide⟩
def M_X11_mayBits : zM := (yX11_mayBits, cX11_mayBits, 3, some .int, [])
set_option maxRecDepth 100000 in
theorem K_X11_mayBits : zKm M_X11_mayBits 0 := ⟨zmem 1864 rfl rfl, zmem 124 (by decide +kernel) (by decide +kernel), by decide +kernel, by decide +kernel, by decide +kernel, rfl, by decide⟩
theorem I_X11_mayBits : Cond.instanceMethod yX11_mayBits ∈ zG := zmem 1863 (by decide +kernel) (by decide +kernel)
theorem V_X11_mayBits : zKv M_X11_mayBits 11 := ⟨I_X11_mayBits, zmem 99 (by decide +kernel) (by decide +kernel), _, rfl, rfl, by decide⟩
def M_X11_lowest : zM := (yX11_lowest, cX11_lowest, 2, some .int, [])
set_option maxRecDepth 100000 in
theorem K_X11_lowest : zKm M_X11_lowest 1 := ⟨zmem 1867 rfl rfl, zmem 124 (by decide +kernel) (by decide +kernel), by decide +kernel, by decide +kernel, by decide +kernel, rfl, by decide⟩
theorem S_X11_lowest : Cond.static yX11_lowest ∈ zG := zmem 1866 (by decide +kernel) (by decide +kernel)
def M_X11_asks : zM := (yX11_asks, cX11_asks, 3, some .boolean, [])
set_option maxRecDepth 100000 in
theorem K_X11_asks : zKm M_X11_asks 2 := ⟨zmem 1856 rfl rfl, zmem 124 (by decide +kernel) (by decide +kernel), by decide +kernel, by decide +kernel, by decide +kernel, rfl, by decide⟩
theorem I_X11_asks : Cond.instanceMethod yX11_asks ∈ zG := zmem 1855 (by decide +kernel) (by decide +kernel)
theorem V_X11_asks : zKv M_X11_asks 11 := ⟨I_X11_asks, zmem 97 (by decide +kernel) (by decide +kernel), _, rfl, rfl, by decide⟩
def M_X11_sure : zM := (yX11_sure, cX11_sure, 4, some .int, [])
set_option maxRecDepth 100000 in
theorem K_X11_sure : zKm M_X11_sure 2 := ⟨zmem 1852 rfl rfl, zmem 124 (by decide +kernel) (by decide +kernel), by decide +kernel, by decide +kernel, by decide +kernel, rfl, by decide⟩
theorem I_X11_sure : Cond.instanceMethod yX11_sure ∈ zG := zmem 1850 (by decide +kernel) (by decide +kernel)
theorem V_X11_sure : zKv M_X11_sure 11 := ⟨I_X11_sure, zmem 1851 (by decide +kernel) (by decide +kernel), _, rfl, rfl, by decide⟩
def M_X11_may_ : zM := (yX11_may_, cX11_may_, 3, some .int, [])
set_option maxRecDepth 100000 in
theorem K_X11_may_ : zKm M_X11_may_ 2 := ⟨zmem 1871 rfl rfl, zmem 124 (by decide +kernel) (by decide +kernel), by decide +kernel, by decide +kernel, by decide +kernel, rfl, by decide⟩
theorem I_X11_may_ : Cond.instanceMethod yX11_may_ ∈ zG := zmem 1869 (by decide +kernel) (by decide +kernel)
theorem V_X11_may_ : zKv M_X11_may_ 11 := ⟨I_X11_may_, zmem 1870 (by decide +kernel) (by decide +kernel), _, rfl, rfl, by decide⟩
def M_X11_part : zM := (yX11_part, cX11_part, 7, some .long, [])
set_option maxRecDepth 100000 in
theorem K_X11_part : zKm M_X11_part 3 := ⟨zmem 1875 rfl rfl, zmem 124 (by decide +kernel) (by decide +kernel), by decide +kernel, by decide +kernel, by decide +kernel, rfl, by decide⟩
theorem I_X11_part : Cond.instanceMethod yX11_part ∈ zG := zmem 1873 (by decide +kernel) (by decide +kernel)
theorem V_X11_part : zKv M_X11_part 11 := ⟨I_X11_part, zmem 1874 (by decide +kernel) (by decide +kernel), _, rfl, rfl, by decide⟩
def M_X11_hangs : zM := (yX11_hangs, cX11_hangs, 7, some .int, [])
set_option maxRecDepth 100000 in
theorem K_X11_hangs : zKm M_X11_hangs 2 := ⟨zmem 1879 rfl rfl, zmem 124 (by decide +kernel) (by decide +kernel), by decide +kernel, by decide +kernel, by decide +kernel, rfl, by decide⟩
theorem I_X11_hangs : Cond.instanceMethod yX11_hangs ∈ zG := zmem 1877 (by decide +kernel) (by decide +kernel)
theorem V_X11_hangs : zKv M_X11_hangs 11 := ⟨I_X11_hangs, zmem 1878 (by decide +kernel) (by decide +kernel), _, rfl, rfl, by decide⟩
def M_X11_openBits : zM := (yX11_openBits, cX11_openBits, 3, some .int, [])
set_option maxRecDepth 100000 in
theorem K_X11_openBits : zKm M_X11_openBits 0 := ⟨zmem 1887 rfl rfl, zmem 124 (by decide +kernel) (by decide +kernel), by decide +kernel, by decide +kernel, by decide +kernel, rfl, by decide⟩
theorem I_X11_openBits : Cond.instanceMethod yX11_openBits ∈ zG := zmem 1886 (by decide +kernel) (by decide +kernel)
theorem V_X11_openBits : zKv M_X11_openBits 11 := ⟨I_X11_openBits, zmem 100 (by decide +kernel) (by decide +kernel), _, rfl, rfl, by decide⟩
def M_X11_isSettling : zM := (yX11_isSettling, cX11_isSettling, 4, some .boolean, [])
set_option maxRecDepth 100000 in
theorem K_X11_isSettling : zKm M_X11_isSettling 1 := ⟨zmem 1891 rfl rfl, zmem 124 (by decide +kernel) (by decide +kernel), by decide +kernel, by decide +kernel, by decide +kernel, rfl, by decide⟩
theorem I_X11_isSettling : Cond.instanceMethod yX11_isSettling ∈ zG := zmem 1890 (by decide +kernel) (by decide +kernel)
theorem V_X11_isSettling : zKv M_X11_isSettling 11 := ⟨I_X11_isSettling, zmem 101 (by decide +kernel) (by decide +kernel), _, rfl, rfl, by decide⟩
def M_X11_settles : zM := (yX11_settles, cX11_settles, 6, some .int, [])
set_option maxRecDepth 100000 in
theorem K_X11_settles : zKm M_X11_settles 2 := ⟨zmem 1883 rfl rfl, zmem 124 (by decide +kernel) (by decide +kernel), by decide +kernel, by decide +kernel, by decide +kernel, rfl, by decide⟩
theorem I_X11_settles : Cond.instanceMethod yX11_settles ∈ zG := zmem 1881 (by decide +kernel) (by decide +kernel)
theorem V_X11_settles : zKv M_X11_settles 11 := ⟨I_X11_settles, zmem 1882 (by decide +kernel) (by decide +kernel), _, rfl, rfl, by decide⟩
def M_X11_startCube : zM := (yX11_startCube, cX11_startCube, 3, some .int, [])
set_option maxRecDepth 100000 in
theorem K_X11_startCube : zKm M_X11_startCube 0 := ⟨zmem 1911 rfl rfl, zmem 124 (by decide +kernel) (by decide +kernel), by decide +kernel, by decide +kernel, by decide +kernel, rfl, by decide⟩
theorem I_X11_startCube : Cond.instanceMethod yX11_startCube ∈ zG := zmem 1910 (by decide +kernel) (by decide +kernel)
theorem V_X11_startCube : zKv M_X11_startCube 11 := ⟨I_X11_startCube, zmem 105 (by decide +kernel) (by decide +kernel), _, rfl, rfl, by decide⟩
def M_X11_findCubes : zM := (yX11_findCubes, cX11_findCubes, 6, none, [])
set_option maxRecDepth 100000 in
theorem K_X11_findCubes : zKm M_X11_findCubes 0 := ⟨zmem 1899 rfl rfl, zmem 124 (by decide +kernel) (by decide +kernel), by decide +kernel, by decide +kernel, by decide +kernel, rfl, by decide⟩
theorem I_X11_findCubes : Cond.instanceMethod yX11_findCubes ∈ zG := zmem 1898 (by decide +kernel) (by decide +kernel)
theorem V_X11_findCubes : zKv M_X11_findCubes 11 := ⟨I_X11_findCubes, zmem 102 (by decide +kernel) (by decide +kernel), _, rfl, rfl, by decide⟩
def M_X11_leastAsks : zM := (yX11_leastAsks, cX11_leastAsks, 6, some .int, [])
set_option maxRecDepth 100000 in
theorem K_X11_leastAsks : zKm M_X11_leastAsks 1 := ⟨zmem 1903 rfl rfl, zmem 124 (by decide +kernel) (by decide +kernel), by decide +kernel, by decide +kernel, by decide +kernel, rfl, by decide⟩
theorem I_X11_leastAsks : Cond.instanceMethod yX11_leastAsks ∈ zG := zmem 1902 (by decide +kernel) (by decide +kernel)
theorem V_X11_leastAsks : zKv M_X11_leastAsks 11 := ⟨I_X11_leastAsks, zmem 103 (by decide +kernel) (by decide +kernel), _, rfl, rfl, by decide⟩
def M_X11_worseOf : zM := (yX11_worseOf, cX11_worseOf, 5, some .int, [])
set_option maxRecDepth 100000 in
theorem K_X11_worseOf : zKm M_X11_worseOf 2 := ⟨zmem 1907 rfl rfl, zmem 124 (by decide +kernel) (by decide +kernel), by decide +kernel, by decide +kernel, by decide +kernel, rfl, by decide⟩
theorem I_X11_worseOf : Cond.instanceMethod yX11_worseOf ∈ zG := zmem 1906 (by decide +kernel) (by decide +kernel)
theorem V_X11_worseOf : zKv M_X11_worseOf 11 := ⟨I_X11_worseOf, zmem 104 (by decide +kernel) (by decide +kernel), _, rfl, rfl, by decide⟩
def M_X11_questions : zM := (yX11_questions, cX11_questions, 3, some .int, [])
set_option maxRecDepth 100000 in
theorem K_X11_questions : zKm M_X11_questions 2 := ⟨zmem 1895 rfl rfl, zmem 124 (by decide +kernel) (by decide +kernel), by decide +kernel, by decide +kernel, by decide +kernel, rfl, by decide⟩
theorem I_X11_questions : Cond.instanceMethod yX11_questions ∈ zG := zmem 1893 (by decide +kernel) (by decide +kernel)
theorem V_X11_questions : zKv M_X11_questions 11 := ⟨I_X11_questions, zmem 1894 (by decide +kernel) (by decide +kernel), _, rfl, rfl, by decide⟩
def M_X11_ask : zM := (yX11_ask, cX11_ask, 5, some .int, [])
set_option maxRecDepth 100000 in
theorem K_X11_ask : zKm M_X11_ask 2 := ⟨zmem 1915 rfl rfl, zmem 124 (by decide +kernel) (by decide +kernel), by decide +kernel, by decide +kernel, by decide +kernel, rfl, by decide⟩
theorem I_X11_ask : Cond.instanceMethod yX11_ask ∈ zG := zmem 1913 (by decide +kernel) (by decide +kernel)
theorem V_X11_ask : zKv M_X11_ask 11 := ⟨I_X11_ask, zmem 1914 (by decide +kernel) (by decide +kernel), _, rfl, rfl, by decide⟩
def M_X11_claim : zM := (yX11_claim, cX11_claim, 5, some .int, [])
set_option maxRecDepth 100000 in
theorem K_X11_claim : zKm M_X11_claim 3 := ⟨zmem 1919 rfl rfl, zmem 124 (by decide +kernel) (by decide +kernel), by decide +kernel, by decide +kernel, by decide +kernel, rfl, by decide⟩
theorem I_X11_claim : Cond.instanceMethod yX11_claim ∈ zG := zmem 1917 (by decide +kernel) (by decide +kernel)
theorem V_X11_claim : zKv M_X11_claim 11 := ⟨I_X11_claim, zmem 1918 (by decide +kernel) (by decide +kernel), _, rfl, rfl, by decide⟩
def M_X11_fits : zM := (yX11_fits, cX11_fits, 3, some .boolean, [])
set_option maxRecDepth 100000 in
theorem K_X11_fits : zKm M_X11_fits 1 := ⟨zmem 1927 rfl rfl, zmem 124 (by decide +kernel) (by decide +kernel), by decide +kernel, by decide +kernel, by decide +kernel, rfl, by decide⟩
theorem I_X11_fits : Cond.instanceMethod yX11_fits ∈ zG := zmem 1926 (by decide +kernel) (by decide +kernel)
theorem V_X11_fits : zKv M_X11_fits 11 := ⟨I_X11_fits, zmem 106 (by decide +kernel) (by decide +kernel), _, rfl, rfl, by decide⟩
def M_X11_claimed : zM := (yX11_claimed, cX11_claimed, 4, some .int, [])
set_option maxRecDepth 100000 in
theorem K_X11_claimed : zKm M_X11_claimed 2 := ⟨zmem 1923 rfl rfl, zmem 124 (by decide +kernel) (by decide +kernel), by decide +kernel, by decide +kernel, by decide +kernel, rfl, by decide⟩
theorem I_X11_claimed : Cond.instanceMethod yX11_claimed ∈ zG := zmem 1921 (by decide +kernel) (by decide +kernel)
theorem V_X11_claimed : zKv M_X11_claimed 11 := ⟨I_X11_claimed, zmem 1922 (by decide +kernel) (by decide +kernel), _, rfl, rfl, by decide⟩
def M_X11_best : zM := (yX11_best, cX11_best, 7, some .int, [])
set_option maxRecDepth 100000 in
theorem K_X11_best : zKm M_X11_best 1 := ⟨zmem 1931 rfl rfl, zmem 124 (by decide +kernel) (by decide +kernel), by decide +kernel, by decide +kernel, by decide +kernel, rfl, by decide⟩
theorem I_X11_best : Cond.instanceMethod yX11_best ∈ zG := zmem 1929 (by decide +kernel) (by decide +kernel)
theorem V_X11_best : zKv M_X11_best 11 := ⟨I_X11_best, zmem 1930 (by decide +kernel) (by decide +kernel), _, rfl, rfl, by decide⟩
def M_X11_added : zM := (yX11_added, cX11_added, 7, some .int, [])
set_option maxRecDepth 100000 in
theorem K_X11_added : zKm M_X11_added 2 := ⟨zmem 1935 rfl rfl, zmem 124 (by decide +kernel) (by decide +kernel), by decide +kernel, by decide +kernel, by decide +kernel, rfl, by decide⟩
theorem I_X11_added : Cond.instanceMethod yX11_added ∈ zG := zmem 1933 (by decide +kernel) (by decide +kernel)
theorem V_X11_added : zKv M_X11_added 11 := ⟨I_X11_added, zmem 1934 (by decide +kernel) (by decide +kernel), _, rfl, rfl, by decide⟩
def M_X11_cry : zM := (yX11_cry, cX11_cry, 3, some .int, [])
set_option maxRecDepth 100000 in
theorem K_X11_cry : zKm M_X11_cry 1 := ⟨zmem 1939 rfl rfl, zmem 124 (by decide +kernel) (by decide +kernel), by decide +kernel, by decide +kernel, by decide +kernel, rfl, by decide⟩
theorem I_X11_cry : Cond.instanceMethod yX11_cry ∈ zG := zmem 1937 (by decide +kernel) (by decide +kernel)
theorem V_X11_cry : zKv M_X11_cry 11 := ⟨I_X11_cry, zmem 1938 (by decide +kernel) (by decide +kernel), _, rfl, rfl, by decide⟩
def M_X11_dueNow : zM := (yX11_dueNow, cX11_dueNow, 3, some .int, [])
set_option maxRecDepth 100000 in
theorem K_X11_dueNow : zKm M_X11_dueNow 1 := ⟨zmem 1947 rfl rfl, zmem 124 (by decide +kernel) (by decide +kernel), by decide +kernel, by decide +kernel, by decide +kernel, rfl, by decide⟩
theorem I_X11_dueNow : Cond.instanceMethod yX11_dueNow ∈ zG := zmem 1946 (by decide +kernel) (by decide +kernel)
theorem V_X11_dueNow : zKv M_X11_dueNow 11 := ⟨I_X11_dueNow, zmem 107 (by decide +kernel) (by decide +kernel), _, rfl, rfl, by decide⟩
def M_X11_due : zM := (yX11_due, cX11_due, 3, some .int, [])
set_option maxRecDepth 100000 in
theorem K_X11_due : zKm M_X11_due 2 := ⟨zmem 1943 rfl rfl, zmem 124 (by decide +kernel) (by decide +kernel), by decide +kernel, by decide +kernel, by decide +kernel, rfl, by decide⟩
theorem I_X11_due : Cond.instanceMethod yX11_due ∈ zG := zmem 1941 (by decide +kernel) (by decide +kernel)
theorem V_X11_due : zKv M_X11_due 11 := ⟨I_X11_due, zmem 1942 (by decide +kernel) (by decide +kernel), _, rfl, rfl, by decide⟩
def M_X11_leftOn : zM := (yX11_leftOn, cX11_leftOn, 5, some .int, [])
set_option maxRecDepth 100000 in
theorem K_X11_leftOn : zKm M_X11_leftOn 2 := ⟨zmem 1955 rfl rfl, zmem 124 (by decide +kernel) (by decide +kernel), by decide +kernel, by decide +kernel, by decide +kernel, rfl, by decide⟩
theorem I_X11_leftOn : Cond.instanceMethod yX11_leftOn ∈ zG := zmem 1954 (by decide +kernel) (by decide +kernel)
theorem V_X11_leftOn : zKv M_X11_leftOn 11 := ⟨I_X11_leftOn, zmem 108 (by decide +kernel) (by decide +kernel), _, rfl, rfl, by decide⟩
def M_X11_left : zM := (yX11_left, cX11_left, 3, some .int, [])
set_option maxRecDepth 100000 in
theorem K_X11_left : zKm M_X11_left 2 := ⟨zmem 1951 rfl rfl, zmem 124 (by decide +kernel) (by decide +kernel), by decide +kernel, by decide +kernel, by decide +kernel, rfl, by decide⟩
theorem I_X11_left : Cond.instanceMethod yX11_left ∈ zG := zmem 1949 (by decide +kernel) (by decide +kernel)
theorem V_X11_left : zKv M_X11_left 11 := ⟨I_X11_left, zmem 1950 (by decide +kernel) (by decide +kernel), _, rfl, rfl, by decide⟩
def M_X11_gone : zM := (yX11_gone, cX11_gone, 3, some .int, [])
set_option maxRecDepth 100000 in
theorem K_X11_gone : zKm M_X11_gone 1 := ⟨zmem 1959 rfl rfl, zmem 124 (by decide +kernel) (by decide +kernel), by decide +kernel, by decide +kernel, by decide +kernel, rfl, by decide⟩
theorem I_X11_gone : Cond.instanceMethod yX11_gone ∈ zG := zmem 1957 (by decide +kernel) (by decide +kernel)
theorem V_X11_gone : zKv M_X11_gone 11 := ⟨I_X11_gone, zmem 1958 (by decide +kernel) (by decide +kernel), _, rfl, rfl, by decide⟩
def M_X11_late : zM := (yX11_late, cX11_late, 5, some .int, [])
set_option maxRecDepth 100000 in
theorem K_X11_late : zKm M_X11_late 2 := ⟨zmem 1963 rfl rfl, zmem 124 (by decide +kernel) (by decide +kernel), by decide +kernel, by decide +kernel, by decide +kernel, rfl, by decide⟩
theorem I_X11_late : Cond.instanceMethod yX11_late ∈ zG := zmem 1961 (by decide +kernel) (by decide +kernel)
theorem V_X11_late : zKv M_X11_late 11 := ⟨I_X11_late, zmem 1962 (by decide +kernel) (by decide +kernel), _, rfl, rfl, by decide⟩
def M_X11_hasNow : zM := (yX11_hasNow, cX11_hasNow, 4, some .int, [])
set_option maxRecDepth 100000 in
theorem K_X11_hasNow : zKm M_X11_hasNow 1 := ⟨zmem 1971 rfl rfl, zmem 124 (by decide +kernel) (by decide +kernel), by decide +kernel, by decide +kernel, by decide +kernel, rfl, by decide⟩
theorem I_X11_hasNow : Cond.instanceMethod yX11_hasNow ∈ zG := zmem 1970 (by decide +kernel) (by decide +kernel)
theorem V_X11_hasNow : zKv M_X11_hasNow 11 := ⟨I_X11_hasNow, zmem 109 (by decide +kernel) (by decide +kernel), _, rfl, rfl, by decide⟩
def M_X11_pass_ : zM := (yX11_pass_, cX11_pass_, 6, some .int, [])
set_option maxRecDepth 100000 in
theorem K_X11_pass_ : zKm M_X11_pass_ 4 := ⟨zmem 1967 rfl rfl, zmem 124 (by decide +kernel) (by decide +kernel), by decide +kernel, by decide +kernel, by decide +kernel, rfl, by decide⟩
theorem I_X11_pass_ : Cond.instanceMethod yX11_pass_ ∈ zG := zmem 1965 (by decide +kernel) (by decide +kernel)
theorem V_X11_pass_ : zKv M_X11_pass_ 11 := ⟨I_X11_pass_, zmem 1966 (by decide +kernel) (by decide +kernel), _, rfl, rfl, by decide⟩
def M_X11_has : zM := (yX11_has, cX11_has, 2, some .int, [])
set_option maxRecDepth 100000 in
theorem K_X11_has : zKm M_X11_has 1 := ⟨zmem 1975 rfl rfl, zmem 124 (by decide +kernel) (by decide +kernel), by decide +kernel, by decide +kernel, by decide +kernel, rfl, by decide⟩
theorem I_X11_has : Cond.instanceMethod yX11_has ∈ zG := zmem 1973 (by decide +kernel) (by decide +kernel)
theorem V_X11_has : zKv M_X11_has 11 := ⟨I_X11_has, zmem 1974 (by decide +kernel) (by decide +kernel), _, rfl, rfl, by decide⟩
def M_X11_away : zM := (yX11_away, cX11_away, 4, some .boolean, [])
set_option maxRecDepth 100000 in
theorem K_X11_away : zKm M_X11_away 2 := ⟨zmem 1979 rfl rfl, zmem 124 (by decide +kernel) (by decide +kernel), by decide +kernel, by decide +kernel, by decide +kernel, rfl, by decide⟩
theorem I_X11_away : Cond.instanceMethod yX11_away ∈ zG := zmem 1977 (by decide +kernel) (by decide +kernel)
theorem V_X11_away : zKv M_X11_away 11 := ⟨I_X11_away, zmem 1978 (by decide +kernel) (by decide +kernel), _, rfl, rfl, by decide⟩
def M_X11_loss : zM := (yX11_loss, cX11_loss, 6, some .int, [])
set_option maxRecDepth 100000 in
theorem K_X11_loss : zKm M_X11_loss 2 := ⟨zmem 1983 rfl rfl, zmem 124 (by decide +kernel) (by decide +kernel), by decide +kernel, by decide +kernel, by decide +kernel, rfl, by decide⟩
theorem I_X11_loss : Cond.instanceMethod yX11_loss ∈ zG := zmem 1981 (by decide +kernel) (by decide +kernel)
theorem V_X11_loss : zKv M_X11_loss 11 := ⟨I_X11_loss, zmem 1982 (by decide +kernel) (by decide +kernel), _, rfl, rfl, by decide⟩
def M_X11_findViews : zM := (yX11_findViews, cX11_findViews, 4, none, [])
set_option maxRecDepth 100000 in
theorem K_X11_findViews : zKm M_X11_findViews 2 := ⟨zmem 1991 rfl rfl, zmem 124 (by decide +kernel) (by decide +kernel), by decide +kernel, by decide +kernel, by decide +kernel, rfl, by decide⟩
theorem I_X11_findViews : Cond.instanceMethod yX11_findViews ∈ zG := zmem 1990 (by decide +kernel) (by decide +kernel)
theorem V_X11_findViews : zKv M_X11_findViews 11 := ⟨I_X11_findViews, zmem 110 (by decide +kernel) (by decide +kernel), _, rfl, rfl, by decide⟩
def M_X11_parts : zM := (yX11_parts, cX11_parts, 4, some .boolean, [])
set_option maxRecDepth 100000 in
theorem K_X11_parts : zKm M_X11_parts 2 := ⟨zmem 1995 rfl rfl, zmem 124 (by decide +kernel) (by decide +kernel), by decide +kernel, by decide +kernel, by decide +kernel, rfl, by decide⟩
theorem I_X11_parts : Cond.instanceMethod yX11_parts ∈ zG := zmem 1994 (by decide +kernel) (by decide +kernel)
theorem V_X11_parts : zKv M_X11_parts 11 := ⟨I_X11_parts, zmem 111 (by decide +kernel) (by decide +kernel), _, rfl, rfl, by decide⟩
def M_X11_beside : zM := (yX11_beside, cX11_beside, 5, some .int, [])
set_option maxRecDepth 100000 in
theorem K_X11_beside : zKm M_X11_beside 2 := ⟨zmem 1987 rfl rfl, zmem 124 (by decide +kernel) (by decide +kernel), by decide +kernel, by decide +kernel, by decide +kernel, rfl, by decide⟩
theorem I_X11_beside : Cond.instanceMethod yX11_beside ∈ zG := zmem 1985 (by decide +kernel) (by decide +kernel)
theorem V_X11_beside : zKv M_X11_beside 11 := ⟨I_X11_beside, zmem 1986 (by decide +kernel) (by decide +kernel), _, rfl, rfl, by decide⟩
def M_X11_least : zM := (yX11_least, cX11_least, 5, some .int, [])
set_option maxRecDepth 100000 in
theorem K_X11_least : zKm M_X11_least 3 := ⟨zmem 1999 rfl rfl, zmem 124 (by decide +kernel) (by decide +kernel), by decide +kernel, by decide +kernel, by decide +kernel, rfl, by decide⟩
theorem I_X11_least : Cond.instanceMethod yX11_least ∈ zG := zmem 1997 (by decide +kernel) (by decide +kernel)
theorem V_X11_least : zKv M_X11_least 11 := ⟨I_X11_least, zmem 1998 (by decide +kernel) (by decide +kernel), _, rfl, rfl, by decide⟩
def M_X11_image : zM := (yX11_image, cX11_image, 2, some .int, [])
set_option maxRecDepth 100000 in
theorem K_X11_image : zKm M_X11_image 0 := ⟨zmem 2003 rfl rfl, zmem 124 (by decide +kernel) (by decide +kernel), by decide +kernel, by decide +kernel, by decide +kernel, rfl, by decide⟩
theorem I_X11_image : Cond.instanceMethod yX11_image ∈ zG := zmem 2001 (by decide +kernel) (by decide +kernel)
theorem V_X11_image : zKv M_X11_image 11 := ⟨I_X11_image, zmem 2002 (by decide +kernel) (by decide +kernel), _, rfl, rfl, by decide⟩
def M_X11_restore : zM := (yX11_restore, cX11_restore, 2, some .int, [])
set_option maxRecDepth 100000 in
theorem K_X11_restore : zKm M_X11_restore 0 := ⟨zmem 2007 rfl rfl, zmem 124 (by decide +kernel) (by decide +kernel), by decide +kernel, by decide +kernel, by decide +kernel, rfl, by decide⟩
theorem I_X11_restore : Cond.instanceMethod yX11_restore ∈ zG := zmem 2005 (by decide +kernel) (by decide +kernel)
theorem V_X11_restore : zKv M_X11_restore 11 := ⟨I_X11_restore, zmem 2006 (by decide +kernel) (by decide +kernel), _, rfl, rfl, by decide⟩
def M_X11_count : zM := (yX11_count, cX11_count, 2, some .int, [])
set_option maxRecDepth 100000 in
theorem K_X11_count : zKm M_X11_count 1 := ⟨zmem 2011 rfl rfl, zmem 124 (by decide +kernel) (by decide +kernel), by decide +kernel, by decide +kernel, by decide +kernel, rfl, by decide⟩
theorem I_X11_count : Cond.instanceMethod yX11_count ∈ zG := zmem 2009 (by decide +kernel) (by decide +kernel)
theorem V_X11_count : zKv M_X11_count 11 := ⟨I_X11_count, zmem 2010 (by decide +kernel) (by decide +kernel), _, rfl, rfl, by decide⟩
def M_J6_bitCount_0f7a4 : zM := (yJ6_bitCount_0f7a4, cJ6_bitCount_0f7a4, 1, some .int, [])
set_option maxRecDepth 100000 in
theorem K_J6_bitCount_0f7a4 : zKm M_J6_bitCount_0f7a4 1 := ⟨zmem 1133 rfl rfl, zmem 138 (by decide +kernel) (by decide +kernel), by decide +kernel, by decide +kernel, by decide +kernel, rfl, by decide⟩
theorem S_J6_bitCount_0f7a4 : Cond.static yJ6_bitCount_0f7a4 ∈ zG := zmem 1132 (by decide +kernel) (by decide +kernel)
def M_J13_bitCount_95d88 : zM := (yJ13_bitCount_95d88, cJ13_bitCount_95d88, 2, some .int, [])
set_option maxRecDepth 100000 in
theorem K_J13_bitCount_95d88 : zKm M_J13_bitCount_95d88 1 := ⟨zmem 606 rfl rfl, zmem 135 (by decide +kernel) (by decide +kernel), by decide +kernel, by decide +kernel, by decide +kernel, rfl, by decide⟩
theorem S_J13_bitCount_95d88 : Cond.static yJ13_bitCount_95d88 ∈ zG := zmem 605 (by decide +kernel) (by decide +kernel)
def M_J9_max_7cf53 : zM := (yJ9_max_7cf53, cJ9_max_7cf53, 2, some .int, [])
def M_J9_min_7cf53 : zM := (yJ9_min_7cf53, cJ9_min_7cf53, 2, some .int, [])
def M_J0_length_8abf5 : zM := (yJ0_length_8abf5, cJ0_length_8abf5, 1, some .int, [])
set_option maxRecDepth 100000 in
theorem K_J0_length_8abf5 : zKm M_J0_length_8abf5 0 := ⟨zmem 799 rfl rfl, zmem 130 (by decide +kernel) (by decide +kernel), by decide +kernel, by decide +kernel, by decide +kernel, rfl, by decide⟩
theorem I_J0_length_8abf5 : Cond.instanceMethod yJ0_length_8abf5 ∈ zG := zmem 797 (by decide +kernel) (by decide +kernel)
theorem W_J0_length_8abf5 : Cond.selects yJ0_length_8abf5.cls yJ0_length_8abf5 yJ0_length_8abf5 ∈ zG := zmem 798 (by decide +kernel) (by decide +kernel)
def M_J0_charAt_5068e : zM := (yJ0_charAt_5068e, cJ0_charAt_5068e, 2, some .char, [])
set_option maxRecDepth 100000 in
theorem K_J0_charAt_5068e : zKm M_J0_charAt_5068e 1 := ⟨zmem 809 rfl rfl, zmem 130 (by decide +kernel) (by decide +kernel), by decide +kernel, by decide +kernel, by decide +kernel, rfl, by decide⟩
theorem I_J0_charAt_5068e : Cond.instanceMethod yJ0_charAt_5068e ∈ zG := zmem 807 (by decide +kernel) (by decide +kernel)
theorem W_J0_charAt_5068e : Cond.selects yJ0_charAt_5068e.cls yJ0_charAt_5068e yJ0_charAt_5068e ∈ zG := zmem 808 (by decide +kernel) (by decide +kernel)
def M_J0_coder_7d493 : zM := (yJ0_coder_7d493, cJ0_coder_7d493, 1, some .byte, [])
set_option maxRecDepth 100000 in
theorem K_J0_coder_7d493 : zKm M_J0_coder_7d493 0 := ⟨zmem 803 rfl rfl, zmem 130 (by decide +kernel) (by decide +kernel), by decide +kernel, by decide +kernel, by decide +kernel, rfl, by decide⟩
theorem I_J0_coder_7d493 : Cond.instanceMethod yJ0_coder_7d493 ∈ zG := zmem 801 (by decide +kernel) (by decide +kernel)
theorem W_J0_coder_7d493 : Cond.selects yJ0_coder_7d493.cls yJ0_coder_7d493 yJ0_coder_7d493 ∈ zG := zmem 802 (by decide +kernel) (by decide +kernel)
def M_J0_isLatin1_aae02 : zM := (yJ0_isLatin1_aae02, cJ0_isLatin1_aae02, 1, some .boolean, [])
set_option maxRecDepth 100000 in
theorem K_J0_isLatin1_aae02 : zKm M_J0_isLatin1_aae02 0 := ⟨zmem 813 rfl rfl, zmem 130 (by decide +kernel) (by decide +kernel), by decide +kernel, by decide +kernel, by decide +kernel, rfl, by decide⟩
theorem I_J0_isLatin1_aae02 : Cond.instanceMethod yJ0_isLatin1_aae02 ∈ zG := zmem 811 (by decide +kernel) (by decide +kernel)
theorem W_J0_isLatin1_aae02 : Cond.selects yJ0_isLatin1_aae02.cls yJ0_isLatin1_aae02 yJ0_isLatin1_aae02 ∈ zG := zmem 812 (by decide +kernel) (by decide +kernel)
def M_J0_checkIndex_df160 : zM := (yJ0_checkIndex_df160, cJ0_checkIndex_df160, 2, none, [])
set_option maxRecDepth 100000 in
theorem K_J0_checkIndex_df160 : zKm M_J0_checkIndex_df160 2 := ⟨zmem 819 rfl rfl, zmem 130 (by decide +kernel) (by decide +kernel), by decide +kernel, by decide +kernel, by decide +kernel, rfl, by decide⟩
theorem S_J0_checkIndex_df160 : Cond.static yJ0_checkIndex_df160 ∈ zG := zmem 818 (by decide +kernel) (by decide +kernel)
def M_J1_charAt_3b067 : zM := (yJ1_charAt_3b067, cJ1_charAt_3b067, 2, some .char, [])
set_option maxRecDepth 100000 in
theorem K_J1_charAt_3b067 : zKm M_J1_charAt_3b067 2 := ⟨zmem 816 rfl rfl, zmem 131 (by decide +kernel) (by decide +kernel), by decide +kernel, by decide +kernel, by decide +kernel, rfl, by decide⟩
theorem S_J1_charAt_3b067 : Cond.static yJ1_charAt_3b067 ∈ zG := zmem 815 (by decide +kernel) (by decide +kernel)
def M_J2_getChar_3b067 : zM := (yJ2_getChar_3b067, cJ2_getChar_3b067, 2, some .char, [])
set_option maxRecDepth 100000 in
theorem K_J2_getChar_3b067 : zKm M_J2_getChar_3b067 2 := ⟨zmem 837 rfl rfl, zmem 133 (by decide +kernel) (by decide +kernel), by decide +kernel, by decide +kernel, by decide +kernel, rfl, by decide⟩
theorem S_J2_getChar_3b067 : Cond.static yJ2_getChar_3b067 ∈ zG := zmem 836 (by decide +kernel) (by decide +kernel)
def M_J2_length_9d52b : zM := (yJ2_length_9d52b, cJ2_length_9d52b, 1, some .int, [])
set_option maxRecDepth 100000 in
theorem K_J2_length_9d52b : zKm M_J2_length_9d52b 1 := ⟨zmem 833 rfl rfl, zmem 133 (by decide +kernel) (by decide +kernel), by decide +kernel, by decide +kernel, by decide +kernel, rfl, by decide⟩
theorem S_J2_length_9d52b : Cond.static yJ2_length_9d52b ∈ zG := zmem 832 (by decide +kernel) (by decide +kernel)
def M_J2_charAt_3b067 : zM := (yJ2_charAt_3b067, cJ2_charAt_3b067, 2, some .char, [])
set_option maxRecDepth 100000 in
theorem K_J2_charAt_3b067 : zKm M_J2_charAt_3b067 2 := ⟨zmem 827 rfl rfl, zmem 133 (by decide +kernel) (by decide +kernel), by decide +kernel, by decide +kernel, by decide +kernel, rfl, by decide⟩
theorem S_J2_charAt_3b067 : Cond.static yJ2_charAt_3b067 ∈ zG := zmem 826 (by decide +kernel) (by decide +kernel)
def M_J2_checkIndex_2214a : zM := (yJ2_checkIndex_2214a, cJ2_checkIndex_2214a, 2, none, [])
set_option maxRecDepth 100000 in
theorem K_J2_checkIndex_2214a : zKm M_J2_checkIndex_2214a 2 := ⟨zmem 830 rfl rfl, zmem 133 (by decide +kernel) (by decide +kernel), by decide +kernel, by decide +kernel, by decide +kernel, rfl, by decide⟩
theorem S_J2_checkIndex_2214a : Cond.static yJ2_checkIndex_2214a ∈ zG := zmem 829 (by decide +kernel) (by decide +kernel)
def M_J3_checkIndex_8e157 : zM := (yJ3_checkIndex_8e157, cJ3_checkIndex_8e157, 3, some .int, [])
set_option maxRecDepth 100000 in
theorem K_J3_checkIndex_8e157 : zKm M_J3_checkIndex_8e157 3 := ⟨zmem 824 rfl rfl, zmem 132 (by decide +kernel) (by decide +kernel), by decide +kernel, by decide +kernel, by decide +kernel, rfl, by decide⟩
theorem S_J3_checkIndex_8e157 : Cond.static yJ3_checkIndex_8e157 ∈ zG := zmem 823 (by decide +kernel) (by decide +kernel)
def M_L_law : zM := (yL_law, cL_law, 4, some .int, [(0, 9, 12, 13)])
def M_L_holds : zM := (yL_holds, cL_holds, 4, some .int, [(0, 9, 12, 13)])
def M_L_know : zM := (yL_know, cL_know, 5, some .int, [(0, 10, 13, 22), (0, 10, 17, 13)])
def M_L_weigh : zM := (yL_weigh, cL_weigh, 5, some .int, [(0, 10, 13, 22), (0, 10, 17, 13)])
def M_L_person : zM := (yL_person, cL_person, 5, some .int, [(0, 10, 13, 13)])
def M_L_passes : zM := (yL_passes, cL_passes, 6, some .int, [(0, 12, 15, 34), (0, 12, 19, 13)])
def M_L_ground : zM := (yL_ground, cL_ground, 6, some .int, [(0, 12, 15, 13), (0, 12, 19, 34)])
def M_L_days : zM := (yL_days, cL_days, 4, some .int, [(0, 9, 12, 13), (0, 9, 15, 43)])
def M_L_find : zM := (yL_find, cL_find, 8, some .int, [(0, 16, 19, 13)])
def M_L_name : zM := (yL_name, cL_name, 5, some .int, [(0, 10, 13, 22), (0, 10, 17, 13)])
def M_L_hold : zM := (yL_hold, cL_hold, 7, some .int, [(0, 14, 17, 22), (0, 14, 21, 34), (0, 14, 25, 13)])
def M_L_finders : zM := (yL_finders, cL_finders, 4, some .int, [(0, 9, 12, 22)])
def M_L_whose : zM := (yL_whose, cL_whose, 7, some .int, [(0, 14, 17, 22), (0, 14, 21, 13)])
def M_L_sure : zM := (yL_sure, cL_sure, 5, some .int, [(0, 10, 13, 22), (0, 10, 17, 13)])
def M_L_may : zM := (yL_may, cL_may, 5, some .int, [(0, 10, 13, 22), (0, 10, 17, 13)])
def M_L_part : zM := (yL_part, cL_part, 6, some .int, [(0, 11, 14, 22), (0, 11, 18, 13)])
def M_L_hangs : zM := (yL_hangs, cL_hangs, 5, some .int, [(0, 10, 13, 22), (0, 10, 17, 13)])
def M_L_settles : zM := (yL_settles, cL_settles, 5, some .int, [(0, 10, 13, 22), (0, 10, 17, 13)])
def M_L_questions : zM := (yL_questions, cL_questions, 5, some .int, [(0, 10, 13, 22), (0, 10, 17, 13)])
def M_L_ask : zM := (yL_ask, cL_ask, 5, some .int, [(0, 10, 13, 22), (0, 10, 17, 13)])
def M_L_claim : zM := (yL_claim, cL_claim, 6, some .int, [(0, 12, 15, 22), (0, 12, 19, 34), (0, 12, 23, 13)])
def M_L_claimed : zM := (yL_claimed, cL_claimed, 5, some .int, [(0, 10, 13, 22), (0, 10, 17, 13)])
def M_L_best : zM := (yL_best, cL_best, 4, some .int, [(0, 9, 12, 22)])
def M_L_added : zM := (yL_added, cL_added, 5, some .int, [(0, 10, 13, 22), (0, 10, 17, 13)])
def M_L_cry : zM := (yL_cry, cL_cry, 4, some .int, [(0, 9, 12, 22)])
def M_L_due : zM := (yL_due, cL_due, 5, some .int, [(0, 10, 13, 22), (0, 10, 17, 13)])
def M_L_left : zM := (yL_left, cL_left, 5, some .int, [(0, 10, 13, 22), (0, 10, 17, 13)])
def M_L_gone : zM := (yL_gone, cL_gone, 4, some .int, [(0, 9, 12, 22)])
def M_L_late : zM := (yL_late, cL_late, 5, some .int, [(0, 10, 13, 22), (0, 10, 17, 13)])
def M_L_pass : zM := (yL_pass, cL_pass, 7, some .int, [(0, 14, 17, 22), (0, 14, 21, 34), (0, 14, 25, 13)])
def M_L_has : zM := (yL_has, cL_has, 4, some .int, [(0, 9, 12, 22)])
def M_L_away : zM := (yL_away, cL_away, 5, some .int, [(0, 17, 20, 34)])
def M_L_loss : zM := (yL_loss, cL_loss, 5, some .int, [(0, 10, 13, 22), (0, 10, 17, 34)])
def M_L_beside : zM := (yL_beside, cL_beside, 5, some .int, [(0, 10, 13, 13)])
def M_L_least : zM := (yL_least, cL_least, 6, some .int, [(0, 12, 15, 13)])
theorem L_L_130 : Cond.methodLink RL 130 yX10_init ∈ zG := zmem 142 (by decide +kernel) (by decide +kernel)
theorem L_X10_3 : Cond.methodLink RX10 3 objectInit ∈ zG := zmem 145 (by decide +kernel) (by decide +kernel)
theorem L_X10_11 : Cond.methodLink RX10 11 yX6_init ∈ zG := zmem 150 (by decide +kernel) (by decide +kernel)
theorem L_X6_3 : Cond.methodLink RX6 3 objectInit ∈ zG := zmem 153 (by decide +kernel) (by decide +kernel)
theorem L_X6_31 : Cond.methodLink RX6 31 yX3_init ∈ zG := zmem 156 (by decide +kernel) (by decide +kernel)
theorem L_X3_3 : Cond.methodLink RX3 3 objectInit ∈ zG := zmem 159 (by decide +kernel) (by decide +kernel)
theorem L_X10_24 : Cond.methodLink RX10 24 yX8_init ∈ zG := zmem 244 (by decide +kernel) (by decide +kernel)
theorem L_X8_3 : Cond.methodLink RX8 3 objectInit ∈ zG := zmem 247 (by decide +kernel) (by decide +kernel)
theorem L_X8_54 : Cond.methodLink RX8 54 yX5_init ∈ zG := zmem 258 (by decide +kernel) (by decide +kernel)
theorem L_X5_3 : Cond.methodLink RX5 3 objectInit ∈ zG := zmem 261 (by decide +kernel) (by decide +kernel)
theorem L_X8_55 : Cond.methodLink RX8 55 yX1_init ∈ zG := zmem 282 (by decide +kernel) (by decide +kernel)
theorem L_X1_3 : Cond.methodLink RX1 3 objectInit ∈ zG := zmem 285 (by decide +kernel) (by decide +kernel)
theorem L_X8_56 : Cond.methodLink RX8 56 yX0_init ∈ zG := zmem 340 (by decide +kernel) (by decide +kernel)
theorem L_X0_1 : Cond.methodLink RX0 1 objectInit ∈ zG := zmem 343 (by decide +kernel) (by decide +kernel)
theorem L_X8_57 : Cond.methodLink RX8 57 yX4_init ∈ zG := zmem 361 (by decide +kernel) (by decide +kernel)
theorem L_X4_1 : Cond.methodLink RX4 1 objectInit ∈ zG := zmem 364 (by decide +kernel) (by decide +kernel)
theorem L_X10_35 : Cond.methodLink RX10 35 yX2_init ∈ zG := zmem 450 (by decide +kernel) (by decide +kernel)
theorem L_X2_3 : Cond.methodLink RX2 3 objectInit ∈ zG := zmem 453 (by decide +kernel) (by decide +kernel)
theorem L_X10_42 : Cond.methodLink RX10 42 yX9_init ∈ zG := zmem 472 (by decide +kernel) (by decide +kernel)
theorem L_X9_3 : Cond.methodLink RX9 3 objectInit ∈ zG := zmem 475 (by decide +kernel) (by decide +kernel)
theorem L_X10_52 : Cond.methodLink RX10 52 yX7_init ∈ zG := zmem 494 (by decide +kernel) (by decide +kernel)
theorem L_X7_3 : Cond.methodLink RX7 3 objectInit ∈ zG := zmem 497 (by decide +kernel) (by decide +kernel)
theorem L_X10_70 : Cond.methodLink RX10 70 yX1_init ∈ zG := zmem 533 (by decide +kernel) (by decide +kernel)
theorem L_X10_75 : Cond.methodLink RX10 75 yX3_init ∈ zG := zmem 534 (by decide +kernel) (by decide +kernel)
theorem L_L_134 : Cond.methodLink RL 134 yX10_feed ∈ zG := zmem 578 (by decide +kernel) (by decide +kernel)
theorem L_X10_80 : Cond.methodLink RX10 80 yX6_put ∈ zG := zmem 582 (by decide +kernel) (by decide +kernel)
theorem L_L_151 : Cond.methodLink RL 151 yX10_fault ∈ zG := zmem 586 (by decide +kernel) (by decide +kernel)
theorem L_L_162 : Cond.methodLink RL 162 yX10_worlds ∈ zG := zmem 590 (by decide +kernel) (by decide +kernel)
theorem L_X10_151 : Cond.methodLink RX10 151 yX10_fillWorldSet ∈ zG := zmem 594 (by decide +kernel) (by decide +kernel)
theorem L_X10_168 : Cond.methodLink RX10 168 yX10_trueBits ∈ zG := zmem 598 (by decide +kernel) (by decide +kernel)
theorem L_X10_154 : Cond.methodLink RX10 154 yJ13_bitCount_95d88 ∈ zG := zmem 604 (by decide +kernel) (by decide +kernel)
theorem L_L_166 : Cond.methodLink RL 166 yX10_world ∈ zG := zmem 610 (by decide +kernel) (by decide +kernel)
theorem L_X10_160 : Cond.methodLink RX10 160 yX10_hasWorld ∈ zG := zmem 614 (by decide +kernel) (by decide +kernel)
theorem L_L_170 : Cond.methodLink RL 170 yX10_all ∈ zG := zmem 617 (by decide +kernel) (by decide +kernel)
theorem L_X10_164 : Cond.methodLink RX10 164 yX10_weightOf ∈ zG := zmem 621 (by decide +kernel) (by decide +kernel)
theorem L_X10_177 : Cond.methodLink RX10 177 yX10_fillWeights ∈ zG := zmem 625 (by decide +kernel) (by decide +kernel)
theorem L_L_273 : Cond.methodLink RL 273 yX10_image ∈ zG := zmem 629 (by decide +kernel) (by decide +kernel)
theorem L_X10_401 : Cond.methodLink RX10 401 yX8_copy ∈ zG := zmem 633 (by decide +kernel) (by decide +kernel)
theorem L_X8_77 : Cond.methodLink RX8 77 arraycopyName ∈ zG := zmem 637 (by decide +kernel) (by decide +kernel)
theorem L_X8_83 : Cond.methodLink RX8 83 yX5_copy ∈ zG := zmem 640 (by decide +kernel) (by decide +kernel)
theorem L_X5_26 : Cond.methodLink RX5 26 arraycopyName ∈ zG := zmem 644 (by decide +kernel) (by decide +kernel)
theorem L_X8_87 : Cond.methodLink RX8 87 yX1_copy ∈ zG := zmem 645 (by decide +kernel) (by decide +kernel)
theorem L_X1_52 : Cond.methodLink RX1 52 yX1_begin ∈ zG := zmem 649 (by decide +kernel) (by decide +kernel)
theorem L_X1_56 : Cond.methodLink RX1 56 arraycopyName ∈ zG := zmem 653 (by decide +kernel) (by decide +kernel)
theorem L_X8_99 : Cond.methodLink RX8 99 yX0_begin ∈ zG := zmem 654 (by decide +kernel) (by decide +kernel)
theorem L_X8_113 : Cond.methodLink RX8 113 yX4_begin ∈ zG := zmem 658 (by decide +kernel) (by decide +kernel)
theorem L_L_277 : Cond.methodLink RL 277 yX10_restore ∈ zG := zmem 662 (by decide +kernel) (by decide +kernel)
theorem L_L_281 : Cond.methodLink RL 281 yX10_count ∈ zG := zmem 666 (by decide +kernel) (by decide +kernel)
theorem L_X10_405 : Cond.methodLink RX10 405 yX8_openUnknowns ∈ zG := zmem 670 (by decide +kernel) (by decide +kernel)
theorem L_L_138 : Cond.methodLink RL 138 yL_law ∈ zG := zmem 674 (by decide +kernel) (by decide +kernel)
theorem L_L_7 : Cond.methodLink RL 7 yX10_law ∈ zG := zmem 678 (by decide +kernel) (by decide +kernel)
theorem L_X10_84 : Cond.methodLink RX10 84 yX10_takeTape ∈ zG := zmem 682 (by decide +kernel) (by decide +kernel)
theorem L_X10_125 : Cond.methodLink RX10 125 yX6_empty ∈ zG := zmem 754 (by decide +kernel) (by decide +kernel)
theorem L_X10_90 : Cond.methodLink RX10 90 yX6_readLaw ∈ zG := zmem 758 (by decide +kernel) (by decide +kernel)
theorem L_X6_42 : Cond.methodLink RX6 42 yX6_start ∈ zG := zmem 762 (by decide +kernel) (by decide +kernel)
theorem L_X6_68 : Cond.methodLink RX6 68 yJ9_min_7cf53 ∈ zG := zmem 766 (by decide +kernel) (by decide +kernel)
theorem L_X6_77 : Cond.methodLink RX6 77 yX6_cut ∈ zG := zmem 769 (by decide +kernel) (by decide +kernel)
theorem L_X6_150 : Cond.methodLink RX6 150 yX6_byteAt ∈ zG := zmem 773 (by decide +kernel) (by decide +kernel)
theorem L_X6_154 : Cond.methodLink RX6 154 yX6_isLetter ∈ zG := zmem 777 (by decide +kernel) (by decide +kernel)
theorem L_X6_157 : Cond.methodLink RX6 157 yX6_cutWord ∈ zG := zmem 780 (by decide +kernel) (by decide +kernel)
theorem L_X6_160 : Cond.methodLink RX6 160 yX6_isDigit ∈ zG := zmem 784 (by decide +kernel) (by decide +kernel)
theorem L_X6_166 : Cond.methodLink RX6 166 yX6_addPiece ∈ zG := zmem 787 (by decide +kernel) (by decide +kernel)
theorem L_X6_170 : Cond.methodLink RX6 170 yX6_wordNumber ∈ zG := zmem 791 (by decide +kernel) (by decide +kernel)
theorem L_X6_175 : Cond.methodLink RX6 175 yJ0_length_8abf5 ∈ zG := zmem 796 (by decide +kernel) (by decide +kernel)
theorem L_J0_335 : Cond.methodLink RJ0 335 yJ0_coder_7d493 ∈ zG := zmem 800 (by decide +kernel) (by decide +kernel)
theorem L_X6_180 : Cond.methodLink RX6 180 yJ0_charAt_5068e ∈ zG := zmem 806 (by decide +kernel) (by decide +kernel)
theorem L_J0_492 : Cond.methodLink RJ0 492 yJ0_isLatin1_aae02 ∈ zG := zmem 810 (by decide +kernel) (by decide +kernel)
theorem L_J0_495 : Cond.methodLink RJ0 495 yJ1_charAt_3b067 ∈ zG := zmem 814 (by decide +kernel) (by decide +kernel)
theorem L_J1_9 : Cond.methodLink RJ1 9 yJ0_checkIndex_df160 ∈ zG := zmem 817 (by decide +kernel) (by decide +kernel)
theorem L_J0_1059 : Cond.methodLink RJ0 1059 yJ3_checkIndex_8e157 ∈ zG := zmem 822 (by decide +kernel) (by decide +kernel)
theorem L_J0_498 : Cond.methodLink RJ0 498 yJ2_charAt_3b067 ∈ zG := zmem 825 (by decide +kernel) (by decide +kernel)
theorem L_J2_67 : Cond.methodLink RJ2 67 yJ2_checkIndex_2214a ∈ zG := zmem 828 (by decide +kernel) (by decide +kernel)
theorem L_J2_48 : Cond.methodLink RJ2 48 yJ2_length_9d52b ∈ zG := zmem 831 (by decide +kernel) (by decide +kernel)
theorem L_J2_414 : Cond.methodLink RJ2 414 yJ0_checkIndex_df160 ∈ zG := zmem 834 (by decide +kernel) (by decide +kernel)
theorem L_J2_71 : Cond.methodLink RJ2 71 yJ2_getChar_3b067 ∈ zG := zmem 835 (by decide +kernel) (by decide +kernel)
theorem L_X6_163 : Cond.methodLink RX6 163 yX6_cutDigits ∈ zG := zmem 844 (by decide +kernel) (by decide +kernel)
theorem L_X6_83 : Cond.methodLink RX6 83 yX3_clear ∈ zG := zmem 848 (by decide +kernel) (by decide +kernel)
theorem L_X6_89 : Cond.methodLink RX6 89 yX6_goOn ∈ zG := zmem 852 (by decide +kernel) (by decide +kernel)
theorem L_X6_147 : Cond.methodLink RX6 147 yJ9_max_7cf53 ∈ zG := zmem 856 (by decide +kernel) (by decide +kernel)
theorem L_X6_49 : Cond.methodLink RX6 49 yX6_readRule ∈ zG := zmem 859 (by decide +kernel) (by decide +kernel)
theorem L_X6_64 : Cond.methodLink RX6 64 yX6_refuse ∈ zG := zmem 863 (by decide +kernel) (by decide +kernel)
theorem L_X6_101 : Cond.methodLink RX6 101 yX6_isWord ∈ zG := zmem 867 (by decide +kernel) (by decide +kernel)
theorem L_X6_104 : Cond.methodLink RX6 104 yX6_needNumber ∈ zG := zmem 871 (by decide +kernel) (by decide +kernel)
theorem L_X6_53 : Cond.methodLink RX6 53 yX3_addRule ∈ zG := zmem 875 (by decide +kernel) (by decide +kernel)
theorem L_X6_57 : Cond.methodLink RX6 57 yX6_readOr ∈ zG := zmem 879 (by decide +kernel) (by decide +kernel)
theorem L_X6_107 : Cond.methodLink RX6 107 yX6_readAnd ∈ zG := zmem 883 (by decide +kernel) (by decide +kernel)
theorem L_X6_113 : Cond.methodLink RX6 113 yX6_readBasic ∈ zG := zmem 887 (by decide +kernel) (by decide +kernel)
theorem L_X6_116 : Cond.methodLink RX6 116 yX6_readNot ∈ zG := zmem 891 (by decide +kernel) (by decide +kernel)
theorem L_X6_128 : Cond.methodLink RX6 128 yX6_mayOpen ∈ zG := zmem 895 (by decide +kernel) (by decide +kernel)
theorem L_X6_110 : Cond.methodLink RX6 110 yX3_addCode ∈ zG := zmem 899 (by decide +kernel) (by decide +kernel)
theorem L_X6_119 : Cond.methodLink RX6 119 yX6_isSign ∈ zG := zmem 903 (by decide +kernel) (by decide +kernel)
theorem L_X6_122 : Cond.methodLink RX6 122 yX6_readBracket ∈ zG := zmem 907 (by decide +kernel) (by decide +kernel)
theorem L_X6_60 : Cond.methodLink RX6 60 yX6_readSign ∈ zG := zmem 911 (by decide +kernel) (by decide +kernel)
theorem L_X6_125 : Cond.methodLink RX6 125 yX6_readComparison ∈ zG := zmem 915 (by decide +kernel) (by decide +kernel)
theorem L_X6_131 : Cond.methodLink RX6 131 yX6_readSum ∈ zG := zmem 919 (by decide +kernel) (by decide +kernel)
theorem L_X6_134 : Cond.methodLink RX6 134 yX6_readTerm ∈ zG := zmem 923 (by decide +kernel) (by decide +kernel)
theorem L_X6_137 : Cond.methodLink RX6 137 yX6_readParenthesis ∈ zG := zmem 927 (by decide +kernel) (by decide +kernel)
theorem L_X6_140 : Cond.methodLink RX6 140 yX3_addUse ∈ zG := zmem 931 (by decide +kernel) (by decide +kernel)
theorem L_L_148 : Cond.methodLink RL 148 yL_holds ∈ zG := zmem 935 (by decide +kernel) (by decide +kernel)
theorem L_L_15 : Cond.methodLink RL 15 yX10_holds ∈ zG := zmem 938 (by decide +kernel) (by decide +kernel)
theorem L_X10_100 : Cond.methodLink RX10 100 yX6_readCondition ∈ zG := zmem 942 (by decide +kernel) (by decide +kernel)
theorem L_X10_114 : Cond.methodLink RX10 114 yX2_narrow ∈ zG := zmem 948 (by decide +kernel) (by decide +kernel)
theorem L_X2_22 : Cond.methodLink RX2 22 yX2_workCondition ∈ zG := zmem 952 (by decide +kernel) (by decide +kernel)
theorem L_X2_77 : (RX2, 77, yX3_startOf) ∈ zNM := by decide +kernel
theorem L_X2_81 : (RX2, 81, yX3_endOf) ∈ zNM := by decide +kernel
theorem L_X3_34 : Cond.methodLink RX3 34 yJ9_min_7cf53 ∈ zG := zmem 964 (by decide +kernel) (by decide +kernel)
theorem L_X2_63 : Cond.methodLink RX2 63 yX2_pushAll ∈ zG := zmem 965 (by decide +kernel) (by decide +kernel)
theorem L_X2_87 : Cond.methodLink RX2 87 yX2_step ∈ zG := zmem 970 (by decide +kernel) (by decide +kernel)
theorem L_X2_91 : Cond.methodLink RX2 91 yX2_pushNumber ∈ zG := zmem 974 (by decide +kernel) (by decide +kernel)
theorem L_X2_95 : Cond.methodLink RX2 95 yX2_pushUnknown ∈ zG := zmem 978 (by decide +kernel) (by decide +kernel)
theorem L_X2_112 : (RX2, 112, yX10_trueBits) ∈ zNM := by decide +kernel
theorem L_X2_98 : Cond.methodLink RX2 98 yX2_turn ∈ zG := zmem 983 (by decide +kernel) (by decide +kernel)
theorem L_X2_101 : Cond.methodLink RX2 101 yX2_join ∈ zG := zmem 987 (by decide +kernel) (by decide +kernel)
theorem L_X2_104 : Cond.methodLink RX2 104 yX2_popNumber ∈ zG := zmem 991 (by decide +kernel) (by decide +kernel)
theorem L_X2_108 : Cond.methodLink RX2 108 yX2_reckon ∈ zG := zmem 995 (by decide +kernel) (by decide +kernel)
theorem L_L_155 : Cond.methodLink RL 155 yL_know ∈ zG := zmem 999 (by decide +kernel) (by decide +kernel)
theorem L_L_18 : Cond.methodLink RL 18 yX10_know ∈ zG := zmem 1003 (by decide +kernel) (by decide +kernel)
theorem L_X10_131 : Cond.methodLink RX10 131 yX10_testUnknown ∈ zG := zmem 1007 (by decide +kernel) (by decide +kernel)
theorem L_X10_134 : Cond.methodLink RX10 134 yX10_testRange ∈ zG := zmem 1026 (by decide +kernel) (by decide +kernel)
theorem L_L_159 : Cond.methodLink RL 159 yL_weigh ∈ zG := zmem 1030 (by decide +kernel) (by decide +kernel)
theorem L_L_24 : Cond.methodLink RL 24 yX10_weigh ∈ zG := zmem 1033 (by decide +kernel) (by decide +kernel)
theorem L_L_175 : Cond.methodLink RL 175 yL_person ∈ zG := zmem 1037 (by decide +kernel) (by decide +kernel)
theorem L_L_27 : Cond.methodLink RL 27 yX10_person ∈ zG := zmem 1040 (by decide +kernel) (by decide +kernel)
theorem L_X10_187 : Cond.methodLink RX10 187 yX5_begin ∈ zG := zmem 1044 (by decide +kernel) (by decide +kernel)
theorem L_L_178 : Cond.methodLink RL 178 yL_passes ∈ zG := zmem 1048 (by decide +kernel) (by decide +kernel)
theorem L_L_30 : Cond.methodLink RL 30 yX10_passes ∈ zG := zmem 1052 (by decide +kernel) (by decide +kernel)
theorem L_X10_193 : Cond.methodLink RX10 193 yX10_personOf ∈ zG := zmem 1056 (by decide +kernel) (by decide +kernel)
theorem L_L_182 : Cond.methodLink RL 182 yL_ground ∈ zG := zmem 1076 (by decide +kernel) (by decide +kernel)
theorem L_L_36 : Cond.methodLink RL 36 yX10_ground ∈ zG := zmem 1079 (by decide +kernel) (by decide +kernel)
theorem L_L_186 : Cond.methodLink RL 186 yL_days ∈ zG := zmem 1083 (by decide +kernel) (by decide +kernel)
theorem L_L_40 : Cond.methodLink RL 40 yX10_days ∈ zG := zmem 1087 (by decide +kernel) (by decide +kernel)
theorem L_L_189 : Cond.methodLink RL 189 yL_find ∈ zG := zmem 1107 (by decide +kernel) (by decide +kernel)
theorem L_L_45 : Cond.methodLink RL 45 yX10_find ∈ zG := zmem 1110 (by decide +kernel) (by decide +kernel)
theorem L_X10_226 : Cond.methodLink RX10 226 yX1_begin ∈ zG := zmem 1114 (by decide +kernel) (by decide +kernel)
theorem L_L_193 : Cond.methodLink RL 193 yL_name ∈ zG := zmem 1115 (by decide +kernel) (by decide +kernel)
theorem L_L_49 : Cond.methodLink RL 49 yX10_name ∈ zG := zmem 1118 (by decide +kernel) (by decide +kernel)
theorem L_X10_237 : Cond.methodLink RX10 237 yX10_findOf ∈ zG := zmem 1122 (by decide +kernel) (by decide +kernel)
theorem L_X10_241 : Cond.methodLink RX10 241 yX8_nameOf ∈ zG := zmem 1127 (by decide +kernel) (by decide +kernel)
theorem L_X8_126 : Cond.methodLink RX8 126 yJ6_bitCount_0f7a4 ∈ zG := zmem 1131 (by decide +kernel) (by decide +kernel)
theorem L_X8_132 : Cond.methodLink RX8 132 yX8_rareness ∈ zG := zmem 1137 (by decide +kernel) (by decide +kernel)
theorem L_X8_147 : Cond.methodLink RX8 147 yX8_havers ∈ zG := zmem 1141 (by decide +kernel) (by decide +kernel)
theorem L_X8_150 : Cond.methodLink RX8 150 yJ9_min_7cf53 ∈ zG := zmem 1145 (by decide +kernel) (by decide +kernel)
theorem L_X8_135 : Cond.methodLink RX8 135 yX8_ownHundredths ∈ zG := zmem 1146 (by decide +kernel) (by decide +kernel)
theorem L_X8_144 : Cond.methodLink RX8 144 yX8_claimsOf ∈ zG := zmem 1150 (by decide +kernel) (by decide +kernel)
theorem L_L_196 : Cond.methodLink RL 196 yL_hold ∈ zG := zmem 1154 (by decide +kernel) (by decide +kernel)
theorem L_L_52 : Cond.methodLink RL 52 yX10_hold ∈ zG := zmem 1157 (by decide +kernel) (by decide +kernel)
theorem L_X10_245 : Cond.methodLink RX10 245 yX1_addHold ∈ zG := zmem 1161 (by decide +kernel) (by decide +kernel)
theorem L_L_200 : Cond.methodLink RL 200 yL_finders ∈ zG := zmem 1165 (by decide +kernel) (by decide +kernel)
theorem L_L_56 : Cond.methodLink RL 56 yX10_finders ∈ zG := zmem 1168 (by decide +kernel) (by decide +kernel)
theorem L_X10_249 : Cond.methodLink RX10 249 yX1_finderBits ∈ zG := zmem 1172 (by decide +kernel) (by decide +kernel)
theorem L_L_203 : Cond.methodLink RL 203 yL_whose ∈ zG := zmem 1176 (by decide +kernel) (by decide +kernel)
theorem L_L_59 : Cond.methodLink RL 59 yX10_whose ∈ zG := zmem 1179 (by decide +kernel) (by decide +kernel)
theorem L_X10_253 : Cond.methodLink RX10 253 yX10_lawOf ∈ zG := zmem 1183 (by decide +kernel) (by decide +kernel)
theorem L_X10_257 : Cond.methodLink RX10 257 yX10_fillNames ∈ zG := zmem 1188 (by decide +kernel) (by decide +kernel)
theorem L_X10_261 : Cond.methodLink RX10 261 yX2_decide ∈ zG := zmem 1192 (by decide +kernel) (by decide +kernel)
theorem L_X2_26 : Cond.methodLink RX2 26 yX9_clear ∈ zG := zmem 1196 (by decide +kernel) (by decide +kernel)
theorem L_X2_40 : Cond.methodLink RX2 40 yX2_give ∈ zG := zmem 1200 (by decide +kernel) (by decide +kernel)
theorem L_X2_53 : Cond.methodLink RX2 53 yJ9_max_7cf53 ∈ zG := zmem 1204 (by decide +kernel) (by decide +kernel)
theorem L_X2_59 : Cond.methodLink RX2 59 yX2_anyUndecided ∈ zG := zmem 1205 (by decide +kernel) (by decide +kernel)
theorem L_X10_268 : Cond.methodLink RX10 268 yX9_whoIn ∈ zG := zmem 1209 (by decide +kernel) (by decide +kernel)
theorem L_X9_22 : (RX9, 22, yX10_hasWorld) ∈ zNM := by decide +kernel
theorem L_L_206 : Cond.methodLink RL 206 yL_sure ∈ zG := zmem 1214 (by decide +kernel) (by decide +kernel)
theorem L_L_62 : Cond.methodLink RL 62 yX10_sure ∈ zG := zmem 1217 (by decide +kernel) (by decide +kernel)
theorem L_X10_277 : Cond.methodLink RX10 277 yX10_decideFind ∈ zG := zmem 1221 (by decide +kernel) (by decide +kernel)
theorem L_X10_280 : Cond.methodLink RX10 280 yX9_whoBits ∈ zG := zmem 1225 (by decide +kernel) (by decide +kernel)
theorem L_L_209 : Cond.methodLink RL 209 yL_may ∈ zG := zmem 1229 (by decide +kernel) (by decide +kernel)
theorem L_L_65 : Cond.methodLink RL 65 yX10_may ∈ zG := zmem 1232 (by decide +kernel) (by decide +kernel)
theorem L_L_212 : Cond.methodLink RL 212 yL_part ∈ zG := zmem 1236 (by decide +kernel) (by decide +kernel)
theorem L_L_68 : Cond.methodLink RL 68 yX10_part ∈ zG := zmem 1239 (by decide +kernel) (by decide +kernel)
theorem L_L_215 : Cond.methodLink RL 215 yL_hangs ∈ zG := zmem 1243 (by decide +kernel) (by decide +kernel)
theorem L_L_72 : Cond.methodLink RL 72 yX10_hangs ∈ zG := zmem 1246 (by decide +kernel) (by decide +kernel)
theorem L_X10_286 : Cond.methodLink RX10 286 yX10_pose ∈ zG := zmem 1250 (by decide +kernel) (by decide +kernel)
theorem L_X10_301 : Cond.methodLink RX10 301 yX7_pose ∈ zG := zmem 1254 (by decide +kernel) (by decide +kernel)
theorem L_X7_38 : Cond.methodLink RX7 38 yX9_whoIn ∈ zG := zmem 1258 (by decide +kernel) (by decide +kernel)
theorem L_X7_48 : Cond.methodLink RX7 48 yX7_seekTelling ∈ zG := zmem 1259 (by decide +kernel) (by decide +kernel)
theorem L_X7_54 : Cond.methodLink RX7 54 yX7_differs ∈ zG := zmem 1263 (by decide +kernel) (by decide +kernel)
theorem L_X10_289 : Cond.methodLink RX10 289 yX7_hanging ∈ zG := zmem 1267 (by decide +kernel) (by decide +kernel)
theorem L_L_218 : Cond.methodLink RL 218 yL_settles ∈ zG := zmem 1271 (by decide +kernel) (by decide +kernel)
theorem L_L_75 : Cond.methodLink RL 75 yX10_settles ∈ zG := zmem 1274 (by decide +kernel) (by decide +kernel)
theorem L_X10_292 : Cond.methodLink RX10 292 yX7_leastSettling ∈ zG := zmem 1278 (by decide +kernel) (by decide +kernel)
theorem L_X7_58 : Cond.methodLink RX7 58 yX7_hanging ∈ zG := zmem 1282 (by decide +kernel) (by decide +kernel)
theorem L_X7_62 : Cond.methodLink RX7 62 yJ6_bitCount_0f7a4 ∈ zG := zmem 1283 (by decide +kernel) (by decide +kernel)
theorem L_X7_67 : Cond.methodLink RX7 67 yX7_settling ∈ zG := zmem 1284 (by decide +kernel) (by decide +kernel)
theorem L_L_221 : Cond.methodLink RL 221 yL_questions ∈ zG := zmem 1288 (by decide +kernel) (by decide +kernel)
theorem L_L_78 : Cond.methodLink RL 78 yX10_questions ∈ zG := zmem 1291 (by decide +kernel) (by decide +kernel)
theorem L_X10_295 : Cond.methodLink RX10 295 yX7_fewestQuestions ∈ zG := zmem 1295 (by decide +kernel) (by decide +kernel)
theorem L_X7_74 : Cond.methodLink RX7 74 yX7_fillCubes ∈ zG := zmem 1299 (by decide +kernel) (by decide +kernel)
theorem L_X7_77 : Cond.methodLink RX7 77 yX7_powerOf ∈ zG := zmem 1303 (by decide +kernel) (by decide +kernel)
theorem L_X7_90 : Cond.methodLink RX7 90 yX7_cubeValue ∈ zG := zmem 1306 (by decide +kernel) (by decide +kernel)
theorem L_X7_96 : Cond.methodLink RX7 96 yX7_firstFree ∈ zG := zmem 1310 (by decide +kernel) (by decide +kernel)
theorem L_X7_99 : Cond.methodLink RX7 99 yX7_worldOfDigits ∈ zG := zmem 1314 (by decide +kernel) (by decide +kernel)
theorem L_X7_102 : Cond.methodLink RX7 102 yX7_valueAt ∈ zG := zmem 1318 (by decide +kernel) (by decide +kernel)
theorem L_X7_86 : Cond.methodLink RX7 86 yX7_questionsBy ∈ zG := zmem 1322 (by decide +kernel) (by decide +kernel)
theorem L_X7_80 : Cond.methodLink RX7 80 yX7_questionsIn ∈ zG := zmem 1326 (by decide +kernel) (by decide +kernel)
theorem L_X7_110 : Cond.methodLink RX7 110 yJ9_max_7cf53 ∈ zG := zmem 1330 (by decide +kernel) (by decide +kernel)
theorem L_X7_105 : Cond.methodLink RX7 105 yJ9_min_7cf53 ∈ zG := zmem 1331 (by decide +kernel) (by decide +kernel)
theorem L_X7_93 : Cond.methodLink RX7 93 yX7_countOn ∈ zG := zmem 1332 (by decide +kernel) (by decide +kernel)
theorem L_L_224 : Cond.methodLink RL 224 yL_ask ∈ zG := zmem 1336 (by decide +kernel) (by decide +kernel)
theorem L_L_81 : Cond.methodLink RL 81 yX10_ask ∈ zG := zmem 1339 (by decide +kernel) (by decide +kernel)
theorem L_X10_298 : Cond.methodLink RX10 298 yX7_firstQuestion ∈ zG := zmem 1343 (by decide +kernel) (by decide +kernel)
theorem L_X7_83 : Cond.methodLink RX7 83 yX7_fewestQuestions ∈ zG := zmem 1347 (by decide +kernel) (by decide +kernel)
theorem L_L_227 : Cond.methodLink RL 227 yL_claim ∈ zG := zmem 1348 (by decide +kernel) (by decide +kernel)
theorem L_L_84 : Cond.methodLink RL 84 yX10_claim ∈ zG := zmem 1351 (by decide +kernel) (by decide +kernel)
theorem L_X10_311 : Cond.methodLink RX10 311 yX0_begin ∈ zG := zmem 1355 (by decide +kernel) (by decide +kernel)
theorem L_L_230 : Cond.methodLink RL 230 yL_claimed ∈ zG := zmem 1356 (by decide +kernel) (by decide +kernel)
theorem L_L_87 : Cond.methodLink RL 87 yX10_claimed ∈ zG := zmem 1359 (by decide +kernel) (by decide +kernel)
theorem L_X10_324 : Cond.methodLink RX10 324 yX8_fits ∈ zG := zmem 1364 (by decide +kernel) (by decide +kernel)
theorem L_X10_328 : Cond.methodLink RX10 328 yX8_havers ∈ zG := zmem 1368 (by decide +kernel) (by decide +kernel)
theorem L_L_233 : Cond.methodLink RL 233 yL_best ∈ zG := zmem 1370 (by decide +kernel) (by decide +kernel)
theorem L_L_90 : Cond.methodLink RL 90 yX10_best ∈ zG := zmem 1373 (by decide +kernel) (by decide +kernel)
theorem L_L_236 : Cond.methodLink RL 236 yL_added ∈ zG := zmem 1377 (by decide +kernel) (by decide +kernel)
theorem L_L_93 : Cond.methodLink RL 93 yX10_added ∈ zG := zmem 1380 (by decide +kernel) (by decide +kernel)
theorem L_L_239 : Cond.methodLink RL 239 yL_cry ∈ zG := zmem 1384 (by decide +kernel) (by decide +kernel)
theorem L_L_96 : Cond.methodLink RL 96 yX10_cry ∈ zG := zmem 1387 (by decide +kernel) (by decide +kernel)
theorem L_L_242 : Cond.methodLink RL 242 yL_due ∈ zG := zmem 1391 (by decide +kernel) (by decide +kernel)
theorem L_L_99 : Cond.methodLink RL 99 yX10_due ∈ zG := zmem 1394 (by decide +kernel) (by decide +kernel)
theorem L_X10_339 : Cond.methodLink RX10 339 yX10_dueByVerdict ∈ zG := zmem 1398 (by decide +kernel) (by decide +kernel)
theorem L_X10_342 : Cond.methodLink RX10 342 yJ9_max_7cf53 ∈ zG := zmem 1402 (by decide +kernel) (by decide +kernel)
theorem L_L_245 : Cond.methodLink RL 245 yL_left ∈ zG := zmem 1403 (by decide +kernel) (by decide +kernel)
theorem L_L_102 : Cond.methodLink RL 102 yX10_left ∈ zG := zmem 1406 (by decide +kernel) (by decide +kernel)
theorem L_X10_351 : Cond.methodLink RX10 351 yX1_leftOn ∈ zG := zmem 1410 (by decide +kernel) (by decide +kernel)
theorem L_X1_66 : Cond.methodLink RX1 66 yJ9_max_7cf53 ∈ zG := zmem 1414 (by decide +kernel) (by decide +kernel)
theorem L_L_248 : Cond.methodLink RL 248 yL_gone ∈ zG := zmem 1415 (by decide +kernel) (by decide +kernel)
theorem L_L_105 : Cond.methodLink RL 105 yX10_gone ∈ zG := zmem 1418 (by decide +kernel) (by decide +kernel)
theorem L_L_251 : Cond.methodLink RL 251 yL_late ∈ zG := zmem 1422 (by decide +kernel) (by decide +kernel)
theorem L_L_108 : Cond.methodLink RL 108 yX10_late ∈ zG := zmem 1425 (by decide +kernel) (by decide +kernel)
theorem L_L_254 : Cond.methodLink RL 254 yL_pass ∈ zG := zmem 1429 (by decide +kernel) (by decide +kernel)
theorem L_L_111 : Cond.methodLink RL 111 yX10_pass ∈ zG := zmem 1432 (by decide +kernel) (by decide +kernel)
theorem L_X10_360 : Cond.methodLink RX10 360 yX1_hadBy ∈ zG := zmem 1436 (by decide +kernel) (by decide +kernel)
theorem L_X1_62 : Cond.methodLink RX1 62 yX1_finderBits ∈ zG := zmem 1440 (by decide +kernel) (by decide +kernel)
theorem L_X10_367 : Cond.methodLink RX10 367 yX4_begin ∈ zG := zmem 1441 (by decide +kernel) (by decide +kernel)
theorem L_L_257 : Cond.methodLink RL 257 yL_has ∈ zG := zmem 1442 (by decide +kernel) (by decide +kernel)
theorem L_L_114 : Cond.methodLink RL 114 yX10_has ∈ zG := zmem 1445 (by decide +kernel) (by decide +kernel)
theorem L_L_260 : Cond.methodLink RL 260 yL_away ∈ zG := zmem 1449 (by decide +kernel) (by decide +kernel)
theorem L_L_117 : Cond.methodLink RL 117 yX10_away ∈ zG := zmem 1452 (by decide +kernel) (by decide +kernel)
theorem L_L_264 : Cond.methodLink RL 264 yL_loss ∈ zG := zmem 1456 (by decide +kernel) (by decide +kernel)
theorem L_L_121 : Cond.methodLink RL 121 yX10_loss ∈ zG := zmem 1459 (by decide +kernel) (by decide +kernel)
theorem L_L_267 : Cond.methodLink RL 267 yL_beside ∈ zG := zmem 1463 (by decide +kernel) (by decide +kernel)
theorem L_L_124 : Cond.methodLink RL 124 yX10_beside ∈ zG := zmem 1466 (by decide +kernel) (by decide +kernel)
theorem L_X10_387 : Cond.methodLink RX10 387 yX10_partAt ∈ zG := zmem 1470 (by decide +kernel) (by decide +kernel)
theorem L_X10_391 : Cond.methodLink RX10 391 yX9_partsFrom ∈ zG := zmem 1474 (by decide +kernel) (by decide +kernel)
theorem L_L_270 : Cond.methodLink RL 270 yL_least ∈ zG := zmem 1478 (by decide +kernel) (by decide +kernel)
theorem L_L_127 : Cond.methodLink RL 127 yX10_least ∈ zG := zmem 1481 (by decide +kernel) (by decide +kernel)
theorem L_L_144 : Cond.methodLink RL 144 yX11_thrown ∈ zG := zmem 1485 (by decide +kernel) (by decide +kernel)
theorem L_L_133 : Cond.methodLink RL 133 yX11_init ∈ zG := zmem 1491 (by decide +kernel) (by decide +kernel)
theorem L_X11_7 : Cond.methodLink RX11 7 objectInit ∈ zG := zmem 1494 (by decide +kernel) (by decide +kernel)
theorem L_L_137 : Cond.methodLink RL 137 yX11_feed ∈ zG := zmem 1603 (by decide +kernel) (by decide +kernel)
theorem L_L_143 : Cond.methodLink RL 143 yX11_law ∈ zG := zmem 1607 (by decide +kernel) (by decide +kernel)
theorem L_X11_187 : Cond.methodLink RX11 187 yX11_may ∈ zG := zmem 1611 (by decide +kernel) (by decide +kernel)
theorem L_X11_191 : Cond.methodLink RX11 191 yX11_beginsReading ∈ zG := zmem 1615 (by decide +kernel) (by decide +kernel)
theorem L_X11_117 : Cond.methodLink RX11 117 yX11_fine ∈ zG := zmem 1619 (by decide +kernel) (by decide +kernel)
theorem L_X11_194 : Cond.methodLink RX11 194 yX11_isMore ∈ zG := zmem 1623 (by decide +kernel) (by decide +kernel)
theorem L_X11_97 : Cond.methodLink RX11 97 yX11_here ∈ zG := zmem 1627 (by decide +kernel) (by decide +kernel)
theorem L_X11_197 : Cond.methodLink RX11 197 yX11_readRule ∈ zG := zmem 1631 (by decide +kernel) (by decide +kernel)
theorem L_X11_156 : Cond.methodLink RX11 156 yX11_word ∈ zG := zmem 1635 (by decide +kernel) (by decide +kernel)
theorem L_X11_101 : Cond.methodLink RX11 101 yX11_isSmall ∈ zG := zmem 1639 (by decide +kernel) (by decide +kernel)
theorem L_X11_181 : Cond.methodLink RX11 181 yX11_whoOf ∈ zG := zmem 1642 (by decide +kernel) (by decide +kernel)
theorem L_X11_124 : Cond.methodLink RX11 124 yX11_wrong ∈ zG := zmem 1650 (by decide +kernel) (by decide +kernel)
theorem L_X11_163 : Cond.methodLink RX11 163 yX11_pass ∈ zG := zmem 1654 (by decide +kernel) (by decide +kernel)
theorem L_X11_141 : Cond.methodLink RX11 141 yX11_readNumber ∈ zG := zmem 1658 (by decide +kernel) (by decide +kernel)
theorem L_X11_121 : Cond.methodLink RX11 121 yX11_isDigit ∈ zG := zmem 1662 (by decide +kernel) (by decide +kernel)
theorem L_X11_175 : Cond.methodLink RX11 175 yX11_anyOf ∈ zG := zmem 1665 (by decide +kernel) (by decide +kernel)
theorem L_X11_169 : Cond.methodLink RX11 169 yX11_allOf ∈ zG := zmem 1669 (by decide +kernel) (by decide +kernel)
theorem L_X11_172 : Cond.methodLink RX11 172 yX11_one ∈ zG := zmem 1673 (by decide +kernel) (by decide +kernel)
theorem L_X11_147 : Cond.methodLink RX11 147 yX11_opensOne ∈ zG := zmem 1677 (by decide +kernel) (by decide +kernel)
theorem L_X11_153 : Cond.methodLink RX11 153 yX11_closesOne ∈ zG := zmem 1681 (by decide +kernel) (by decide +kernel)
theorem L_X11_137 : Cond.methodLink RX11 137 yX11_need ∈ zG := zmem 1685 (by decide +kernel) (by decide +kernel)
theorem L_X11_144 : Cond.methodLink RX11 144 yX11_emit ∈ zG := zmem 1689 (by decide +kernel) (by decide +kernel)
theorem L_X11_178 : Cond.methodLink RX11 178 yX11_atPlace ∈ zG := zmem 1693 (by decide +kernel) (by decide +kernel)
theorem L_X11_150 : Cond.methodLink RX11 150 yX11_sum ∈ zG := zmem 1697 (by decide +kernel) (by decide +kernel)
theorem L_X11_166 : Cond.methodLink RX11 166 yX11_term ∈ zG := zmem 1701 (by decide +kernel) (by decide +kernel)
theorem L_X11_159 : Cond.methodLink RX11 159 yX11_nameOf ∈ zG := zmem 1705 (by decide +kernel) (by decide +kernel)
theorem L_L_150 : Cond.methodLink RL 150 yX11_holds ∈ zG := zmem 1715 (by decide +kernel) (by decide +kernel)
theorem L_L_154 : Cond.methodLink RL 154 yX11_fault ∈ zG := zmem 1719 (by decide +kernel) (by decide +kernel)
theorem L_L_158 : Cond.methodLink RL 158 yX11_know ∈ zG := zmem 1723 (by decide +kernel) (by decide +kernel)
theorem L_X11_210 : Cond.methodLink RX11 210 yX11_isUnknown ∈ zG := zmem 1727 (by decide +kernel) (by decide +kernel)
theorem L_X11_207 : Cond.methodLink RX11 207 yX11_within ∈ zG := zmem 1731 (by decide +kernel) (by decide +kernel)
theorem L_L_161 : Cond.methodLink RL 161 yX11_weigh ∈ zG := zmem 1734 (by decide +kernel) (by decide +kernel)
theorem L_L_165 : Cond.methodLink RL 165 yX11_worlds ∈ zG := zmem 1738 (by decide +kernel) (by decide +kernel)
theorem L_X11_213 : Cond.methodLink RX11 213 yX11_findWorlds ∈ zG := zmem 1742 (by decide +kernel) (by decide +kernel)
theorem L_X11_203 : Cond.methodLink RX11 203 yX11_isSo ∈ zG := zmem 1746 (by decide +kernel) (by decide +kernel)
theorem L_L_169 : Cond.methodLink RL 169 yX11_world ∈ zG := zmem 1750 (by decide +kernel) (by decide +kernel)
theorem L_L_174 : Cond.methodLink RL 174 yX11_all ∈ zG := zmem 1754 (by decide +kernel) (by decide +kernel)
theorem L_X11_216 : Cond.methodLink RX11 216 yX11_weightOf ∈ zG := zmem 1758 (by decide +kernel) (by decide +kernel)
theorem L_L_177 : Cond.methodLink RL 177 yX11_person ∈ zG := zmem 1762 (by decide +kernel) (by decide +kernel)
theorem L_X11_220 : Cond.methodLink RX11 220 yX11_isMarks ∈ zG := zmem 1766 (by decide +kernel) (by decide +kernel)
theorem L_L_181 : Cond.methodLink RL 181 yX11_passes ∈ zG := zmem 1769 (by decide +kernel) (by decide +kernel)
theorem L_X11_223 : Cond.methodLink RX11 223 yX11_isPerson ∈ zG := zmem 1773 (by decide +kernel) (by decide +kernel)
theorem L_X11_227 : Cond.methodLink RX11 227 yX11_isPlace ∈ zG := zmem 1777 (by decide +kernel) (by decide +kernel)
theorem L_L_185 : Cond.methodLink RL 185 yX11_ground ∈ zG := zmem 1780 (by decide +kernel) (by decide +kernel)
theorem L_L_188 : Cond.methodLink RL 188 yX11_days ∈ zG := zmem 1784 (by decide +kernel) (by decide +kernel)
theorem L_L_192 : Cond.methodLink RL 192 yX11_find ∈ zG := zmem 1788 (by decide +kernel) (by decide +kernel)
theorem L_L_195 : Cond.methodLink RL 195 yX11_name ∈ zG := zmem 1792 (by decide +kernel) (by decide +kernel)
theorem L_X11_245 : Cond.methodLink RX11 245 yX11_isFind ∈ zG := zmem 1796 (by decide +kernel) (by decide +kernel)
theorem L_X11_248 : Cond.methodLink RX11 248 yX11_nameFind ∈ zG := zmem 1800 (by decide +kernel) (by decide +kernel)
theorem L_X11_230 : Cond.methodLink RX11 230 yX11_find_ ∈ zG := zmem 1804 (by decide +kernel) (by decide +kernel)
theorem L_X11_233 : Cond.methodLink RX11 233 yX11_bitsOf ∈ zG := zmem 1807 (by decide +kernel) (by decide +kernel)
theorem L_X11_236 : Cond.methodLink RX11 236 yX11_isFirstMark ∈ zG := zmem 1810 (by decide +kernel) (by decide +kernel)
theorem L_X11_239 : Cond.methodLink RX11 239 yX11_have ∈ zG := zmem 1813 (by decide +kernel) (by decide +kernel)
theorem L_X11_242 : Cond.methodLink RX11 242 yX11_ownOf ∈ zG := zmem 1817 (by decide +kernel) (by decide +kernel)
theorem L_L_199 : Cond.methodLink RL 199 yX11_hold ∈ zG := zmem 1821 (by decide +kernel) (by decide +kernel)
theorem L_L_202 : Cond.methodLink RL 202 yX11_finders ∈ zG := zmem 1825 (by decide +kernel) (by decide +kernel)
theorem L_X11_251 : Cond.methodLink RX11 251 yX11_findersOf ∈ zG := zmem 1829 (by decide +kernel) (by decide +kernel)
theorem L_L_205 : Cond.methodLink RL 205 yX11_whose ∈ zG := zmem 1833 (by decide +kernel) (by decide +kernel)
theorem L_X11_258 : Cond.methodLink RX11 258 yX11_isLaw ∈ zG := zmem 1837 (by decide +kernel) (by decide +kernel)
theorem L_X11_254 : Cond.methodLink RX11 254 yX11_ruleOf ∈ zG := zmem 1841 (by decide +kernel) (by decide +kernel)
theorem L_X11_261 : Cond.methodLink RX11 261 yX11_whoIn ∈ zG := zmem 1845 (by decide +kernel) (by decide +kernel)
theorem L_L_208 : Cond.methodLink RL 208 yX11_sure ∈ zG := zmem 1849 (by decide +kernel) (by decide +kernel)
theorem L_X11_267 : Cond.methodLink RX11 267 yX11_asks ∈ zG := zmem 1853 (by decide +kernel) (by decide +kernel)
theorem L_X11_270 : Cond.methodLink RX11 270 yX11_findWho ∈ zG := zmem 1857 (by decide +kernel) (by decide +kernel)
theorem L_X11_273 : Cond.methodLink RX11 273 yX11_mayBits ∈ zG := zmem 1861 (by decide +kernel) (by decide +kernel)
theorem L_X11_276 : Cond.methodLink RX11 276 yX11_lowest ∈ zG := zmem 1865 (by decide +kernel) (by decide +kernel)
theorem L_L_211 : Cond.methodLink RL 211 yX11_may_ ∈ zG := zmem 1868 (by decide +kernel) (by decide +kernel)
theorem L_L_214 : Cond.methodLink RL 214 yX11_part ∈ zG := zmem 1872 (by decide +kernel) (by decide +kernel)
theorem L_L_217 : Cond.methodLink RL 217 yX11_hangs ∈ zG := zmem 1876 (by decide +kernel) (by decide +kernel)
theorem L_L_220 : Cond.methodLink RL 220 yX11_settles ∈ zG := zmem 1880 (by decide +kernel) (by decide +kernel)
theorem L_X11_279 : Cond.methodLink RX11 279 yX11_openBits ∈ zG := zmem 1884 (by decide +kernel) (by decide +kernel)
theorem L_X11_282 : Cond.methodLink RX11 282 yX11_isSettling ∈ zG := zmem 1888 (by decide +kernel) (by decide +kernel)
theorem L_L_223 : Cond.methodLink RL 223 yX11_questions ∈ zG := zmem 1892 (by decide +kernel) (by decide +kernel)
theorem L_X11_291 : Cond.methodLink RX11 291 yX11_findCubes ∈ zG := zmem 1896 (by decide +kernel) (by decide +kernel)
theorem L_X11_285 : Cond.methodLink RX11 285 yX11_leastAsks ∈ zG := zmem 1900 (by decide +kernel) (by decide +kernel)
theorem L_X11_288 : Cond.methodLink RX11 288 yX11_worseOf ∈ zG := zmem 1904 (by decide +kernel) (by decide +kernel)
theorem L_X11_294 : Cond.methodLink RX11 294 yX11_startCube ∈ zG := zmem 1908 (by decide +kernel) (by decide +kernel)
theorem L_L_226 : Cond.methodLink RL 226 yX11_ask ∈ zG := zmem 1912 (by decide +kernel) (by decide +kernel)
theorem L_L_229 : Cond.methodLink RL 229 yX11_claim ∈ zG := zmem 1916 (by decide +kernel) (by decide +kernel)
theorem L_L_232 : Cond.methodLink RL 232 yX11_claimed ∈ zG := zmem 1920 (by decide +kernel) (by decide +kernel)
theorem L_X11_297 : Cond.methodLink RX11 297 yX11_fits ∈ zG := zmem 1924 (by decide +kernel) (by decide +kernel)
theorem L_L_235 : Cond.methodLink RL 235 yX11_best ∈ zG := zmem 1928 (by decide +kernel) (by decide +kernel)
theorem L_L_238 : Cond.methodLink RL 238 yX11_added ∈ zG := zmem 1932 (by decide +kernel) (by decide +kernel)
theorem L_L_241 : Cond.methodLink RL 241 yX11_cry ∈ zG := zmem 1936 (by decide +kernel) (by decide +kernel)
theorem L_L_244 : Cond.methodLink RL 244 yX11_due ∈ zG := zmem 1940 (by decide +kernel) (by decide +kernel)
theorem L_X11_300 : Cond.methodLink RX11 300 yX11_dueNow ∈ zG := zmem 1944 (by decide +kernel) (by decide +kernel)
theorem L_L_247 : Cond.methodLink RL 247 yX11_left ∈ zG := zmem 1948 (by decide +kernel) (by decide +kernel)
theorem L_X11_303 : Cond.methodLink RX11 303 yX11_leftOn ∈ zG := zmem 1952 (by decide +kernel) (by decide +kernel)
theorem L_L_250 : Cond.methodLink RL 250 yX11_gone ∈ zG := zmem 1956 (by decide +kernel) (by decide +kernel)
theorem L_L_253 : Cond.methodLink RL 253 yX11_late ∈ zG := zmem 1960 (by decide +kernel) (by decide +kernel)
theorem L_L_256 : Cond.methodLink RL 256 yX11_pass_ ∈ zG := zmem 1964 (by decide +kernel) (by decide +kernel)
theorem L_X11_306 : Cond.methodLink RX11 306 yX11_hasNow ∈ zG := zmem 1968 (by decide +kernel) (by decide +kernel)
theorem L_L_259 : Cond.methodLink RL 259 yX11_has ∈ zG := zmem 1972 (by decide +kernel) (by decide +kernel)
theorem L_L_263 : Cond.methodLink RL 263 yX11_away ∈ zG := zmem 1976 (by decide +kernel) (by decide +kernel)
theorem L_L_266 : Cond.methodLink RL 266 yX11_loss ∈ zG := zmem 1980 (by decide +kernel) (by decide +kernel)
theorem L_L_269 : Cond.methodLink RL 269 yX11_beside ∈ zG := zmem 1984 (by decide +kernel) (by decide +kernel)
theorem L_X11_309 : Cond.methodLink RX11 309 yX11_findViews ∈ zG := zmem 1988 (by decide +kernel) (by decide +kernel)
theorem L_X11_312 : Cond.methodLink RX11 312 yX11_parts ∈ zG := zmem 1992 (by decide +kernel) (by decide +kernel)
theorem L_L_272 : Cond.methodLink RL 272 yX11_least ∈ zG := zmem 1996 (by decide +kernel) (by decide +kernel)
theorem L_L_276 : Cond.methodLink RL 276 yX11_image ∈ zG := zmem 2000 (by decide +kernel) (by decide +kernel)
theorem L_L_280 : Cond.methodLink RL 280 yX11_restore ∈ zG := zmem 2004 (by decide +kernel) (by decide +kernel)
theorem L_L_284 : Cond.methodLink RL 284 yX11_count ∈ zG := zmem 2008 (by decide +kernel) (by decide +kernel)
theorem G_max : Cond.static Lib.Math.max.name ∈ zG ∧ Cond.initialized "java/lang/Math" ∈ zG ∧ Cond.code Lib.Math.max.name Lib.Math.max.code 2 (some .int) ∈ zG := by decide +kernel
theorem G_min : Cond.static Lib.Math.min.name ∈ zG ∧ Cond.initialized "java/lang/Math" ∈ zG ∧ Cond.code Lib.Math.min.name Lib.Math.min.code 2 (some .int) ∈ zG := by decide +kernel
theorem G_copy : Cond.native arraycopyName ∈ zG ∧ Cond.static arraycopyName ∈ zG ∧ Cond.initialized "java/lang/System" ∈ zG := by decide +kernel
theorem G_obj : Cond.instanceMethod objectInit ∈ zG ∧ Cond.code objectInit ⟨#[0xb1]⟩ 1 none ∈ zG := by decide +kernel
theorem J_L : Cond.initialized RL ∈ zG := zmem 112 (by decide +kernel) (by decide +kernel)
theorem J_X10 : Cond.initialized RX10 ∈ zG := zmem 113 (by decide +kernel) (by decide +kernel)
theorem J_X6 : Cond.initialized RX6 ∈ zG := zmem 114 (by decide +kernel) (by decide +kernel)
theorem J_X3 : Cond.initialized RX3 ∈ zG := zmem 115 (by decide +kernel) (by decide +kernel)
theorem J_X8 : Cond.initialized RX8 ∈ zG := zmem 116 (by decide +kernel) (by decide +kernel)
theorem J_X5 : Cond.initialized RX5 ∈ zG := zmem 117 (by decide +kernel) (by decide +kernel)
theorem J_X1 : Cond.initialized RX1 ∈ zG := zmem 118 (by decide +kernel) (by decide +kernel)
theorem J_X0 : Cond.initialized RX0 ∈ zG := zmem 119 (by decide +kernel) (by decide +kernel)
theorem J_X4 : Cond.initialized RX4 ∈ zG := zmem 120 (by decide +kernel) (by decide +kernel)
theorem J_X2 : Cond.initialized RX2 ∈ zG := zmem 121 (by decide +kernel) (by decide +kernel)
theorem J_X9 : Cond.initialized RX9 ∈ zG := zmem 122 (by decide +kernel) (by decide +kernel)
theorem J_X7 : Cond.initialized RX7 ∈ zG := zmem 123 (by decide +kernel) (by decide +kernel)
theorem J_X11 : Cond.initialized RX11 ∈ zG := zmem 124 (by decide +kernel) (by decide +kernel)
theorem J_J9 : Cond.initialized RJ9 ∈ zG := zmem 129 (by decide +kernel) (by decide +kernel)
theorem J_J0 : Cond.initialized RJ0 ∈ zG := zmem 130 (by decide +kernel) (by decide +kernel)
theorem J_J1 : Cond.initialized RJ1 ∈ zG := zmem 131 (by decide +kernel) (by decide +kernel)
theorem J_J3 : Cond.initialized RJ3 ∈ zG := zmem 132 (by decide +kernel) (by decide +kernel)
theorem J_J2 : Cond.initialized RJ2 ∈ zG := zmem 133 (by decide +kernel) (by decide +kernel)
theorem J_J13 : Cond.initialized RJ13 ∈ zG := zmem 135 (by decide +kernel) (by decide +kernel)
theorem J_J6 : Cond.initialized RJ6 ∈ zG := zmem 138 (by decide +kernel) (by decide +kernel)
theorem J_J10 : Cond.initialized RJ10 ∈ zG := zmem 139 (by decide +kernel) (by decide +kernel)
theorem C_L_8 : Cond.classLink RL 8 "FoundThings" ∈ zG := zmem 140 (by decide +kernel) (by decide +kernel)
theorem N_X10 : Cond.instantiable RX10 14 ∈ zG := zmem 141 (by decide +kernel) (by decide +kernel)
theorem C_X10_9 : Cond.classLink RX10 9 "FoundThings$Reader" ∈ zG := zmem 148 (by decide +kernel) (by decide +kernel)
theorem N_X6 : Cond.instantiable RX6 15 ∈ zG := zmem 149 (by decide +kernel) (by decide +kernel)
theorem C_X6_29 : Cond.classLink RX6 29 "FoundThings$Law" ∈ zG := zmem 154 (by decide +kernel) (by decide +kernel)
theorem N_X3 : Cond.instantiable RX3 7 ∈ zG := zmem 155 (by decide +kernel) (by decide +kernel)
theorem A_byte : Cond.arrayClass .byte ∈ zG := zmem 188 (by decide +kernel) (by decide +kernel)
theorem A_int : Cond.arrayClass .int ∈ zG := zmem 189 (by decide +kernel) (by decide +kernel)
theorem C_X10_16 : Cond.classLink RX10 16 "FoundThings$Law" ∈ zG := zmem 240 (by decide +kernel) (by decide +kernel)
theorem C_X10_22 : Cond.classLink RX10 22 "FoundThings$Told" ∈ zG := zmem 242 (by decide +kernel) (by decide +kernel)
theorem N_X8 : Cond.instantiable RX8 15 ∈ zG := zmem 243 (by decide +kernel) (by decide +kernel)
theorem C_X8_28 : Cond.classLink RX8 28 "FoundThings$Person" ∈ zG := zmem 248 (by decide +kernel) (by decide +kernel)
theorem C_X8_34 : Cond.classLink RX8 34 "FoundThings$Find" ∈ zG := zmem 250 (by decide +kernel) (by decide +kernel)
theorem C_X8_40 : Cond.classLink RX8 40 "FoundThings$Claim" ∈ zG := zmem 252 (by decide +kernel) (by decide +kernel)
theorem C_X8_46 : Cond.classLink RX8 46 "FoundThings$Passing" ∈ zG := zmem 254 (by decide +kernel) (by decide +kernel)
theorem lC_X8_52 : Cond.constantLong RX8 52 (-1) ∈ zG := zmem 256 (by decide +kernel) (by decide +kernel)
theorem N_X5 : Cond.instantiable RX5 4 ∈ zG := zmem 257 (by decide +kernel) (by decide +kernel)
theorem A_long : Cond.arrayClass .long ∈ zG := zmem 280 (by decide +kernel) (by decide +kernel)
theorem N_X1 : Cond.instantiable RX1 13 ∈ zG := zmem 281 (by decide +kernel) (by decide +kernel)
theorem N_X0 : Cond.instantiable RX0 3 ∈ zG := zmem 339 (by decide +kernel) (by decide +kernel)
theorem N_X4 : Cond.instantiable RX4 4 ∈ zG := zmem 360 (by decide +kernel) (by decide +kernel)
theorem C_X10_33 : Cond.classLink RX10 33 "FoundThings$Judge" ∈ zG := zmem 448 (by decide +kernel) (by decide +kernel)
theorem N_X2 : Cond.instantiable RX2 5 ∈ zG := zmem 449 (by decide +kernel) (by decide +kernel)
theorem C_X10_40 : Cond.classLink RX10 40 "FoundThings$Verdict" ∈ zG := zmem 470 (by decide +kernel) (by decide +kernel)
theorem N_X9 : Cond.instantiable RX9 3 ∈ zG := zmem 471 (by decide +kernel) (by decide +kernel)
theorem C_X10_50 : Cond.classLink RX10 50 "FoundThings$Riddle" ∈ zG := zmem 492 (by decide +kernel) (by decide +kernel)
theorem N_X7 : Cond.instantiable RX7 11 ∈ zG := zmem 493 (by decide +kernel) (by decide +kernel)
theorem C_X10_68 : Cond.classLink RX10 68 "FoundThings$Find" ∈ zG := zmem 532 (by decide +kernel) (by decide +kernel)
theorem lC_X10_172 : Cond.constantLong RX10 172 (-1) ∈ zG := zmem 603 (by decide +kernel) (by decide +kernel)
theorem lC_J13_314 : Cond.constantLong RJ13 314 (6148914691236517205) ∈ zG := zmem 607 (by decide +kernel) (by decide +kernel)
theorem lC_J13_316 : Cond.constantLong RJ13 316 (3689348814741910323) ∈ zG := zmem 608 (by decide +kernel) (by decide +kernel)
theorem lC_J13_318 : Cond.constantLong RJ13 318 (1085102592571150095) ∈ zG := zmem 609 (by decide +kernel) (by decide +kernel)
theorem C_L_13 : Cond.classLink RL 13 "java/lang/IllegalArgumentException" ∈ zG := zmem 677 (by decide +kernel) (by decide +kernel)
theorem C_X10_118 : Cond.classLink RX10 118 "java/lang/IllegalArgumentException" ∈ zG := zmem 686 (by decide +kernel) (by decide +kernel)
theorem lC_X2_69 : Cond.constantLong RX2 69 (-1) ∈ zG := zmem 969 (by decide +kernel) (by decide +kernel)
theorem C_L_22 : Cond.classLink RL 22 "java/lang/IndexOutOfBoundsException" ∈ zG := zmem 1002 (by decide +kernel) (by decide +kernel)
theorem C_X10_144 : Cond.classLink RX10 144 "java/lang/IndexOutOfBoundsException" ∈ zG := zmem 1010 (by decide +kernel) (by decide +kernel)
theorem C_L_34 : Cond.classLink RL 34 "java/util/NoSuchElementException" ∈ zG := zmem 1051 (by decide +kernel) (by decide +kernel)
theorem C_X10_206 : Cond.classLink RX10 206 "java/util/NoSuchElementException" ∈ zG := zmem 1060 (by decide +kernel) (by decide +kernel)
theorem C_L_43 : Cond.classLink RL 43 "java/lang/IllegalStateException" ∈ zG := zmem 1086 (by decide +kernel) (by decide +kernel)
theorem C_X10_214 : Cond.classLink RX10 214 "java/lang/IllegalStateException" ∈ zG := zmem 1091 (by decide +kernel) (by decide +kernel)
theorem cC_J6_265 : Cond.constant RJ6 265 (1431655765) ∈ zG := zmem 1134 (by decide +kernel) (by decide +kernel)
theorem cC_J6_266 : Cond.constant RJ6 266 (858993459) ∈ zG := zmem 1135 (by decide +kernel) (by decide +kernel)
theorem cC_J6_267 : Cond.constant RJ6 267 (252645135) ∈ zG := zmem 1136 (by decide +kernel) (by decide +kernel)
theorem C_L_131 : Cond.classLink RL 131 "FoundThingsModel" ∈ zG := zmem 1489 (by decide +kernel) (by decide +kernel)
theorem N_X11 : Cond.instantiable RX11 35 ∈ zG := zmem 1490 (by decide +kernel) (by decide +kernel)
theorem cC_X11_66 : Cond.constant RX11 66 (59049) ∈ zG := zmem 1495 (by decide +kernel) (by decide +kernel)
theorem A_boolean : Cond.arrayClass .boolean ∈ zG := zmem 1602 (by decide +kernel) (by decide +kernel)
theorem cC_X11_112 : Cond.constant RX11 112 (211226802) ∈ zG := zmem 1645 (by decide +kernel) (by decide +kernel)
theorem cC_X11_113 : Cond.constant RX11 113 (16496818) ∈ zG := zmem 1646 (by decide +kernel) (by decide +kernel)
theorem cC_X11_114 : Cond.constant RX11 114 (254268868) ∈ zG := zmem 1647 (by decide +kernel) (by decide +kernel)
theorem cC_X11_115 : Cond.constant RX11 115 (269899955) ∈ zG := zmem 1648 (by decide +kernel) (by decide +kernel)
theorem cC_X11_116 : Cond.constant RX11 116 (3751662) ∈ zG := zmem 1649 (by decide +kernel) (by decide +kernel)
theorem cC_X11_105 : Cond.constant RX11 105 (17171557) ∈ zG := zmem 1708 (by decide +kernel) (by decide +kernel)
theorem cC_X11_106 : Cond.constant RX11 106 (24627848) ∈ zG := zmem 1709 (by decide +kernel) (by decide +kernel)
theorem cC_X11_107 : Cond.constant RX11 107 (773206180) ∈ zG := zmem 1710 (by decide +kernel) (by decide +kernel)
theorem cC_X11_108 : Cond.constant RX11 108 (13683059) ∈ zG := zmem 1711 (by decide +kernel) (by decide +kernel)
theorem cC_X11_109 : Cond.constant RX11 109 (591429) ∈ zG := zmem 1712 (by decide +kernel) (by decide +kernel)
theorem cC_X11_110 : Cond.constant RX11 110 (3744932) ∈ zG := zmem 1713 (by decide +kernel) (by decide +kernel)
theorem cC_X11_111 : Cond.constant RX11 111 (113288627) ∈ zG := zmem 1714 (by decide +kernel) (by decide +kernel)
