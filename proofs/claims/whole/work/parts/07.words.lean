def kk_nest (w : Cond) : Bool := match w with
  | .fieldLinkNest _ _ _ _ _ _ => true
  | .methodLinkNest _ _ _ _ => true
  | .castable _ _ => true
  | _ => false
/-- the words of the tables that stay over calls -/
def kk_w (w : Cond) : Bool := goodWord w || kk_nest w
def lw_E : List Cond := lw_tbl.filter kk_w
theorem jnX0 : ∀ w ∈ wsX00, w ∈ lw_E := fun w h => List.mem_filter.mpr ⟨inX0 w h, List.all_eq_true.mp (show (wsX00).all kk_w = true by decide +kernel) w h⟩
theorem jnX1 : ∀ w ∈ wsX10, w ∈ lw_E := fun w h => List.mem_filter.mpr ⟨inX1 w h, List.all_eq_true.mp (show (wsX10).all kk_w = true by decide +kernel) w h⟩
theorem jnX2 : ∀ w ∈ wsX20, w ∈ lw_E := fun w h => List.mem_filter.mpr ⟨inX2 w h, List.all_eq_true.mp (show (wsX20).all kk_w = true by decide +kernel) w h⟩
theorem jnX3 : ∀ w ∈ wsX30, w ∈ lw_E := fun w h => List.mem_filter.mpr ⟨inX3 w h, List.all_eq_true.mp (show (wsX30).all kk_w = true by decide +kernel) w h⟩
theorem jnX4 : ∀ w ∈ wsX40, w ∈ lw_E := fun w h => List.mem_filter.mpr ⟨inX4 w h, List.all_eq_true.mp (show (wsX40).all kk_w = true by decide +kernel) w h⟩
theorem jnX5 : ∀ w ∈ wsX50, w ∈ lw_E := fun w h => List.mem_filter.mpr ⟨inX5 w h, List.all_eq_true.mp (show (wsX50).all kk_w = true by decide +kernel) w h⟩
theorem jnX6 : ∀ w ∈ wsX60, w ∈ lw_E := fun w h => List.mem_filter.mpr ⟨inX6 w h, List.all_eq_true.mp (show (wsX60).all kk_w = true by decide +kernel) w h⟩
theorem jnX7 : ∀ w ∈ wsX70, w ∈ lw_E := fun w h => List.mem_filter.mpr ⟨inX7 w h, List.all_eq_true.mp (show (wsX70).all kk_w = true by decide +kernel) w h⟩
theorem jnX8 : ∀ w ∈ wsX80, w ∈ lw_E := fun w h => List.mem_filter.mpr ⟨inX8 w h, List.all_eq_true.mp (show (wsX80).all kk_w = true by decide +kernel) w h⟩
theorem jnX9 : ∀ w ∈ wsX90, w ∈ lw_E := fun w h => List.mem_filter.mpr ⟨inX9 w h, List.all_eq_true.mp (show (wsX90).all kk_w = true by decide +kernel) w h⟩
set_option maxRecDepth 20000 in
theorem ini_L : (Cond.initialized RL) ∈ lw_E := List.mem_filter.mpr ⟨List.mem_of_getElem? (i := 66) (by decide +kernel), rfl⟩
set_option maxRecDepth 20000 in
theorem ini_X8 : (Cond.initialized RX8) ∈ lw_E := List.mem_filter.mpr ⟨List.mem_of_getElem? (i := 67) (by decide +kernel), rfl⟩
set_option maxRecDepth 20000 in
theorem ini_X7 : (Cond.initialized RX7) ∈ lw_E := List.mem_filter.mpr ⟨List.mem_of_getElem? (i := 68) (by decide +kernel), rfl⟩
set_option maxRecDepth 20000 in
theorem ini_X5 : (Cond.initialized RX5) ∈ lw_E := List.mem_filter.mpr ⟨List.mem_of_getElem? (i := 69) (by decide +kernel), rfl⟩
set_option maxRecDepth 20000 in
theorem ini_X3 : (Cond.initialized RX3) ∈ lw_E := List.mem_filter.mpr ⟨List.mem_of_getElem? (i := 70) (by decide +kernel), rfl⟩
set_option maxRecDepth 20000 in
theorem ini_X2 : (Cond.initialized RX2) ∈ lw_E := List.mem_filter.mpr ⟨List.mem_of_getElem? (i := 71) (by decide +kernel), rfl⟩
set_option maxRecDepth 20000 in
theorem ini_X1 : (Cond.initialized RX1) ∈ lw_E := List.mem_filter.mpr ⟨List.mem_of_getElem? (i := 72) (by decide +kernel), rfl⟩
set_option maxRecDepth 20000 in
theorem ini_X4 : (Cond.initialized RX4) ∈ lw_E := List.mem_filter.mpr ⟨List.mem_of_getElem? (i := 73) (by decide +kernel), rfl⟩
set_option maxRecDepth 20000 in
theorem ini_X0 : (Cond.initialized RX0) ∈ lw_E := List.mem_filter.mpr ⟨List.mem_of_getElem? (i := 74) (by decide +kernel), rfl⟩
set_option maxRecDepth 20000 in
theorem ini_X6 : (Cond.initialized RX6) ∈ lw_E := List.mem_filter.mpr ⟨List.mem_of_getElem? (i := 75) (by decide +kernel), rfl⟩
set_option maxRecDepth 20000 in
theorem ini_X9 : (Cond.initialized RX9) ∈ lw_E := List.mem_filter.mpr ⟨List.mem_of_getElem? (i := 76) (by decide +kernel), rfl⟩
set_option maxRecDepth 20000 in
theorem ini_J9 : (Cond.initialized RJ9) ∈ lw_E := List.mem_filter.mpr ⟨List.mem_of_getElem? (i := 77) (by decide +kernel), rfl⟩
set_option maxRecDepth 20000 in
theorem ini_J10 : (Cond.initialized RJ10) ∈ lw_E := List.mem_filter.mpr ⟨List.mem_of_getElem? (i := 78) (by decide +kernel), rfl⟩
set_option maxRecDepth 20000 in
theorem ini_J7 : (Cond.initialized RJ7) ∈ lw_E := List.mem_filter.mpr ⟨List.mem_of_getElem? (i := 79) (by decide +kernel), rfl⟩
set_option maxRecDepth 20000 in
theorem cl_L_7 : (Cond.classLink RL 7 RX8) ∈ lw_E := List.mem_filter.mpr ⟨List.mem_of_getElem? (i := 80) (by decide +kernel), rfl⟩
set_option maxRecDepth 20000 in
theorem ins_X8 : (Cond.instantiable RX8 5) ∈ lw_E := List.mem_filter.mpr ⟨List.mem_of_getElem? (i := 81) (by decide +kernel), rfl⟩
set_option maxRecDepth 20000 in
theorem ml_L_9 : (Cond.methodLink RL 9 yX8_init) ∈ lw_E := List.mem_filter.mpr ⟨List.mem_of_getElem? (i := 82) (by decide +kernel), rfl⟩
set_option maxRecDepth 20000 in
theorem im_X8_init : (Cond.instanceMethod yX8_init) ∈ lw_E := List.mem_filter.mpr ⟨List.mem_of_getElem? (i := 83) (by decide +kernel), rfl⟩
set_option maxRecDepth 20000 in
theorem cd_X8_init : (Cond.code yX8_init cX8_init 1 none) ∈ lw_E := List.mem_filter.mpr ⟨List.mem_of_getElem? (i := 84) (by decide +kernel), rfl⟩
set_option maxRecDepth 20000 in
theorem cl_X8_9 : (Cond.classLink RX8 9 RX7) ∈ lw_E := List.mem_filter.mpr ⟨List.mem_of_getElem? (i := 88) (by decide +kernel), rfl⟩
set_option maxRecDepth 20000 in
theorem ins_X7 : (Cond.instantiable RX7 8) ∈ lw_E := List.mem_filter.mpr ⟨List.mem_of_getElem? (i := 89) (by decide +kernel), rfl⟩
set_option maxRecDepth 20000 in
theorem mn_X8_11 : (Cond.methodLinkNest RX8 11 yX7_init "VeneerYard") ∈ lw_E := List.mem_filter.mpr ⟨List.mem_of_getElem? (i := 90) (by decide +kernel), rfl⟩
set_option maxRecDepth 20000 in
theorem im_X7_init : (Cond.instanceMethod yX7_init) ∈ lw_E := List.mem_filter.mpr ⟨List.mem_of_getElem? (i := 91) (by decide +kernel), rfl⟩
set_option maxRecDepth 20000 in
theorem cd_X7_init : (Cond.code yX7_init cX7_init 1 none) ∈ lw_E := List.mem_filter.mpr ⟨List.mem_of_getElem? (i := 92) (by decide +kernel), rfl⟩
set_option maxRecDepth 20000 in
theorem cl_X7_9 : (Cond.classLink RX7 9 RX5) ∈ lw_E := List.mem_filter.mpr ⟨List.mem_of_getElem? (i := 94) (by decide +kernel), rfl⟩
set_option maxRecDepth 20000 in
theorem ins_X5 : (Cond.instantiable RX5 5) ∈ lw_E := List.mem_filter.mpr ⟨List.mem_of_getElem? (i := 95) (by decide +kernel), rfl⟩
set_option maxRecDepth 20000 in
theorem mn_X7_11 : (Cond.methodLinkNest RX7 11 yX5_init "VeneerYard") ∈ lw_E := List.mem_filter.mpr ⟨List.mem_of_getElem? (i := 96) (by decide +kernel), rfl⟩
set_option maxRecDepth 20000 in
theorem im_X5_init : (Cond.instanceMethod yX5_init) ∈ lw_E := List.mem_filter.mpr ⟨List.mem_of_getElem? (i := 97) (by decide +kernel), rfl⟩
set_option maxRecDepth 20000 in
theorem cd_X5_init : (Cond.code yX5_init cX5_init 1 none) ∈ lw_E := List.mem_filter.mpr ⟨List.mem_of_getElem? (i := 98) (by decide +kernel), rfl⟩
set_option maxRecDepth 20000 in
theorem fl_X5_9 : (Cond.fieldLink RX5 9 "VeneerYard$Sections" "count" "I") ∈ lw_E := List.mem_filter.mpr ⟨List.mem_of_getElem? (i := 100) (by decide +kernel), rfl⟩
set_option maxRecDepth 20000 in
theorem fn_X0_39 : (Cond.fieldLinkNest RX0 39 "VeneerYard$Sections" "count" "I" "VeneerYard") ∈ lw_E := List.mem_filter.mpr ⟨List.mem_of_getElem? (i := 101) (by decide +kernel), rfl⟩
set_option maxRecDepth 20000 in
theorem fn_X4_119 : (Cond.fieldLinkNest RX4 119 "VeneerYard$Sections" "count" "I" "VeneerYard") ∈ lw_E := List.mem_filter.mpr ⟨List.mem_of_getElem? (i := 102) (by decide +kernel), rfl⟩
set_option maxRecDepth 20000 in
theorem fn_X8_143 : (Cond.fieldLinkNest RX8 143 "VeneerYard$Sections" "count" "I" "VeneerYard") ∈ lw_E := List.mem_filter.mpr ⟨List.mem_of_getElem? (i := 103) (by decide +kernel), rfl⟩
set_option maxRecDepth 20000 in
theorem fl_X5_15 : (Cond.fieldLink RX5 15 "VeneerYard$Sections" "pools" "I") ∈ lw_E := List.mem_filter.mpr ⟨List.mem_of_getElem? (i := 104) (by decide +kernel), rfl⟩
set_option maxRecDepth 20000 in
theorem fn_X8_148 : (Cond.fieldLinkNest RX8 148 "VeneerYard$Sections" "pools" "I" "VeneerYard") ∈ lw_E := List.mem_filter.mpr ⟨List.mem_of_getElem? (i := 105) (by decide +kernel), rfl⟩
set_option maxRecDepth 20000 in
theorem fl_X5_18 : (Cond.fieldLink RX5 18 "VeneerYard$Sections" "size" "[I") ∈ lw_E := List.mem_filter.mpr ⟨List.mem_of_getElem? (i := 106) (by decide +kernel), rfl⟩
set_option maxRecDepth 20000 in
theorem fn_X0_52 : (Cond.fieldLinkNest RX0 52 "VeneerYard$Sections" "size" "[I" "VeneerYard") ∈ lw_E := List.mem_filter.mpr ⟨List.mem_of_getElem? (i := 107) (by decide +kernel), rfl⟩
set_option maxRecDepth 20000 in
theorem fn_X8_56 : (Cond.fieldLinkNest RX8 56 "VeneerYard$Sections" "size" "[I" "VeneerYard") ∈ lw_E := List.mem_filter.mpr ⟨List.mem_of_getElem? (i := 108) (by decide +kernel), rfl⟩
set_option maxRecDepth 20000 in
theorem fn_X7_65 : (Cond.fieldLinkNest RX7 65 "VeneerYard$Sections" "size" "[I" "VeneerYard") ∈ lw_E := List.mem_filter.mpr ⟨List.mem_of_getElem? (i := 109) (by decide +kernel), rfl⟩
set_option maxRecDepth 20000 in
theorem fn_X4_223 : (Cond.fieldLinkNest RX4 223 "VeneerYard$Sections" "size" "[I" "VeneerYard") ∈ lw_E := List.mem_filter.mpr ⟨List.mem_of_getElem? (i := 110) (by decide +kernel), rfl⟩
set_option maxRecDepth 20000 in
theorem fl_X5_22 : (Cond.fieldLink RX5 22 "VeneerYard$Sections" "align" "[I") ∈ lw_E := List.mem_filter.mpr ⟨List.mem_of_getElem? (i := 111) (by decide +kernel), rfl⟩
set_option maxRecDepth 20000 in
theorem fn_X0_44 : (Cond.fieldLinkNest RX0 44 "VeneerYard$Sections" "align" "[I" "VeneerYard") ∈ lw_E := List.mem_filter.mpr ⟨List.mem_of_getElem? (i := 112) (by decide +kernel), rfl⟩
set_option maxRecDepth 20000 in
theorem fl_X5_25 : (Cond.fieldLink RX5 25 "VeneerYard$Sections" "pool" "[Z") ∈ lw_E := List.mem_filter.mpr ⟨List.mem_of_getElem? (i := 113) (by decide +kernel), rfl⟩
set_option maxRecDepth 20000 in
theorem fn_X4_143 : (Cond.fieldLinkNest RX4 143 "VeneerYard$Sections" "pool" "[Z" "VeneerYard") ∈ lw_E := List.mem_filter.mpr ⟨List.mem_of_getElem? (i := 114) (by decide +kernel), rfl⟩
set_option maxRecDepth 20000 in
theorem ac_int : (Cond.arrayClass .int) ∈ lw_E := List.mem_filter.mpr ⟨List.mem_of_getElem? (i := 126) (by decide +kernel), rfl⟩
set_option maxRecDepth 20000 in
theorem ac_boolean : (Cond.arrayClass .boolean) ∈ lw_E := List.mem_filter.mpr ⟨List.mem_of_getElem? (i := 127) (by decide +kernel), rfl⟩
set_option maxRecDepth 20000 in
theorem cl_X7_18 : (Cond.classLink RX7 18 RX3) ∈ lw_E := List.mem_filter.mpr ⟨List.mem_of_getElem? (i := 128) (by decide +kernel), rfl⟩
set_option maxRecDepth 20000 in
theorem ins_X3 : (Cond.instantiable RX3 3) ∈ lw_E := List.mem_filter.mpr ⟨List.mem_of_getElem? (i := 129) (by decide +kernel), rfl⟩
set_option maxRecDepth 20000 in
theorem mn_X7_20 : (Cond.methodLinkNest RX7 20 yX3_init "VeneerYard") ∈ lw_E := List.mem_filter.mpr ⟨List.mem_of_getElem? (i := 130) (by decide +kernel), rfl⟩
set_option maxRecDepth 20000 in
theorem im_X3_init : (Cond.instanceMethod yX3_init) ∈ lw_E := List.mem_filter.mpr ⟨List.mem_of_getElem? (i := 131) (by decide +kernel), rfl⟩
set_option maxRecDepth 20000 in
theorem cd_X3_init : (Cond.code yX3_init cX3_init 1 none) ∈ lw_E := List.mem_filter.mpr ⟨List.mem_of_getElem? (i := 132) (by decide +kernel), rfl⟩
set_option maxRecDepth 20000 in
theorem fl_X3_9 : (Cond.fieldLink RX3 9 "VeneerYard$Labels" "count" "I") ∈ lw_E := List.mem_filter.mpr ⟨List.mem_of_getElem? (i := 134) (by decide +kernel), rfl⟩
set_option maxRecDepth 20000 in
theorem fn_X8_146 : (Cond.fieldLinkNest RX8 146 "VeneerYard$Labels" "count" "I" "VeneerYard") ∈ lw_E := List.mem_filter.mpr ⟨List.mem_of_getElem? (i := 135) (by decide +kernel), rfl⟩
set_option maxRecDepth 20000 in
theorem fl_X3_15 : (Cond.fieldLink RX3 15 "VeneerYard$Labels" "section" "[I") ∈ lw_E := List.mem_filter.mpr ⟨List.mem_of_getElem? (i := 136) (by decide +kernel), rfl⟩
set_option maxRecDepth 20000 in
theorem fn_X4_197 : (Cond.fieldLinkNest RX4 197 "VeneerYard$Labels" "section" "[I" "VeneerYard") ∈ lw_E := List.mem_filter.mpr ⟨List.mem_of_getElem? (i := 137) (by decide +kernel), rfl⟩
set_option maxRecDepth 20000 in
theorem fn_X8_222 : (Cond.fieldLinkNest RX8 222 "VeneerYard$Labels" "section" "[I" "VeneerYard") ∈ lw_E := List.mem_filter.mpr ⟨List.mem_of_getElem? (i := 138) (by decide +kernel), rfl⟩
set_option maxRecDepth 20000 in
theorem fl_X3_19 : (Cond.fieldLink RX3 19 "VeneerYard$Labels" "offset" "[I") ∈ lw_E := List.mem_filter.mpr ⟨List.mem_of_getElem? (i := 139) (by decide +kernel), rfl⟩
set_option maxRecDepth 20000 in
theorem fn_X4_201 : (Cond.fieldLinkNest RX4 201 "VeneerYard$Labels" "offset" "[I" "VeneerYard") ∈ lw_E := List.mem_filter.mpr ⟨List.mem_of_getElem? (i := 140) (by decide +kernel), rfl⟩
set_option maxRecDepth 20000 in
theorem fn_X8_223 : (Cond.fieldLinkNest RX8 223 "VeneerYard$Labels" "offset" "[I" "VeneerYard") ∈ lw_E := List.mem_filter.mpr ⟨List.mem_of_getElem? (i := 141) (by decide +kernel), rfl⟩
set_option maxRecDepth 20000 in
theorem cl_X7_25 : (Cond.classLink RX7 25 RX2) ∈ lw_E := List.mem_filter.mpr ⟨List.mem_of_getElem? (i := 149) (by decide +kernel), rfl⟩
set_option maxRecDepth 20000 in
theorem ins_X2 : (Cond.instantiable RX2 2) ∈ lw_E := List.mem_filter.mpr ⟨List.mem_of_getElem? (i := 150) (by decide +kernel), rfl⟩
set_option maxRecDepth 20000 in
theorem mn_X7_27 : (Cond.methodLinkNest RX7 27 yX2_init "VeneerYard") ∈ lw_E := List.mem_filter.mpr ⟨List.mem_of_getElem? (i := 151) (by decide +kernel), rfl⟩
set_option maxRecDepth 20000 in
theorem im_X2_init : (Cond.instanceMethod yX2_init) ∈ lw_E := List.mem_filter.mpr ⟨List.mem_of_getElem? (i := 152) (by decide +kernel), rfl⟩
set_option maxRecDepth 20000 in
theorem cd_X2_init : (Cond.code yX2_init cX2_init 1 none) ∈ lw_E := List.mem_filter.mpr ⟨List.mem_of_getElem? (i := 153) (by decide +kernel), rfl⟩
set_option maxRecDepth 20000 in
theorem fl_X2_9 : (Cond.fieldLink RX2 9 "VeneerYard$Kinds" "shift" "[I") ∈ lw_E := List.mem_filter.mpr ⟨List.mem_of_getElem? (i := 155) (by decide +kernel), rfl⟩
set_option maxRecDepth 20000 in
theorem fl_X2_15 : (Cond.fieldLink RX2 15 "VeneerYard$Kinds" "bits" "[I") ∈ lw_E := List.mem_filter.mpr ⟨List.mem_of_getElem? (i := 156) (by decide +kernel), rfl⟩
set_option maxRecDepth 20000 in
theorem cl_X7_32 : (Cond.classLink RX7 32 RX1) ∈ lw_E := List.mem_filter.mpr ⟨List.mem_of_getElem? (i := 162) (by decide +kernel), rfl⟩
set_option maxRecDepth 20000 in
theorem ins_X1 : (Cond.instantiable RX1 5) ∈ lw_E := List.mem_filter.mpr ⟨List.mem_of_getElem? (i := 163) (by decide +kernel), rfl⟩
set_option maxRecDepth 20000 in
theorem mn_X7_34 : (Cond.methodLinkNest RX7 34 yX1_init "VeneerYard") ∈ lw_E := List.mem_filter.mpr ⟨List.mem_of_getElem? (i := 164) (by decide +kernel), rfl⟩
set_option maxRecDepth 20000 in
theorem im_X1_init : (Cond.instanceMethod yX1_init) ∈ lw_E := List.mem_filter.mpr ⟨List.mem_of_getElem? (i := 165) (by decide +kernel), rfl⟩
set_option maxRecDepth 20000 in
theorem cd_X1_init : (Cond.code yX1_init cX1_init 1 none) ∈ lw_E := List.mem_filter.mpr ⟨List.mem_of_getElem? (i := 166) (by decide +kernel), rfl⟩
set_option maxRecDepth 20000 in
theorem fl_X1_9 : (Cond.fieldLink RX1 9 "VeneerYard$Branches" "count" "I") ∈ lw_E := List.mem_filter.mpr ⟨List.mem_of_getElem? (i := 168) (by decide +kernel), rfl⟩
set_option maxRecDepth 20000 in
theorem fn_X4_89 : (Cond.fieldLinkNest RX4 89 "VeneerYard$Branches" "count" "I" "VeneerYard") ∈ lw_E := List.mem_filter.mpr ⟨List.mem_of_getElem? (i := 169) (by decide +kernel), rfl⟩
set_option maxRecDepth 20000 in
theorem fn_X8_147 : (Cond.fieldLinkNest RX8 147 "VeneerYard$Branches" "count" "I" "VeneerYard") ∈ lw_E := List.mem_filter.mpr ⟨List.mem_of_getElem? (i := 170) (by decide +kernel), rfl⟩
set_option maxRecDepth 20000 in
theorem fl_X1_15 : (Cond.fieldLink RX1 15 "VeneerYard$Branches" "section" "[I") ∈ lw_E := List.mem_filter.mpr ⟨List.mem_of_getElem? (i := 171) (by decide +kernel), rfl⟩
set_option maxRecDepth 20000 in
theorem fn_X4_204 : (Cond.fieldLinkNest RX4 204 "VeneerYard$Branches" "section" "[I" "VeneerYard") ∈ lw_E := List.mem_filter.mpr ⟨List.mem_of_getElem? (i := 172) (by decide +kernel), rfl⟩
set_option maxRecDepth 20000 in
theorem fn_X8_217 : (Cond.fieldLinkNest RX8 217 "VeneerYard$Branches" "section" "[I" "VeneerYard") ∈ lw_E := List.mem_filter.mpr ⟨List.mem_of_getElem? (i := 173) (by decide +kernel), rfl⟩
set_option maxRecDepth 20000 in
theorem fl_X1_19 : (Cond.fieldLink RX1 19 "VeneerYard$Branches" "offset" "[I") ∈ lw_E := List.mem_filter.mpr ⟨List.mem_of_getElem? (i := 174) (by decide +kernel), rfl⟩
set_option maxRecDepth 20000 in
theorem fn_X4_205 : (Cond.fieldLinkNest RX4 205 "VeneerYard$Branches" "offset" "[I" "VeneerYard") ∈ lw_E := List.mem_filter.mpr ⟨List.mem_of_getElem? (i := 175) (by decide +kernel), rfl⟩
set_option maxRecDepth 20000 in
theorem fn_X8_219 : (Cond.fieldLinkNest RX8 219 "VeneerYard$Branches" "offset" "[I" "VeneerYard") ∈ lw_E := List.mem_filter.mpr ⟨List.mem_of_getElem? (i := 176) (by decide +kernel), rfl⟩
set_option maxRecDepth 20000 in
theorem fl_X1_22 : (Cond.fieldLink RX1 22 "VeneerYard$Branches" "kind" "[I") ∈ lw_E := List.mem_filter.mpr ⟨List.mem_of_getElem? (i := 177) (by decide +kernel), rfl⟩
set_option maxRecDepth 20000 in
theorem fn_X4_154 : (Cond.fieldLinkNest RX4 154 "VeneerYard$Branches" "kind" "[I" "VeneerYard") ∈ lw_E := List.mem_filter.mpr ⟨List.mem_of_getElem? (i := 178) (by decide +kernel), rfl⟩
set_option maxRecDepth 20000 in
theorem fn_X8_224 : (Cond.fieldLinkNest RX8 224 "VeneerYard$Branches" "kind" "[I" "VeneerYard") ∈ lw_E := List.mem_filter.mpr ⟨List.mem_of_getElem? (i := 179) (by decide +kernel), rfl⟩
set_option maxRecDepth 20000 in
theorem fl_X1_25 : (Cond.fieldLink RX1 25 "VeneerYard$Branches" "label" "[I") ∈ lw_E := List.mem_filter.mpr ⟨List.mem_of_getElem? (i := 180) (by decide +kernel), rfl⟩
set_option maxRecDepth 20000 in
theorem fn_X4_108 : (Cond.fieldLinkNest RX4 108 "VeneerYard$Branches" "label" "[I" "VeneerYard") ∈ lw_E := List.mem_filter.mpr ⟨List.mem_of_getElem? (i := 181) (by decide +kernel), rfl⟩
set_option maxRecDepth 20000 in
theorem fn_X8_105 : (Cond.fieldLinkNest RX8 105 "VeneerYard$Branches" "label" "[I" "VeneerYard") ∈ lw_E := List.mem_filter.mpr ⟨List.mem_of_getElem? (i := 182) (by decide +kernel), rfl⟩
set_option maxRecDepth 20000 in
theorem fl_X7_12 : (Cond.fieldLink RX7 12 "VeneerYard$Told" "sections" "LVeneerYard$Sections;") ∈ lw_E := List.mem_filter.mpr ⟨List.mem_of_getElem? (i := 194) (by decide +kernel), rfl⟩
set_option maxRecDepth 20000 in
theorem fn_X8_38 : (Cond.fieldLinkNest RX8 38 "VeneerYard$Told" "sections" "LVeneerYard$Sections;" "VeneerYard") ∈ lw_E := List.mem_filter.mpr ⟨List.mem_of_getElem? (i := 195) (by decide +kernel), rfl⟩
set_option maxRecDepth 20000 in
theorem fn_X0_35 : (Cond.fieldLinkNest RX0 35 "VeneerYard$Told" "sections" "LVeneerYard$Sections;" "VeneerYard") ∈ lw_E := List.mem_filter.mpr ⟨List.mem_of_getElem? (i := 196) (by decide +kernel), rfl⟩
set_option maxRecDepth 20000 in
theorem fn_X4_115 : (Cond.fieldLinkNest RX4 115 "VeneerYard$Told" "sections" "LVeneerYard$Sections;" "VeneerYard") ∈ lw_E := List.mem_filter.mpr ⟨List.mem_of_getElem? (i := 197) (by decide +kernel), rfl⟩
set_option maxRecDepth 20000 in
theorem fl_X7_21 : (Cond.fieldLink RX7 21 "VeneerYard$Told" "labels" "LVeneerYard$Labels;") ∈ lw_E := List.mem_filter.mpr ⟨List.mem_of_getElem? (i := 198) (by decide +kernel), rfl⟩
set_option maxRecDepth 20000 in
theorem fn_X8_59 : (Cond.fieldLinkNest RX8 59 "VeneerYard$Told" "labels" "LVeneerYard$Labels;" "VeneerYard") ∈ lw_E := List.mem_filter.mpr ⟨List.mem_of_getElem? (i := 199) (by decide +kernel), rfl⟩
set_option maxRecDepth 20000 in
theorem fn_X4_193 : (Cond.fieldLinkNest RX4 193 "VeneerYard$Told" "labels" "LVeneerYard$Labels;" "VeneerYard") ∈ lw_E := List.mem_filter.mpr ⟨List.mem_of_getElem? (i := 200) (by decide +kernel), rfl⟩
set_option maxRecDepth 20000 in
theorem fl_X7_28 : (Cond.fieldLink RX7 28 "VeneerYard$Told" "kinds" "LVeneerYard$Kinds;") ∈ lw_E := List.mem_filter.mpr ⟨List.mem_of_getElem? (i := 201) (by decide +kernel), rfl⟩
set_option maxRecDepth 20000 in
theorem fn_X8_68 : (Cond.fieldLinkNest RX8 68 "VeneerYard$Told" "kinds" "LVeneerYard$Kinds;" "VeneerYard") ∈ lw_E := List.mem_filter.mpr ⟨List.mem_of_getElem? (i := 202) (by decide +kernel), rfl⟩
set_option maxRecDepth 20000 in
theorem fn_X4_150 : (Cond.fieldLinkNest RX4 150 "VeneerYard$Told" "kinds" "LVeneerYard$Kinds;" "VeneerYard") ∈ lw_E := List.mem_filter.mpr ⟨List.mem_of_getElem? (i := 203) (by decide +kernel), rfl⟩
set_option maxRecDepth 20000 in
theorem fl_X7_35 : (Cond.fieldLink RX7 35 "VeneerYard$Told" "branches" "LVeneerYard$Branches;") ∈ lw_E := List.mem_filter.mpr ⟨List.mem_of_getElem? (i := 204) (by decide +kernel), rfl⟩
set_option maxRecDepth 20000 in
theorem fn_X4_85 : (Cond.fieldLinkNest RX4 85 "VeneerYard$Told" "branches" "LVeneerYard$Branches;" "VeneerYard") ∈ lw_E := List.mem_filter.mpr ⟨List.mem_of_getElem? (i := 205) (by decide +kernel), rfl⟩
set_option maxRecDepth 20000 in
theorem fn_X8_84 : (Cond.fieldLinkNest RX8 84 "VeneerYard$Told" "branches" "LVeneerYard$Branches;" "VeneerYard") ∈ lw_E := List.mem_filter.mpr ⟨List.mem_of_getElem? (i := 206) (by decide +kernel), rfl⟩
set_option maxRecDepth 20000 in
theorem fl_X7_39 : (Cond.fieldLink RX7 39 "VeneerYard$Told" "start" "I") ∈ lw_E := List.mem_filter.mpr ⟨List.mem_of_getElem? (i := 207) (by decide +kernel), rfl⟩
set_option maxRecDepth 20000 in
theorem fn_X0_25 : (Cond.fieldLinkNest RX0 25 "VeneerYard$Told" "start" "I" "VeneerYard") ∈ lw_E := List.mem_filter.mpr ⟨List.mem_of_getElem? (i := 208) (by decide +kernel), rfl⟩
set_option maxRecDepth 20000 in
theorem fn_X8_96 : (Cond.fieldLinkNest RX8 96 "VeneerYard$Told" "start" "I" "VeneerYard") ∈ lw_E := List.mem_filter.mpr ⟨List.mem_of_getElem? (i := 209) (by decide +kernel), rfl⟩
set_option maxRecDepth 20000 in
theorem fn_X4_210 : (Cond.fieldLinkNest RX4 210 "VeneerYard$Told" "start" "I" "VeneerYard") ∈ lw_E := List.mem_filter.mpr ⟨List.mem_of_getElem? (i := 210) (by decide +kernel), rfl⟩
set_option maxRecDepth 20000 in
theorem fl_X7_43 : (Cond.fieldLink RX7 43 "VeneerYard$Told" "thunkSize" "I") ∈ lw_E := List.mem_filter.mpr ⟨List.mem_of_getElem? (i := 211) (by decide +kernel), rfl⟩
set_option maxRecDepth 20000 in
theorem fn_X0_58 : (Cond.fieldLinkNest RX0 58 "VeneerYard$Told" "thunkSize" "I" "VeneerYard") ∈ lw_E := List.mem_filter.mpr ⟨List.mem_of_getElem? (i := 212) (by decide +kernel), rfl⟩
set_option maxRecDepth 20000 in
theorem fn_X4_220 : (Cond.fieldLinkNest RX4 220 "VeneerYard$Told" "thunkSize" "I" "VeneerYard") ∈ lw_E := List.mem_filter.mpr ⟨List.mem_of_getElem? (i := 213) (by decide +kernel), rfl⟩
set_option maxRecDepth 20000 in
theorem fl_X7_46 : (Cond.fieldLink RX7 46 "VeneerYard$Told" "thunkAlign" "I") ∈ lw_E := List.mem_filter.mpr ⟨List.mem_of_getElem? (i := 214) (by decide +kernel), rfl⟩
set_option maxRecDepth 20000 in
theorem fn_X0_55 : (Cond.fieldLinkNest RX0 55 "VeneerYard$Told" "thunkAlign" "I" "VeneerYard") ∈ lw_E := List.mem_filter.mpr ⟨List.mem_of_getElem? (i := 215) (by decide +kernel), rfl⟩
set_option maxRecDepth 20000 in
theorem fl_X7_49 : (Cond.fieldLink RX7 49 "VeneerYard$Told" "thunkKind" "I") ∈ lw_E := List.mem_filter.mpr ⟨List.mem_of_getElem? (i := 216) (by decide +kernel), rfl⟩
set_option maxRecDepth 20000 in
theorem fn_X4_163 : (Cond.fieldLinkNest RX4 163 "VeneerYard$Told" "thunkKind" "I" "VeneerYard") ∈ lw_E := List.mem_filter.mpr ⟨List.mem_of_getElem? (i := 217) (by decide +kernel), rfl⟩
set_option maxRecDepth 20000 in
theorem cl_X8_16 : (Cond.classLink RX8 16 RX4) ∈ lw_E := List.mem_filter.mpr ⟨List.mem_of_getElem? (i := 235) (by decide +kernel), rfl⟩
set_option maxRecDepth 20000 in
theorem ins_X4 : (Cond.instantiable RX4 9) ∈ lw_E := List.mem_filter.mpr ⟨List.mem_of_getElem? (i := 236) (by decide +kernel), rfl⟩
set_option maxRecDepth 20000 in
theorem mn_X8_18 : (Cond.methodLinkNest RX8 18 yX4_init "VeneerYard") ∈ lw_E := List.mem_filter.mpr ⟨List.mem_of_getElem? (i := 237) (by decide +kernel), rfl⟩
set_option maxRecDepth 20000 in
theorem im_X4_init : (Cond.instanceMethod yX4_init) ∈ lw_E := List.mem_filter.mpr ⟨List.mem_of_getElem? (i := 238) (by decide +kernel), rfl⟩
set_option maxRecDepth 20000 in
theorem cd_X4_init : (Cond.code yX4_init cX4_init 1 none) ∈ lw_E := List.mem_filter.mpr ⟨List.mem_of_getElem? (i := 239) (by decide +kernel), rfl⟩
set_option maxRecDepth 20000 in
theorem cl_X4_9 : (Cond.classLink RX4 9 RX7) ∈ lw_E := List.mem_filter.mpr ⟨List.mem_of_getElem? (i := 241) (by decide +kernel), rfl⟩
set_option maxRecDepth 20000 in
theorem mn_X4_11 : (Cond.methodLinkNest RX4 11 yX7_init "VeneerYard") ∈ lw_E := List.mem_filter.mpr ⟨List.mem_of_getElem? (i := 242) (by decide +kernel), rfl⟩
set_option maxRecDepth 20000 in
theorem cl_X4_18 : (Cond.classLink RX4 18 RX0) ∈ lw_E := List.mem_filter.mpr ⟨List.mem_of_getElem? (i := 243) (by decide +kernel), rfl⟩
set_option maxRecDepth 20000 in
theorem ins_X0 : (Cond.instantiable RX0 4) ∈ lw_E := List.mem_filter.mpr ⟨List.mem_of_getElem? (i := 244) (by decide +kernel), rfl⟩
set_option maxRecDepth 20000 in
theorem mn_X4_20 : (Cond.methodLinkNest RX4 20 yX0_init "VeneerYard") ∈ lw_E := List.mem_filter.mpr ⟨List.mem_of_getElem? (i := 245) (by decide +kernel), rfl⟩
set_option maxRecDepth 20000 in
theorem im_X0_init : (Cond.instanceMethod yX0_init) ∈ lw_E := List.mem_filter.mpr ⟨List.mem_of_getElem? (i := 246) (by decide +kernel), rfl⟩
set_option maxRecDepth 20000 in
theorem cd_X0_init : (Cond.code yX0_init cX0_init 1 none) ∈ lw_E := List.mem_filter.mpr ⟨List.mem_of_getElem? (i := 247) (by decide +kernel), rfl⟩
set_option maxRecDepth 20000 in
theorem fl_X0_9 : (Cond.fieldLink RX0 9 "VeneerYard$Addresses" "section" "[J") ∈ lw_E := List.mem_filter.mpr ⟨List.mem_of_getElem? (i := 249) (by decide +kernel), rfl⟩
set_option maxRecDepth 20000 in
theorem fn_X4_190 : (Cond.fieldLinkNest RX4 190 "VeneerYard$Addresses" "section" "[J" "VeneerYard") ∈ lw_E := List.mem_filter.mpr ⟨List.mem_of_getElem? (i := 250) (by decide +kernel), rfl⟩
set_option maxRecDepth 20000 in
theorem fn_X8_155 : (Cond.fieldLinkNest RX8 155 "VeneerYard$Addresses" "section" "[J" "VeneerYard") ∈ lw_E := List.mem_filter.mpr ⟨List.mem_of_getElem? (i := 251) (by decide +kernel), rfl⟩
set_option maxRecDepth 20000 in
theorem fl_X0_15 : (Cond.fieldLink RX0 15 "VeneerYard$Addresses" "poolStart" "[J") ∈ lw_E := List.mem_filter.mpr ⟨List.mem_of_getElem? (i := 252) (by decide +kernel), rfl⟩
set_option maxRecDepth 20000 in
theorem fn_X6_76 : (Cond.fieldLinkNest RX6 76 "VeneerYard$Addresses" "poolStart" "[J" "VeneerYard") ∈ lw_E := List.mem_filter.mpr ⟨List.mem_of_getElem? (i := 253) (by decide +kernel), rfl⟩
set_option maxRecDepth 20000 in
theorem fl_X0_18 : (Cond.fieldLink RX0 18 "VeneerYard$Addresses" "poolEnd" "[J") ∈ lw_E := List.mem_filter.mpr ⟨List.mem_of_getElem? (i := 254) (by decide +kernel), rfl⟩
set_option maxRecDepth 20000 in
theorem fn_X4_129 : (Cond.fieldLinkNest RX4 129 "VeneerYard$Addresses" "poolEnd" "[J" "VeneerYard") ∈ lw_E := List.mem_filter.mpr ⟨List.mem_of_getElem? (i := 255) (by decide +kernel), rfl⟩
set_option maxRecDepth 20000 in
theorem fn_X8_175 : (Cond.fieldLinkNest RX8 175 "VeneerYard$Addresses" "poolEnd" "[J" "VeneerYard") ∈ lw_E := List.mem_filter.mpr ⟨List.mem_of_getElem? (i := 256) (by decide +kernel), rfl⟩
set_option maxRecDepth 20000 in
theorem fl_X0_21 : (Cond.fieldLink RX0 21 "VeneerYard$Addresses" "end" "J") ∈ lw_E := List.mem_filter.mpr ⟨List.mem_of_getElem? (i := 257) (by decide +kernel), rfl⟩
set_option maxRecDepth 20000 in
theorem fn_X4_206 : (Cond.fieldLinkNest RX4 206 "VeneerYard$Addresses" "end" "J" "VeneerYard") ∈ lw_E := List.mem_filter.mpr ⟨List.mem_of_getElem? (i := 258) (by decide +kernel), rfl⟩
set_option maxRecDepth 20000 in
theorem ac_long : (Cond.arrayClass .long) ∈ lw_E := List.mem_filter.mpr ⟨List.mem_of_getElem? (i := 268) (by decide +kernel), rfl⟩
set_option maxRecDepth 20000 in
theorem cl_X4_25 : (Cond.classLink RX4 25 RX6) ∈ lw_E := List.mem_filter.mpr ⟨List.mem_of_getElem? (i := 269) (by decide +kernel), rfl⟩
set_option maxRecDepth 20000 in
theorem ins_X6 : (Cond.instantiable RX6 11) ∈ lw_E := List.mem_filter.mpr ⟨List.mem_of_getElem? (i := 270) (by decide +kernel), rfl⟩
set_option maxRecDepth 20000 in
theorem mn_X4_27 : (Cond.methodLinkNest RX4 27 yX6_init "VeneerYard") ∈ lw_E := List.mem_filter.mpr ⟨List.mem_of_getElem? (i := 271) (by decide +kernel), rfl⟩
set_option maxRecDepth 20000 in
theorem im_X6_init : (Cond.instanceMethod yX6_init) ∈ lw_E := List.mem_filter.mpr ⟨List.mem_of_getElem? (i := 272) (by decide +kernel), rfl⟩
set_option maxRecDepth 20000 in
theorem cd_X6_init : (Cond.code yX6_init cX6_init 1 none) ∈ lw_E := List.mem_filter.mpr ⟨List.mem_of_getElem? (i := 273) (by decide +kernel), rfl⟩
set_option maxRecDepth 20000 in
theorem fl_X6_9 : (Cond.fieldLink RX6 9 "VeneerYard$Thunks" "made" "I") ∈ lw_E := List.mem_filter.mpr ⟨List.mem_of_getElem? (i := 275) (by decide +kernel), rfl⟩
set_option maxRecDepth 20000 in
theorem fn_X8_122 : (Cond.fieldLinkNest RX8 122 "VeneerYard$Thunks" "made" "I" "VeneerYard") ∈ lw_E := List.mem_filter.mpr ⟨List.mem_of_getElem? (i := 276) (by decide +kernel), rfl⟩
set_option maxRecDepth 20000 in
theorem fn_X4_217 : (Cond.fieldLinkNest RX4 217 "VeneerYard$Thunks" "made" "I" "VeneerYard") ∈ lw_E := List.mem_filter.mpr ⟨List.mem_of_getElem? (i := 277) (by decide +kernel), rfl⟩
set_option maxRecDepth 20000 in
theorem fl_X6_15 : (Cond.fieldLink RX6 15 "VeneerYard$Thunks" "wanted" "I") ∈ lw_E := List.mem_filter.mpr ⟨List.mem_of_getElem? (i := 278) (by decide +kernel), rfl⟩
set_option maxRecDepth 20000 in
theorem fl_X6_18 : (Cond.fieldLink RX6 18 "VeneerYard$Thunks" "pool" "[I") ∈ lw_E := List.mem_filter.mpr ⟨List.mem_of_getElem? (i := 279) (by decide +kernel), rfl⟩
set_option maxRecDepth 20000 in
theorem fn_X8_184 : (Cond.fieldLinkNest RX8 184 "VeneerYard$Thunks" "pool" "[I" "VeneerYard") ∈ lw_E := List.mem_filter.mpr ⟨List.mem_of_getElem? (i := 280) (by decide +kernel), rfl⟩
set_option maxRecDepth 20000 in
theorem fl_X6_22 : (Cond.fieldLink RX6 22 "VeneerYard$Thunks" "label" "[I") ∈ lw_E := List.mem_filter.mpr ⟨List.mem_of_getElem? (i := 281) (by decide +kernel), rfl⟩
set_option maxRecDepth 20000 in
theorem fn_X4_182 : (Cond.fieldLinkNest RX4 182 "VeneerYard$Thunks" "label" "[I" "VeneerYard") ∈ lw_E := List.mem_filter.mpr ⟨List.mem_of_getElem? (i := 282) (by decide +kernel), rfl⟩
set_option maxRecDepth 20000 in
theorem fn_X8_187 : (Cond.fieldLinkNest RX8 187 "VeneerYard$Thunks" "label" "[I" "VeneerYard") ∈ lw_E := List.mem_filter.mpr ⟨List.mem_of_getElem? (i := 283) (by decide +kernel), rfl⟩
set_option maxRecDepth 20000 in
theorem fl_X6_25 : (Cond.fieldLink RX6 25 "VeneerYard$Thunks" "round" "[I") ∈ lw_E := List.mem_filter.mpr ⟨List.mem_of_getElem? (i := 284) (by decide +kernel), rfl⟩
set_option maxRecDepth 20000 in
theorem fn_X8_188 : (Cond.fieldLinkNest RX8 188 "VeneerYard$Thunks" "round" "[I" "VeneerYard") ∈ lw_E := List.mem_filter.mpr ⟨List.mem_of_getElem? (i := 285) (by decide +kernel), rfl⟩
set_option maxRecDepth 20000 in
theorem fl_X6_28 : (Cond.fieldLink RX6 28 "VeneerYard$Thunks" "wanter" "[I") ∈ lw_E := List.mem_filter.mpr ⟨List.mem_of_getElem? (i := 286) (by decide +kernel), rfl⟩
set_option maxRecDepth 20000 in
theorem fn_X8_191 : (Cond.fieldLinkNest RX8 191 "VeneerYard$Thunks" "wanter" "[I" "VeneerYard") ∈ lw_E := List.mem_filter.mpr ⟨List.mem_of_getElem? (i := 287) (by decide +kernel), rfl⟩
set_option maxRecDepth 20000 in
theorem fl_X6_31 : (Cond.fieldLink RX6 31 "VeneerYard$Thunks" "users" "[I") ∈ lw_E := List.mem_filter.mpr ⟨List.mem_of_getElem? (i := 288) (by decide +kernel), rfl⟩
set_option maxRecDepth 20000 in
theorem fn_X4_187 : (Cond.fieldLinkNest RX4 187 "VeneerYard$Thunks" "users" "[I" "VeneerYard") ∈ lw_E := List.mem_filter.mpr ⟨List.mem_of_getElem? (i := 289) (by decide +kernel), rfl⟩
set_option maxRecDepth 20000 in
theorem fn_X8_194 : (Cond.fieldLinkNest RX8 194 "VeneerYard$Thunks" "users" "[I" "VeneerYard") ∈ lw_E := List.mem_filter.mpr ⟨List.mem_of_getElem? (i := 290) (by decide +kernel), rfl⟩
set_option maxRecDepth 20000 in
theorem fl_X6_34 : (Cond.fieldLink RX6 34 "VeneerYard$Thunks" "rank" "[I") ∈ lw_E := List.mem_filter.mpr ⟨List.mem_of_getElem? (i := 291) (by decide +kernel), rfl⟩
set_option maxRecDepth 20000 in
theorem fn_X8_197 : (Cond.fieldLinkNest RX8 197 "VeneerYard$Thunks" "rank" "[I" "VeneerYard") ∈ lw_E := List.mem_filter.mpr ⟨List.mem_of_getElem? (i := 292) (by decide +kernel), rfl⟩
set_option maxRecDepth 20000 in
theorem fl_X6_37 : (Cond.fieldLink RX6 37 "VeneerYard$Thunks" "place" "[J") ∈ lw_E := List.mem_filter.mpr ⟨List.mem_of_getElem? (i := 293) (by decide +kernel), rfl⟩
set_option maxRecDepth 20000 in
theorem fn_X4_179 : (Cond.fieldLinkNest RX4 179 "VeneerYard$Thunks" "place" "[J" "VeneerYard") ∈ lw_E := List.mem_filter.mpr ⟨List.mem_of_getElem? (i := 294) (by decide +kernel), rfl⟩
set_option maxRecDepth 20000 in
theorem fn_X8_169 : (Cond.fieldLinkNest RX8 169 "VeneerYard$Thunks" "place" "[J" "VeneerYard") ∈ lw_E := List.mem_filter.mpr ⟨List.mem_of_getElem? (i := 295) (by decide +kernel), rfl⟩
set_option maxRecDepth 20000 in
theorem fl_X6_41 : (Cond.fieldLink RX6 41 "VeneerYard$Thunks" "inPool" "[I") ∈ lw_E := List.mem_filter.mpr ⟨List.mem_of_getElem? (i := 296) (by decide +kernel), rfl⟩
set_option maxRecDepth 20000 in
theorem fn_X4_59 : (Cond.fieldLinkNest RX4 59 "VeneerYard$Thunks" "inPool" "[I" "VeneerYard") ∈ lw_E := List.mem_filter.mpr ⟨List.mem_of_getElem? (i := 297) (by decide +kernel), rfl⟩
set_option maxRecDepth 20000 in
theorem fl_X6_44 : (Cond.fieldLink RX6 44 "VeneerYard$Thunks" "numbers" "[I") ∈ lw_E := List.mem_filter.mpr ⟨List.mem_of_getElem? (i := 298) (by decide +kernel), rfl⟩
set_option maxRecDepth 20000 in
theorem fl_X4_12 : (Cond.fieldLink RX4 12 "VeneerYard$Layout" "told" "LVeneerYard$Told;") ∈ lw_E := List.mem_filter.mpr ⟨List.mem_of_getElem? (i := 322) (by decide +kernel), rfl⟩
set_option maxRecDepth 20000 in
theorem fn_X8_151 : (Cond.fieldLinkNest RX8 151 "VeneerYard$Layout" "told" "LVeneerYard$Told;" "VeneerYard") ∈ lw_E := List.mem_filter.mpr ⟨List.mem_of_getElem? (i := 323) (by decide +kernel), rfl⟩
set_option maxRecDepth 20000 in
theorem fl_X4_21 : (Cond.fieldLink RX4 21 "VeneerYard$Layout" "addresses" "LVeneerYard$Addresses;") ∈ lw_E := List.mem_filter.mpr ⟨List.mem_of_getElem? (i := 324) (by decide +kernel), rfl⟩
set_option maxRecDepth 20000 in
theorem fn_X8_152 : (Cond.fieldLinkNest RX8 152 "VeneerYard$Layout" "addresses" "LVeneerYard$Addresses;" "VeneerYard") ∈ lw_E := List.mem_filter.mpr ⟨List.mem_of_getElem? (i := 325) (by decide +kernel), rfl⟩
set_option maxRecDepth 20000 in
theorem fl_X4_28 : (Cond.fieldLink RX4 28 "VeneerYard$Layout" "thunks" "LVeneerYard$Thunks;") ∈ lw_E := List.mem_filter.mpr ⟨List.mem_of_getElem? (i := 326) (by decide +kernel), rfl⟩
set_option maxRecDepth 20000 in
theorem fn_X8_118 : (Cond.fieldLinkNest RX8 118 "VeneerYard$Layout" "thunks" "LVeneerYard$Thunks;" "VeneerYard") ∈ lw_E := List.mem_filter.mpr ⟨List.mem_of_getElem? (i := 327) (by decide +kernel), rfl⟩
set_option maxRecDepth 20000 in
theorem fl_X4_32 : (Cond.fieldLink RX4 32 "VeneerYard$Layout" "way" "[I") ∈ lw_E := List.mem_filter.mpr ⟨List.mem_of_getElem? (i := 328) (by decide +kernel), rfl⟩
set_option maxRecDepth 20000 in
theorem fn_X8_178 : (Cond.fieldLinkNest RX8 178 "VeneerYard$Layout" "way" "[I" "VeneerYard") ∈ lw_E := List.mem_filter.mpr ⟨List.mem_of_getElem? (i := 329) (by decide +kernel), rfl⟩
set_option maxRecDepth 20000 in
theorem fl_X4_36 : (Cond.fieldLink RX4 36 "VeneerYard$Layout" "byThunk" "[I") ∈ lw_E := List.mem_filter.mpr ⟨List.mem_of_getElem? (i := 330) (by decide +kernel), rfl⟩
set_option maxRecDepth 20000 in
theorem fn_X8_181 : (Cond.fieldLinkNest RX8 181 "VeneerYard$Layout" "byThunk" "[I" "VeneerYard") ∈ lw_E := List.mem_filter.mpr ⟨List.mem_of_getElem? (i := 331) (by decide +kernel), rfl⟩
set_option maxRecDepth 20000 in
theorem fl_X4_39 : (Cond.fieldLink RX4 39 "VeneerYard$Layout" "rounds" "I") ∈ lw_E := List.mem_filter.mpr ⟨List.mem_of_getElem? (i := 332) (by decide +kernel), rfl⟩
set_option maxRecDepth 20000 in
theorem fn_X8_115 : (Cond.fieldLinkNest RX8 115 "VeneerYard$Layout" "rounds" "I" "VeneerYard") ∈ lw_E := List.mem_filter.mpr ⟨List.mem_of_getElem? (i := 333) (by decide +kernel), rfl⟩
set_option maxRecDepth 20000 in
theorem fl_X4_43 : (Cond.fieldLink RX4 43 "VeneerYard$Layout" "direct" "I") ∈ lw_E := List.mem_filter.mpr ⟨List.mem_of_getElem? (i := 334) (by decide +kernel), rfl⟩
set_option maxRecDepth 20000 in
theorem fn_X8_127 : (Cond.fieldLinkNest RX8 127 "VeneerYard$Layout" "direct" "I" "VeneerYard") ∈ lw_E := List.mem_filter.mpr ⟨List.mem_of_getElem? (i := 335) (by decide +kernel), rfl⟩
set_option maxRecDepth 20000 in
theorem fl_X4_46 : (Cond.fieldLink RX4 46 "VeneerYard$Layout" "throughThunks" "I") ∈ lw_E := List.mem_filter.mpr ⟨List.mem_of_getElem? (i := 336) (by decide +kernel), rfl⟩
set_option maxRecDepth 20000 in
theorem fn_X8_130 : (Cond.fieldLinkNest RX8 130 "VeneerYard$Layout" "throughThunks" "I" "VeneerYard") ∈ lw_E := List.mem_filter.mpr ⟨List.mem_of_getElem? (i := 337) (by decide +kernel), rfl⟩
set_option maxRecDepth 20000 in
theorem fl_X4_49 : (Cond.fieldLink RX4 49 "VeneerYard$Layout" "refused" "I") ∈ lw_E := List.mem_filter.mpr ⟨List.mem_of_getElem? (i := 338) (by decide +kernel), rfl⟩
set_option maxRecDepth 20000 in
theorem fn_X8_112 : (Cond.fieldLinkNest RX8 112 "VeneerYard$Layout" "refused" "I" "VeneerYard") ∈ lw_E := List.mem_filter.mpr ⟨List.mem_of_getElem? (i := 339) (by decide +kernel), rfl⟩
set_option maxRecDepth 20000 in
theorem cl_X8_23 : (Cond.classLink RX8 23 RX0) ∈ lw_E := List.mem_filter.mpr ⟨List.mem_of_getElem? (i := 359) (by decide +kernel), rfl⟩
set_option maxRecDepth 20000 in
theorem mn_X8_25 : (Cond.methodLinkNest RX8 25 yX0_init "VeneerYard") ∈ lw_E := List.mem_filter.mpr ⟨List.mem_of_getElem? (i := 360) (by decide +kernel), rfl⟩
set_option maxRecDepth 20000 in
theorem fl_X8_12 : (Cond.fieldLink RX8 12 "VeneerYard" "told" "LVeneerYard$Told;") ∈ lw_E := List.mem_filter.mpr ⟨List.mem_of_getElem? (i := 361) (by decide +kernel), rfl⟩
set_option maxRecDepth 20000 in
theorem fl_X8_19 : (Cond.fieldLink RX8 19 "VeneerYard" "laid" "LVeneerYard$Layout;") ∈ lw_E := List.mem_filter.mpr ⟨List.mem_of_getElem? (i := 362) (by decide +kernel), rfl⟩
set_option maxRecDepth 20000 in
theorem fl_X8_26 : (Cond.fieldLink RX8 26 "VeneerYard" "plain" "LVeneerYard$Addresses;") ∈ lw_E := List.mem_filter.mpr ⟨List.mem_of_getElem? (i := 363) (by decide +kernel), rfl⟩
set_option maxRecDepth 20000 in
theorem fl_X8_30 : (Cond.fieldLink RX8 30 "VeneerYard" "noThunks" "[I") ∈ lw_E := List.mem_filter.mpr ⟨List.mem_of_getElem? (i := 364) (by decide +kernel), rfl⟩
set_option maxRecDepth 20000 in
theorem fl_X8_34 : (Cond.fieldLink RX8 34 "VeneerYard" "toldSinceLay" "Z") ∈ lw_E := List.mem_filter.mpr ⟨List.mem_of_getElem? (i := 365) (by decide +kernel), rfl⟩
set_option maxRecDepth 20000 in
theorem ml_L_13 : (Cond.methodLink RL 13 yX8_section) ∈ lw_E := List.mem_filter.mpr ⟨List.mem_of_getElem? (i := 377) (by decide +kernel), rfl⟩
set_option maxRecDepth 20000 in
theorem im_X8_section : (Cond.instanceMethod yX8_section) ∈ lw_E := List.mem_filter.mpr ⟨List.mem_of_getElem? (i := 378) (by decide +kernel), rfl⟩
set_option maxRecDepth 20000 in
theorem se_X8_section : (Cond.selects RX8 yX8_section yX8_section) ∈ lw_E := List.mem_filter.mpr ⟨List.mem_of_getElem? (i := 379) (by decide +kernel), rfl⟩
set_option maxRecDepth 20000 in
theorem cd_X8_section : (Cond.code yX8_section cX8_section 4 (some .int)) ∈ lw_E := List.mem_filter.mpr ⟨List.mem_of_getElem? (i := 380) (by decide +kernel), rfl⟩
set_option maxRecDepth 20000 in
theorem mn_X8_42 : (Cond.methodLinkNest RX8 42 yX5_append "VeneerYard") ∈ lw_E := List.mem_filter.mpr ⟨List.mem_of_getElem? (i := 381) (by decide +kernel), rfl⟩
set_option maxRecDepth 20000 in
theorem im_X5_append : (Cond.instanceMethod yX5_append) ∈ lw_E := List.mem_filter.mpr ⟨List.mem_of_getElem? (i := 383) (by decide +kernel), rfl⟩
set_option maxRecDepth 20000 in
theorem cd_X5_append : (Cond.code yX5_append cX5_append 5 (some .int)) ∈ lw_E := List.mem_filter.mpr ⟨List.mem_of_getElem? (i := 384) (by decide +kernel), rfl⟩
set_option maxRecDepth 20000 in
theorem ml_X5_34 : (Cond.methodLink RX5 34 yX5_isSize) ∈ lw_E := List.mem_filter.mpr ⟨List.mem_of_getElem? (i := 385) (by decide +kernel), rfl⟩
set_option maxRecDepth 20000 in
theorem sc_X5_isSize : (Cond.static yX5_isSize) ∈ lw_E := List.mem_filter.mpr ⟨List.mem_of_getElem? (i := 386) (by decide +kernel), rfl⟩
set_option maxRecDepth 20000 in
theorem cd_X5_isSize : (Cond.code yX5_isSize cX5_isSize 1 (some .boolean)) ∈ lw_E := List.mem_filter.mpr ⟨List.mem_of_getElem? (i := 387) (by decide +kernel), rfl⟩
set_option maxRecDepth 20000 in
theorem kc_X5_33 : (Cond.constant RX5 33 (1000000)) ∈ lw_E := List.mem_filter.mpr ⟨List.mem_of_getElem? (i := 388) (by decide +kernel), rfl⟩
set_option maxRecDepth 20000 in
theorem ml_X8_48 : (Cond.methodLink RX8 48 yX8_notedNumber) ∈ lw_E := List.mem_filter.mpr ⟨List.mem_of_getElem? (i := 389) (by decide +kernel), rfl⟩
set_option maxRecDepth 20000 in
theorem im_X8_notedNumber : (Cond.instanceMethod yX8_notedNumber) ∈ lw_E := List.mem_filter.mpr ⟨List.mem_of_getElem? (i := 391) (by decide +kernel), rfl⟩
set_option maxRecDepth 20000 in
theorem cd_X8_notedNumber : (Cond.code yX8_notedNumber cX8_notedNumber 2 (some .int)) ∈ lw_E := List.mem_filter.mpr ⟨List.mem_of_getElem? (i := 392) (by decide +kernel), rfl⟩
set_option maxRecDepth 20000 in
theorem ml_X8_78 : (Cond.methodLink RX8 78 yX8_noted) ∈ lw_E := List.mem_filter.mpr ⟨List.mem_of_getElem? (i := 393) (by decide +kernel), rfl⟩
set_option maxRecDepth 20000 in
theorem im_X8_noted : (Cond.instanceMethod yX8_noted) ∈ lw_E := List.mem_filter.mpr ⟨List.mem_of_getElem? (i := 395) (by decide +kernel), rfl⟩
set_option maxRecDepth 20000 in
theorem cd_X8_noted : (Cond.code yX8_noted cX8_noted 2 (some .boolean)) ∈ lw_E := List.mem_filter.mpr ⟨List.mem_of_getElem? (i := 396) (by decide +kernel), rfl⟩
set_option maxRecDepth 20000 in
theorem ml_L_18 : (Cond.methodLink RL 18 yX8_label) ∈ lw_E := List.mem_filter.mpr ⟨List.mem_of_getElem? (i := 397) (by decide +kernel), rfl⟩
set_option maxRecDepth 20000 in
theorem im_X8_label : (Cond.instanceMethod yX8_label) ∈ lw_E := List.mem_filter.mpr ⟨List.mem_of_getElem? (i := 398) (by decide +kernel), rfl⟩
set_option maxRecDepth 20000 in
theorem se_X8_label : (Cond.selects RX8 yX8_label yX8_label) ∈ lw_E := List.mem_filter.mpr ⟨List.mem_of_getElem? (i := 399) (by decide +kernel), rfl⟩
set_option maxRecDepth 20000 in
theorem cd_X8_label : (Cond.code yX8_label cX8_label 3 (some .int)) ∈ lw_E := List.mem_filter.mpr ⟨List.mem_of_getElem? (i := 400) (by decide +kernel), rfl⟩
set_option maxRecDepth 20000 in
theorem mn_X8_52 : (Cond.methodLinkNest RX8 52 yX5_has "VeneerYard") ∈ lw_E := List.mem_filter.mpr ⟨List.mem_of_getElem? (i := 401) (by decide +kernel), rfl⟩
set_option maxRecDepth 20000 in
theorem im_X5_has : (Cond.instanceMethod yX5_has) ∈ lw_E := List.mem_filter.mpr ⟨List.mem_of_getElem? (i := 403) (by decide +kernel), rfl⟩
set_option maxRecDepth 20000 in
theorem cd_X5_has : (Cond.code yX5_has cX5_has 2 (some .boolean)) ∈ lw_E := List.mem_filter.mpr ⟨List.mem_of_getElem? (i := 404) (by decide +kernel), rfl⟩
set_option maxRecDepth 20000 in
theorem mn_X8_63 : (Cond.methodLinkNest RX8 63 yX3_append "VeneerYard") ∈ lw_E := List.mem_filter.mpr ⟨List.mem_of_getElem? (i := 405) (by decide +kernel), rfl⟩
set_option maxRecDepth 20000 in
theorem im_X3_append : (Cond.instanceMethod yX3_append) ∈ lw_E := List.mem_filter.mpr ⟨List.mem_of_getElem? (i := 407) (by decide +kernel), rfl⟩
set_option maxRecDepth 20000 in
theorem cd_X3_append : (Cond.code yX3_append cX3_append 4 (some .int)) ∈ lw_E := List.mem_filter.mpr ⟨List.mem_of_getElem? (i := 408) (by decide +kernel), rfl⟩
set_option maxRecDepth 20000 in
theorem ml_L_23 : (Cond.methodLink RL 23 yX8_kind) ∈ lw_E := List.mem_filter.mpr ⟨List.mem_of_getElem? (i := 409) (by decide +kernel), rfl⟩
set_option maxRecDepth 20000 in
theorem im_X8_kind : (Cond.instanceMethod yX8_kind) ∈ lw_E := List.mem_filter.mpr ⟨List.mem_of_getElem? (i := 410) (by decide +kernel), rfl⟩
set_option maxRecDepth 20000 in
theorem se_X8_kind : (Cond.selects RX8 yX8_kind yX8_kind) ∈ lw_E := List.mem_filter.mpr ⟨List.mem_of_getElem? (i := 411) (by decide +kernel), rfl⟩
set_option maxRecDepth 20000 in
theorem cd_X8_kind : (Cond.code yX8_kind cX8_kind 4 (some .boolean)) ∈ lw_E := List.mem_filter.mpr ⟨List.mem_of_getElem? (i := 412) (by decide +kernel), rfl⟩
set_option maxRecDepth 20000 in
theorem mn_X8_72 : (Cond.methodLinkNest RX8 72 yX2_tell "VeneerYard") ∈ lw_E := List.mem_filter.mpr ⟨List.mem_of_getElem? (i := 413) (by decide +kernel), rfl⟩
set_option maxRecDepth 20000 in
theorem im_X2_tell : (Cond.instanceMethod yX2_tell) ∈ lw_E := List.mem_filter.mpr ⟨List.mem_of_getElem? (i := 415) (by decide +kernel), rfl⟩
set_option maxRecDepth 20000 in
theorem cd_X2_tell : (Cond.code yX2_tell cX2_tell 5 (some .boolean)) ∈ lw_E := List.mem_filter.mpr ⟨List.mem_of_getElem? (i := 416) (by decide +kernel), rfl⟩
set_option maxRecDepth 20000 in
theorem ml_X2_18 : (Cond.methodLink RX2 18 yX2_powerOf) ∈ lw_E := List.mem_filter.mpr ⟨List.mem_of_getElem? (i := 417) (by decide +kernel), rfl⟩
set_option maxRecDepth 20000 in
theorem sc_X2_powerOf : (Cond.static yX2_powerOf) ∈ lw_E := List.mem_filter.mpr ⟨List.mem_of_getElem? (i := 418) (by decide +kernel), rfl⟩
set_option maxRecDepth 20000 in
theorem cd_X2_powerOf : (Cond.code yX2_powerOf cX2_powerOf 1 (some .int)) ∈ lw_E := List.mem_filter.mpr ⟨List.mem_of_getElem? (i := 419) (by decide +kernel), rfl⟩
set_option maxRecDepth 20000 in
theorem ml_L_28 : (Cond.methodLink RL 28 yX8_branch) ∈ lw_E := List.mem_filter.mpr ⟨List.mem_of_getElem? (i := 420) (by decide +kernel), rfl⟩
set_option maxRecDepth 20000 in
theorem im_X8_branch : (Cond.instanceMethod yX8_branch) ∈ lw_E := List.mem_filter.mpr ⟨List.mem_of_getElem? (i := 421) (by decide +kernel), rfl⟩
set_option maxRecDepth 20000 in
theorem se_X8_branch : (Cond.selects RX8 yX8_branch yX8_branch) ∈ lw_E := List.mem_filter.mpr ⟨List.mem_of_getElem? (i := 422) (by decide +kernel), rfl⟩
set_option maxRecDepth 20000 in
theorem cd_X8_branch : (Cond.code yX8_branch cX8_branch 5 (some .int)) ∈ lw_E := List.mem_filter.mpr ⟨List.mem_of_getElem? (i := 423) (by decide +kernel), rfl⟩
set_option maxRecDepth 20000 in
theorem mn_X8_82 : (Cond.methodLinkNest RX8 82 yX2_has "VeneerYard") ∈ lw_E := List.mem_filter.mpr ⟨List.mem_of_getElem? (i := 424) (by decide +kernel), rfl⟩
set_option maxRecDepth 20000 in
theorem im_X2_has : (Cond.instanceMethod yX2_has) ∈ lw_E := List.mem_filter.mpr ⟨List.mem_of_getElem? (i := 426) (by decide +kernel), rfl⟩
set_option maxRecDepth 20000 in
theorem cd_X2_has : (Cond.code yX2_has cX2_has 2 (some .boolean)) ∈ lw_E := List.mem_filter.mpr ⟨List.mem_of_getElem? (i := 427) (by decide +kernel), rfl⟩
set_option maxRecDepth 20000 in
theorem mn_X8_83 : (Cond.methodLinkNest RX8 83 yX3_has "VeneerYard") ∈ lw_E := List.mem_filter.mpr ⟨List.mem_of_getElem? (i := 428) (by decide +kernel), rfl⟩
set_option maxRecDepth 20000 in
theorem im_X3_has : (Cond.instanceMethod yX3_has) ∈ lw_E := List.mem_filter.mpr ⟨List.mem_of_getElem? (i := 430) (by decide +kernel), rfl⟩
set_option maxRecDepth 20000 in
theorem cd_X3_has : (Cond.code yX3_has cX3_has 2 (some .boolean)) ∈ lw_E := List.mem_filter.mpr ⟨List.mem_of_getElem? (i := 431) (by decide +kernel), rfl⟩
set_option maxRecDepth 20000 in
theorem mn_X8_88 : (Cond.methodLinkNest RX8 88 yX1_append "VeneerYard") ∈ lw_E := List.mem_filter.mpr ⟨List.mem_of_getElem? (i := 432) (by decide +kernel), rfl⟩
set_option maxRecDepth 20000 in
theorem im_X1_append : (Cond.instanceMethod yX1_append) ∈ lw_E := List.mem_filter.mpr ⟨List.mem_of_getElem? (i := 434) (by decide +kernel), rfl⟩
set_option maxRecDepth 20000 in
theorem cd_X1_append : (Cond.code yX1_append cX1_append 6 (some .int)) ∈ lw_E := List.mem_filter.mpr ⟨List.mem_of_getElem? (i := 435) (by decide +kernel), rfl⟩
set_option maxRecDepth 20000 in
theorem ml_L_33 : (Cond.methodLink RL 33 yX8_thunks) ∈ lw_E := List.mem_filter.mpr ⟨List.mem_of_getElem? (i := 436) (by decide +kernel), rfl⟩
set_option maxRecDepth 20000 in
theorem im_X8_thunks : (Cond.instanceMethod yX8_thunks) ∈ lw_E := List.mem_filter.mpr ⟨List.mem_of_getElem? (i := 437) (by decide +kernel), rfl⟩
set_option maxRecDepth 20000 in
theorem se_X8_thunks : (Cond.selects RX8 yX8_thunks yX8_thunks) ∈ lw_E := List.mem_filter.mpr ⟨List.mem_of_getElem? (i := 438) (by decide +kernel), rfl⟩
set_option maxRecDepth 20000 in
theorem cd_X8_thunks : (Cond.code yX8_thunks cX8_thunks 4 (some .boolean)) ∈ lw_E := List.mem_filter.mpr ⟨List.mem_of_getElem? (i := 439) (by decide +kernel), rfl⟩
set_option maxRecDepth 20000 in
theorem mn_X8_93 : (Cond.methodLinkNest RX8 93 yX7_tellThunks "VeneerYard") ∈ lw_E := List.mem_filter.mpr ⟨List.mem_of_getElem? (i := 440) (by decide +kernel), rfl⟩
set_option maxRecDepth 20000 in
theorem im_X7_tellThunks : (Cond.instanceMethod yX7_tellThunks) ∈ lw_E := List.mem_filter.mpr ⟨List.mem_of_getElem? (i := 442) (by decide +kernel), rfl⟩
set_option maxRecDepth 20000 in
theorem cd_X7_tellThunks : (Cond.code yX7_tellThunks cX7_tellThunks 4 (some .boolean)) ∈ lw_E := List.mem_filter.mpr ⟨List.mem_of_getElem? (i := 443) (by decide +kernel), rfl⟩
set_option maxRecDepth 20000 in
theorem mn_X7_52 : (Cond.methodLinkNest RX7 52 yX2_has "VeneerYard") ∈ lw_E := List.mem_filter.mpr ⟨List.mem_of_getElem? (i := 444) (by decide +kernel), rfl⟩
set_option maxRecDepth 20000 in
theorem ml_L_37 : (Cond.methodLink RL 37 yX8_base) ∈ lw_E := List.mem_filter.mpr ⟨List.mem_of_getElem? (i := 445) (by decide +kernel), rfl⟩
set_option maxRecDepth 20000 in
theorem im_X8_base : (Cond.instanceMethod yX8_base) ∈ lw_E := List.mem_filter.mpr ⟨List.mem_of_getElem? (i := 446) (by decide +kernel), rfl⟩
set_option maxRecDepth 20000 in
theorem se_X8_base : (Cond.selects RX8 yX8_base yX8_base) ∈ lw_E := List.mem_filter.mpr ⟨List.mem_of_getElem? (i := 447) (by decide +kernel), rfl⟩
set_option maxRecDepth 20000 in
theorem cd_X8_base : (Cond.code yX8_base cX8_base 2 (some .boolean)) ∈ lw_E := List.mem_filter.mpr ⟨List.mem_of_getElem? (i := 448) (by decide +kernel), rfl⟩
set_option maxRecDepth 20000 in
theorem ml_L_42 : (Cond.methodLink RL 42 yX8_resize) ∈ lw_E := List.mem_filter.mpr ⟨List.mem_of_getElem? (i := 449) (by decide +kernel), rfl⟩
set_option maxRecDepth 20000 in
theorem im_X8_resize : (Cond.instanceMethod yX8_resize) ∈ lw_E := List.mem_filter.mpr ⟨List.mem_of_getElem? (i := 450) (by decide +kernel), rfl⟩
set_option maxRecDepth 20000 in
theorem se_X8_resize : (Cond.selects RX8 yX8_resize yX8_resize) ∈ lw_E := List.mem_filter.mpr ⟨List.mem_of_getElem? (i := 451) (by decide +kernel), rfl⟩
set_option maxRecDepth 20000 in
theorem cd_X8_resize : (Cond.code yX8_resize cX8_resize 3 (some .boolean)) ∈ lw_E := List.mem_filter.mpr ⟨List.mem_of_getElem? (i := 452) (by decide +kernel), rfl⟩
set_option maxRecDepth 20000 in
theorem mn_X8_100 : (Cond.methodLinkNest RX8 100 yX7_changeSize "VeneerYard") ∈ lw_E := List.mem_filter.mpr ⟨List.mem_of_getElem? (i := 453) (by decide +kernel), rfl⟩
set_option maxRecDepth 20000 in
theorem im_X7_changeSize : (Cond.instanceMethod yX7_changeSize) ∈ lw_E := List.mem_filter.mpr ⟨List.mem_of_getElem? (i := 455) (by decide +kernel), rfl⟩
set_option maxRecDepth 20000 in
theorem cd_X7_changeSize : (Cond.code yX7_changeSize cX7_changeSize 3 (some .boolean)) ∈ lw_E := List.mem_filter.mpr ⟨List.mem_of_getElem? (i := 456) (by decide +kernel), rfl⟩
set_option maxRecDepth 20000 in
theorem mn_X7_56 : (Cond.methodLinkNest RX7 56 yX5_has "VeneerYard") ∈ lw_E := List.mem_filter.mpr ⟨List.mem_of_getElem? (i := 457) (by decide +kernel), rfl⟩
set_option maxRecDepth 20000 in
theorem mn_X7_57 : (Cond.methodLinkNest RX7 57 yX5_isSize "VeneerYard") ∈ lw_E := List.mem_filter.mpr ⟨List.mem_of_getElem? (i := 458) (by decide +kernel), rfl⟩
set_option maxRecDepth 20000 in
theorem mn_X7_60 : (Cond.methodLinkNest RX7 60 yX3_highestIn "VeneerYard") ∈ lw_E := List.mem_filter.mpr ⟨List.mem_of_getElem? (i := 459) (by decide +kernel), rfl⟩
set_option maxRecDepth 20000 in
theorem im_X3_highestIn : (Cond.instanceMethod yX3_highestIn) ∈ lw_E := List.mem_filter.mpr ⟨List.mem_of_getElem? (i := 461) (by decide +kernel), rfl⟩
set_option maxRecDepth 20000 in
theorem cd_X3_highestIn : (Cond.code yX3_highestIn cX3_highestIn 4 (some .int)) ∈ lw_E := List.mem_filter.mpr ⟨List.mem_of_getElem? (i := 462) (by decide +kernel), rfl⟩
set_option maxRecDepth 20000 in
theorem ml_X3_22 : (Cond.methodLink RX3 22 yJ9_max_7cf53) ∈ lw_E := List.mem_filter.mpr ⟨List.mem_of_getElem? (i := 463) (by decide +kernel), rfl⟩
set_option maxRecDepth 20000 in
theorem sc_J9_max_7cf53 : (Cond.static yJ9_max_7cf53) ∈ lw_E := List.mem_filter.mpr ⟨List.mem_of_getElem? (i := 464) (by decide +kernel), rfl⟩
set_option maxRecDepth 20000 in
theorem cd_J9_max_7cf53 : (Cond.code yJ9_max_7cf53 cJ9_max_7cf53 2 (some .int)) ∈ lw_E := List.mem_filter.mpr ⟨List.mem_of_getElem? (i := 465) (by decide +kernel), rfl⟩
set_option maxRecDepth 20000 in
theorem mn_X7_64 : (Cond.methodLinkNest RX7 64 yX1_highestIn "VeneerYard") ∈ lw_E := List.mem_filter.mpr ⟨List.mem_of_getElem? (i := 466) (by decide +kernel), rfl⟩
set_option maxRecDepth 20000 in
theorem im_X1_highestIn : (Cond.instanceMethod yX1_highestIn) ∈ lw_E := List.mem_filter.mpr ⟨List.mem_of_getElem? (i := 468) (by decide +kernel), rfl⟩
set_option maxRecDepth 20000 in
theorem cd_X1_highestIn : (Cond.code yX1_highestIn cX1_highestIn 4 (some .int)) ∈ lw_E := List.mem_filter.mpr ⟨List.mem_of_getElem? (i := 469) (by decide +kernel), rfl⟩
set_option maxRecDepth 20000 in
theorem ml_X1_28 : (Cond.methodLink RX1 28 yJ9_max_7cf53) ∈ lw_E := List.mem_filter.mpr ⟨List.mem_of_getElem? (i := 470) (by decide +kernel), rfl⟩
set_option maxRecDepth 20000 in
theorem ml_L_47 : (Cond.methodLink RL 47 yX8_retarget) ∈ lw_E := List.mem_filter.mpr ⟨List.mem_of_getElem? (i := 471) (by decide +kernel), rfl⟩
set_option maxRecDepth 20000 in
theorem im_X8_retarget : (Cond.instanceMethod yX8_retarget) ∈ lw_E := List.mem_filter.mpr ⟨List.mem_of_getElem? (i := 472) (by decide +kernel), rfl⟩
set_option maxRecDepth 20000 in
theorem se_X8_retarget : (Cond.selects RX8 yX8_retarget yX8_retarget) ∈ lw_E := List.mem_filter.mpr ⟨List.mem_of_getElem? (i := 473) (by decide +kernel), rfl⟩
set_option maxRecDepth 20000 in
theorem cd_X8_retarget : (Cond.code yX8_retarget cX8_retarget 3 (some .boolean)) ∈ lw_E := List.mem_filter.mpr ⟨List.mem_of_getElem? (i := 474) (by decide +kernel), rfl⟩
set_option maxRecDepth 20000 in
theorem mn_X8_104 : (Cond.methodLinkNest RX8 104 yX1_has "VeneerYard") ∈ lw_E := List.mem_filter.mpr ⟨List.mem_of_getElem? (i := 475) (by decide +kernel), rfl⟩
set_option maxRecDepth 20000 in
theorem im_X1_has : (Cond.instanceMethod yX1_has) ∈ lw_E := List.mem_filter.mpr ⟨List.mem_of_getElem? (i := 477) (by decide +kernel), rfl⟩
set_option maxRecDepth 20000 in
theorem cd_X1_has : (Cond.code yX1_has cX1_has 2 (some .boolean)) ∈ lw_E := List.mem_filter.mpr ⟨List.mem_of_getElem? (i := 478) (by decide +kernel), rfl⟩
set_option maxRecDepth 20000 in
theorem ml_L_51 : (Cond.methodLink RL 51 yX8_lay) ∈ lw_E := List.mem_filter.mpr ⟨List.mem_of_getElem? (i := 479) (by decide +kernel), rfl⟩
set_option maxRecDepth 20000 in
theorem im_X8_lay : (Cond.instanceMethod yX8_lay) ∈ lw_E := List.mem_filter.mpr ⟨List.mem_of_getElem? (i := 480) (by decide +kernel), rfl⟩
set_option maxRecDepth 20000 in
theorem se_X8_lay : (Cond.selects RX8 yX8_lay yX8_lay) ∈ lw_E := List.mem_filter.mpr ⟨List.mem_of_getElem? (i := 481) (by decide +kernel), rfl⟩
set_option maxRecDepth 20000 in
theorem cd_X8_lay : (Cond.code yX8_lay cX8_lay 1 (some .int)) ∈ lw_E := List.mem_filter.mpr ⟨List.mem_of_getElem? (i := 482) (by decide +kernel), rfl⟩
set_option maxRecDepth 20000 in
theorem mn_X8_108 : (Cond.methodLinkNest RX8 108 yX4_layOut "VeneerYard") ∈ lw_E := List.mem_filter.mpr ⟨List.mem_of_getElem? (i := 483) (by decide +kernel), rfl⟩
set_option maxRecDepth 20000 in
theorem im_X4_layOut : (Cond.instanceMethod yX4_layOut) ∈ lw_E := List.mem_filter.mpr ⟨List.mem_of_getElem? (i := 485) (by decide +kernel), rfl⟩
set_option maxRecDepth 20000 in
theorem cd_X4_layOut : (Cond.code yX4_layOut cX4_layOut 3 none) ∈ lw_E := List.mem_filter.mpr ⟨List.mem_of_getElem? (i := 486) (by decide +kernel), rfl⟩
set_option maxRecDepth 20000 in
theorem mn_X4_52 : (Cond.methodLinkNest RX4 52 yX7_copyFrom "VeneerYard") ∈ lw_E := List.mem_filter.mpr ⟨List.mem_of_getElem? (i := 487) (by decide +kernel), rfl⟩
set_option maxRecDepth 20000 in
theorem im_X7_copyFrom : (Cond.instanceMethod yX7_copyFrom) ∈ lw_E := List.mem_filter.mpr ⟨List.mem_of_getElem? (i := 489) (by decide +kernel), rfl⟩
set_option maxRecDepth 20000 in
theorem cd_X7_copyFrom : (Cond.code yX7_copyFrom cX7_copyFrom 2 none) ∈ lw_E := List.mem_filter.mpr ⟨List.mem_of_getElem? (i := 490) (by decide +kernel), rfl⟩
set_option maxRecDepth 20000 in
theorem mn_X7_73 : (Cond.methodLinkNest RX7 73 yX5_copyFrom "VeneerYard") ∈ lw_E := List.mem_filter.mpr ⟨List.mem_of_getElem? (i := 491) (by decide +kernel), rfl⟩
set_option maxRecDepth 20000 in
theorem im_X5_copyFrom : (Cond.instanceMethod yX5_copyFrom) ∈ lw_E := List.mem_filter.mpr ⟨List.mem_of_getElem? (i := 493) (by decide +kernel), rfl⟩
set_option maxRecDepth 20000 in
theorem cd_X5_copyFrom : (Cond.code yX5_copyFrom cX5_copyFrom 3 none) ∈ lw_E := List.mem_filter.mpr ⟨List.mem_of_getElem? (i := 494) (by decide +kernel), rfl⟩
set_option maxRecDepth 20000 in
theorem mn_X7_77 : (Cond.methodLinkNest RX7 77 yX3_copyFrom "VeneerYard") ∈ lw_E := List.mem_filter.mpr ⟨List.mem_of_getElem? (i := 495) (by decide +kernel), rfl⟩
set_option maxRecDepth 20000 in
theorem im_X3_copyFrom : (Cond.instanceMethod yX3_copyFrom) ∈ lw_E := List.mem_filter.mpr ⟨List.mem_of_getElem? (i := 497) (by decide +kernel), rfl⟩
set_option maxRecDepth 20000 in
theorem cd_X3_copyFrom : (Cond.code yX3_copyFrom cX3_copyFrom 2 none) ∈ lw_E := List.mem_filter.mpr ⟨List.mem_of_getElem? (i := 498) (by decide +kernel), rfl⟩
set_option maxRecDepth 20000 in
theorem ml_X3_28 : (Cond.methodLink RX3 28 arraycopyName) ∈ lw_E := List.mem_filter.mpr ⟨List.mem_of_getElem? (i := 499) (by decide +kernel), rfl⟩
set_option maxRecDepth 20000 in
theorem sc_J10_arraycopy : (Cond.static arraycopyName) ∈ lw_E := List.mem_filter.mpr ⟨List.mem_of_getElem? (i := 500) (by decide +kernel), rfl⟩
set_option maxRecDepth 20000 in
theorem nt_J10_arraycopy : (Cond.native arraycopyName) ∈ lw_E := List.mem_filter.mpr ⟨List.mem_of_getElem? (i := 501) (by decide +kernel), rfl⟩
set_option maxRecDepth 20000 in
theorem mn_X7_80 : (Cond.methodLinkNest RX7 80 yX2_copyFrom "VeneerYard") ∈ lw_E := List.mem_filter.mpr ⟨List.mem_of_getElem? (i := 502) (by decide +kernel), rfl⟩
set_option maxRecDepth 20000 in
theorem im_X2_copyFrom : (Cond.instanceMethod yX2_copyFrom) ∈ lw_E := List.mem_filter.mpr ⟨List.mem_of_getElem? (i := 504) (by decide +kernel), rfl⟩
set_option maxRecDepth 20000 in
theorem cd_X2_copyFrom : (Cond.code yX2_copyFrom cX2_copyFrom 2 none) ∈ lw_E := List.mem_filter.mpr ⟨List.mem_of_getElem? (i := 505) (by decide +kernel), rfl⟩
set_option maxRecDepth 20000 in
theorem ml_X2_34 : (Cond.methodLink RX2 34 arraycopyName) ∈ lw_E := List.mem_filter.mpr ⟨List.mem_of_getElem? (i := 506) (by decide +kernel), rfl⟩
set_option maxRecDepth 20000 in
theorem mn_X7_83 : (Cond.methodLinkNest RX7 83 yX1_copyFrom "VeneerYard") ∈ lw_E := List.mem_filter.mpr ⟨List.mem_of_getElem? (i := 507) (by decide +kernel), rfl⟩
set_option maxRecDepth 20000 in
theorem im_X1_copyFrom : (Cond.instanceMethod yX1_copyFrom) ∈ lw_E := List.mem_filter.mpr ⟨List.mem_of_getElem? (i := 509) (by decide +kernel), rfl⟩
set_option maxRecDepth 20000 in
theorem cd_X1_copyFrom : (Cond.code yX1_copyFrom cX1_copyFrom 2 none) ∈ lw_E := List.mem_filter.mpr ⟨List.mem_of_getElem? (i := 510) (by decide +kernel), rfl⟩
set_option maxRecDepth 20000 in
theorem ml_X1_34 : (Cond.methodLink RX1 34 arraycopyName) ∈ lw_E := List.mem_filter.mpr ⟨List.mem_of_getElem? (i := 511) (by decide +kernel), rfl⟩
set_option maxRecDepth 20000 in
theorem mn_X4_56 : (Cond.methodLinkNest RX4 56 yX6_clear "VeneerYard") ∈ lw_E := List.mem_filter.mpr ⟨List.mem_of_getElem? (i := 512) (by decide +kernel), rfl⟩
set_option maxRecDepth 20000 in
theorem im_X6_clear : (Cond.instanceMethod yX6_clear) ∈ lw_E := List.mem_filter.mpr ⟨List.mem_of_getElem? (i := 514) (by decide +kernel), rfl⟩
set_option maxRecDepth 20000 in
theorem cd_X6_clear : (Cond.code yX6_clear cX6_clear 1 none) ∈ lw_E := List.mem_filter.mpr ⟨List.mem_of_getElem? (i := 515) (by decide +kernel), rfl⟩
set_option maxRecDepth 20000 in
theorem ml_X6_47 : (Cond.methodLink RX6 47 yJ7_fill_53178) ∈ lw_E := List.mem_filter.mpr ⟨List.mem_of_getElem? (i := 516) (by decide +kernel), rfl⟩
set_option maxRecDepth 20000 in
theorem sc_J7_fill_53178 : (Cond.static yJ7_fill_53178) ∈ lw_E := List.mem_filter.mpr ⟨List.mem_of_getElem? (i := 517) (by decide +kernel), rfl⟩
set_option maxRecDepth 20000 in
theorem cd_J7_fill_53178 : (Cond.code yJ7_fill_53178 cJ7_fill_53178 4 none) ∈ lw_E := List.mem_filter.mpr ⟨List.mem_of_getElem? (i := 518) (by decide +kernel), rfl⟩
set_option maxRecDepth 20000 in
theorem mn_X4_62 : (Cond.methodLinkNest RX4 62 yX0_find "VeneerYard") ∈ lw_E := List.mem_filter.mpr ⟨List.mem_of_getElem? (i := 519) (by decide +kernel), rfl⟩
set_option maxRecDepth 20000 in
theorem im_X0_find : (Cond.instanceMethod yX0_find) ∈ lw_E := List.mem_filter.mpr ⟨List.mem_of_getElem? (i := 521) (by decide +kernel), rfl⟩
set_option maxRecDepth 20000 in
theorem cd_X0_find : (Cond.code yX0_find cX0_find 8 none) ∈ lw_E := List.mem_filter.mpr ⟨List.mem_of_getElem? (i := 522) (by decide +kernel), rfl⟩
set_option maxRecDepth 20000 in
theorem mn_X0_31 : (Cond.methodLinkNest RX0 31 yX7_thunkStride "VeneerYard") ∈ lw_E := List.mem_filter.mpr ⟨List.mem_of_getElem? (i := 523) (by decide +kernel), rfl⟩
set_option maxRecDepth 20000 in
theorem im_X7_thunkStride : (Cond.instanceMethod yX7_thunkStride) ∈ lw_E := List.mem_filter.mpr ⟨List.mem_of_getElem? (i := 525) (by decide +kernel), rfl⟩
set_option maxRecDepth 20000 in
theorem cd_X7_thunkStride : (Cond.code yX7_thunkStride cX7_thunkStride 1 (some .long)) ∈ lw_E := List.mem_filter.mpr ⟨List.mem_of_getElem? (i := 526) (by decide +kernel), rfl⟩
set_option maxRecDepth 20000 in
theorem mn_X7_69 : (Cond.methodLinkNest RX7 69 yX8_alignUp "VeneerYard") ∈ lw_E := List.mem_filter.mpr ⟨List.mem_of_getElem? (i := 527) (by decide +kernel), rfl⟩
set_option maxRecDepth 20000 in
theorem sc_X8_alignUp : (Cond.static yX8_alignUp) ∈ lw_E := List.mem_filter.mpr ⟨List.mem_of_getElem? (i := 528) (by decide +kernel), rfl⟩
set_option maxRecDepth 20000 in
theorem cd_X8_alignUp : (Cond.code yX8_alignUp cX8_alignUp 4 (some .long)) ∈ lw_E := List.mem_filter.mpr ⟨List.mem_of_getElem? (i := 529) (by decide +kernel), rfl⟩
set_option maxRecDepth 20000 in
theorem mn_X0_48 : (Cond.methodLinkNest RX0 48 yX8_alignUp "VeneerYard") ∈ lw_E := List.mem_filter.mpr ⟨List.mem_of_getElem? (i := 530) (by decide +kernel), rfl⟩
set_option maxRecDepth 20000 in
theorem mn_X4_66 : (Cond.methodLinkNest RX4 66 yX7_thunkStride "VeneerYard") ∈ lw_E := List.mem_filter.mpr ⟨List.mem_of_getElem? (i := 531) (by decide +kernel), rfl⟩
set_option maxRecDepth 20000 in
theorem mn_X4_70 : (Cond.methodLinkNest RX4 70 yX6_findPlaces "VeneerYard") ∈ lw_E := List.mem_filter.mpr ⟨List.mem_of_getElem? (i := 532) (by decide +kernel), rfl⟩
set_option maxRecDepth 20000 in
theorem im_X6_findPlaces : (Cond.instanceMethod yX6_findPlaces) ∈ lw_E := List.mem_filter.mpr ⟨List.mem_of_getElem? (i := 534) (by decide +kernel), rfl⟩
set_option maxRecDepth 20000 in
theorem cd_X6_findPlaces : (Cond.code yX6_findPlaces cX6_findPlaces 5 none) ∈ lw_E := List.mem_filter.mpr ⟨List.mem_of_getElem? (i := 535) (by decide +kernel), rfl⟩
set_option maxRecDepth 20000 in
theorem ml_X4_74 : (Cond.methodLink RX4 74 yX4_anyWanted) ∈ lw_E := List.mem_filter.mpr ⟨List.mem_of_getElem? (i := 536) (by decide +kernel), rfl⟩
set_option maxRecDepth 20000 in
theorem im_X4_anyWanted : (Cond.instanceMethod yX4_anyWanted) ∈ lw_E := List.mem_filter.mpr ⟨List.mem_of_getElem? (i := 538) (by decide +kernel), rfl⟩
set_option maxRecDepth 20000 in
theorem cd_X4_anyWanted : (Cond.code yX4_anyWanted cX4_anyWanted 3 (some .boolean)) ∈ lw_E := List.mem_filter.mpr ⟨List.mem_of_getElem? (i := 539) (by decide +kernel), rfl⟩
set_option maxRecDepth 20000 in
theorem mn_X4_81 : (Cond.methodLinkNest RX4 81 yX7_hasThunks "VeneerYard") ∈ lw_E := List.mem_filter.mpr ⟨List.mem_of_getElem? (i := 540) (by decide +kernel), rfl⟩
set_option maxRecDepth 20000 in
theorem im_X7_hasThunks : (Cond.instanceMethod yX7_hasThunks) ∈ lw_E := List.mem_filter.mpr ⟨List.mem_of_getElem? (i := 542) (by decide +kernel), rfl⟩
set_option maxRecDepth 20000 in
theorem cd_X7_hasThunks : (Cond.code yX7_hasThunks cX7_hasThunks 1 (some .boolean)) ∈ lw_E := List.mem_filter.mpr ⟨List.mem_of_getElem? (i := 543) (by decide +kernel), rfl⟩
set_option maxRecDepth 20000 in
theorem ml_X4_94 : (Cond.methodLink RX4 94 yX4_isDirect) ∈ lw_E := List.mem_filter.mpr ⟨List.mem_of_getElem? (i := 544) (by decide +kernel), rfl⟩
set_option maxRecDepth 20000 in
theorem im_X4_isDirect : (Cond.instanceMethod yX4_isDirect) ∈ lw_E := List.mem_filter.mpr ⟨List.mem_of_getElem? (i := 546) (by decide +kernel), rfl⟩
set_option maxRecDepth 20000 in
theorem cd_X4_isDirect : (Cond.code yX4_isDirect cX4_isDirect 4 (some .boolean)) ∈ lw_E := List.mem_filter.mpr ⟨List.mem_of_getElem? (i := 547) (by decide +kernel), rfl⟩
set_option maxRecDepth 20000 in
theorem ml_X4_166 : (Cond.methodLink RX4 166 yX4_labelAddress) ∈ lw_E := List.mem_filter.mpr ⟨List.mem_of_getElem? (i := 548) (by decide +kernel), rfl⟩
set_option maxRecDepth 20000 in
theorem im_X4_labelAddress : (Cond.instanceMethod yX4_labelAddress) ∈ lw_E := List.mem_filter.mpr ⟨List.mem_of_getElem? (i := 550) (by decide +kernel), rfl⟩
set_option maxRecDepth 20000 in
theorem cd_X4_labelAddress : (Cond.code yX4_labelAddress cX4_labelAddress 2 (some .long)) ∈ lw_E := List.mem_filter.mpr ⟨List.mem_of_getElem? (i := 551) (by decide +kernel), rfl⟩
set_option maxRecDepth 20000 in
theorem ml_X4_111 : (Cond.methodLink RX4 111 yX4_branchAddress) ∈ lw_E := List.mem_filter.mpr ⟨List.mem_of_getElem? (i := 552) (by decide +kernel), rfl⟩
set_option maxRecDepth 20000 in
theorem im_X4_branchAddress : (Cond.instanceMethod yX4_branchAddress) ∈ lw_E := List.mem_filter.mpr ⟨List.mem_of_getElem? (i := 554) (by decide +kernel), rfl⟩
set_option maxRecDepth 20000 in
theorem cd_X4_branchAddress : (Cond.code yX4_branchAddress cX4_branchAddress 2 (some .long)) ∈ lw_E := List.mem_filter.mpr ⟨List.mem_of_getElem? (i := 555) (by decide +kernel), rfl⟩
set_option maxRecDepth 20000 in
theorem mn_X4_157 : (Cond.methodLinkNest RX4 157 yX2_reaches "VeneerYard") ∈ lw_E := List.mem_filter.mpr ⟨List.mem_of_getElem? (i := 556) (by decide +kernel), rfl⟩
set_option maxRecDepth 20000 in
theorem im_X2_reaches : (Cond.instanceMethod yX2_reaches) ∈ lw_E := List.mem_filter.mpr ⟨List.mem_of_getElem? (i := 558) (by decide +kernel), rfl⟩
set_option maxRecDepth 20000 in
theorem cd_X2_reaches : (Cond.code yX2_reaches cX2_reaches 12 (some .boolean)) ∈ lw_E := List.mem_filter.mpr ⟨List.mem_of_getElem? (i := 559) (by decide +kernel), rfl⟩
set_option maxRecDepth 20000 in
theorem ml_X2_22 : (Cond.methodLink RX2 22 yX2_has) ∈ lw_E := List.mem_filter.mpr ⟨List.mem_of_getElem? (i := 560) (by decide +kernel), rfl⟩
set_option maxRecDepth 20000 in
theorem ml_X4_97 : (Cond.methodLink RX4 97 yX4_nearestThunk) ∈ lw_E := List.mem_filter.mpr ⟨List.mem_of_getElem? (i := 561) (by decide +kernel), rfl⟩
set_option maxRecDepth 20000 in
theorem im_X4_nearestThunk : (Cond.instanceMethod yX4_nearestThunk) ∈ lw_E := List.mem_filter.mpr ⟨List.mem_of_getElem? (i := 563) (by decide +kernel), rfl⟩
set_option maxRecDepth 20000 in
theorem cd_X4_nearestThunk : (Cond.code yX4_nearestThunk cX4_nearestThunk 12 (some .int)) ∈ lw_E := List.mem_filter.mpr ⟨List.mem_of_getElem? (i := 564) (by decide +kernel), rfl⟩
set_option maxRecDepth 20000 in
theorem mn_X4_169 : (Cond.methodLinkNest RX4 169 yX6_numberOf "VeneerYard") ∈ lw_E := List.mem_filter.mpr ⟨List.mem_of_getElem? (i := 565) (by decide +kernel), rfl⟩
set_option maxRecDepth 20000 in
theorem im_X6_numberOf : (Cond.instanceMethod yX6_numberOf) ∈ lw_E := List.mem_filter.mpr ⟨List.mem_of_getElem? (i := 567) (by decide +kernel), rfl⟩
set_option maxRecDepth 20000 in
theorem cd_X6_numberOf : (Cond.code yX6_numberOf cX6_numberOf 3 (some .int)) ∈ lw_E := List.mem_filter.mpr ⟨List.mem_of_getElem? (i := 568) (by decide +kernel), rfl⟩
set_option maxRecDepth 20000 in
theorem mn_X4_173 : (Cond.methodLinkNest RX4 173 yX6_has "VeneerYard") ∈ lw_E := List.mem_filter.mpr ⟨List.mem_of_getElem? (i := 569) (by decide +kernel), rfl⟩
set_option maxRecDepth 20000 in
theorem im_X6_has : (Cond.instanceMethod yX6_has) ∈ lw_E := List.mem_filter.mpr ⟨List.mem_of_getElem? (i := 571) (by decide +kernel), rfl⟩
set_option maxRecDepth 20000 in
theorem cd_X6_has : (Cond.code yX6_has cX6_has 2 (some .boolean)) ∈ lw_E := List.mem_filter.mpr ⟨List.mem_of_getElem? (i := 572) (by decide +kernel), rfl⟩
set_option maxRecDepth 20000 in
theorem ml_X4_176 : (Cond.methodLink RX4 176 yX4_doesHelp) ∈ lw_E := List.mem_filter.mpr ⟨List.mem_of_getElem? (i := 573) (by decide +kernel), rfl⟩
set_option maxRecDepth 20000 in
theorem im_X4_doesHelp : (Cond.instanceMethod yX4_doesHelp) ∈ lw_E := List.mem_filter.mpr ⟨List.mem_of_getElem? (i := 575) (by decide +kernel), rfl⟩
set_option maxRecDepth 20000 in
theorem cd_X4_doesHelp : (Cond.code yX4_doesHelp cX4_doesHelp 5 (some .boolean)) ∈ lw_E := List.mem_filter.mpr ⟨List.mem_of_getElem? (i := 576) (by decide +kernel), rfl⟩
set_option maxRecDepth 20000 in
theorem ml_X4_133 : (Cond.methodLink RX4 133 yJ9_abs_067f4) ∈ lw_E := List.mem_filter.mpr ⟨List.mem_of_getElem? (i := 577) (by decide +kernel), rfl⟩
set_option maxRecDepth 20000 in
theorem sc_J9_abs_067f4 : (Cond.static yJ9_abs_067f4) ∈ lw_E := List.mem_filter.mpr ⟨List.mem_of_getElem? (i := 578) (by decide +kernel), rfl⟩
set_option maxRecDepth 20000 in
theorem cd_J9_abs_067f4 : (Cond.code yJ9_abs_067f4 cJ9_abs_067f4 2 (some .long)) ∈ lw_E := List.mem_filter.mpr ⟨List.mem_of_getElem? (i := 579) (by decide +kernel), rfl⟩
set_option maxRecDepth 20000 in
theorem ml_X4_101 : (Cond.methodLink RX4 101 yX4_wantThunk) ∈ lw_E := List.mem_filter.mpr ⟨List.mem_of_getElem? (i := 580) (by decide +kernel), rfl⟩
set_option maxRecDepth 20000 in
theorem im_X4_wantThunk : (Cond.instanceMethod yX4_wantThunk) ∈ lw_E := List.mem_filter.mpr ⟨List.mem_of_getElem? (i := 582) (by decide +kernel), rfl⟩
set_option maxRecDepth 20000 in
theorem cd_X4_wantThunk : (Cond.code yX4_wantThunk cX4_wantThunk 12 none) ∈ lw_E := List.mem_filter.mpr ⟨List.mem_of_getElem? (i := 583) (by decide +kernel), rfl⟩
set_option maxRecDepth 20000 in
theorem ml_X4_122 : (Cond.methodLink RX4 122 yX4_couldHelp) ∈ lw_E := List.mem_filter.mpr ⟨List.mem_of_getElem? (i := 584) (by decide +kernel), rfl⟩
set_option maxRecDepth 20000 in
theorem im_X4_couldHelp : (Cond.instanceMethod yX4_couldHelp) ∈ lw_E := List.mem_filter.mpr ⟨List.mem_of_getElem? (i := 586) (by decide +kernel), rfl⟩
set_option maxRecDepth 20000 in
theorem cd_X4_couldHelp : (Cond.code yX4_couldHelp cX4_couldHelp 6 (some .boolean)) ∈ lw_E := List.mem_filter.mpr ⟨List.mem_of_getElem? (i := 587) (by decide +kernel), rfl⟩
set_option maxRecDepth 20000 in
theorem mn_X4_147 : (Cond.methodLinkNest RX4 147 yX6_isMade "VeneerYard") ∈ lw_E := List.mem_filter.mpr ⟨List.mem_of_getElem? (i := 588) (by decide +kernel), rfl⟩
set_option maxRecDepth 20000 in
theorem im_X6_isMade : (Cond.instanceMethod yX6_isMade) ∈ lw_E := List.mem_filter.mpr ⟨List.mem_of_getElem? (i := 590) (by decide +kernel), rfl⟩
set_option maxRecDepth 20000 in
theorem cd_X6_isMade : (Cond.code yX6_isMade cX6_isMade 3 (some .boolean)) ∈ lw_E := List.mem_filter.mpr ⟨List.mem_of_getElem? (i := 591) (by decide +kernel), rfl⟩
set_option maxRecDepth 20000 in
theorem ml_X6_53 : (Cond.methodLink RX6 53 yX6_numberOf) ∈ lw_E := List.mem_filter.mpr ⟨List.mem_of_getElem? (i := 592) (by decide +kernel), rfl⟩
set_option maxRecDepth 20000 in
theorem ml_X6_57 : (Cond.methodLink RX6 57 yX6_has) ∈ lw_E := List.mem_filter.mpr ⟨List.mem_of_getElem? (i := 593) (by decide +kernel), rfl⟩
set_option maxRecDepth 20000 in
theorem mn_X4_126 : (Cond.methodLinkNest RX4 126 yX6_isWanted "VeneerYard") ∈ lw_E := List.mem_filter.mpr ⟨List.mem_of_getElem? (i := 594) (by decide +kernel), rfl⟩
set_option maxRecDepth 20000 in
theorem im_X6_isWanted : (Cond.instanceMethod yX6_isWanted) ∈ lw_E := List.mem_filter.mpr ⟨List.mem_of_getElem? (i := 596) (by decide +kernel), rfl⟩
set_option maxRecDepth 20000 in
theorem cd_X6_isWanted : (Cond.code yX6_isWanted cX6_isWanted 3 (some .boolean)) ∈ lw_E := List.mem_filter.mpr ⟨List.mem_of_getElem? (i := 597) (by decide +kernel), rfl⟩
set_option maxRecDepth 20000 in
theorem mn_X4_139 : (Cond.methodLinkNest RX4 139 yX6_want "VeneerYard") ∈ lw_E := List.mem_filter.mpr ⟨List.mem_of_getElem? (i := 598) (by decide +kernel), rfl⟩
set_option maxRecDepth 20000 in
theorem im_X6_want : (Cond.instanceMethod yX6_want) ∈ lw_E := List.mem_filter.mpr ⟨List.mem_of_getElem? (i := 600) (by decide +kernel), rfl⟩
set_option maxRecDepth 20000 in
theorem cd_X6_want : (Cond.code yX6_want cX6_want 6 none) ∈ lw_E := List.mem_filter.mpr ⟨List.mem_of_getElem? (i := 601) (by decide +kernel), rfl⟩
set_option maxRecDepth 20000 in
theorem ml_X6_61 : (Cond.methodLink RX6 61 yX6_grow) ∈ lw_E := List.mem_filter.mpr ⟨List.mem_of_getElem? (i := 602) (by decide +kernel), rfl⟩
set_option maxRecDepth 20000 in
theorem im_X6_grow : (Cond.instanceMethod yX6_grow) ∈ lw_E := List.mem_filter.mpr ⟨List.mem_of_getElem? (i := 604) (by decide +kernel), rfl⟩
set_option maxRecDepth 20000 in
theorem cd_X6_grow : (Cond.code yX6_grow cX6_grow 2 none) ∈ lw_E := List.mem_filter.mpr ⟨List.mem_of_getElem? (i := 605) (by decide +kernel), rfl⟩
set_option maxRecDepth 20000 in
theorem ml_X6_64 : (Cond.methodLink RX6 64 yJ9_min_7cf53) ∈ lw_E := List.mem_filter.mpr ⟨List.mem_of_getElem? (i := 606) (by decide +kernel), rfl⟩
set_option maxRecDepth 20000 in
theorem sc_J9_min_7cf53 : (Cond.static yJ9_min_7cf53) ∈ lw_E := List.mem_filter.mpr ⟨List.mem_of_getElem? (i := 607) (by decide +kernel), rfl⟩
set_option maxRecDepth 20000 in
theorem cd_J9_min_7cf53 : (Cond.code yJ9_min_7cf53 cJ9_min_7cf53 2 (some .int)) ∈ lw_E := List.mem_filter.mpr ⟨List.mem_of_getElem? (i := 608) (by decide +kernel), rfl⟩
set_option maxRecDepth 20000 in
theorem ml_X6_69 : (Cond.methodLink RX6 69 yJ7_copyOf_59c91) ∈ lw_E := List.mem_filter.mpr ⟨List.mem_of_getElem? (i := 609) (by decide +kernel), rfl⟩
set_option maxRecDepth 20000 in
theorem sc_J7_copyOf_59c91 : (Cond.static yJ7_copyOf_59c91) ∈ lw_E := List.mem_filter.mpr ⟨List.mem_of_getElem? (i := 610) (by decide +kernel), rfl⟩
set_option maxRecDepth 20000 in
theorem cd_J7_copyOf_59c91 : (Cond.code yJ7_copyOf_59c91 cJ7_copyOf_59c91 3 (some (.array .int))) ∈ lw_E := List.mem_filter.mpr ⟨List.mem_of_getElem? (i := 611) (by decide +kernel), rfl⟩
set_option maxRecDepth 20000 in
theorem cl_J7_317 : (Cond.classLink RJ7 317 "[I") ∈ lw_E := List.mem_filter.mpr ⟨List.mem_of_getElem? (i := 618) (by decide +kernel), rfl⟩
set_option maxRecDepth 20000 in
theorem ml_J7_304 : (Cond.methodLink RJ7 304 yJ9_min_7cf53) ∈ lw_E := List.mem_filter.mpr ⟨List.mem_of_getElem? (i := 619) (by decide +kernel), rfl⟩
set_option maxRecDepth 20000 in
theorem ml_J7_150 : (Cond.methodLink RJ7 150 arraycopyName) ∈ lw_E := List.mem_filter.mpr ⟨List.mem_of_getElem? (i := 620) (by decide +kernel), rfl⟩
set_option maxRecDepth 20000 in
theorem ml_X6_73 : (Cond.methodLink RX6 73 yJ7_copyOf_c38d5) ∈ lw_E := List.mem_filter.mpr ⟨List.mem_of_getElem? (i := 621) (by decide +kernel), rfl⟩
set_option maxRecDepth 20000 in
theorem sc_J7_copyOf_c38d5 : (Cond.static yJ7_copyOf_c38d5) ∈ lw_E := List.mem_filter.mpr ⟨List.mem_of_getElem? (i := 622) (by decide +kernel), rfl⟩
set_option maxRecDepth 20000 in
theorem cd_J7_copyOf_c38d5 : (Cond.code yJ7_copyOf_c38d5 cJ7_copyOf_c38d5 3 (some (.array .long))) ∈ lw_E := List.mem_filter.mpr ⟨List.mem_of_getElem? (i := 623) (by decide +kernel), rfl⟩
set_option maxRecDepth 20000 in
theorem cl_J7_320 : (Cond.classLink RJ7 320 "[J") ∈ lw_E := List.mem_filter.mpr ⟨List.mem_of_getElem? (i := 628) (by decide +kernel), rfl⟩
set_option maxRecDepth 20000 in
theorem mn_X4_105 : (Cond.methodLinkNest RX4 105 yX6_makeWanted "VeneerYard") ∈ lw_E := List.mem_filter.mpr ⟨List.mem_of_getElem? (i := 629) (by decide +kernel), rfl⟩
set_option maxRecDepth 20000 in
theorem im_X6_makeWanted : (Cond.instanceMethod yX6_makeWanted) ∈ lw_E := List.mem_filter.mpr ⟨List.mem_of_getElem? (i := 631) (by decide +kernel), rfl⟩
set_option maxRecDepth 20000 in
theorem cd_X6_makeWanted : (Cond.code yX6_makeWanted cX6_makeWanted 2 (some .boolean)) ∈ lw_E := List.mem_filter.mpr ⟨List.mem_of_getElem? (i := 632) (by decide +kernel), rfl⟩
set_option maxRecDepth 20000 in
theorem ml_X4_78 : (Cond.methodLink RX4 78 yX4_routeAll) ∈ lw_E := List.mem_filter.mpr ⟨List.mem_of_getElem? (i := 633) (by decide +kernel), rfl⟩
set_option maxRecDepth 20000 in
theorem im_X4_routeAll : (Cond.instanceMethod yX4_routeAll) ∈ lw_E := List.mem_filter.mpr ⟨List.mem_of_getElem? (i := 635) (by decide +kernel), rfl⟩
set_option maxRecDepth 20000 in
theorem cd_X4_routeAll : (Cond.code yX4_routeAll cX4_routeAll 2 none) ∈ lw_E := List.mem_filter.mpr ⟨List.mem_of_getElem? (i := 636) (by decide +kernel), rfl⟩
set_option maxRecDepth 20000 in
theorem ml_X4_183 : (Cond.methodLink RX4 183 yX4_routeByThunk) ∈ lw_E := List.mem_filter.mpr ⟨List.mem_of_getElem? (i := 637) (by decide +kernel), rfl⟩
set_option maxRecDepth 20000 in
theorem im_X4_routeByThunk : (Cond.instanceMethod yX4_routeByThunk) ∈ lw_E := List.mem_filter.mpr ⟨List.mem_of_getElem? (i := 639) (by decide +kernel), rfl⟩
set_option maxRecDepth 20000 in
theorem cd_X4_routeByThunk : (Cond.code yX4_routeByThunk cX4_routeByThunk 3 none) ∈ lw_E := List.mem_filter.mpr ⟨List.mem_of_getElem? (i := 640) (by decide +kernel), rfl⟩
set_option maxRecDepth 20000 in
theorem ml_L_56 : (Cond.methodLink RL 56 yX8_count) ∈ lw_E := List.mem_filter.mpr ⟨List.mem_of_getElem? (i := 641) (by decide +kernel), rfl⟩
set_option maxRecDepth 20000 in
theorem im_X8_count : (Cond.instanceMethod yX8_count) ∈ lw_E := List.mem_filter.mpr ⟨List.mem_of_getElem? (i := 642) (by decide +kernel), rfl⟩
set_option maxRecDepth 20000 in
theorem se_X8_count : (Cond.selects RX8 yX8_count yX8_count) ∈ lw_E := List.mem_filter.mpr ⟨List.mem_of_getElem? (i := 643) (by decide +kernel), rfl⟩
set_option maxRecDepth 20000 in
theorem cd_X8_count : (Cond.code yX8_count cX8_count 2 (some .int)) ∈ lw_E := List.mem_filter.mpr ⟨List.mem_of_getElem? (i := 644) (by decide +kernel), rfl⟩
set_option maxRecDepth 20000 in
theorem mn_X8_133 : (Cond.methodLinkNest RX8 133 yX6_unused "VeneerYard") ∈ lw_E := List.mem_filter.mpr ⟨List.mem_of_getElem? (i := 645) (by decide +kernel), rfl⟩
set_option maxRecDepth 20000 in
theorem im_X6_unused : (Cond.instanceMethod yX6_unused) ∈ lw_E := List.mem_filter.mpr ⟨List.mem_of_getElem? (i := 647) (by decide +kernel), rfl⟩
set_option maxRecDepth 20000 in
theorem cd_X6_unused : (Cond.code yX6_unused cX6_unused 3 (some .int)) ∈ lw_E := List.mem_filter.mpr ⟨List.mem_of_getElem? (i := 648) (by decide +kernel), rfl⟩
set_option maxRecDepth 20000 in
theorem mn_X8_137 : (Cond.methodLinkNest RX8 137 yX4_bytesBetween "VeneerYard") ∈ lw_E := List.mem_filter.mpr ⟨List.mem_of_getElem? (i := 649) (by decide +kernel), rfl⟩
set_option maxRecDepth 20000 in
theorem im_X4_bytesBetween : (Cond.instanceMethod yX4_bytesBetween) ∈ lw_E := List.mem_filter.mpr ⟨List.mem_of_getElem? (i := 651) (by decide +kernel), rfl⟩
set_option maxRecDepth 20000 in
theorem cd_X4_bytesBetween : (Cond.code yX4_bytesBetween cX4_bytesBetween 3 (some .int)) ∈ lw_E := List.mem_filter.mpr ⟨List.mem_of_getElem? (i := 652) (by decide +kernel), rfl⟩
set_option maxRecDepth 20000 in
theorem ml_X4_213 : (Cond.methodLink RX4 213 yX4_bytesInAll) ∈ lw_E := List.mem_filter.mpr ⟨List.mem_of_getElem? (i := 653) (by decide +kernel), rfl⟩
set_option maxRecDepth 20000 in
theorem im_X4_bytesInAll : (Cond.instanceMethod yX4_bytesInAll) ∈ lw_E := List.mem_filter.mpr ⟨List.mem_of_getElem? (i := 655) (by decide +kernel), rfl⟩
set_option maxRecDepth 20000 in
theorem cd_X4_bytesInAll : (Cond.code yX4_bytesInAll cX4_bytesInAll 1 (some .int)) ∈ lw_E := List.mem_filter.mpr ⟨List.mem_of_getElem? (i := 656) (by decide +kernel), rfl⟩
set_option maxRecDepth 20000 in
theorem mn_X8_140 : (Cond.methodLinkNest RX8 140 yX4_bytesInAll "VeneerYard") ∈ lw_E := List.mem_filter.mpr ⟨List.mem_of_getElem? (i := 657) (by decide +kernel), rfl⟩
set_option maxRecDepth 20000 in
theorem ml_L_61 : (Cond.methodLink RL 61 yX8_address) ∈ lw_E := List.mem_filter.mpr ⟨List.mem_of_getElem? (i := 658) (by decide +kernel), rfl⟩
set_option maxRecDepth 20000 in
theorem im_X8_address : (Cond.instanceMethod yX8_address) ∈ lw_E := List.mem_filter.mpr ⟨List.mem_of_getElem? (i := 659) (by decide +kernel), rfl⟩
set_option maxRecDepth 20000 in
theorem se_X8_address : (Cond.selects RX8 yX8_address yX8_address) ∈ lw_E := List.mem_filter.mpr ⟨List.mem_of_getElem? (i := 660) (by decide +kernel), rfl⟩
set_option maxRecDepth 20000 in
theorem cd_X8_address : (Cond.code yX8_address cX8_address 3 (some .long)) ∈ lw_E := List.mem_filter.mpr ⟨List.mem_of_getElem? (i := 661) (by decide +kernel), rfl⟩
set_option maxRecDepth 20000 in
theorem kc_X8_159 : (Cond.constantLong RX8 159 (-9223372036854775808)) ∈ lw_E := List.mem_filter.mpr ⟨List.mem_of_getElem? (i := 662) (by decide +kernel), rfl⟩
set_option maxRecDepth 20000 in
theorem mn_X8_161 : (Cond.methodLinkNest RX8 161 yX4_labelAddress "VeneerYard") ∈ lw_E := List.mem_filter.mpr ⟨List.mem_of_getElem? (i := 663) (by decide +kernel), rfl⟩
set_option maxRecDepth 20000 in
theorem mn_X8_165 : (Cond.methodLinkNest RX8 165 yX4_branchAddress "VeneerYard") ∈ lw_E := List.mem_filter.mpr ⟨List.mem_of_getElem? (i := 664) (by decide +kernel), rfl⟩
set_option maxRecDepth 20000 in
theorem mn_X8_168 : (Cond.methodLinkNest RX8 168 yX6_has "VeneerYard") ∈ lw_E := List.mem_filter.mpr ⟨List.mem_of_getElem? (i := 665) (by decide +kernel), rfl⟩
set_option maxRecDepth 20000 in
theorem mn_X8_172 : (Cond.methodLinkNest RX8 172 yX5_hasPool "VeneerYard") ∈ lw_E := List.mem_filter.mpr ⟨List.mem_of_getElem? (i := 666) (by decide +kernel), rfl⟩
set_option maxRecDepth 20000 in
theorem im_X5_hasPool : (Cond.instanceMethod yX5_hasPool) ∈ lw_E := List.mem_filter.mpr ⟨List.mem_of_getElem? (i := 668) (by decide +kernel), rfl⟩
set_option maxRecDepth 20000 in
theorem cd_X5_hasPool : (Cond.code yX5_hasPool cX5_hasPool 2 (some .boolean)) ∈ lw_E := List.mem_filter.mpr ⟨List.mem_of_getElem? (i := 669) (by decide +kernel), rfl⟩
set_option maxRecDepth 20000 in
theorem ml_X5_29 : (Cond.methodLink RX5 29 yX5_has) ∈ lw_E := List.mem_filter.mpr ⟨List.mem_of_getElem? (i := 670) (by decide +kernel), rfl⟩
set_option maxRecDepth 20000 in
theorem ml_L_66 : (Cond.methodLink RL 66 yX8_route) ∈ lw_E := List.mem_filter.mpr ⟨List.mem_of_getElem? (i := 671) (by decide +kernel), rfl⟩
set_option maxRecDepth 20000 in
theorem im_X8_route : (Cond.instanceMethod yX8_route) ∈ lw_E := List.mem_filter.mpr ⟨List.mem_of_getElem? (i := 672) (by decide +kernel), rfl⟩
set_option maxRecDepth 20000 in
theorem se_X8_route : (Cond.selects RX8 yX8_route yX8_route) ∈ lw_E := List.mem_filter.mpr ⟨List.mem_of_getElem? (i := 673) (by decide +kernel), rfl⟩
set_option maxRecDepth 20000 in
theorem cd_X8_route : (Cond.code yX8_route cX8_route 3 (some .int)) ∈ lw_E := List.mem_filter.mpr ⟨List.mem_of_getElem? (i := 674) (by decide +kernel), rfl⟩
set_option maxRecDepth 20000 in
theorem ml_L_70 : (Cond.methodLink RL 70 yX8_thunk) ∈ lw_E := List.mem_filter.mpr ⟨List.mem_of_getElem? (i := 675) (by decide +kernel), rfl⟩
set_option maxRecDepth 20000 in
theorem im_X8_thunk : (Cond.instanceMethod yX8_thunk) ∈ lw_E := List.mem_filter.mpr ⟨List.mem_of_getElem? (i := 676) (by decide +kernel), rfl⟩
set_option maxRecDepth 20000 in
theorem se_X8_thunk : (Cond.selects RX8 yX8_thunk yX8_thunk) ∈ lw_E := List.mem_filter.mpr ⟨List.mem_of_getElem? (i := 677) (by decide +kernel), rfl⟩
set_option maxRecDepth 20000 in
theorem cd_X8_thunk : (Cond.code yX8_thunk cX8_thunk 3 (some .int)) ∈ lw_E := List.mem_filter.mpr ⟨List.mem_of_getElem? (i := 678) (by decide +kernel), rfl⟩
set_option maxRecDepth 20000 in
theorem ml_L_74 : (Cond.methodLink RL 74 yX8_encoded) ∈ lw_E := List.mem_filter.mpr ⟨List.mem_of_getElem? (i := 679) (by decide +kernel), rfl⟩
set_option maxRecDepth 20000 in
theorem im_X8_encoded : (Cond.instanceMethod yX8_encoded) ∈ lw_E := List.mem_filter.mpr ⟨List.mem_of_getElem? (i := 680) (by decide +kernel), rfl⟩
set_option maxRecDepth 20000 in
theorem se_X8_encoded : (Cond.selects RX8 yX8_encoded yX8_encoded) ∈ lw_E := List.mem_filter.mpr ⟨List.mem_of_getElem? (i := 681) (by decide +kernel), rfl⟩
set_option maxRecDepth 20000 in
theorem cd_X8_encoded : (Cond.code yX8_encoded cX8_encoded 3 (some .int)) ∈ lw_E := List.mem_filter.mpr ⟨List.mem_of_getElem? (i := 682) (by decide +kernel), rfl⟩
set_option maxRecDepth 20000 in
theorem mn_X8_200 : (Cond.methodLinkNest RX8 200 yX4_branchCode "VeneerYard") ∈ lw_E := List.mem_filter.mpr ⟨List.mem_of_getElem? (i := 683) (by decide +kernel), rfl⟩
set_option maxRecDepth 20000 in
theorem im_X4_branchCode : (Cond.instanceMethod yX4_branchCode) ∈ lw_E := List.mem_filter.mpr ⟨List.mem_of_getElem? (i := 685) (by decide +kernel), rfl⟩
set_option maxRecDepth 20000 in
theorem cd_X4_branchCode : (Cond.code yX4_branchCode cX4_branchCode 5 (some .int)) ∈ lw_E := List.mem_filter.mpr ⟨List.mem_of_getElem? (i := 686) (by decide +kernel), rfl⟩
set_option maxRecDepth 20000 in
theorem mn_X4_226 : (Cond.methodLinkNest RX4 226 yX1_has "VeneerYard") ∈ lw_E := List.mem_filter.mpr ⟨List.mem_of_getElem? (i := 687) (by decide +kernel), rfl⟩
set_option maxRecDepth 20000 in
theorem mn_X4_227 : (Cond.methodLinkNest RX4 227 yX2_encode "VeneerYard") ∈ lw_E := List.mem_filter.mpr ⟨List.mem_of_getElem? (i := 688) (by decide +kernel), rfl⟩
set_option maxRecDepth 20000 in
theorem im_X2_encode : (Cond.instanceMethod yX2_encode) ∈ lw_E := List.mem_filter.mpr ⟨List.mem_of_getElem? (i := 690) (by decide +kernel), rfl⟩
set_option maxRecDepth 20000 in
theorem cd_X2_encode : (Cond.code yX2_encode cX2_encode 8 (some .int)) ∈ lw_E := List.mem_filter.mpr ⟨List.mem_of_getElem? (i := 691) (by decide +kernel), rfl⟩
set_option maxRecDepth 20000 in
theorem ml_X2_26 : (Cond.methodLink RX2 26 yX2_reaches) ∈ lw_E := List.mem_filter.mpr ⟨List.mem_of_getElem? (i := 692) (by decide +kernel), rfl⟩
set_option maxRecDepth 20000 in
theorem mn_X8_203 : (Cond.methodLinkNest RX8 203 yX4_thunkCode "VeneerYard") ∈ lw_E := List.mem_filter.mpr ⟨List.mem_of_getElem? (i := 693) (by decide +kernel), rfl⟩
set_option maxRecDepth 20000 in
theorem im_X4_thunkCode : (Cond.instanceMethod yX4_thunkCode) ∈ lw_E := List.mem_filter.mpr ⟨List.mem_of_getElem? (i := 695) (by decide +kernel), rfl⟩
set_option maxRecDepth 20000 in
theorem cd_X4_thunkCode : (Cond.code yX4_thunkCode cX4_thunkCode 2 (some .int)) ∈ lw_E := List.mem_filter.mpr ⟨List.mem_of_getElem? (i := 696) (by decide +kernel), rfl⟩
set_option maxRecDepth 20000 in
theorem ml_L_80 : (Cond.methodLink RL 80 yX8_at) ∈ lw_E := List.mem_filter.mpr ⟨List.mem_of_getElem? (i := 697) (by decide +kernel), rfl⟩
set_option maxRecDepth 20000 in
theorem im_X8_at : (Cond.instanceMethod yX8_at) ∈ lw_E := List.mem_filter.mpr ⟨List.mem_of_getElem? (i := 698) (by decide +kernel), rfl⟩
set_option maxRecDepth 20000 in
theorem se_X8_at : (Cond.selects RX8 yX8_at yX8_at) ∈ lw_E := List.mem_filter.mpr ⟨List.mem_of_getElem? (i := 699) (by decide +kernel), rfl⟩
set_option maxRecDepth 20000 in
theorem cd_X8_at : (Cond.code yX8_at cX8_at 3 (some .int)) ∈ lw_E := List.mem_filter.mpr ⟨List.mem_of_getElem? (i := 700) (by decide +kernel), rfl⟩
set_option maxRecDepth 20000 in
theorem mn_X8_206 : (Cond.methodLinkNest RX8 206 yX4_whatIsAt "VeneerYard") ∈ lw_E := List.mem_filter.mpr ⟨List.mem_of_getElem? (i := 701) (by decide +kernel), rfl⟩
set_option maxRecDepth 20000 in
theorem im_X4_whatIsAt : (Cond.instanceMethod yX4_whatIsAt) ∈ lw_E := List.mem_filter.mpr ⟨List.mem_of_getElem? (i := 703) (by decide +kernel), rfl⟩
set_option maxRecDepth 20000 in
theorem cd_X4_whatIsAt : (Cond.code yX4_whatIsAt cX4_whatIsAt 4 (some .int)) ∈ lw_E := List.mem_filter.mpr ⟨List.mem_of_getElem? (i := 704) (by decide +kernel), rfl⟩
set_option maxRecDepth 20000 in
theorem ml_X4_243 : (Cond.methodLink RX4 243 yX4_isWithin) ∈ lw_E := List.mem_filter.mpr ⟨List.mem_of_getElem? (i := 705) (by decide +kernel), rfl⟩
set_option maxRecDepth 20000 in
theorem sc_X4_isWithin : (Cond.static yX4_isWithin) ∈ lw_E := List.mem_filter.mpr ⟨List.mem_of_getElem? (i := 706) (by decide +kernel), rfl⟩
set_option maxRecDepth 20000 in
theorem cd_X4_isWithin : (Cond.code yX4_isWithin cX4_isWithin 5 (some .boolean)) ∈ lw_E := List.mem_filter.mpr ⟨List.mem_of_getElem? (i := 707) (by decide +kernel), rfl⟩
set_option maxRecDepth 20000 in
theorem ml_L_85 : (Cond.methodLink RL 85 yX8_walk) ∈ lw_E := List.mem_filter.mpr ⟨List.mem_of_getElem? (i := 708) (by decide +kernel), rfl⟩
set_option maxRecDepth 20000 in
theorem im_X8_walk : (Cond.instanceMethod yX8_walk) ∈ lw_E := List.mem_filter.mpr ⟨List.mem_of_getElem? (i := 709) (by decide +kernel), rfl⟩
set_option maxRecDepth 20000 in
theorem se_X8_walk : (Cond.selects RX8 yX8_walk yX8_walk) ∈ lw_E := List.mem_filter.mpr ⟨List.mem_of_getElem? (i := 710) (by decide +kernel), rfl⟩
set_option maxRecDepth 20000 in
theorem cd_X8_walk : (Cond.code yX8_walk cX8_walk 2 (some .long)) ∈ lw_E := List.mem_filter.mpr ⟨List.mem_of_getElem? (i := 711) (by decide +kernel), rfl⟩
set_option maxRecDepth 20000 in
theorem mn_X8_210 : (Cond.methodLinkNest RX8 210 yX4_walkFrom "VeneerYard") ∈ lw_E := List.mem_filter.mpr ⟨List.mem_of_getElem? (i := 712) (by decide +kernel), rfl⟩
set_option maxRecDepth 20000 in
theorem im_X4_walkFrom : (Cond.instanceMethod yX4_walkFrom) ∈ lw_E := List.mem_filter.mpr ⟨List.mem_of_getElem? (i := 714) (by decide +kernel), rfl⟩
set_option maxRecDepth 20000 in
theorem cd_X4_walkFrom : (Cond.code yX4_walkFrom cX4_walkFrom 6 (some .long)) ∈ lw_E := List.mem_filter.mpr ⟨List.mem_of_getElem? (i := 715) (by decide +kernel), rfl⟩
set_option maxRecDepth 20000 in
theorem ml_X4_231 : (Cond.methodLink RX4 231 yX4_branchCode) ∈ lw_E := List.mem_filter.mpr ⟨List.mem_of_getElem? (i := 716) (by decide +kernel), rfl⟩
set_option maxRecDepth 20000 in
theorem kc_X4_234 : (Cond.constantLong RX4 234 (-9223372036854775808)) ∈ lw_E := List.mem_filter.mpr ⟨List.mem_of_getElem? (i := 717) (by decide +kernel), rfl⟩
set_option maxRecDepth 20000 in
theorem mn_X4_236 : (Cond.methodLinkNest RX4 236 yX2_follow "VeneerYard") ∈ lw_E := List.mem_filter.mpr ⟨List.mem_of_getElem? (i := 718) (by decide +kernel), rfl⟩
set_option maxRecDepth 20000 in
theorem im_X2_follow : (Cond.instanceMethod yX2_follow) ∈ lw_E := List.mem_filter.mpr ⟨List.mem_of_getElem? (i := 720) (by decide +kernel), rfl⟩
set_option maxRecDepth 20000 in
theorem cd_X2_follow : (Cond.code yX2_follow cX2_follow 9 (some .long)) ∈ lw_E := List.mem_filter.mpr ⟨List.mem_of_getElem? (i := 721) (by decide +kernel), rfl⟩
set_option maxRecDepth 20000 in
theorem kc_X2_30 : (Cond.constantLong RX2 30 (-9223372036854775808)) ∈ lw_E := List.mem_filter.mpr ⟨List.mem_of_getElem? (i := 722) (by decide +kernel), rfl⟩
set_option maxRecDepth 20000 in
theorem kc_X2_32 : (Cond.constantLong RX2 32 (2)) ∈ lw_E := List.mem_filter.mpr ⟨List.mem_of_getElem? (i := 723) (by decide +kernel), rfl⟩
set_option maxRecDepth 20000 in
theorem ml_X4_240 : (Cond.methodLink RX4 240 yX4_thunkCode) ∈ lw_E := List.mem_filter.mpr ⟨List.mem_of_getElem? (i := 724) (by decide +kernel), rfl⟩
set_option maxRecDepth 20000 in
theorem ml_L_90 : (Cond.methodLink RL 90 yX8_far) ∈ lw_E := List.mem_filter.mpr ⟨List.mem_of_getElem? (i := 725) (by decide +kernel), rfl⟩
set_option maxRecDepth 20000 in
theorem im_X8_far : (Cond.instanceMethod yX8_far) ∈ lw_E := List.mem_filter.mpr ⟨List.mem_of_getElem? (i := 726) (by decide +kernel), rfl⟩
set_option maxRecDepth 20000 in
theorem se_X8_far : (Cond.selects RX8 yX8_far yX8_far) ∈ lw_E := List.mem_filter.mpr ⟨List.mem_of_getElem? (i := 727) (by decide +kernel), rfl⟩
set_option maxRecDepth 20000 in
theorem cd_X8_far : (Cond.code yX8_far cX8_far 8 (some .int)) ∈ lw_E := List.mem_filter.mpr ⟨List.mem_of_getElem? (i := 728) (by decide +kernel), rfl⟩
set_option maxRecDepth 20000 in
theorem mn_X8_213 : (Cond.methodLinkNest RX8 213 yX0_find "VeneerYard") ∈ lw_E := List.mem_filter.mpr ⟨List.mem_of_getElem? (i := 729) (by decide +kernel), rfl⟩
set_option maxRecDepth 20000 in
theorem mn_X8_227 : (Cond.methodLinkNest RX8 227 yX2_reaches "VeneerYard") ∈ lw_E := List.mem_filter.mpr ⟨List.mem_of_getElem? (i := 730) (by decide +kernel), rfl⟩
set_option maxRecDepth 20000 in
theorem cl_L_10 : (Cond.classLink RL 10 RX9) ∈ lw_E := List.mem_filter.mpr ⟨List.mem_of_getElem? (i := 731) (by decide +kernel), rfl⟩
set_option maxRecDepth 20000 in
theorem ins_X9 : (Cond.instantiable RX9 51) ∈ lw_E := List.mem_filter.mpr ⟨List.mem_of_getElem? (i := 732) (by decide +kernel), rfl⟩
set_option maxRecDepth 20000 in
theorem ml_L_12 : (Cond.methodLink RL 12 yX9_init) ∈ lw_E := List.mem_filter.mpr ⟨List.mem_of_getElem? (i := 733) (by decide +kernel), rfl⟩
set_option maxRecDepth 20000 in
theorem im_X9_init : (Cond.instanceMethod yX9_init) ∈ lw_E := List.mem_filter.mpr ⟨List.mem_of_getElem? (i := 734) (by decide +kernel), rfl⟩
set_option maxRecDepth 20000 in
theorem cd_X9_init : (Cond.code yX9_init cX9_init 1 none) ∈ lw_E := List.mem_filter.mpr ⟨List.mem_of_getElem? (i := 735) (by decide +kernel), rfl⟩
set_option maxRecDepth 20000 in
theorem fl_X9_105 : (Cond.fieldLink RX9 105 "VeneerYardModel" "sections" "I") ∈ lw_E := List.mem_filter.mpr ⟨List.mem_of_getElem? (i := 737) (by decide +kernel), rfl⟩
set_option maxRecDepth 20000 in
theorem fl_X9_121 : (Cond.fieldLink RX9 121 "VeneerYardModel" "labels" "I") ∈ lw_E := List.mem_filter.mpr ⟨List.mem_of_getElem? (i := 738) (by decide +kernel), rfl⟩
set_option maxRecDepth 20000 in
theorem fl_X9_124 : (Cond.fieldLink RX9 124 "VeneerYardModel" "branches" "I") ∈ lw_E := List.mem_filter.mpr ⟨List.mem_of_getElem? (i := 739) (by decide +kernel), rfl⟩
set_option maxRecDepth 20000 in
theorem fl_X9_114 : (Cond.fieldLink RX9 114 "VeneerYardModel" "pools" "I") ∈ lw_E := List.mem_filter.mpr ⟨List.mem_of_getElem? (i := 740) (by decide +kernel), rfl⟩
set_option maxRecDepth 20000 in
theorem fl_X9_7 : (Cond.fieldLink RX9 7 "VeneerYardModel" "size" "[I") ∈ lw_E := List.mem_filter.mpr ⟨List.mem_of_getElem? (i := 741) (by decide +kernel), rfl⟩
set_option maxRecDepth 20000 in
theorem fl_X9_13 : (Cond.fieldLink RX9 13 "VeneerYardModel" "align" "[I") ∈ lw_E := List.mem_filter.mpr ⟨List.mem_of_getElem? (i := 742) (by decide +kernel), rfl⟩
set_option maxRecDepth 20000 in
theorem fl_X9_16 : (Cond.fieldLink RX9 16 "VeneerYardModel" "hasPool" "[Z") ∈ lw_E := List.mem_filter.mpr ⟨List.mem_of_getElem? (i := 743) (by decide +kernel), rfl⟩
set_option maxRecDepth 20000 in
theorem fl_X9_20 : (Cond.fieldLink RX9 20 "VeneerYardModel" "labelOf" "[I") ∈ lw_E := List.mem_filter.mpr ⟨List.mem_of_getElem? (i := 744) (by decide +kernel), rfl⟩
set_option maxRecDepth 20000 in
theorem fl_X9_23 : (Cond.fieldLink RX9 23 "VeneerYardModel" "labelAt" "[I") ∈ lw_E := List.mem_filter.mpr ⟨List.mem_of_getElem? (i := 745) (by decide +kernel), rfl⟩
set_option maxRecDepth 20000 in
theorem fl_X9_26 : (Cond.fieldLink RX9 26 "VeneerYardModel" "branchOf" "[I") ∈ lw_E := List.mem_filter.mpr ⟨List.mem_of_getElem? (i := 746) (by decide +kernel), rfl⟩
set_option maxRecDepth 20000 in
theorem fl_X9_29 : (Cond.fieldLink RX9 29 "VeneerYardModel" "branchAt" "[I") ∈ lw_E := List.mem_filter.mpr ⟨List.mem_of_getElem? (i := 747) (by decide +kernel), rfl⟩
set_option maxRecDepth 20000 in
theorem fl_X9_32 : (Cond.fieldLink RX9 32 "VeneerYardModel" "branchKind" "[I") ∈ lw_E := List.mem_filter.mpr ⟨List.mem_of_getElem? (i := 748) (by decide +kernel), rfl⟩
set_option maxRecDepth 20000 in
theorem fl_X9_35 : (Cond.fieldLink RX9 35 "VeneerYardModel" "branchTo" "[I") ∈ lw_E := List.mem_filter.mpr ⟨List.mem_of_getElem? (i := 749) (by decide +kernel), rfl⟩
set_option maxRecDepth 20000 in
theorem fl_X9_38 : (Cond.fieldLink RX9 38 "VeneerYardModel" "step" "[I") ∈ lw_E := List.mem_filter.mpr ⟨List.mem_of_getElem? (i := 750) (by decide +kernel), rfl⟩
set_option maxRecDepth 20000 in
theorem fl_X9_41 : (Cond.fieldLink RX9 41 "VeneerYardModel" "bits" "[I") ∈ lw_E := List.mem_filter.mpr ⟨List.mem_of_getElem? (i := 751) (by decide +kernel), rfl⟩
set_option maxRecDepth 20000 in
theorem fl_X9_127 : (Cond.fieldLink RX9 127 "VeneerYardModel" "thunkSize" "I") ∈ lw_E := List.mem_filter.mpr ⟨List.mem_of_getElem? (i := 752) (by decide +kernel), rfl⟩
set_option maxRecDepth 20000 in
theorem fl_X9_130 : (Cond.fieldLink RX9 130 "VeneerYardModel" "thunkAlign" "I") ∈ lw_E := List.mem_filter.mpr ⟨List.mem_of_getElem? (i := 753) (by decide +kernel), rfl⟩
set_option maxRecDepth 20000 in
theorem fl_X9_133 : (Cond.fieldLink RX9 133 "VeneerYardModel" "thunkKind" "I") ∈ lw_E := List.mem_filter.mpr ⟨List.mem_of_getElem? (i := 754) (by decide +kernel), rfl⟩
set_option maxRecDepth 20000 in
theorem fl_X9_136 : (Cond.fieldLink RX9 136 "VeneerYardModel" "base" "I") ∈ lw_E := List.mem_filter.mpr ⟨List.mem_of_getElem? (i := 755) (by decide +kernel), rfl⟩
set_option maxRecDepth 20000 in
theorem fl_X9_117 : (Cond.fieldLink RX9 117 "VeneerYardModel" "isTold" "Z") ∈ lw_E := List.mem_filter.mpr ⟨List.mem_of_getElem? (i := 756) (by decide +kernel), rfl⟩
set_option maxRecDepth 20000 in
theorem fl_X9_187 : (Cond.fieldLink RX9 187 "VeneerYardModel" "isLaid" "Z") ∈ lw_E := List.mem_filter.mpr ⟨List.mem_of_getElem? (i := 757) (by decide +kernel), rfl⟩
set_option maxRecDepth 20000 in
theorem fl_X9_190 : (Cond.fieldLink RX9 190 "VeneerYardModel" "lSections" "I") ∈ lw_E := List.mem_filter.mpr ⟨List.mem_of_getElem? (i := 758) (by decide +kernel), rfl⟩
set_option maxRecDepth 20000 in
theorem fl_X9_193 : (Cond.fieldLink RX9 193 "VeneerYardModel" "lLabels" "I") ∈ lw_E := List.mem_filter.mpr ⟨List.mem_of_getElem? (i := 759) (by decide +kernel), rfl⟩
set_option maxRecDepth 20000 in
theorem fl_X9_196 : (Cond.fieldLink RX9 196 "VeneerYardModel" "lBranches" "I") ∈ lw_E := List.mem_filter.mpr ⟨List.mem_of_getElem? (i := 760) (by decide +kernel), rfl⟩
set_option maxRecDepth 20000 in
theorem fl_X9_180 : (Cond.fieldLink RX9 180 "VeneerYardModel" "lThunks" "I") ∈ lw_E := List.mem_filter.mpr ⟨List.mem_of_getElem? (i := 761) (by decide +kernel), rfl⟩
set_option maxRecDepth 20000 in
theorem fl_X9_177 : (Cond.fieldLink RX9 177 "VeneerYardModel" "lRounds" "I") ∈ lw_E := List.mem_filter.mpr ⟨List.mem_of_getElem? (i := 762) (by decide +kernel), rfl⟩
set_option maxRecDepth 20000 in
theorem fl_X9_199 : (Cond.fieldLink RX9 199 "VeneerYardModel" "lBase" "J") ∈ lw_E := List.mem_filter.mpr ⟨List.mem_of_getElem? (i := 763) (by decide +kernel), rfl⟩
set_option maxRecDepth 20000 in
theorem fl_X9_143 : (Cond.fieldLink RX9 143 "VeneerYardModel" "lEnd" "J") ∈ lw_E := List.mem_filter.mpr ⟨List.mem_of_getElem? (i := 764) (by decide +kernel), rfl⟩
set_option maxRecDepth 20000 in
theorem fl_X9_44 : (Cond.fieldLink RX9 44 "VeneerYardModel" "sStart" "[J") ∈ lw_E := List.mem_filter.mpr ⟨List.mem_of_getElem? (i := 765) (by decide +kernel), rfl⟩
set_option maxRecDepth 20000 in
theorem fl_X9_48 : (Cond.fieldLink RX9 48 "VeneerYardModel" "sEnd" "[J") ∈ lw_E := List.mem_filter.mpr ⟨List.mem_of_getElem? (i := 766) (by decide +kernel), rfl⟩
set_option maxRecDepth 20000 in
theorem fl_X9_51 : (Cond.fieldLink RX9 51 "VeneerYardModel" "sPool" "[Z") ∈ lw_E := List.mem_filter.mpr ⟨List.mem_of_getElem? (i := 767) (by decide +kernel), rfl⟩
set_option maxRecDepth 20000 in
theorem fl_X9_54 : (Cond.fieldLink RX9 54 "VeneerYardModel" "poolEnd" "[J") ∈ lw_E := List.mem_filter.mpr ⟨List.mem_of_getElem? (i := 768) (by decide +kernel), rfl⟩
set_option maxRecDepth 20000 in
theorem fl_X9_57 : (Cond.fieldLink RX9 57 "VeneerYardModel" "lAddress" "[J") ∈ lw_E := List.mem_filter.mpr ⟨List.mem_of_getElem? (i := 769) (by decide +kernel), rfl⟩
set_option maxRecDepth 20000 in
theorem fl_X9_60 : (Cond.fieldLink RX9 60 "VeneerYardModel" "bAddress" "[J") ∈ lw_E := List.mem_filter.mpr ⟨List.mem_of_getElem? (i := 770) (by decide +kernel), rfl⟩
set_option maxRecDepth 20000 in
theorem fl_X9_63 : (Cond.fieldLink RX9 63 "VeneerYardModel" "bKind" "[I") ∈ lw_E := List.mem_filter.mpr ⟨List.mem_of_getElem? (i := 771) (by decide +kernel), rfl⟩
set_option maxRecDepth 20000 in
theorem fl_X9_66 : (Cond.fieldLink RX9 66 "VeneerYardModel" "bTo" "[I") ∈ lw_E := List.mem_filter.mpr ⟨List.mem_of_getElem? (i := 772) (by decide +kernel), rfl⟩
set_option maxRecDepth 20000 in
theorem fl_X9_69 : (Cond.fieldLink RX9 69 "VeneerYardModel" "bWay" "[I") ∈ lw_E := List.mem_filter.mpr ⟨List.mem_of_getElem? (i := 773) (by decide +kernel), rfl⟩
set_option maxRecDepth 20000 in
theorem fl_X9_72 : (Cond.fieldLink RX9 72 "VeneerYardModel" "bThunk" "[I") ∈ lw_E := List.mem_filter.mpr ⟨List.mem_of_getElem? (i := 774) (by decide +kernel), rfl⟩
set_option maxRecDepth 20000 in
theorem fl_X9_75 : (Cond.fieldLink RX9 75 "VeneerYardModel" "lStep" "[I") ∈ lw_E := List.mem_filter.mpr ⟨List.mem_of_getElem? (i := 775) (by decide +kernel), rfl⟩
set_option maxRecDepth 20000 in
theorem fl_X9_78 : (Cond.fieldLink RX9 78 "VeneerYardModel" "lBits" "[I") ∈ lw_E := List.mem_filter.mpr ⟨List.mem_of_getElem? (i := 776) (by decide +kernel), rfl⟩
set_option maxRecDepth 20000 in
theorem fl_X9_202 : (Cond.fieldLink RX9 202 "VeneerYardModel" "lThunkSize" "I") ∈ lw_E := List.mem_filter.mpr ⟨List.mem_of_getElem? (i := 777) (by decide +kernel), rfl⟩
set_option maxRecDepth 20000 in
theorem fl_X9_205 : (Cond.fieldLink RX9 205 "VeneerYardModel" "lThunkKind" "I") ∈ lw_E := List.mem_filter.mpr ⟨List.mem_of_getElem? (i := 778) (by decide +kernel), rfl⟩
set_option maxRecDepth 20000 in
theorem fl_X9_81 : (Cond.fieldLink RX9 81 "VeneerYardModel" "tAddress" "[J") ∈ lw_E := List.mem_filter.mpr ⟨List.mem_of_getElem? (i := 779) (by decide +kernel), rfl⟩
set_option maxRecDepth 20000 in
theorem fl_X9_84 : (Cond.fieldLink RX9 84 "VeneerYardModel" "tSection" "[I") ∈ lw_E := List.mem_filter.mpr ⟨List.mem_of_getElem? (i := 780) (by decide +kernel), rfl⟩
set_option maxRecDepth 20000 in
theorem fl_X9_87 : (Cond.fieldLink RX9 87 "VeneerYardModel" "tLabel" "[I") ∈ lw_E := List.mem_filter.mpr ⟨List.mem_of_getElem? (i := 781) (by decide +kernel), rfl⟩
set_option maxRecDepth 20000 in
theorem fl_X9_90 : (Cond.fieldLink RX9 90 "VeneerYardModel" "tRound" "[I") ∈ lw_E := List.mem_filter.mpr ⟨List.mem_of_getElem? (i := 782) (by decide +kernel), rfl⟩
set_option maxRecDepth 20000 in
theorem fl_X9_93 : (Cond.fieldLink RX9 93 "VeneerYardModel" "tBranch" "[I") ∈ lw_E := List.mem_filter.mpr ⟨List.mem_of_getElem? (i := 783) (by decide +kernel), rfl⟩
set_option maxRecDepth 20000 in
theorem fl_X9_96 : (Cond.fieldLink RX9 96 "VeneerYardModel" "tUsed" "[I") ∈ lw_E := List.mem_filter.mpr ⟨List.mem_of_getElem? (i := 784) (by decide +kernel), rfl⟩
set_option maxRecDepth 20000 in
theorem fl_X9_99 : (Cond.fieldLink RX9 99 "VeneerYardModel" "tPlace" "[I") ∈ lw_E := List.mem_filter.mpr ⟨List.mem_of_getElem? (i := 785) (by decide +kernel), rfl⟩
set_option maxRecDepth 20000 in
theorem fl_X9_159 : (Cond.fieldLink RX9 159 "VeneerYardModel" "fresh" "I") ∈ lw_E := List.mem_filter.mpr ⟨List.mem_of_getElem? (i := 786) (by decide +kernel), rfl⟩
set_option maxRecDepth 20000 in
theorem fl_X9_102 : (Cond.fieldLink RX9 102 "VeneerYardModel" "now" "[J") ∈ lw_E := List.mem_filter.mpr ⟨List.mem_of_getElem? (i := 787) (by decide +kernel), rfl⟩
set_option maxRecDepth 20000 in
theorem ml_L_17 : (Cond.methodLink RL 17 yX9_section) ∈ lw_E := List.mem_filter.mpr ⟨List.mem_of_getElem? (i := 891) (by decide +kernel), rfl⟩
set_option maxRecDepth 20000 in
theorem im_X9_section : (Cond.instanceMethod yX9_section) ∈ lw_E := List.mem_filter.mpr ⟨List.mem_of_getElem? (i := 892) (by decide +kernel), rfl⟩
set_option maxRecDepth 20000 in
theorem se_X9_section : (Cond.selects RX9 yX9_section yX9_section) ∈ lw_E := List.mem_filter.mpr ⟨List.mem_of_getElem? (i := 893) (by decide +kernel), rfl⟩
set_option maxRecDepth 20000 in
theorem cd_X9_section : (Cond.code yX9_section cX9_section 4 (some .int)) ∈ lw_E := List.mem_filter.mpr ⟨List.mem_of_getElem? (i := 894) (by decide +kernel), rfl⟩
set_option maxRecDepth 20000 in
theorem kc_X9_109 : (Cond.constant RX9 109 (1000000)) ∈ lw_E := List.mem_filter.mpr ⟨List.mem_of_getElem? (i := 895) (by decide +kernel), rfl⟩
set_option maxRecDepth 20000 in
theorem ml_X9_110 : (Cond.methodLink RX9 110 yX9_in) ∈ lw_E := List.mem_filter.mpr ⟨List.mem_of_getElem? (i := 896) (by decide +kernel), rfl⟩
set_option maxRecDepth 20000 in
theorem sc_X9_in : (Cond.static yX9_in) ∈ lw_E := List.mem_filter.mpr ⟨List.mem_of_getElem? (i := 897) (by decide +kernel), rfl⟩
set_option maxRecDepth 20000 in
theorem cd_X9_in : (Cond.code yX9_in cX9_in 3 (some .boolean)) ∈ lw_E := List.mem_filter.mpr ⟨List.mem_of_getElem? (i := 898) (by decide +kernel), rfl⟩
set_option maxRecDepth 20000 in
theorem ml_L_22 : (Cond.methodLink RL 22 yX9_label) ∈ lw_E := List.mem_filter.mpr ⟨List.mem_of_getElem? (i := 899) (by decide +kernel), rfl⟩
set_option maxRecDepth 20000 in
theorem im_X9_label : (Cond.instanceMethod yX9_label) ∈ lw_E := List.mem_filter.mpr ⟨List.mem_of_getElem? (i := 900) (by decide +kernel), rfl⟩
set_option maxRecDepth 20000 in
theorem se_X9_label : (Cond.selects RX9 yX9_label yX9_label) ∈ lw_E := List.mem_filter.mpr ⟨List.mem_of_getElem? (i := 901) (by decide +kernel), rfl⟩
set_option maxRecDepth 20000 in
theorem cd_X9_label : (Cond.code yX9_label cX9_label 3 (some .int)) ∈ lw_E := List.mem_filter.mpr ⟨List.mem_of_getElem? (i := 902) (by decide +kernel), rfl⟩
set_option maxRecDepth 20000 in
theorem ml_L_27 : (Cond.methodLink RL 27 yX9_kind) ∈ lw_E := List.mem_filter.mpr ⟨List.mem_of_getElem? (i := 903) (by decide +kernel), rfl⟩
set_option maxRecDepth 20000 in
theorem im_X9_kind : (Cond.instanceMethod yX9_kind) ∈ lw_E := List.mem_filter.mpr ⟨List.mem_of_getElem? (i := 904) (by decide +kernel), rfl⟩
set_option maxRecDepth 20000 in
theorem se_X9_kind : (Cond.selects RX9 yX9_kind yX9_kind) ∈ lw_E := List.mem_filter.mpr ⟨List.mem_of_getElem? (i := 905) (by decide +kernel), rfl⟩
set_option maxRecDepth 20000 in
theorem cd_X9_kind : (Cond.code yX9_kind cX9_kind 4 (some .boolean)) ∈ lw_E := List.mem_filter.mpr ⟨List.mem_of_getElem? (i := 906) (by decide +kernel), rfl⟩
set_option maxRecDepth 20000 in
theorem ml_L_32 : (Cond.methodLink RL 32 yX9_branch) ∈ lw_E := List.mem_filter.mpr ⟨List.mem_of_getElem? (i := 907) (by decide +kernel), rfl⟩
set_option maxRecDepth 20000 in
theorem im_X9_branch : (Cond.instanceMethod yX9_branch) ∈ lw_E := List.mem_filter.mpr ⟨List.mem_of_getElem? (i := 908) (by decide +kernel), rfl⟩
set_option maxRecDepth 20000 in
theorem se_X9_branch : (Cond.selects RX9 yX9_branch yX9_branch) ∈ lw_E := List.mem_filter.mpr ⟨List.mem_of_getElem? (i := 909) (by decide +kernel), rfl⟩
set_option maxRecDepth 20000 in
theorem cd_X9_branch : (Cond.code yX9_branch cX9_branch 5 (some .int)) ∈ lw_E := List.mem_filter.mpr ⟨List.mem_of_getElem? (i := 910) (by decide +kernel), rfl⟩
set_option maxRecDepth 20000 in
theorem ml_L_36 : (Cond.methodLink RL 36 yX9_thunks) ∈ lw_E := List.mem_filter.mpr ⟨List.mem_of_getElem? (i := 911) (by decide +kernel), rfl⟩
set_option maxRecDepth 20000 in
theorem im_X9_thunks : (Cond.instanceMethod yX9_thunks) ∈ lw_E := List.mem_filter.mpr ⟨List.mem_of_getElem? (i := 912) (by decide +kernel), rfl⟩
set_option maxRecDepth 20000 in
theorem se_X9_thunks : (Cond.selects RX9 yX9_thunks yX9_thunks) ∈ lw_E := List.mem_filter.mpr ⟨List.mem_of_getElem? (i := 913) (by decide +kernel), rfl⟩
set_option maxRecDepth 20000 in
theorem cd_X9_thunks : (Cond.code yX9_thunks cX9_thunks 4 (some .boolean)) ∈ lw_E := List.mem_filter.mpr ⟨List.mem_of_getElem? (i := 914) (by decide +kernel), rfl⟩
set_option maxRecDepth 20000 in
theorem ml_L_41 : (Cond.methodLink RL 41 yX9_base) ∈ lw_E := List.mem_filter.mpr ⟨List.mem_of_getElem? (i := 915) (by decide +kernel), rfl⟩
set_option maxRecDepth 20000 in
theorem im_X9_base : (Cond.instanceMethod yX9_base) ∈ lw_E := List.mem_filter.mpr ⟨List.mem_of_getElem? (i := 916) (by decide +kernel), rfl⟩
set_option maxRecDepth 20000 in
theorem se_X9_base : (Cond.selects RX9 yX9_base yX9_base) ∈ lw_E := List.mem_filter.mpr ⟨List.mem_of_getElem? (i := 917) (by decide +kernel), rfl⟩
set_option maxRecDepth 20000 in
theorem cd_X9_base : (Cond.code yX9_base cX9_base 2 (some .boolean)) ∈ lw_E := List.mem_filter.mpr ⟨List.mem_of_getElem? (i := 918) (by decide +kernel), rfl⟩
set_option maxRecDepth 20000 in
theorem ml_L_46 : (Cond.methodLink RL 46 yX9_resize) ∈ lw_E := List.mem_filter.mpr ⟨List.mem_of_getElem? (i := 919) (by decide +kernel), rfl⟩
set_option maxRecDepth 20000 in
theorem im_X9_resize : (Cond.instanceMethod yX9_resize) ∈ lw_E := List.mem_filter.mpr ⟨List.mem_of_getElem? (i := 920) (by decide +kernel), rfl⟩
set_option maxRecDepth 20000 in
theorem se_X9_resize : (Cond.selects RX9 yX9_resize yX9_resize) ∈ lw_E := List.mem_filter.mpr ⟨List.mem_of_getElem? (i := 921) (by decide +kernel), rfl⟩
set_option maxRecDepth 20000 in
theorem cd_X9_resize : (Cond.code yX9_resize cX9_resize 4 (some .boolean)) ∈ lw_E := List.mem_filter.mpr ⟨List.mem_of_getElem? (i := 922) (by decide +kernel), rfl⟩
set_option maxRecDepth 20000 in
theorem ml_L_50 : (Cond.methodLink RL 50 yX9_retarget) ∈ lw_E := List.mem_filter.mpr ⟨List.mem_of_getElem? (i := 923) (by decide +kernel), rfl⟩
set_option maxRecDepth 20000 in
theorem im_X9_retarget : (Cond.instanceMethod yX9_retarget) ∈ lw_E := List.mem_filter.mpr ⟨List.mem_of_getElem? (i := 924) (by decide +kernel), rfl⟩
set_option maxRecDepth 20000 in
theorem se_X9_retarget : (Cond.selects RX9 yX9_retarget yX9_retarget) ∈ lw_E := List.mem_filter.mpr ⟨List.mem_of_getElem? (i := 925) (by decide +kernel), rfl⟩
set_option maxRecDepth 20000 in
theorem cd_X9_retarget : (Cond.code yX9_retarget cX9_retarget 3 (some .boolean)) ∈ lw_E := List.mem_filter.mpr ⟨List.mem_of_getElem? (i := 926) (by decide +kernel), rfl⟩
set_option maxRecDepth 20000 in
theorem ml_L_55 : (Cond.methodLink RL 55 yX9_lay) ∈ lw_E := List.mem_filter.mpr ⟨List.mem_of_getElem? (i := 927) (by decide +kernel), rfl⟩
set_option maxRecDepth 20000 in
theorem im_X9_lay : (Cond.instanceMethod yX9_lay) ∈ lw_E := List.mem_filter.mpr ⟨List.mem_of_getElem? (i := 928) (by decide +kernel), rfl⟩
set_option maxRecDepth 20000 in
theorem se_X9_lay : (Cond.selects RX9 yX9_lay yX9_lay) ∈ lw_E := List.mem_filter.mpr ⟨List.mem_of_getElem? (i := 929) (by decide +kernel), rfl⟩
set_option maxRecDepth 20000 in
theorem cd_X9_lay : (Cond.code yX9_lay cX9_lay 8 (some .int)) ∈ lw_E := List.mem_filter.mpr ⟨List.mem_of_getElem? (i := 930) (by decide +kernel), rfl⟩
set_option maxRecDepth 20000 in
theorem ml_X9_162 : (Cond.methodLink RX9 162 yX9_addresses) ∈ lw_E := List.mem_filter.mpr ⟨List.mem_of_getElem? (i := 931) (by decide +kernel), rfl⟩
set_option maxRecDepth 20000 in
theorem im_X9_addresses : (Cond.instanceMethod yX9_addresses) ∈ lw_E := List.mem_filter.mpr ⟨List.mem_of_getElem? (i := 933) (by decide +kernel), rfl⟩
set_option maxRecDepth 20000 in
theorem cd_X9_addresses : (Cond.code yX9_addresses cX9_addresses 6 none) ∈ lw_E := List.mem_filter.mpr ⟨List.mem_of_getElem? (i := 934) (by decide +kernel), rfl⟩
set_option maxRecDepth 20000 in
theorem ml_X9_139 : (Cond.methodLink RX9 139 yX9_upTo) ∈ lw_E := List.mem_filter.mpr ⟨List.mem_of_getElem? (i := 935) (by decide +kernel), rfl⟩
set_option maxRecDepth 20000 in
theorem sc_X9_upTo : (Cond.static yX9_upTo) ∈ lw_E := List.mem_filter.mpr ⟨List.mem_of_getElem? (i := 936) (by decide +kernel), rfl⟩
set_option maxRecDepth 20000 in
theorem cd_X9_upTo : (Cond.code yX9_upTo cX9_upTo 5 (some .long)) ∈ lw_E := List.mem_filter.mpr ⟨List.mem_of_getElem? (i := 937) (by decide +kernel), rfl⟩
set_option maxRecDepth 20000 in
theorem ml_X9_166 : (Cond.methodLink RX9 166 yX9_isDirect) ∈ lw_E := List.mem_filter.mpr ⟨List.mem_of_getElem? (i := 938) (by decide +kernel), rfl⟩
set_option maxRecDepth 20000 in
theorem im_X9_isDirect : (Cond.instanceMethod yX9_isDirect) ∈ lw_E := List.mem_filter.mpr ⟨List.mem_of_getElem? (i := 940) (by decide +kernel), rfl⟩
set_option maxRecDepth 20000 in
theorem cd_X9_isDirect : (Cond.code yX9_isDirect cX9_isDirect 2 (some .boolean)) ∈ lw_E := List.mem_filter.mpr ⟨List.mem_of_getElem? (i := 941) (by decide +kernel), rfl⟩
set_option maxRecDepth 20000 in
theorem ml_X9_147 : (Cond.methodLink RX9 147 yX9_reaches) ∈ lw_E := List.mem_filter.mpr ⟨List.mem_of_getElem? (i := 942) (by decide +kernel), rfl⟩
set_option maxRecDepth 20000 in
theorem im_X9_reaches : (Cond.instanceMethod yX9_reaches) ∈ lw_E := List.mem_filter.mpr ⟨List.mem_of_getElem? (i := 944) (by decide +kernel), rfl⟩
set_option maxRecDepth 20000 in
theorem cd_X9_reaches : (Cond.code yX9_reaches cX9_reaches 10 (some .boolean)) ∈ lw_E := List.mem_filter.mpr ⟨List.mem_of_getElem? (i := 945) (by decide +kernel), rfl⟩
set_option maxRecDepth 20000 in
theorem ml_X9_170 : (Cond.methodLink RX9 170 yX9_thunkFor) ∈ lw_E := List.mem_filter.mpr ⟨List.mem_of_getElem? (i := 946) (by decide +kernel), rfl⟩
set_option maxRecDepth 20000 in
theorem im_X9_thunkFor : (Cond.instanceMethod yX9_thunkFor) ∈ lw_E := List.mem_filter.mpr ⟨List.mem_of_getElem? (i := 948) (by decide +kernel), rfl⟩
set_option maxRecDepth 20000 in
theorem cd_X9_thunkFor : (Cond.code yX9_thunkFor cX9_thunkFor 6 (some .int)) ∈ lw_E := List.mem_filter.mpr ⟨List.mem_of_getElem? (i := 949) (by decide +kernel), rfl⟩
set_option maxRecDepth 20000 in
theorem ml_X9_151 : (Cond.methodLink RX9 151 yX9_isNearer) ∈ lw_E := List.mem_filter.mpr ⟨List.mem_of_getElem? (i := 950) (by decide +kernel), rfl⟩
set_option maxRecDepth 20000 in
theorem sc_X9_isNearer : (Cond.static yX9_isNearer) ∈ lw_E := List.mem_filter.mpr ⟨List.mem_of_getElem? (i := 951) (by decide +kernel), rfl⟩
set_option maxRecDepth 20000 in
theorem cd_X9_isNearer : (Cond.code yX9_isNearer cX9_isNearer 10 (some .boolean)) ∈ lw_E := List.mem_filter.mpr ⟨List.mem_of_getElem? (i := 952) (by decide +kernel), rfl⟩
set_option maxRecDepth 20000 in
theorem ml_X9_174 : (Cond.methodLink RX9 174 yX9_wants) ∈ lw_E := List.mem_filter.mpr ⟨List.mem_of_getElem? (i := 953) (by decide +kernel), rfl⟩
set_option maxRecDepth 20000 in
theorem im_X9_wants : (Cond.instanceMethod yX9_wants) ∈ lw_E := List.mem_filter.mpr ⟨List.mem_of_getElem? (i := 955) (by decide +kernel), rfl⟩
set_option maxRecDepth 20000 in
theorem cd_X9_wants : (Cond.code yX9_wants cX9_wants 6 (some .int)) ∈ lw_E := List.mem_filter.mpr ⟨List.mem_of_getElem? (i := 956) (by decide +kernel), rfl⟩
set_option maxRecDepth 20000 in
theorem ml_X9_155 : (Cond.methodLink RX9 155 yX9_hasThunk) ∈ lw_E := List.mem_filter.mpr ⟨List.mem_of_getElem? (i := 957) (by decide +kernel), rfl⟩
set_option maxRecDepth 20000 in
theorem im_X9_hasThunk : (Cond.instanceMethod yX9_hasThunk) ∈ lw_E := List.mem_filter.mpr ⟨List.mem_of_getElem? (i := 959) (by decide +kernel), rfl⟩
set_option maxRecDepth 20000 in
theorem cd_X9_hasThunk : (Cond.code yX9_hasThunk cX9_hasThunk 7 (some .boolean)) ∈ lw_E := List.mem_filter.mpr ⟨List.mem_of_getElem? (i := 960) (by decide +kernel), rfl⟩
set_option maxRecDepth 20000 in
theorem ml_X9_183 : (Cond.methodLink RX9 183 yX9_keeps) ∈ lw_E := List.mem_filter.mpr ⟨List.mem_of_getElem? (i := 961) (by decide +kernel), rfl⟩
set_option maxRecDepth 20000 in
theorem im_X9_keeps : (Cond.instanceMethod yX9_keeps) ∈ lw_E := List.mem_filter.mpr ⟨List.mem_of_getElem? (i := 963) (by decide +kernel), rfl⟩
set_option maxRecDepth 20000 in
theorem cd_X9_keeps : (Cond.code yX9_keeps cX9_keeps 3 (some .int)) ∈ lw_E := List.mem_filter.mpr ⟨List.mem_of_getElem? (i := 964) (by decide +kernel), rfl⟩
set_option maxRecDepth 20000 in
theorem ml_L_60 : (Cond.methodLink RL 60 yX9_count) ∈ lw_E := List.mem_filter.mpr ⟨List.mem_of_getElem? (i := 965) (by decide +kernel), rfl⟩
set_option maxRecDepth 20000 in
theorem im_X9_count : (Cond.instanceMethod yX9_count) ∈ lw_E := List.mem_filter.mpr ⟨List.mem_of_getElem? (i := 966) (by decide +kernel), rfl⟩
set_option maxRecDepth 20000 in
theorem se_X9_count : (Cond.selects RX9 yX9_count yX9_count) ∈ lw_E := List.mem_filter.mpr ⟨List.mem_of_getElem? (i := 967) (by decide +kernel), rfl⟩
set_option maxRecDepth 20000 in
theorem cd_X9_count : (Cond.code yX9_count cX9_count 2 (some .int)) ∈ lw_E := List.mem_filter.mpr ⟨List.mem_of_getElem? (i := 968) (by decide +kernel), rfl⟩
set_option maxRecDepth 20000 in
theorem ml_X9_208 : (Cond.methodLink RX9 208 yX9_ways) ∈ lw_E := List.mem_filter.mpr ⟨List.mem_of_getElem? (i := 969) (by decide +kernel), rfl⟩
set_option maxRecDepth 20000 in
theorem im_X9_ways : (Cond.instanceMethod yX9_ways) ∈ lw_E := List.mem_filter.mpr ⟨List.mem_of_getElem? (i := 971) (by decide +kernel), rfl⟩
set_option maxRecDepth 20000 in
theorem cd_X9_ways : (Cond.code yX9_ways cX9_ways 4 (some .int)) ∈ lw_E := List.mem_filter.mpr ⟨List.mem_of_getElem? (i := 972) (by decide +kernel), rfl⟩
set_option maxRecDepth 20000 in
theorem ml_X9_212 : (Cond.methodLink RX9 212 yX9_idle) ∈ lw_E := List.mem_filter.mpr ⟨List.mem_of_getElem? (i := 973) (by decide +kernel), rfl⟩
set_option maxRecDepth 20000 in
theorem im_X9_idle : (Cond.instanceMethod yX9_idle) ∈ lw_E := List.mem_filter.mpr ⟨List.mem_of_getElem? (i := 975) (by decide +kernel), rfl⟩
set_option maxRecDepth 20000 in
theorem cd_X9_idle : (Cond.code yX9_idle cX9_idle 3 (some .int)) ∈ lw_E := List.mem_filter.mpr ⟨List.mem_of_getElem? (i := 976) (by decide +kernel), rfl⟩
set_option maxRecDepth 20000 in
theorem ml_X9_215 : (Cond.methodLink RX9 215 yX9_between) ∈ lw_E := List.mem_filter.mpr ⟨List.mem_of_getElem? (i := 977) (by decide +kernel), rfl⟩
set_option maxRecDepth 20000 in
theorem im_X9_between : (Cond.instanceMethod yX9_between) ∈ lw_E := List.mem_filter.mpr ⟨List.mem_of_getElem? (i := 979) (by decide +kernel), rfl⟩
set_option maxRecDepth 20000 in
theorem cd_X9_between : (Cond.code yX9_between cX9_between 4 (some .long)) ∈ lw_E := List.mem_filter.mpr ⟨List.mem_of_getElem? (i := 980) (by decide +kernel), rfl⟩
set_option maxRecDepth 20000 in
theorem ml_L_65 : (Cond.methodLink RL 65 yX9_address) ∈ lw_E := List.mem_filter.mpr ⟨List.mem_of_getElem? (i := 981) (by decide +kernel), rfl⟩
set_option maxRecDepth 20000 in
theorem im_X9_address : (Cond.instanceMethod yX9_address) ∈ lw_E := List.mem_filter.mpr ⟨List.mem_of_getElem? (i := 982) (by decide +kernel), rfl⟩
set_option maxRecDepth 20000 in
theorem se_X9_address : (Cond.selects RX9 yX9_address yX9_address) ∈ lw_E := List.mem_filter.mpr ⟨List.mem_of_getElem? (i := 983) (by decide +kernel), rfl⟩
set_option maxRecDepth 20000 in
theorem cd_X9_address : (Cond.code yX9_address cX9_address 3 (some .long)) ∈ lw_E := List.mem_filter.mpr ⟨List.mem_of_getElem? (i := 984) (by decide +kernel), rfl⟩
set_option maxRecDepth 20000 in
theorem kc_X9_219 : (Cond.constantLong RX9 219 (-9223372036854775808)) ∈ lw_E := List.mem_filter.mpr ⟨List.mem_of_getElem? (i := 985) (by decide +kernel), rfl⟩
set_option maxRecDepth 20000 in
theorem ml_L_69 : (Cond.methodLink RL 69 yX9_route) ∈ lw_E := List.mem_filter.mpr ⟨List.mem_of_getElem? (i := 986) (by decide +kernel), rfl⟩
set_option maxRecDepth 20000 in
theorem im_X9_route : (Cond.instanceMethod yX9_route) ∈ lw_E := List.mem_filter.mpr ⟨List.mem_of_getElem? (i := 987) (by decide +kernel), rfl⟩
set_option maxRecDepth 20000 in
theorem se_X9_route : (Cond.selects RX9 yX9_route yX9_route) ∈ lw_E := List.mem_filter.mpr ⟨List.mem_of_getElem? (i := 988) (by decide +kernel), rfl⟩
set_option maxRecDepth 20000 in
theorem cd_X9_route : (Cond.code yX9_route cX9_route 3 (some .int)) ∈ lw_E := List.mem_filter.mpr ⟨List.mem_of_getElem? (i := 989) (by decide +kernel), rfl⟩
set_option maxRecDepth 20000 in
theorem ml_L_73 : (Cond.methodLink RL 73 yX9_thunk) ∈ lw_E := List.mem_filter.mpr ⟨List.mem_of_getElem? (i := 990) (by decide +kernel), rfl⟩
set_option maxRecDepth 20000 in
theorem im_X9_thunk : (Cond.instanceMethod yX9_thunk) ∈ lw_E := List.mem_filter.mpr ⟨List.mem_of_getElem? (i := 991) (by decide +kernel), rfl⟩
set_option maxRecDepth 20000 in
theorem se_X9_thunk : (Cond.selects RX9 yX9_thunk yX9_thunk) ∈ lw_E := List.mem_filter.mpr ⟨List.mem_of_getElem? (i := 992) (by decide +kernel), rfl⟩
set_option maxRecDepth 20000 in
theorem cd_X9_thunk : (Cond.code yX9_thunk cX9_thunk 3 (some .int)) ∈ lw_E := List.mem_filter.mpr ⟨List.mem_of_getElem? (i := 993) (by decide +kernel), rfl⟩
set_option maxRecDepth 20000 in
theorem ml_L_77 : (Cond.methodLink RL 77 yX9_encoded) ∈ lw_E := List.mem_filter.mpr ⟨List.mem_of_getElem? (i := 994) (by decide +kernel), rfl⟩
set_option maxRecDepth 20000 in
theorem im_X9_encoded : (Cond.instanceMethod yX9_encoded) ∈ lw_E := List.mem_filter.mpr ⟨List.mem_of_getElem? (i := 995) (by decide +kernel), rfl⟩
set_option maxRecDepth 20000 in
theorem se_X9_encoded : (Cond.selects RX9 yX9_encoded yX9_encoded) ∈ lw_E := List.mem_filter.mpr ⟨List.mem_of_getElem? (i := 996) (by decide +kernel), rfl⟩
set_option maxRecDepth 20000 in
theorem cd_X9_encoded : (Cond.code yX9_encoded cX9_encoded 3 (some .int)) ∈ lw_E := List.mem_filter.mpr ⟨List.mem_of_getElem? (i := 997) (by decide +kernel), rfl⟩
set_option maxRecDepth 20000 in
theorem ml_X9_221 : (Cond.methodLink RX9 221 yX9_way) ∈ lw_E := List.mem_filter.mpr ⟨List.mem_of_getElem? (i := 998) (by decide +kernel), rfl⟩
set_option maxRecDepth 20000 in
theorem im_X9_way : (Cond.instanceMethod yX9_way) ∈ lw_E := List.mem_filter.mpr ⟨List.mem_of_getElem? (i := 1000) (by decide +kernel), rfl⟩
set_option maxRecDepth 20000 in
theorem cd_X9_way : (Cond.code yX9_way cX9_way 6 (some .int)) ∈ lw_E := List.mem_filter.mpr ⟨List.mem_of_getElem? (i := 1001) (by decide +kernel), rfl⟩
set_option maxRecDepth 20000 in
theorem ml_X9_225 : (Cond.methodLink RX9 225 yX9_laidReaches) ∈ lw_E := List.mem_filter.mpr ⟨List.mem_of_getElem? (i := 1002) (by decide +kernel), rfl⟩
set_option maxRecDepth 20000 in
theorem im_X9_laidReaches : (Cond.instanceMethod yX9_laidReaches) ∈ lw_E := List.mem_filter.mpr ⟨List.mem_of_getElem? (i := 1004) (by decide +kernel), rfl⟩
set_option maxRecDepth 20000 in
theorem cd_X9_laidReaches : (Cond.code yX9_laidReaches cX9_laidReaches 10 (some .boolean)) ∈ lw_E := List.mem_filter.mpr ⟨List.mem_of_getElem? (i := 1005) (by decide +kernel), rfl⟩
set_option maxRecDepth 20000 in
theorem ml_L_84 : (Cond.methodLink RL 84 yX9_at) ∈ lw_E := List.mem_filter.mpr ⟨List.mem_of_getElem? (i := 1006) (by decide +kernel), rfl⟩
set_option maxRecDepth 20000 in
theorem im_X9_at : (Cond.instanceMethod yX9_at) ∈ lw_E := List.mem_filter.mpr ⟨List.mem_of_getElem? (i := 1007) (by decide +kernel), rfl⟩
set_option maxRecDepth 20000 in
theorem se_X9_at : (Cond.selects RX9 yX9_at yX9_at) ∈ lw_E := List.mem_filter.mpr ⟨List.mem_of_getElem? (i := 1008) (by decide +kernel), rfl⟩
set_option maxRecDepth 20000 in
theorem cd_X9_at : (Cond.code yX9_at cX9_at 4 (some .int)) ∈ lw_E := List.mem_filter.mpr ⟨List.mem_of_getElem? (i := 1009) (by decide +kernel), rfl⟩
set_option maxRecDepth 20000 in
theorem ml_L_89 : (Cond.methodLink RL 89 yX9_walk) ∈ lw_E := List.mem_filter.mpr ⟨List.mem_of_getElem? (i := 1010) (by decide +kernel), rfl⟩
set_option maxRecDepth 20000 in
theorem im_X9_walk : (Cond.instanceMethod yX9_walk) ∈ lw_E := List.mem_filter.mpr ⟨List.mem_of_getElem? (i := 1011) (by decide +kernel), rfl⟩
set_option maxRecDepth 20000 in
theorem se_X9_walk : (Cond.selects RX9 yX9_walk yX9_walk) ∈ lw_E := List.mem_filter.mpr ⟨List.mem_of_getElem? (i := 1012) (by decide +kernel), rfl⟩
set_option maxRecDepth 20000 in
theorem cd_X9_walk : (Cond.code yX9_walk cX9_walk 5 (some .long)) ∈ lw_E := List.mem_filter.mpr ⟨List.mem_of_getElem? (i := 1013) (by decide +kernel), rfl⟩
set_option maxRecDepth 20000 in
theorem ml_X9_228 : (Cond.methodLink RX9 228 yX9_encoded) ∈ lw_E := List.mem_filter.mpr ⟨List.mem_of_getElem? (i := 1014) (by decide +kernel), rfl⟩
set_option maxRecDepth 20000 in
theorem ml_X9_231 : (Cond.methodLink RX9 231 yX9_goes) ∈ lw_E := List.mem_filter.mpr ⟨List.mem_of_getElem? (i := 1015) (by decide +kernel), rfl⟩
set_option maxRecDepth 20000 in
theorem im_X9_goes : (Cond.instanceMethod yX9_goes) ∈ lw_E := List.mem_filter.mpr ⟨List.mem_of_getElem? (i := 1017) (by decide +kernel), rfl⟩
set_option maxRecDepth 20000 in
theorem cd_X9_goes : (Cond.code yX9_goes cX9_goes 7 (some .long)) ∈ lw_E := List.mem_filter.mpr ⟨List.mem_of_getElem? (i := 1018) (by decide +kernel), rfl⟩
set_option maxRecDepth 20000 in
theorem ml_L_93 : (Cond.methodLink RL 93 yX9_far) ∈ lw_E := List.mem_filter.mpr ⟨List.mem_of_getElem? (i := 1019) (by decide +kernel), rfl⟩
set_option maxRecDepth 20000 in
theorem im_X9_far : (Cond.instanceMethod yX9_far) ∈ lw_E := List.mem_filter.mpr ⟨List.mem_of_getElem? (i := 1020) (by decide +kernel), rfl⟩
set_option maxRecDepth 20000 in
theorem se_X9_far : (Cond.selects RX9 yX9_far yX9_far) ∈ lw_E := List.mem_filter.mpr ⟨List.mem_of_getElem? (i := 1021) (by decide +kernel), rfl⟩
set_option maxRecDepth 20000 in
theorem cd_X9_far : (Cond.code yX9_far cX9_far 6 (some .int)) ∈ lw_E := List.mem_filter.mpr ⟨List.mem_of_getElem? (i := 1022) (by decide +kernel), rfl⟩
set_option maxRecDepth 20000 in
theorem kc_L_78 : (Cond.constantLong RL 78 (4294967295)) ∈ lw_E := List.mem_filter.mpr ⟨List.mem_of_getElem? (i := 1023) (by decide +kernel), rfl⟩
set_option maxRecDepth 20000 in
theorem se_X5_append : (Cond.selects RX5 yX5_append yX5_append) ∈ lw_E := List.mem_filter.mpr ⟨List.mem_of_getElem? (i := 0) (by decide +kernel), rfl⟩
set_option maxRecDepth 20000 in
theorem se_X8_notedNumber : (Cond.selects RX8 yX8_notedNumber yX8_notedNumber) ∈ lw_E := List.mem_filter.mpr ⟨List.mem_of_getElem? (i := 1) (by decide +kernel), rfl⟩
set_option maxRecDepth 20000 in
theorem se_X8_noted : (Cond.selects RX8 yX8_noted yX8_noted) ∈ lw_E := List.mem_filter.mpr ⟨List.mem_of_getElem? (i := 2) (by decide +kernel), rfl⟩
set_option maxRecDepth 20000 in
theorem se_X5_has : (Cond.selects RX5 yX5_has yX5_has) ∈ lw_E := List.mem_filter.mpr ⟨List.mem_of_getElem? (i := 3) (by decide +kernel), rfl⟩
set_option maxRecDepth 20000 in
theorem se_X3_append : (Cond.selects RX3 yX3_append yX3_append) ∈ lw_E := List.mem_filter.mpr ⟨List.mem_of_getElem? (i := 4) (by decide +kernel), rfl⟩
set_option maxRecDepth 20000 in
theorem se_X2_tell : (Cond.selects RX2 yX2_tell yX2_tell) ∈ lw_E := List.mem_filter.mpr ⟨List.mem_of_getElem? (i := 5) (by decide +kernel), rfl⟩
set_option maxRecDepth 20000 in
theorem se_X2_has : (Cond.selects RX2 yX2_has yX2_has) ∈ lw_E := List.mem_filter.mpr ⟨List.mem_of_getElem? (i := 6) (by decide +kernel), rfl⟩
set_option maxRecDepth 20000 in
theorem se_X3_has : (Cond.selects RX3 yX3_has yX3_has) ∈ lw_E := List.mem_filter.mpr ⟨List.mem_of_getElem? (i := 7) (by decide +kernel), rfl⟩
set_option maxRecDepth 20000 in
theorem se_X1_append : (Cond.selects RX1 yX1_append yX1_append) ∈ lw_E := List.mem_filter.mpr ⟨List.mem_of_getElem? (i := 8) (by decide +kernel), rfl⟩
set_option maxRecDepth 20000 in
theorem se_X7_tellThunks : (Cond.selects RX7 yX7_tellThunks yX7_tellThunks) ∈ lw_E := List.mem_filter.mpr ⟨List.mem_of_getElem? (i := 9) (by decide +kernel), rfl⟩
set_option maxRecDepth 20000 in
theorem se_X7_changeSize : (Cond.selects RX7 yX7_changeSize yX7_changeSize) ∈ lw_E := List.mem_filter.mpr ⟨List.mem_of_getElem? (i := 10) (by decide +kernel), rfl⟩
set_option maxRecDepth 20000 in
theorem se_X3_highestIn : (Cond.selects RX3 yX3_highestIn yX3_highestIn) ∈ lw_E := List.mem_filter.mpr ⟨List.mem_of_getElem? (i := 11) (by decide +kernel), rfl⟩
set_option maxRecDepth 20000 in
theorem se_X1_highestIn : (Cond.selects RX1 yX1_highestIn yX1_highestIn) ∈ lw_E := List.mem_filter.mpr ⟨List.mem_of_getElem? (i := 12) (by decide +kernel), rfl⟩
set_option maxRecDepth 20000 in
theorem se_X1_has : (Cond.selects RX1 yX1_has yX1_has) ∈ lw_E := List.mem_filter.mpr ⟨List.mem_of_getElem? (i := 13) (by decide +kernel), rfl⟩
set_option maxRecDepth 20000 in
theorem se_X4_layOut : (Cond.selects RX4 yX4_layOut yX4_layOut) ∈ lw_E := List.mem_filter.mpr ⟨List.mem_of_getElem? (i := 14) (by decide +kernel), rfl⟩
set_option maxRecDepth 20000 in
theorem se_X7_copyFrom : (Cond.selects RX7 yX7_copyFrom yX7_copyFrom) ∈ lw_E := List.mem_filter.mpr ⟨List.mem_of_getElem? (i := 15) (by decide +kernel), rfl⟩
set_option maxRecDepth 20000 in
theorem se_X5_copyFrom : (Cond.selects RX5 yX5_copyFrom yX5_copyFrom) ∈ lw_E := List.mem_filter.mpr ⟨List.mem_of_getElem? (i := 16) (by decide +kernel), rfl⟩
set_option maxRecDepth 20000 in
theorem se_X3_copyFrom : (Cond.selects RX3 yX3_copyFrom yX3_copyFrom) ∈ lw_E := List.mem_filter.mpr ⟨List.mem_of_getElem? (i := 17) (by decide +kernel), rfl⟩
set_option maxRecDepth 20000 in
theorem se_X2_copyFrom : (Cond.selects RX2 yX2_copyFrom yX2_copyFrom) ∈ lw_E := List.mem_filter.mpr ⟨List.mem_of_getElem? (i := 18) (by decide +kernel), rfl⟩
set_option maxRecDepth 20000 in
theorem se_X1_copyFrom : (Cond.selects RX1 yX1_copyFrom yX1_copyFrom) ∈ lw_E := List.mem_filter.mpr ⟨List.mem_of_getElem? (i := 19) (by decide +kernel), rfl⟩
set_option maxRecDepth 20000 in
theorem se_X6_clear : (Cond.selects RX6 yX6_clear yX6_clear) ∈ lw_E := List.mem_filter.mpr ⟨List.mem_of_getElem? (i := 20) (by decide +kernel), rfl⟩
set_option maxRecDepth 20000 in
theorem se_X0_find : (Cond.selects RX0 yX0_find yX0_find) ∈ lw_E := List.mem_filter.mpr ⟨List.mem_of_getElem? (i := 21) (by decide +kernel), rfl⟩
set_option maxRecDepth 20000 in
theorem se_X7_thunkStride : (Cond.selects RX7 yX7_thunkStride yX7_thunkStride) ∈ lw_E := List.mem_filter.mpr ⟨List.mem_of_getElem? (i := 22) (by decide +kernel), rfl⟩
set_option maxRecDepth 20000 in
theorem se_X6_findPlaces : (Cond.selects RX6 yX6_findPlaces yX6_findPlaces) ∈ lw_E := List.mem_filter.mpr ⟨List.mem_of_getElem? (i := 23) (by decide +kernel), rfl⟩
set_option maxRecDepth 20000 in
theorem se_X4_anyWanted : (Cond.selects RX4 yX4_anyWanted yX4_anyWanted) ∈ lw_E := List.mem_filter.mpr ⟨List.mem_of_getElem? (i := 24) (by decide +kernel), rfl⟩
set_option maxRecDepth 20000 in
theorem se_X7_hasThunks : (Cond.selects RX7 yX7_hasThunks yX7_hasThunks) ∈ lw_E := List.mem_filter.mpr ⟨List.mem_of_getElem? (i := 25) (by decide +kernel), rfl⟩
set_option maxRecDepth 20000 in
theorem se_X4_isDirect : (Cond.selects RX4 yX4_isDirect yX4_isDirect) ∈ lw_E := List.mem_filter.mpr ⟨List.mem_of_getElem? (i := 26) (by decide +kernel), rfl⟩
set_option maxRecDepth 20000 in
theorem se_X4_labelAddress : (Cond.selects RX4 yX4_labelAddress yX4_labelAddress) ∈ lw_E := List.mem_filter.mpr ⟨List.mem_of_getElem? (i := 27) (by decide +kernel), rfl⟩
set_option maxRecDepth 20000 in
theorem se_X4_branchAddress : (Cond.selects RX4 yX4_branchAddress yX4_branchAddress) ∈ lw_E := List.mem_filter.mpr ⟨List.mem_of_getElem? (i := 28) (by decide +kernel), rfl⟩
set_option maxRecDepth 20000 in
theorem se_X2_reaches : (Cond.selects RX2 yX2_reaches yX2_reaches) ∈ lw_E := List.mem_filter.mpr ⟨List.mem_of_getElem? (i := 29) (by decide +kernel), rfl⟩
set_option maxRecDepth 20000 in
theorem se_X4_nearestThunk : (Cond.selects RX4 yX4_nearestThunk yX4_nearestThunk) ∈ lw_E := List.mem_filter.mpr ⟨List.mem_of_getElem? (i := 30) (by decide +kernel), rfl⟩
set_option maxRecDepth 20000 in
theorem se_X6_numberOf : (Cond.selects RX6 yX6_numberOf yX6_numberOf) ∈ lw_E := List.mem_filter.mpr ⟨List.mem_of_getElem? (i := 31) (by decide +kernel), rfl⟩
set_option maxRecDepth 20000 in
theorem se_X6_has : (Cond.selects RX6 yX6_has yX6_has) ∈ lw_E := List.mem_filter.mpr ⟨List.mem_of_getElem? (i := 32) (by decide +kernel), rfl⟩
set_option maxRecDepth 20000 in
theorem se_X4_doesHelp : (Cond.selects RX4 yX4_doesHelp yX4_doesHelp) ∈ lw_E := List.mem_filter.mpr ⟨List.mem_of_getElem? (i := 33) (by decide +kernel), rfl⟩
set_option maxRecDepth 20000 in
theorem se_X4_wantThunk : (Cond.selects RX4 yX4_wantThunk yX4_wantThunk) ∈ lw_E := List.mem_filter.mpr ⟨List.mem_of_getElem? (i := 34) (by decide +kernel), rfl⟩
set_option maxRecDepth 20000 in
theorem se_X4_couldHelp : (Cond.selects RX4 yX4_couldHelp yX4_couldHelp) ∈ lw_E := List.mem_filter.mpr ⟨List.mem_of_getElem? (i := 35) (by decide +kernel), rfl⟩
set_option maxRecDepth 20000 in
theorem se_X6_isMade : (Cond.selects RX6 yX6_isMade yX6_isMade) ∈ lw_E := List.mem_filter.mpr ⟨List.mem_of_getElem? (i := 36) (by decide +kernel), rfl⟩
set_option maxRecDepth 20000 in
theorem se_X6_isWanted : (Cond.selects RX6 yX6_isWanted yX6_isWanted) ∈ lw_E := List.mem_filter.mpr ⟨List.mem_of_getElem? (i := 37) (by decide +kernel), rfl⟩
set_option maxRecDepth 20000 in
theorem se_X6_want : (Cond.selects RX6 yX6_want yX6_want) ∈ lw_E := List.mem_filter.mpr ⟨List.mem_of_getElem? (i := 38) (by decide +kernel), rfl⟩
set_option maxRecDepth 20000 in
theorem se_X6_grow : (Cond.selects RX6 yX6_grow yX6_grow) ∈ lw_E := List.mem_filter.mpr ⟨List.mem_of_getElem? (i := 39) (by decide +kernel), rfl⟩
set_option maxRecDepth 20000 in
theorem se_X6_makeWanted : (Cond.selects RX6 yX6_makeWanted yX6_makeWanted) ∈ lw_E := List.mem_filter.mpr ⟨List.mem_of_getElem? (i := 40) (by decide +kernel), rfl⟩
set_option maxRecDepth 20000 in
theorem se_X4_routeAll : (Cond.selects RX4 yX4_routeAll yX4_routeAll) ∈ lw_E := List.mem_filter.mpr ⟨List.mem_of_getElem? (i := 41) (by decide +kernel), rfl⟩
set_option maxRecDepth 20000 in
theorem se_X4_routeByThunk : (Cond.selects RX4 yX4_routeByThunk yX4_routeByThunk) ∈ lw_E := List.mem_filter.mpr ⟨List.mem_of_getElem? (i := 42) (by decide +kernel), rfl⟩
set_option maxRecDepth 20000 in
theorem se_X6_unused : (Cond.selects RX6 yX6_unused yX6_unused) ∈ lw_E := List.mem_filter.mpr ⟨List.mem_of_getElem? (i := 43) (by decide +kernel), rfl⟩
set_option maxRecDepth 20000 in
theorem se_X4_bytesBetween : (Cond.selects RX4 yX4_bytesBetween yX4_bytesBetween) ∈ lw_E := List.mem_filter.mpr ⟨List.mem_of_getElem? (i := 44) (by decide +kernel), rfl⟩
set_option maxRecDepth 20000 in
theorem se_X4_bytesInAll : (Cond.selects RX4 yX4_bytesInAll yX4_bytesInAll) ∈ lw_E := List.mem_filter.mpr ⟨List.mem_of_getElem? (i := 45) (by decide +kernel), rfl⟩
set_option maxRecDepth 20000 in
theorem se_X5_hasPool : (Cond.selects RX5 yX5_hasPool yX5_hasPool) ∈ lw_E := List.mem_filter.mpr ⟨List.mem_of_getElem? (i := 46) (by decide +kernel), rfl⟩
set_option maxRecDepth 20000 in
theorem se_X4_branchCode : (Cond.selects RX4 yX4_branchCode yX4_branchCode) ∈ lw_E := List.mem_filter.mpr ⟨List.mem_of_getElem? (i := 47) (by decide +kernel), rfl⟩
set_option maxRecDepth 20000 in
theorem se_X2_encode : (Cond.selects RX2 yX2_encode yX2_encode) ∈ lw_E := List.mem_filter.mpr ⟨List.mem_of_getElem? (i := 48) (by decide +kernel), rfl⟩
set_option maxRecDepth 20000 in
theorem se_X4_thunkCode : (Cond.selects RX4 yX4_thunkCode yX4_thunkCode) ∈ lw_E := List.mem_filter.mpr ⟨List.mem_of_getElem? (i := 49) (by decide +kernel), rfl⟩
set_option maxRecDepth 20000 in
theorem se_X4_whatIsAt : (Cond.selects RX4 yX4_whatIsAt yX4_whatIsAt) ∈ lw_E := List.mem_filter.mpr ⟨List.mem_of_getElem? (i := 50) (by decide +kernel), rfl⟩
set_option maxRecDepth 20000 in
theorem se_X4_walkFrom : (Cond.selects RX4 yX4_walkFrom yX4_walkFrom) ∈ lw_E := List.mem_filter.mpr ⟨List.mem_of_getElem? (i := 51) (by decide +kernel), rfl⟩
set_option maxRecDepth 20000 in
theorem se_X2_follow : (Cond.selects RX2 yX2_follow yX2_follow) ∈ lw_E := List.mem_filter.mpr ⟨List.mem_of_getElem? (i := 52) (by decide +kernel), rfl⟩
set_option maxRecDepth 20000 in
theorem se_X9_addresses : (Cond.selects RX9 yX9_addresses yX9_addresses) ∈ lw_E := List.mem_filter.mpr ⟨List.mem_of_getElem? (i := 53) (by decide +kernel), rfl⟩
set_option maxRecDepth 20000 in
theorem se_X9_isDirect : (Cond.selects RX9 yX9_isDirect yX9_isDirect) ∈ lw_E := List.mem_filter.mpr ⟨List.mem_of_getElem? (i := 54) (by decide +kernel), rfl⟩
set_option maxRecDepth 20000 in
theorem se_X9_reaches : (Cond.selects RX9 yX9_reaches yX9_reaches) ∈ lw_E := List.mem_filter.mpr ⟨List.mem_of_getElem? (i := 55) (by decide +kernel), rfl⟩
set_option maxRecDepth 20000 in
theorem se_X9_thunkFor : (Cond.selects RX9 yX9_thunkFor yX9_thunkFor) ∈ lw_E := List.mem_filter.mpr ⟨List.mem_of_getElem? (i := 56) (by decide +kernel), rfl⟩
set_option maxRecDepth 20000 in
theorem se_X9_wants : (Cond.selects RX9 yX9_wants yX9_wants) ∈ lw_E := List.mem_filter.mpr ⟨List.mem_of_getElem? (i := 57) (by decide +kernel), rfl⟩
set_option maxRecDepth 20000 in
theorem se_X9_hasThunk : (Cond.selects RX9 yX9_hasThunk yX9_hasThunk) ∈ lw_E := List.mem_filter.mpr ⟨List.mem_of_getElem? (i := 58) (by decide +kernel), rfl⟩
set_option maxRecDepth 20000 in
theorem se_X9_keeps : (Cond.selects RX9 yX9_keeps yX9_keeps) ∈ lw_E := List.mem_filter.mpr ⟨List.mem_of_getElem? (i := 59) (by decide +kernel), rfl⟩
set_option maxRecDepth 20000 in
theorem se_X9_ways : (Cond.selects RX9 yX9_ways yX9_ways) ∈ lw_E := List.mem_filter.mpr ⟨List.mem_of_getElem? (i := 60) (by decide +kernel), rfl⟩
set_option maxRecDepth 20000 in
theorem se_X9_idle : (Cond.selects RX9 yX9_idle yX9_idle) ∈ lw_E := List.mem_filter.mpr ⟨List.mem_of_getElem? (i := 61) (by decide +kernel), rfl⟩
set_option maxRecDepth 20000 in
theorem se_X9_between : (Cond.selects RX9 yX9_between yX9_between) ∈ lw_E := List.mem_filter.mpr ⟨List.mem_of_getElem? (i := 62) (by decide +kernel), rfl⟩
set_option maxRecDepth 20000 in
theorem se_X9_way : (Cond.selects RX9 yX9_way yX9_way) ∈ lw_E := List.mem_filter.mpr ⟨List.mem_of_getElem? (i := 63) (by decide +kernel), rfl⟩
set_option maxRecDepth 20000 in
theorem se_X9_laidReaches : (Cond.selects RX9 yX9_laidReaches yX9_laidReaches) ∈ lw_E := List.mem_filter.mpr ⟨List.mem_of_getElem? (i := 64) (by decide +kernel), rfl⟩
set_option maxRecDepth 20000 in
theorem se_X9_goes : (Cond.selects RX9 yX9_goes yX9_goes) ∈ lw_E := List.mem_filter.mpr ⟨List.mem_of_getElem? (i := 65) (by decide +kernel), rfl⟩
