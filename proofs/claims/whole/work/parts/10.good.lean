theorem k_J7_copyOf_59c91 : goodS yJ7_copyOf_59c91 cJ7_copyOf_59c91 3 (some (.array .int)) 2 := ⟨cd_J7_copyOf_59c91, ini_J7, sc_J7_copyOf_59c91, ⟨by decide, by decide⟩, by decide +kernel⟩
theorem k_J7_copyOf_c38d5 : goodS yJ7_copyOf_c38d5 cJ7_copyOf_c38d5 3 (some (.array .long)) 2 := ⟨cd_J7_copyOf_c38d5, ini_J7, sc_J7_copyOf_c38d5, ⟨by decide, by decide⟩, by decide +kernel⟩
theorem k_J7_fill_53178 : goodS yJ7_fill_53178 cJ7_fill_53178 4 none 2 := ⟨cd_J7_fill_53178, ini_J7, sc_J7_fill_53178, ⟨by decide, by decide⟩, by decide +kernel⟩
theorem k_J9_abs_067f4 : goodS yJ9_abs_067f4 cJ9_abs_067f4 2 (some .long) 1 := ⟨cd_J9_abs_067f4, ini_J9, sc_J9_abs_067f4, ⟨by decide, by decide⟩, by decide +kernel⟩
theorem k_J9_max_7cf53 : goodS yJ9_max_7cf53 cJ9_max_7cf53 2 (some .int) 2 := ⟨cd_J9_max_7cf53, ini_J9, sc_J9_max_7cf53, ⟨by decide, by decide⟩, by decide +kernel⟩
theorem k_J9_min_7cf53 : goodS yJ9_min_7cf53 cJ9_min_7cf53 2 (some .int) 2 := ⟨cd_J9_min_7cf53, ini_J9, sc_J9_min_7cf53, ⟨by decide, by decide⟩, by decide +kernel⟩
theorem k_X0_find : goodM yX0_find cX0_find 8 none RX0 2 := ⟨cd_X0_find, ini_X0, im_X0_find, se_X0_find, ⟨by decide, by decide⟩, by decide +kernel⟩
theorem k_X0_init : goodI yX0_init cX0_init 1 0 := ⟨cd_X0_init, ini_X0, im_X0_init, rfl, ⟨by decide, by decide⟩, by decide +kernel⟩
theorem k_X1_append : goodM yX1_append cX1_append 6 (some .int) RX1 4 := ⟨cd_X1_append, ini_X1, im_X1_append, se_X1_append, ⟨by decide, by decide⟩, by decide +kernel⟩
theorem k_X1_copyFrom : goodM yX1_copyFrom cX1_copyFrom 2 none RX1 1 := ⟨cd_X1_copyFrom, ini_X1, im_X1_copyFrom, se_X1_copyFrom, ⟨by decide, by decide⟩, by decide +kernel⟩
theorem k_X1_has : goodM yX1_has cX1_has 2 (some .boolean) RX1 1 := ⟨cd_X1_has, ini_X1, im_X1_has, se_X1_has, ⟨by decide, by decide⟩, by decide +kernel⟩
theorem k_X1_highestIn : goodM yX1_highestIn cX1_highestIn 4 (some .int) RX1 1 := ⟨cd_X1_highestIn, ini_X1, im_X1_highestIn, se_X1_highestIn, ⟨by decide, by decide⟩, by decide +kernel⟩
theorem k_X1_init : goodI yX1_init cX1_init 1 0 := ⟨cd_X1_init, ini_X1, im_X1_init, rfl, ⟨by decide, by decide⟩, by decide +kernel⟩
theorem k_X2_copyFrom : goodM yX2_copyFrom cX2_copyFrom 2 none RX2 1 := ⟨cd_X2_copyFrom, ini_X2, im_X2_copyFrom, se_X2_copyFrom, ⟨by decide, by decide⟩, by decide +kernel⟩
theorem k_X2_encode : goodM yX2_encode cX2_encode 8 (some .int) RX2 3 := ⟨cd_X2_encode, ini_X2, im_X2_encode, se_X2_encode, ⟨by decide, by decide⟩, by decide +kernel⟩
theorem k_X2_follow : goodM yX2_follow cX2_follow 9 (some .long) RX2 3 := ⟨cd_X2_follow, ini_X2, im_X2_follow, se_X2_follow, ⟨by decide, by decide⟩, by decide +kernel⟩
theorem k_X2_has : goodM yX2_has cX2_has 2 (some .boolean) RX2 1 := ⟨cd_X2_has, ini_X2, im_X2_has, se_X2_has, ⟨by decide, by decide⟩, by decide +kernel⟩
theorem k_X2_init : goodI yX2_init cX2_init 1 0 := ⟨cd_X2_init, ini_X2, im_X2_init, rfl, ⟨by decide, by decide⟩, by decide +kernel⟩
theorem k_X2_powerOf : goodS yX2_powerOf cX2_powerOf 1 (some .int) 1 := ⟨cd_X2_powerOf, ini_X2, sc_X2_powerOf, ⟨by decide, by decide⟩, by decide +kernel⟩
theorem k_X2_reaches : goodM yX2_reaches cX2_reaches 12 (some .boolean) RX2 3 := ⟨cd_X2_reaches, ini_X2, im_X2_reaches, se_X2_reaches, ⟨by decide, by decide⟩, by decide +kernel⟩
theorem k_X2_tell : goodM yX2_tell cX2_tell 5 (some .boolean) RX2 3 := ⟨cd_X2_tell, ini_X2, im_X2_tell, se_X2_tell, ⟨by decide, by decide⟩, by decide +kernel⟩
theorem k_X3_append : goodM yX3_append cX3_append 4 (some .int) RX3 2 := ⟨cd_X3_append, ini_X3, im_X3_append, se_X3_append, ⟨by decide, by decide⟩, by decide +kernel⟩
theorem k_X3_copyFrom : goodM yX3_copyFrom cX3_copyFrom 2 none RX3 1 := ⟨cd_X3_copyFrom, ini_X3, im_X3_copyFrom, se_X3_copyFrom, ⟨by decide, by decide⟩, by decide +kernel⟩
theorem k_X3_has : goodM yX3_has cX3_has 2 (some .boolean) RX3 1 := ⟨cd_X3_has, ini_X3, im_X3_has, se_X3_has, ⟨by decide, by decide⟩, by decide +kernel⟩
theorem k_X3_highestIn : goodM yX3_highestIn cX3_highestIn 4 (some .int) RX3 1 := ⟨cd_X3_highestIn, ini_X3, im_X3_highestIn, se_X3_highestIn, ⟨by decide, by decide⟩, by decide +kernel⟩
theorem k_X3_init : goodI yX3_init cX3_init 1 0 := ⟨cd_X3_init, ini_X3, im_X3_init, rfl, ⟨by decide, by decide⟩, by decide +kernel⟩
theorem k_X4_anyWanted : goodM yX4_anyWanted cX4_anyWanted 3 (some .boolean) RX4 1 := ⟨cd_X4_anyWanted, ini_X4, im_X4_anyWanted, se_X4_anyWanted, ⟨by decide, by decide⟩, by decide +kernel⟩
theorem k_X4_branchAddress : goodM yX4_branchAddress cX4_branchAddress 2 (some .long) RX4 1 := ⟨cd_X4_branchAddress, ini_X4, im_X4_branchAddress, se_X4_branchAddress, ⟨by decide, by decide⟩, by decide +kernel⟩
theorem k_X4_branchCode : goodM yX4_branchCode cX4_branchCode 5 (some .int) RX4 1 := ⟨cd_X4_branchCode, ini_X4, im_X4_branchCode, se_X4_branchCode, ⟨by decide, by decide⟩, by decide +kernel⟩
theorem k_X4_bytesBetween : goodM yX4_bytesBetween cX4_bytesBetween 3 (some .int) RX4 0 := ⟨cd_X4_bytesBetween, ini_X4, im_X4_bytesBetween, se_X4_bytesBetween, ⟨by decide, by decide⟩, by decide +kernel⟩
theorem k_X4_bytesInAll : goodM yX4_bytesInAll cX4_bytesInAll 1 (some .int) RX4 0 := ⟨cd_X4_bytesInAll, ini_X4, im_X4_bytesInAll, se_X4_bytesInAll, ⟨by decide, by decide⟩, by decide +kernel⟩
theorem k_X4_couldHelp : goodM yX4_couldHelp cX4_couldHelp 6 (some .boolean) RX4 2 := ⟨cd_X4_couldHelp, ini_X4, im_X4_couldHelp, se_X4_couldHelp, ⟨by decide, by decide⟩, by decide +kernel⟩
theorem k_X4_doesHelp : goodM yX4_doesHelp cX4_doesHelp 5 (some .boolean) RX4 2 := ⟨cd_X4_doesHelp, ini_X4, im_X4_doesHelp, se_X4_doesHelp, ⟨by decide, by decide⟩, by decide +kernel⟩
theorem k_X4_init : goodI yX4_init cX4_init 1 0 := ⟨cd_X4_init, ini_X4, im_X4_init, rfl, ⟨by decide, by decide⟩, by decide +kernel⟩
theorem k_X4_isDirect : goodM yX4_isDirect cX4_isDirect 4 (some .boolean) RX4 1 := ⟨cd_X4_isDirect, ini_X4, im_X4_isDirect, se_X4_isDirect, ⟨by decide, by decide⟩, by decide +kernel⟩
theorem k_X4_isWithin : goodS yX4_isWithin cX4_isWithin 5 (some .boolean) 3 := ⟨cd_X4_isWithin, ini_X4, sc_X4_isWithin, ⟨by decide, by decide⟩, by decide +kernel⟩
theorem k_X4_labelAddress : goodM yX4_labelAddress cX4_labelAddress 2 (some .long) RX4 1 := ⟨cd_X4_labelAddress, ini_X4, im_X4_labelAddress, se_X4_labelAddress, ⟨by decide, by decide⟩, by decide +kernel⟩
theorem k_X4_layOut : goodM yX4_layOut cX4_layOut 3 none RX4 1 := ⟨cd_X4_layOut, ini_X4, im_X4_layOut, se_X4_layOut, ⟨by decide, by decide⟩, by decide +kernel⟩
theorem k_X4_nearestThunk : goodM yX4_nearestThunk cX4_nearestThunk 12 (some .int) RX4 1 := ⟨cd_X4_nearestThunk, ini_X4, im_X4_nearestThunk, se_X4_nearestThunk, ⟨by decide, by decide⟩, by decide +kernel⟩
theorem k_X4_routeAll : goodM yX4_routeAll cX4_routeAll 2 none RX4 0 := ⟨cd_X4_routeAll, ini_X4, im_X4_routeAll, se_X4_routeAll, ⟨by decide, by decide⟩, by decide +kernel⟩
theorem k_X4_routeByThunk : goodM yX4_routeByThunk cX4_routeByThunk 3 none RX4 1 := ⟨cd_X4_routeByThunk, ini_X4, im_X4_routeByThunk, se_X4_routeByThunk, ⟨by decide, by decide⟩, by decide +kernel⟩
theorem k_X4_thunkCode : goodM yX4_thunkCode cX4_thunkCode 2 (some .int) RX4 1 := ⟨cd_X4_thunkCode, ini_X4, im_X4_thunkCode, se_X4_thunkCode, ⟨by decide, by decide⟩, by decide +kernel⟩
theorem k_X4_walkFrom : goodM yX4_walkFrom cX4_walkFrom 6 (some .long) RX4 1 := ⟨cd_X4_walkFrom, ini_X4, im_X4_walkFrom, se_X4_walkFrom, ⟨by decide, by decide⟩, by decide +kernel⟩
theorem k_X4_wantThunk : goodM yX4_wantThunk cX4_wantThunk 12 none RX4 2 := ⟨cd_X4_wantThunk, ini_X4, im_X4_wantThunk, se_X4_wantThunk, ⟨by decide, by decide⟩, by decide +kernel⟩
theorem k_X4_whatIsAt : goodM yX4_whatIsAt cX4_whatIsAt 4 (some .int) RX4 1 := ⟨cd_X4_whatIsAt, ini_X4, im_X4_whatIsAt, se_X4_whatIsAt, ⟨by decide, by decide⟩, by decide +kernel⟩
theorem k_X5_append : goodM yX5_append cX5_append 5 (some .int) RX5 3 := ⟨cd_X5_append, ini_X5, im_X5_append, se_X5_append, ⟨by decide, by decide⟩, by decide +kernel⟩
theorem k_X5_copyFrom : goodM yX5_copyFrom cX5_copyFrom 3 none RX5 1 := ⟨cd_X5_copyFrom, ini_X5, im_X5_copyFrom, se_X5_copyFrom, ⟨by decide, by decide⟩, by decide +kernel⟩
theorem k_X5_has : goodM yX5_has cX5_has 2 (some .boolean) RX5 1 := ⟨cd_X5_has, ini_X5, im_X5_has, se_X5_has, ⟨by decide, by decide⟩, by decide +kernel⟩
theorem k_X5_hasPool : goodM yX5_hasPool cX5_hasPool 2 (some .boolean) RX5 1 := ⟨cd_X5_hasPool, ini_X5, im_X5_hasPool, se_X5_hasPool, ⟨by decide, by decide⟩, by decide +kernel⟩
theorem k_X5_init : goodI yX5_init cX5_init 1 0 := ⟨cd_X5_init, ini_X5, im_X5_init, rfl, ⟨by decide, by decide⟩, by decide +kernel⟩
theorem k_X5_isSize : goodS yX5_isSize cX5_isSize 1 (some .boolean) 1 := ⟨cd_X5_isSize, ini_X5, sc_X5_isSize, ⟨by decide, by decide⟩, by decide +kernel⟩
theorem k_X6_clear : goodM yX6_clear cX6_clear 1 none RX6 0 := ⟨cd_X6_clear, ini_X6, im_X6_clear, se_X6_clear, ⟨by decide, by decide⟩, by decide +kernel⟩
theorem k_X6_findPlaces : goodM yX6_findPlaces cX6_findPlaces 5 none RX6 2 := ⟨cd_X6_findPlaces, ini_X6, im_X6_findPlaces, se_X6_findPlaces, ⟨by decide, by decide⟩, by decide +kernel⟩
theorem k_X6_grow : goodM yX6_grow cX6_grow 2 none RX6 0 := ⟨cd_X6_grow, ini_X6, im_X6_grow, se_X6_grow, ⟨by decide, by decide⟩, by decide +kernel⟩
theorem k_X6_has : goodM yX6_has cX6_has 2 (some .boolean) RX6 1 := ⟨cd_X6_has, ini_X6, im_X6_has, se_X6_has, ⟨by decide, by decide⟩, by decide +kernel⟩
theorem k_X6_init : goodI yX6_init cX6_init 1 0 := ⟨cd_X6_init, ini_X6, im_X6_init, rfl, ⟨by decide, by decide⟩, by decide +kernel⟩
theorem k_X6_isMade : goodM yX6_isMade cX6_isMade 3 (some .boolean) RX6 2 := ⟨cd_X6_isMade, ini_X6, im_X6_isMade, se_X6_isMade, ⟨by decide, by decide⟩, by decide +kernel⟩
theorem k_X6_isWanted : goodM yX6_isWanted cX6_isWanted 3 (some .boolean) RX6 2 := ⟨cd_X6_isWanted, ini_X6, im_X6_isWanted, se_X6_isWanted, ⟨by decide, by decide⟩, by decide +kernel⟩
theorem k_X6_makeWanted : goodM yX6_makeWanted cX6_makeWanted 2 (some .boolean) RX6 0 := ⟨cd_X6_makeWanted, ini_X6, im_X6_makeWanted, se_X6_makeWanted, ⟨by decide, by decide⟩, by decide +kernel⟩
theorem k_X6_numberOf : goodM yX6_numberOf cX6_numberOf 3 (some .int) RX6 2 := ⟨cd_X6_numberOf, ini_X6, im_X6_numberOf, se_X6_numberOf, ⟨by decide, by decide⟩, by decide +kernel⟩
theorem k_X6_unused : goodM yX6_unused cX6_unused 3 (some .int) RX6 0 := ⟨cd_X6_unused, ini_X6, im_X6_unused, se_X6_unused, ⟨by decide, by decide⟩, by decide +kernel⟩
theorem k_X6_want : goodM yX6_want cX6_want 6 none RX6 4 := ⟨cd_X6_want, ini_X6, im_X6_want, se_X6_want, ⟨by decide, by decide⟩, by decide +kernel⟩
theorem k_X7_changeSize : goodM yX7_changeSize cX7_changeSize 3 (some .boolean) RX7 2 := ⟨cd_X7_changeSize, ini_X7, im_X7_changeSize, se_X7_changeSize, ⟨by decide, by decide⟩, by decide +kernel⟩
theorem k_X7_copyFrom : goodM yX7_copyFrom cX7_copyFrom 2 none RX7 1 := ⟨cd_X7_copyFrom, ini_X7, im_X7_copyFrom, se_X7_copyFrom, ⟨by decide, by decide⟩, by decide +kernel⟩
theorem k_X7_hasThunks : goodM yX7_hasThunks cX7_hasThunks 1 (some .boolean) RX7 0 := ⟨cd_X7_hasThunks, ini_X7, im_X7_hasThunks, se_X7_hasThunks, ⟨by decide, by decide⟩, by decide +kernel⟩
theorem k_X7_init : goodI yX7_init cX7_init 1 0 := ⟨cd_X7_init, ini_X7, im_X7_init, rfl, ⟨by decide, by decide⟩, by decide +kernel⟩
theorem k_X7_tellThunks : goodM yX7_tellThunks cX7_tellThunks 4 (some .boolean) RX7 3 := ⟨cd_X7_tellThunks, ini_X7, im_X7_tellThunks, se_X7_tellThunks, ⟨by decide, by decide⟩, by decide +kernel⟩
theorem k_X7_thunkStride : goodM yX7_thunkStride cX7_thunkStride 1 (some .long) RX7 0 := ⟨cd_X7_thunkStride, ini_X7, im_X7_thunkStride, se_X7_thunkStride, ⟨by decide, by decide⟩, by decide +kernel⟩
theorem k_X8_address : goodM yX8_address cX8_address 3 (some .long) RX8 2 := ⟨cd_X8_address, ini_X8, im_X8_address, se_X8_address, ⟨by decide, by decide⟩, by decide +kernel⟩
theorem k_X8_alignUp : goodS yX8_alignUp cX8_alignUp 4 (some .long) 2 := ⟨cd_X8_alignUp, ini_X8, sc_X8_alignUp, ⟨by decide, by decide⟩, by decide +kernel⟩
theorem k_X8_at : goodM yX8_at cX8_at 3 (some .int) RX8 1 := ⟨cd_X8_at, ini_X8, im_X8_at, se_X8_at, ⟨by decide, by decide⟩, by decide +kernel⟩
theorem k_X8_base : goodM yX8_base cX8_base 2 (some .boolean) RX8 1 := ⟨cd_X8_base, ini_X8, im_X8_base, se_X8_base, ⟨by decide, by decide⟩, by decide +kernel⟩
theorem k_X8_branch : goodM yX8_branch cX8_branch 5 (some .int) RX8 4 := ⟨cd_X8_branch, ini_X8, im_X8_branch, se_X8_branch, ⟨by decide, by decide⟩, by decide +kernel⟩
theorem k_X8_count : goodM yX8_count cX8_count 2 (some .int) RX8 1 := ⟨cd_X8_count, ini_X8, im_X8_count, se_X8_count, ⟨by decide, by decide⟩, by decide +kernel⟩
theorem k_X8_encoded : goodM yX8_encoded cX8_encoded 3 (some .int) RX8 2 := ⟨cd_X8_encoded, ini_X8, im_X8_encoded, se_X8_encoded, ⟨by decide, by decide⟩, by decide +kernel⟩
theorem k_X8_far : goodM yX8_far cX8_far 8 (some .int) RX8 0 := ⟨cd_X8_far, ini_X8, im_X8_far, se_X8_far, ⟨by decide, by decide⟩, by decide +kernel⟩
theorem k_X8_init : goodI yX8_init cX8_init 1 0 := ⟨cd_X8_init, ini_X8, im_X8_init, rfl, ⟨by decide, by decide⟩, by decide +kernel⟩
theorem k_X8_kind : goodM yX8_kind cX8_kind 4 (some .boolean) RX8 3 := ⟨cd_X8_kind, ini_X8, im_X8_kind, se_X8_kind, ⟨by decide, by decide⟩, by decide +kernel⟩
theorem k_X8_label : goodM yX8_label cX8_label 3 (some .int) RX8 2 := ⟨cd_X8_label, ini_X8, im_X8_label, se_X8_label, ⟨by decide, by decide⟩, by decide +kernel⟩
theorem k_X8_lay : goodM yX8_lay cX8_lay 1 (some .int) RX8 0 := ⟨cd_X8_lay, ini_X8, im_X8_lay, se_X8_lay, ⟨by decide, by decide⟩, by decide +kernel⟩
theorem k_X8_noted : goodM yX8_noted cX8_noted 2 (some .boolean) RX8 1 := ⟨cd_X8_noted, ini_X8, im_X8_noted, se_X8_noted, ⟨by decide, by decide⟩, by decide +kernel⟩
theorem k_X8_notedNumber : goodM yX8_notedNumber cX8_notedNumber 2 (some .int) RX8 1 := ⟨cd_X8_notedNumber, ini_X8, im_X8_notedNumber, se_X8_notedNumber, ⟨by decide, by decide⟩, by decide +kernel⟩
theorem k_X8_resize : goodM yX8_resize cX8_resize 3 (some .boolean) RX8 2 := ⟨cd_X8_resize, ini_X8, im_X8_resize, se_X8_resize, ⟨by decide, by decide⟩, by decide +kernel⟩
theorem k_X8_retarget : goodM yX8_retarget cX8_retarget 3 (some .boolean) RX8 2 := ⟨cd_X8_retarget, ini_X8, im_X8_retarget, se_X8_retarget, ⟨by decide, by decide⟩, by decide +kernel⟩
theorem k_X8_route : goodM yX8_route cX8_route 3 (some .int) RX8 2 := ⟨cd_X8_route, ini_X8, im_X8_route, se_X8_route, ⟨by decide, by decide⟩, by decide +kernel⟩
theorem k_X8_section : goodM yX8_section cX8_section 4 (some .int) RX8 3 := ⟨cd_X8_section, ini_X8, im_X8_section, se_X8_section, ⟨by decide, by decide⟩, by decide +kernel⟩
theorem k_X8_thunk : goodM yX8_thunk cX8_thunk 3 (some .int) RX8 2 := ⟨cd_X8_thunk, ini_X8, im_X8_thunk, se_X8_thunk, ⟨by decide, by decide⟩, by decide +kernel⟩
theorem k_X8_thunks : goodM yX8_thunks cX8_thunks 4 (some .boolean) RX8 3 := ⟨cd_X8_thunks, ini_X8, im_X8_thunks, se_X8_thunks, ⟨by decide, by decide⟩, by decide +kernel⟩
theorem k_X8_walk : goodM yX8_walk cX8_walk 2 (some .long) RX8 1 := ⟨cd_X8_walk, ini_X8, im_X8_walk, se_X8_walk, ⟨by decide, by decide⟩, by decide +kernel⟩
theorem k_X9_address : goodM yX9_address cX9_address 3 (some .long) RX9 2 := ⟨cd_X9_address, ini_X9, im_X9_address, se_X9_address, ⟨by decide, by decide⟩, by decide +kernel⟩
theorem k_X9_addresses : goodM yX9_addresses cX9_addresses 6 none RX9 1 := ⟨cd_X9_addresses, ini_X9, im_X9_addresses, se_X9_addresses, ⟨by decide, by decide⟩, by decide +kernel⟩
theorem k_X9_at : goodM yX9_at cX9_at 4 (some .int) RX9 1 := ⟨cd_X9_at, ini_X9, im_X9_at, se_X9_at, ⟨by decide, by decide⟩, by decide +kernel⟩
theorem k_X9_base : goodM yX9_base cX9_base 2 (some .boolean) RX9 1 := ⟨cd_X9_base, ini_X9, im_X9_base, se_X9_base, ⟨by decide, by decide⟩, by decide +kernel⟩
theorem k_X9_between : goodM yX9_between cX9_between 4 (some .long) RX9 0 := ⟨cd_X9_between, ini_X9, im_X9_between, se_X9_between, ⟨by decide, by decide⟩, by decide +kernel⟩
theorem k_X9_branch : goodM yX9_branch cX9_branch 5 (some .int) RX9 4 := ⟨cd_X9_branch, ini_X9, im_X9_branch, se_X9_branch, ⟨by decide, by decide⟩, by decide +kernel⟩
theorem k_X9_count : goodM yX9_count cX9_count 2 (some .int) RX9 1 := ⟨cd_X9_count, ini_X9, im_X9_count, se_X9_count, ⟨by decide, by decide⟩, by decide +kernel⟩
theorem k_X9_encoded : goodM yX9_encoded cX9_encoded 3 (some .int) RX9 2 := ⟨cd_X9_encoded, ini_X9, im_X9_encoded, se_X9_encoded, ⟨by decide, by decide⟩, by decide +kernel⟩
theorem k_X9_far : goodM yX9_far cX9_far 6 (some .int) RX9 0 := ⟨cd_X9_far, ini_X9, im_X9_far, se_X9_far, ⟨by decide, by decide⟩, by decide +kernel⟩
theorem k_X9_goes : goodM yX9_goes cX9_goes 7 (some .long) RX9 3 := ⟨cd_X9_goes, ini_X9, im_X9_goes, se_X9_goes, ⟨by decide, by decide⟩, by decide +kernel⟩
theorem k_X9_hasThunk : goodM yX9_hasThunk cX9_hasThunk 7 (some .boolean) RX9 4 := ⟨cd_X9_hasThunk, ini_X9, im_X9_hasThunk, se_X9_hasThunk, ⟨by decide, by decide⟩, by decide +kernel⟩
theorem k_X9_idle : goodM yX9_idle cX9_idle 3 (some .int) RX9 0 := ⟨cd_X9_idle, ini_X9, im_X9_idle, se_X9_idle, ⟨by decide, by decide⟩, by decide +kernel⟩
theorem k_X9_in : goodS yX9_in cX9_in 3 (some .boolean) 3 := ⟨cd_X9_in, ini_X9, sc_X9_in, ⟨by decide, by decide⟩, by decide +kernel⟩
theorem k_X9_init : goodI yX9_init cX9_init 1 0 := ⟨cd_X9_init, ini_X9, im_X9_init, rfl, ⟨by decide, by decide⟩, by decide +kernel⟩
theorem k_X9_isDirect : goodM yX9_isDirect cX9_isDirect 2 (some .boolean) RX9 1 := ⟨cd_X9_isDirect, ini_X9, im_X9_isDirect, se_X9_isDirect, ⟨by decide, by decide⟩, by decide +kernel⟩
theorem k_X9_isNearer : goodS yX9_isNearer cX9_isNearer 10 (some .boolean) 3 := ⟨cd_X9_isNearer, ini_X9, sc_X9_isNearer, ⟨by decide, by decide⟩, by decide +kernel⟩
theorem k_X9_keeps : goodM yX9_keeps cX9_keeps 3 (some .int) RX9 0 := ⟨cd_X9_keeps, ini_X9, im_X9_keeps, se_X9_keeps, ⟨by decide, by decide⟩, by decide +kernel⟩
theorem k_X9_kind : goodM yX9_kind cX9_kind 4 (some .boolean) RX9 3 := ⟨cd_X9_kind, ini_X9, im_X9_kind, se_X9_kind, ⟨by decide, by decide⟩, by decide +kernel⟩
theorem k_X9_label : goodM yX9_label cX9_label 3 (some .int) RX9 2 := ⟨cd_X9_label, ini_X9, im_X9_label, se_X9_label, ⟨by decide, by decide⟩, by decide +kernel⟩
theorem k_X9_laidReaches : goodM yX9_laidReaches cX9_laidReaches 10 (some .boolean) RX9 3 := ⟨cd_X9_laidReaches, ini_X9, im_X9_laidReaches, se_X9_laidReaches, ⟨by decide, by decide⟩, by decide +kernel⟩
theorem k_X9_lay : goodM yX9_lay cX9_lay 8 (some .int) RX9 0 := ⟨cd_X9_lay, ini_X9, im_X9_lay, se_X9_lay, ⟨by decide, by decide⟩, by decide +kernel⟩
theorem k_X9_reaches : goodM yX9_reaches cX9_reaches 10 (some .boolean) RX9 3 := ⟨cd_X9_reaches, ini_X9, im_X9_reaches, se_X9_reaches, ⟨by decide, by decide⟩, by decide +kernel⟩
theorem k_X9_resize : goodM yX9_resize cX9_resize 4 (some .boolean) RX9 2 := ⟨cd_X9_resize, ini_X9, im_X9_resize, se_X9_resize, ⟨by decide, by decide⟩, by decide +kernel⟩
theorem k_X9_retarget : goodM yX9_retarget cX9_retarget 3 (some .boolean) RX9 2 := ⟨cd_X9_retarget, ini_X9, im_X9_retarget, se_X9_retarget, ⟨by decide, by decide⟩, by decide +kernel⟩
theorem k_X9_route : goodM yX9_route cX9_route 3 (some .int) RX9 2 := ⟨cd_X9_route, ini_X9, im_X9_route, se_X9_route, ⟨by decide, by decide⟩, by decide +kernel⟩
theorem k_X9_section : goodM yX9_section cX9_section 4 (some .int) RX9 3 := ⟨cd_X9_section, ini_X9, im_X9_section, se_X9_section, ⟨by decide, by decide⟩, by decide +kernel⟩
theorem k_X9_thunk : goodM yX9_thunk cX9_thunk 3 (some .int) RX9 2 := ⟨cd_X9_thunk, ini_X9, im_X9_thunk, se_X9_thunk, ⟨by decide, by decide⟩, by decide +kernel⟩
theorem k_X9_thunkFor : goodM yX9_thunkFor cX9_thunkFor 6 (some .int) RX9 2 := ⟨cd_X9_thunkFor, ini_X9, im_X9_thunkFor, se_X9_thunkFor, ⟨by decide, by decide⟩, by decide +kernel⟩
theorem k_X9_thunks : goodM yX9_thunks cX9_thunks 4 (some .boolean) RX9 3 := ⟨cd_X9_thunks, ini_X9, im_X9_thunks, se_X9_thunks, ⟨by decide, by decide⟩, by decide +kernel⟩
theorem k_X9_upTo : goodS yX9_upTo cX9_upTo 5 (some .long) 2 := ⟨cd_X9_upTo, ini_X9, sc_X9_upTo, ⟨by decide, by decide⟩, by decide +kernel⟩
theorem k_X9_walk : goodM yX9_walk cX9_walk 5 (some .long) RX9 1 := ⟨cd_X9_walk, ini_X9, im_X9_walk, se_X9_walk, ⟨by decide, by decide⟩, by decide +kernel⟩
theorem k_X9_wants : goodM yX9_wants cX9_wants 6 (some .int) RX9 2 := ⟨cd_X9_wants, ini_X9, im_X9_wants, se_X9_wants, ⟨by decide, by decide⟩, by decide +kernel⟩
theorem k_X9_way : goodM yX9_way cX9_way 6 (some .int) RX9 3 := ⟨cd_X9_way, ini_X9, im_X9_way, se_X9_way, ⟨by decide, by decide⟩, by decide +kernel⟩
theorem k_X9_ways : goodM yX9_ways cX9_ways 4 (some .int) RX9 1 := ⟨cd_X9_ways, ini_X9, im_X9_ways, se_X9_ways, ⟨by decide, by decide⟩, by decide +kernel⟩
theorem if01_z {P : Prop} [Decidable P] {r : Int32} (h : r = if P then 1 else 0) (h0 : r = 0) : ¬ P := fun hp => by
  rw [if_pos hp] at h
  rw [h] at h0
  exact absurd h0 (by decide)
theorem if01_n {P : Prop} [Decidable P] {r : Int32} (h : r = if P then 1 else 0) (h0 : ¬ r = 0) : P := Classical.byContradiction fun hp => by
  rw [if_neg hp] at h
  exact h0 h
theorem if01_narrow {P : Prop} [Decidable P] {r : Int32} (h : r = if P then 1 else 0) : narrow .boolean (.int r) = .int r := by
  by_cases hp : P
  · rw [if_pos hp] at h
    subst h
    decide
  · rw [if_neg hp] at h
    subst h
    decide
theorem lc_lt {x y : Int64} : lg_cmp x y < 0 ↔ x < y := by
  unfold lg_cmp
  rcases Int.lt_trichotomy x.toInt y.toInt with h | h | h
  · have h1 : x < y := Int64.lt_iff_toInt_lt.mpr h
    have h2 : ¬ x > y := fun q => by have := Int64.lt_iff_toInt_lt.mp q; omega
    have h3 : ¬ x = y := fun q => by rw [q] at h; omega
    simp [h1, h2, h3]
  · have h1 : x = y := Int64.toInt_inj.mp h
    have h2 : ¬ x > y := fun q => by have := Int64.lt_iff_toInt_lt.mp q; omega
    have h3 : ¬ x < y := fun q => by have := Int64.lt_iff_toInt_lt.mp q; omega
    simp [h1]
  · have h1 : x > y := Int64.lt_iff_toInt_lt.mpr h
    have h2 : ¬ x < y := fun q => by have := Int64.lt_iff_toInt_lt.mp q; omega
    simp [h1, h2]
theorem lc_eq {x y : Int64} : lg_cmp x y = 0 ↔ x = y := by
  unfold lg_cmp
  rcases Int.lt_trichotomy x.toInt y.toInt with h | h | h
  · have h2 : ¬ x > y := fun q => by have := Int64.lt_iff_toInt_lt.mp q; omega
    have h3 : ¬ x = y := fun q => by rw [q] at h; omega
    simp [h2, h3]
  · have h1 : x = y := Int64.toInt_inj.mp h
    have h2 : ¬ x > y := fun q => by have := Int64.lt_iff_toInt_lt.mp q; omega
    simp [h1]
  · have h1 : x > y := Int64.lt_iff_toInt_lt.mpr h
    have h3 : ¬ x = y := fun q => by rw [q] at h; omega
    simp [h1, h3]
theorem lc_gt {x y : Int64} : 0 < lg_cmp x y ↔ y < x := by
  unfold lg_cmp
  rcases Int.lt_trichotomy x.toInt y.toInt with h | h | h
  · have h2 : ¬ y < x := fun q => by have := Int64.lt_iff_toInt_lt.mp q; omega
    have h3 : ¬ x = y := fun q => by rw [q] at h; omega
    simp [h2, h3]
  · have h1 : x = y := Int64.toInt_inj.mp h
    simp [h1]
  · have h1 : y < x := Int64.lt_iff_toInt_lt.mpr h
    simp [h1]
theorem lc_le {x y : Int64} : lg_cmp x y ≤ 0 ↔ x ≤ y := by
  have h := lc_gt (x := x) (y := y)
  rw [← Int32.not_lt, ← Int64.not_lt, h]
theorem lc_ge {x y : Int64} : 0 ≤ lg_cmp x y ↔ y ≤ x := by
  have h := lc_lt (x := x) (y := y)
  rw [← Int32.not_lt, ← Int64.not_lt, h]
