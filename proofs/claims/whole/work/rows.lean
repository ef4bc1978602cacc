section
-- ===== PART A: goes FIRST, ahead of the names: the tables' words, and 'selects' of the private methods out of them =====
/-- a private method of a class that the tables say can be made, by its rows of tables_1 -/
def lw_okq (q : MethodName × Nat) : Prop := (q.1.cls ≠ "java/lang/invoke/MethodHandle" ∧ q.1.cls ≠ "java/lang/invoke/VarHandle") ∧ Cond.instantiable q.1.cls q.2 ∈ tables_1 ∧ Cond.privateMethod q.1 ∈ tables_1 ∧ Cond.instanceMethod q.1 ∈ tables_1
theorem lw_p0 : lw_okq (⟨"VeneerYard$Sections", "append", "(IIZ)I"⟩, 5) := ⟨⟨by decide +kernel, by decide +kernel⟩, List.mem_of_getElem? (i := 29) (by decide +kernel), List.mem_of_getElem? (i := 316) (by decide +kernel), List.mem_of_getElem? (i := 317) (by decide +kernel)⟩
theorem lw_p1 : lw_okq (⟨"VeneerYard", "notedNumber", "(I)I"⟩, 5) := ⟨⟨by decide +kernel, by decide +kernel⟩, List.mem_of_getElem? (i := 15) (by decide +kernel), List.mem_of_getElem? (i := 324) (by decide +kernel), List.mem_of_getElem? (i := 325) (by decide +kernel)⟩
theorem lw_p2 : lw_okq (⟨"VeneerYard", "noted", "(Z)Z"⟩, 5) := ⟨⟨by decide +kernel, by decide +kernel⟩, List.mem_of_getElem? (i := 15) (by decide +kernel), List.mem_of_getElem? (i := 328) (by decide +kernel), List.mem_of_getElem? (i := 329) (by decide +kernel)⟩
theorem lw_p3 : lw_okq (⟨"VeneerYard$Sections", "has", "(I)Z"⟩, 5) := ⟨⟨by decide +kernel, by decide +kernel⟩, List.mem_of_getElem? (i := 29) (by decide +kernel), List.mem_of_getElem? (i := 336) (by decide +kernel), List.mem_of_getElem? (i := 337) (by decide +kernel)⟩
theorem lw_p4 : lw_okq (⟨"VeneerYard$Labels", "append", "(II)I"⟩, 3) := ⟨⟨by decide +kernel, by decide +kernel⟩, List.mem_of_getElem? (i := 63) (by decide +kernel), List.mem_of_getElem? (i := 340) (by decide +kernel), List.mem_of_getElem? (i := 341) (by decide +kernel)⟩
theorem lw_p5 : lw_okq (⟨"VeneerYard$Kinds", "tell", "(III)Z"⟩, 2) := ⟨⟨by decide +kernel, by decide +kernel⟩, List.mem_of_getElem? (i := 84) (by decide +kernel), List.mem_of_getElem? (i := 348) (by decide +kernel), List.mem_of_getElem? (i := 349) (by decide +kernel)⟩
theorem lw_p6 : lw_okq (⟨"VeneerYard$Kinds", "has", "(I)Z"⟩, 2) := ⟨⟨by decide +kernel, by decide +kernel⟩, List.mem_of_getElem? (i := 84) (by decide +kernel), List.mem_of_getElem? (i := 359) (by decide +kernel), List.mem_of_getElem? (i := 360) (by decide +kernel)⟩
theorem lw_p7 : lw_okq (⟨"VeneerYard$Labels", "has", "(I)Z"⟩, 3) := ⟨⟨by decide +kernel, by decide +kernel⟩, List.mem_of_getElem? (i := 63) (by decide +kernel), List.mem_of_getElem? (i := 363) (by decide +kernel), List.mem_of_getElem? (i := 364) (by decide +kernel)⟩
theorem lw_p8 : lw_okq (⟨"VeneerYard$Branches", "append", "(IIII)I"⟩, 5) := ⟨⟨by decide +kernel, by decide +kernel⟩, List.mem_of_getElem? (i := 97) (by decide +kernel), List.mem_of_getElem? (i := 367) (by decide +kernel), List.mem_of_getElem? (i := 368) (by decide +kernel)⟩
theorem lw_p9 : lw_okq (⟨"VeneerYard$Told", "tellThunks", "(III)Z"⟩, 8) := ⟨⟨by decide +kernel, by decide +kernel⟩, List.mem_of_getElem? (i := 23) (by decide +kernel), List.mem_of_getElem? (i := 375) (by decide +kernel), List.mem_of_getElem? (i := 376) (by decide +kernel)⟩
theorem lw_p10 : lw_okq (⟨"VeneerYard$Told", "changeSize", "(II)Z"⟩, 8) := ⟨⟨by decide +kernel, by decide +kernel⟩, List.mem_of_getElem? (i := 23) (by decide +kernel), List.mem_of_getElem? (i := 388) (by decide +kernel), List.mem_of_getElem? (i := 389) (by decide +kernel)⟩
theorem lw_p11 : lw_okq (⟨"VeneerYard$Labels", "highestIn", "(I)I"⟩, 3) := ⟨⟨by decide +kernel, by decide +kernel⟩, List.mem_of_getElem? (i := 63) (by decide +kernel), List.mem_of_getElem? (i := 394) (by decide +kernel), List.mem_of_getElem? (i := 395) (by decide +kernel)⟩
theorem lw_p12 : lw_okq (⟨"VeneerYard$Branches", "highestIn", "(I)I"⟩, 5) := ⟨⟨by decide +kernel, by decide +kernel⟩, List.mem_of_getElem? (i := 97) (by decide +kernel), List.mem_of_getElem? (i := 401) (by decide +kernel), List.mem_of_getElem? (i := 402) (by decide +kernel)⟩
theorem lw_p13 : lw_okq (⟨"VeneerYard$Branches", "has", "(I)Z"⟩, 5) := ⟨⟨by decide +kernel, by decide +kernel⟩, List.mem_of_getElem? (i := 97) (by decide +kernel), List.mem_of_getElem? (i := 410) (by decide +kernel), List.mem_of_getElem? (i := 411) (by decide +kernel)⟩
theorem lw_p14 : lw_okq (⟨"VeneerYard$Layout", "layOut", "(LVeneerYard$Told;)V"⟩, 9) := ⟨⟨by decide +kernel, by decide +kernel⟩, List.mem_of_getElem? (i := 170) (by decide +kernel), List.mem_of_getElem? (i := 418) (by decide +kernel), List.mem_of_getElem? (i := 419) (by decide +kernel)⟩
theorem lw_p15 : lw_okq (⟨"VeneerYard$Told", "copyFrom", "(LVeneerYard$Told;)V"⟩, 8) := ⟨⟨by decide +kernel, by decide +kernel⟩, List.mem_of_getElem? (i := 23) (by decide +kernel), List.mem_of_getElem? (i := 422) (by decide +kernel), List.mem_of_getElem? (i := 423) (by decide +kernel)⟩
def lw_privs_1 : List (MethodName × Nat) := [(⟨"VeneerYard$Sections", "append", "(IIZ)I"⟩, 5), (⟨"VeneerYard", "notedNumber", "(I)I"⟩, 5), (⟨"VeneerYard", "noted", "(Z)Z"⟩, 5), (⟨"VeneerYard$Sections", "has", "(I)Z"⟩, 5), (⟨"VeneerYard$Labels", "append", "(II)I"⟩, 3), (⟨"VeneerYard$Kinds", "tell", "(III)Z"⟩, 2), (⟨"VeneerYard$Kinds", "has", "(I)Z"⟩, 2), (⟨"VeneerYard$Labels", "has", "(I)Z"⟩, 3), (⟨"VeneerYard$Branches", "append", "(IIII)I"⟩, 5), (⟨"VeneerYard$Told", "tellThunks", "(III)Z"⟩, 8), (⟨"VeneerYard$Told", "changeSize", "(II)Z"⟩, 8), (⟨"VeneerYard$Labels", "highestIn", "(I)I"⟩, 3), (⟨"VeneerYard$Branches", "highestIn", "(I)I"⟩, 5), (⟨"VeneerYard$Branches", "has", "(I)Z"⟩, 5), (⟨"VeneerYard$Layout", "layOut", "(LVeneerYard$Told;)V"⟩, 9), (⟨"VeneerYard$Told", "copyFrom", "(LVeneerYard$Told;)V"⟩, 8)]
theorem lw_r1 : ∀ q ∈ lw_privs_1, lw_okq q := List.forall_mem_cons.mpr ⟨lw_p0, List.forall_mem_cons.mpr ⟨lw_p1, List.forall_mem_cons.mpr ⟨lw_p2, List.forall_mem_cons.mpr ⟨lw_p3, List.forall_mem_cons.mpr ⟨lw_p4, List.forall_mem_cons.mpr ⟨lw_p5, List.forall_mem_cons.mpr ⟨lw_p6, List.forall_mem_cons.mpr ⟨lw_p7, List.forall_mem_cons.mpr ⟨lw_p8, List.forall_mem_cons.mpr ⟨lw_p9, List.forall_mem_cons.mpr ⟨lw_p10, List.forall_mem_cons.mpr ⟨lw_p11, List.forall_mem_cons.mpr ⟨lw_p12, List.forall_mem_cons.mpr ⟨lw_p13, List.forall_mem_cons.mpr ⟨lw_p14, List.forall_mem_cons.mpr ⟨lw_p15, fun _ h => absurd h List.not_mem_nil⟩⟩⟩⟩⟩⟩⟩⟩⟩⟩⟩⟩⟩⟩⟩⟩
theorem lw_p16 : lw_okq (⟨"VeneerYard$Sections", "copyFrom", "(LVeneerYard$Sections;)V"⟩, 5) := ⟨⟨by decide +kernel, by decide +kernel⟩, List.mem_of_getElem? (i := 29) (by decide +kernel), List.mem_of_getElem? (i := 426) (by decide +kernel), List.mem_of_getElem? (i := 427) (by decide +kernel)⟩
theorem lw_p17 : lw_okq (⟨"VeneerYard$Labels", "copyFrom", "(LVeneerYard$Labels;)V"⟩, 3) := ⟨⟨by decide +kernel, by decide +kernel⟩, List.mem_of_getElem? (i := 63) (by decide +kernel), List.mem_of_getElem? (i := 430) (by decide +kernel), List.mem_of_getElem? (i := 431) (by decide +kernel)⟩
theorem lw_p18 : lw_okq (⟨"VeneerYard$Kinds", "copyFrom", "(LVeneerYard$Kinds;)V"⟩, 2) := ⟨⟨by decide +kernel, by decide +kernel⟩, List.mem_of_getElem? (i := 84) (by decide +kernel), List.mem_of_getElem? (i := 437) (by decide +kernel), List.mem_of_getElem? (i := 438) (by decide +kernel)⟩
theorem lw_p19 : lw_okq (⟨"VeneerYard$Branches", "copyFrom", "(LVeneerYard$Branches;)V"⟩, 5) := ⟨⟨by decide +kernel, by decide +kernel⟩, List.mem_of_getElem? (i := 97) (by decide +kernel), List.mem_of_getElem? (i := 442) (by decide +kernel), List.mem_of_getElem? (i := 443) (by decide +kernel)⟩
theorem lw_p20 : lw_okq (⟨"VeneerYard$Thunks", "clear", "()V"⟩, 11) := ⟨⟨by decide +kernel, by decide +kernel⟩, List.mem_of_getElem? (i := 204) (by decide +kernel), List.mem_of_getElem? (i := 447) (by decide +kernel), List.mem_of_getElem? (i := 448) (by decide +kernel)⟩
theorem lw_p21 : lw_okq (⟨"VeneerYard$Addresses", "find", "(LVeneerYard$Told;[I)V"⟩, 4) := ⟨⟨by decide +kernel, by decide +kernel⟩, List.mem_of_getElem? (i := 178) (by decide +kernel), List.mem_of_getElem? (i := 454) (by decide +kernel), List.mem_of_getElem? (i := 455) (by decide +kernel)⟩
theorem lw_p22 : lw_okq (⟨"VeneerYard$Told", "thunkStride", "()J"⟩, 8) := ⟨⟨by decide +kernel, by decide +kernel⟩, List.mem_of_getElem? (i := 23) (by decide +kernel), List.mem_of_getElem? (i := 458) (by decide +kernel), List.mem_of_getElem? (i := 459) (by decide +kernel)⟩
theorem lw_p23 : lw_okq (⟨"VeneerYard$Thunks", "findPlaces", "(LVeneerYard$Addresses;J)V"⟩, 11) := ⟨⟨by decide +kernel, by decide +kernel⟩, List.mem_of_getElem? (i := 204) (by decide +kernel), List.mem_of_getElem? (i := 467) (by decide +kernel), List.mem_of_getElem? (i := 468) (by decide +kernel)⟩
theorem lw_p24 : lw_okq (⟨"VeneerYard$Layout", "anyWanted", "(I)Z"⟩, 9) := ⟨⟨by decide +kernel, by decide +kernel⟩, List.mem_of_getElem? (i := 170) (by decide +kernel), List.mem_of_getElem? (i := 471) (by decide +kernel), List.mem_of_getElem? (i := 472) (by decide +kernel)⟩
theorem lw_p25 : lw_okq (⟨"VeneerYard$Told", "hasThunks", "()Z"⟩, 8) := ⟨⟨by decide +kernel, by decide +kernel⟩, List.mem_of_getElem? (i := 23) (by decide +kernel), List.mem_of_getElem? (i := 475) (by decide +kernel), List.mem_of_getElem? (i := 476) (by decide +kernel)⟩
theorem lw_p26 : lw_okq (⟨"VeneerYard$Layout", "isDirect", "(I)Z"⟩, 9) := ⟨⟨by decide +kernel, by decide +kernel⟩, List.mem_of_getElem? (i := 170) (by decide +kernel), List.mem_of_getElem? (i := 479) (by decide +kernel), List.mem_of_getElem? (i := 480) (by decide +kernel)⟩
theorem lw_p27 : lw_okq (⟨"VeneerYard$Layout", "labelAddress", "(I)J"⟩, 9) := ⟨⟨by decide +kernel, by decide +kernel⟩, List.mem_of_getElem? (i := 170) (by decide +kernel), List.mem_of_getElem? (i := 483) (by decide +kernel), List.mem_of_getElem? (i := 484) (by decide +kernel)⟩
theorem lw_p28 : lw_okq (⟨"VeneerYard$Layout", "branchAddress", "(I)J"⟩, 9) := ⟨⟨by decide +kernel, by decide +kernel⟩, List.mem_of_getElem? (i := 170) (by decide +kernel), List.mem_of_getElem? (i := 487) (by decide +kernel), List.mem_of_getElem? (i := 488) (by decide +kernel)⟩
theorem lw_p29 : lw_okq (⟨"VeneerYard$Kinds", "reaches", "(IJJ)Z"⟩, 2) := ⟨⟨by decide +kernel, by decide +kernel⟩, List.mem_of_getElem? (i := 84) (by decide +kernel), List.mem_of_getElem? (i := 491) (by decide +kernel), List.mem_of_getElem? (i := 492) (by decide +kernel)⟩
theorem lw_p30 : lw_okq (⟨"VeneerYard$Layout", "nearestThunk", "(I)I"⟩, 9) := ⟨⟨by decide +kernel, by decide +kernel⟩, List.mem_of_getElem? (i := 170) (by decide +kernel), List.mem_of_getElem? (i := 496) (by decide +kernel), List.mem_of_getElem? (i := 497) (by decide +kernel)⟩
theorem lw_p31 : lw_okq (⟨"VeneerYard$Thunks", "numberOf", "(II)I"⟩, 11) := ⟨⟨by decide +kernel, by decide +kernel⟩, List.mem_of_getElem? (i := 204) (by decide +kernel), List.mem_of_getElem? (i := 500) (by decide +kernel), List.mem_of_getElem? (i := 501) (by decide +kernel)⟩
def lw_privs_2 : List (MethodName × Nat) := [(⟨"VeneerYard$Sections", "copyFrom", "(LVeneerYard$Sections;)V"⟩, 5), (⟨"VeneerYard$Labels", "copyFrom", "(LVeneerYard$Labels;)V"⟩, 3), (⟨"VeneerYard$Kinds", "copyFrom", "(LVeneerYard$Kinds;)V"⟩, 2), (⟨"VeneerYard$Branches", "copyFrom", "(LVeneerYard$Branches;)V"⟩, 5), (⟨"VeneerYard$Thunks", "clear", "()V"⟩, 11), (⟨"VeneerYard$Addresses", "find", "(LVeneerYard$Told;[I)V"⟩, 4), (⟨"VeneerYard$Told", "thunkStride", "()J"⟩, 8), (⟨"VeneerYard$Thunks", "findPlaces", "(LVeneerYard$Addresses;J)V"⟩, 11), (⟨"VeneerYard$Layout", "anyWanted", "(I)Z"⟩, 9), (⟨"VeneerYard$Told", "hasThunks", "()Z"⟩, 8), (⟨"VeneerYard$Layout", "isDirect", "(I)Z"⟩, 9), (⟨"VeneerYard$Layout", "labelAddress", "(I)J"⟩, 9), (⟨"VeneerYard$Layout", "branchAddress", "(I)J"⟩, 9), (⟨"VeneerYard$Kinds", "reaches", "(IJJ)Z"⟩, 2), (⟨"VeneerYard$Layout", "nearestThunk", "(I)I"⟩, 9), (⟨"VeneerYard$Thunks", "numberOf", "(II)I"⟩, 11)]
theorem lw_r2 : ∀ q ∈ lw_privs_2, lw_okq q := List.forall_mem_cons.mpr ⟨lw_p16, List.forall_mem_cons.mpr ⟨lw_p17, List.forall_mem_cons.mpr ⟨lw_p18, List.forall_mem_cons.mpr ⟨lw_p19, List.forall_mem_cons.mpr ⟨lw_p20, List.forall_mem_cons.mpr ⟨lw_p21, List.forall_mem_cons.mpr ⟨lw_p22, List.forall_mem_cons.mpr ⟨lw_p23, List.forall_mem_cons.mpr ⟨lw_p24, List.forall_mem_cons.mpr ⟨lw_p25, List.forall_mem_cons.mpr ⟨lw_p26, List.forall_mem_cons.mpr ⟨lw_p27, List.forall_mem_cons.mpr ⟨lw_p28, List.forall_mem_cons.mpr ⟨lw_p29, List.forall_mem_cons.mpr ⟨lw_p30, List.forall_mem_cons.mpr ⟨lw_p31, fun _ h => absurd h List.not_mem_nil⟩⟩⟩⟩⟩⟩⟩⟩⟩⟩⟩⟩⟩⟩⟩⟩
theorem lw_p32 : lw_okq (⟨"VeneerYard$Thunks", "has", "(I)Z"⟩, 11) := ⟨⟨by decide +kernel, by decide +kernel⟩, List.mem_of_getElem? (i := 204) (by decide +kernel), List.mem_of_getElem? (i := 504) (by decide +kernel), List.mem_of_getElem? (i := 505) (by decide +kernel)⟩
theorem lw_p33 : lw_okq (⟨"VeneerYard$Layout", "doesHelp", "(II)Z"⟩, 9) := ⟨⟨by decide +kernel, by decide +kernel⟩, List.mem_of_getElem? (i := 170) (by decide +kernel), List.mem_of_getElem? (i := 508) (by decide +kernel), List.mem_of_getElem? (i := 509) (by decide +kernel)⟩
theorem lw_p34 : lw_okq (⟨"VeneerYard$Layout", "wantThunk", "(II)V"⟩, 9) := ⟨⟨by decide +kernel, by decide +kernel⟩, List.mem_of_getElem? (i := 170) (by decide +kernel), List.mem_of_getElem? (i := 515) (by decide +kernel), List.mem_of_getElem? (i := 516) (by decide +kernel)⟩
theorem lw_p35 : lw_okq (⟨"VeneerYard$Layout", "couldHelp", "(II)Z"⟩, 9) := ⟨⟨by decide +kernel, by decide +kernel⟩, List.mem_of_getElem? (i := 170) (by decide +kernel), List.mem_of_getElem? (i := 519) (by decide +kernel), List.mem_of_getElem? (i := 520) (by decide +kernel)⟩
theorem lw_p36 : lw_okq (⟨"VeneerYard$Thunks", "isMade", "(II)Z"⟩, 11) := ⟨⟨by decide +kernel, by decide +kernel⟩, List.mem_of_getElem? (i := 204) (by decide +kernel), List.mem_of_getElem? (i := 523) (by decide +kernel), List.mem_of_getElem? (i := 524) (by decide +kernel)⟩
theorem lw_p37 : lw_okq (⟨"VeneerYard$Thunks", "isWanted", "(II)Z"⟩, 11) := ⟨⟨by decide +kernel, by decide +kernel⟩, List.mem_of_getElem? (i := 204) (by decide +kernel), List.mem_of_getElem? (i := 529) (by decide +kernel), List.mem_of_getElem? (i := 530) (by decide +kernel)⟩
theorem lw_p38 : lw_okq (⟨"VeneerYard$Thunks", "want", "(IIII)V"⟩, 11) := ⟨⟨by decide +kernel, by decide +kernel⟩, List.mem_of_getElem? (i := 204) (by decide +kernel), List.mem_of_getElem? (i := 533) (by decide +kernel), List.mem_of_getElem? (i := 534) (by decide +kernel)⟩
theorem lw_p39 : lw_okq (⟨"VeneerYard$Thunks", "grow", "()V"⟩, 11) := ⟨⟨by decide +kernel, by decide +kernel⟩, List.mem_of_getElem? (i := 204) (by decide +kernel), List.mem_of_getElem? (i := 537) (by decide +kernel), List.mem_of_getElem? (i := 538) (by decide +kernel)⟩
theorem lw_p40 : lw_okq (⟨"VeneerYard$Thunks", "makeWanted", "()Z"⟩, 11) := ⟨⟨by decide +kernel, by decide +kernel⟩, List.mem_of_getElem? (i := 204) (by decide +kernel), List.mem_of_getElem? (i := 564) (by decide +kernel), List.mem_of_getElem? (i := 565) (by decide +kernel)⟩
theorem lw_p41 : lw_okq (⟨"VeneerYard$Layout", "routeAll", "()V"⟩, 9) := ⟨⟨by decide +kernel, by decide +kernel⟩, List.mem_of_getElem? (i := 170) (by decide +kernel), List.mem_of_getElem? (i := 568) (by decide +kernel), List.mem_of_getElem? (i := 569) (by decide +kernel)⟩
theorem lw_p42 : lw_okq (⟨"VeneerYard$Layout", "routeByThunk", "(I)V"⟩, 9) := ⟨⟨by decide +kernel, by decide +kernel⟩, List.mem_of_getElem? (i := 170) (by decide +kernel), List.mem_of_getElem? (i := 572) (by decide +kernel), List.mem_of_getElem? (i := 573) (by decide +kernel)⟩
theorem lw_p43 : lw_okq (⟨"VeneerYard$Thunks", "unused", "()I"⟩, 11) := ⟨⟨by decide +kernel, by decide +kernel⟩, List.mem_of_getElem? (i := 204) (by decide +kernel), List.mem_of_getElem? (i := 580) (by decide +kernel), List.mem_of_getElem? (i := 581) (by decide +kernel)⟩
theorem lw_p44 : lw_okq (⟨"VeneerYard$Layout", "bytesBetween", "()I"⟩, 9) := ⟨⟨by decide +kernel, by decide +kernel⟩, List.mem_of_getElem? (i := 170) (by decide +kernel), List.mem_of_getElem? (i := 584) (by decide +kernel), List.mem_of_getElem? (i := 585) (by decide +kernel)⟩
theorem lw_p45 : lw_okq (⟨"VeneerYard$Layout", "bytesInAll", "()I"⟩, 9) := ⟨⟨by decide +kernel, by decide +kernel⟩, List.mem_of_getElem? (i := 170) (by decide +kernel), List.mem_of_getElem? (i := 588) (by decide +kernel), List.mem_of_getElem? (i := 589) (by decide +kernel)⟩
theorem lw_p46 : lw_okq (⟨"VeneerYard$Sections", "hasPool", "(I)Z"⟩, 5) := ⟨⟨by decide +kernel, by decide +kernel⟩, List.mem_of_getElem? (i := 29) (by decide +kernel), List.mem_of_getElem? (i := 601) (by decide +kernel), List.mem_of_getElem? (i := 602) (by decide +kernel)⟩
theorem lw_p47 : lw_okq (⟨"VeneerYard$Layout", "branchCode", "(I)I"⟩, 9) := ⟨⟨by decide +kernel, by decide +kernel⟩, List.mem_of_getElem? (i := 170) (by decide +kernel), List.mem_of_getElem? (i := 618) (by decide +kernel), List.mem_of_getElem? (i := 619) (by decide +kernel)⟩
def lw_privs_3 : List (MethodName × Nat) := [(⟨"VeneerYard$Thunks", "has", "(I)Z"⟩, 11), (⟨"VeneerYard$Layout", "doesHelp", "(II)Z"⟩, 9), (⟨"VeneerYard$Layout", "wantThunk", "(II)V"⟩, 9), (⟨"VeneerYard$Layout", "couldHelp", "(II)Z"⟩, 9), (⟨"VeneerYard$Thunks", "isMade", "(II)Z"⟩, 11), (⟨"VeneerYard$Thunks", "isWanted", "(II)Z"⟩, 11), (⟨"VeneerYard$Thunks", "want", "(IIII)V"⟩, 11), (⟨"VeneerYard$Thunks", "grow", "()V"⟩, 11), (⟨"VeneerYard$Thunks", "makeWanted", "()Z"⟩, 11), (⟨"VeneerYard$Layout", "routeAll", "()V"⟩, 9), (⟨"VeneerYard$Layout", "routeByThunk", "(I)V"⟩, 9), (⟨"VeneerYard$Thunks", "unused", "()I"⟩, 11), (⟨"VeneerYard$Layout", "bytesBetween", "()I"⟩, 9), (⟨"VeneerYard$Layout", "bytesInAll", "()I"⟩, 9), (⟨"VeneerYard$Sections", "hasPool", "(I)Z"⟩, 5), (⟨"VeneerYard$Layout", "branchCode", "(I)I"⟩, 9)]
theorem lw_r3 : ∀ q ∈ lw_privs_3, lw_okq q := List.forall_mem_cons.mpr ⟨lw_p32, List.forall_mem_cons.mpr ⟨lw_p33, List.forall_mem_cons.mpr ⟨lw_p34, List.forall_mem_cons.mpr ⟨lw_p35, List.forall_mem_cons.mpr ⟨lw_p36, List.forall_mem_cons.mpr ⟨lw_p37, List.forall_mem_cons.mpr ⟨lw_p38, List.forall_mem_cons.mpr ⟨lw_p39, List.forall_mem_cons.mpr ⟨lw_p40, List.forall_mem_cons.mpr ⟨lw_p41, List.forall_mem_cons.mpr ⟨lw_p42, List.forall_mem_cons.mpr ⟨lw_p43, List.forall_mem_cons.mpr ⟨lw_p44, List.forall_mem_cons.mpr ⟨lw_p45, List.forall_mem_cons.mpr ⟨lw_p46, List.forall_mem_cons.mpr ⟨lw_p47, fun _ h => absurd h List.not_mem_nil⟩⟩⟩⟩⟩⟩⟩⟩⟩⟩⟩⟩⟩⟩⟩⟩
theorem lw_p48 : lw_okq (⟨"VeneerYard$Kinds", "encode", "(IJJ)I"⟩, 2) := ⟨⟨by decide +kernel, by decide +kernel⟩, List.mem_of_getElem? (i := 84) (by decide +kernel), List.mem_of_getElem? (i := 623) (by decide +kernel), List.mem_of_getElem? (i := 624) (by decide +kernel)⟩
theorem lw_p49 : lw_okq (⟨"VeneerYard$Layout", "thunkCode", "(I)I"⟩, 9) := ⟨⟨by decide +kernel, by decide +kernel⟩, List.mem_of_getElem? (i := 170) (by decide +kernel), List.mem_of_getElem? (i := 628) (by decide +kernel), List.mem_of_getElem? (i := 629) (by decide +kernel)⟩
theorem lw_p50 : lw_okq (⟨"VeneerYard$Layout", "whatIsAt", "(J)I"⟩, 9) := ⟨⟨by decide +kernel, by decide +kernel⟩, List.mem_of_getElem? (i := 170) (by decide +kernel), List.mem_of_getElem? (i := 636) (by decide +kernel), List.mem_of_getElem? (i := 637) (by decide +kernel)⟩
theorem lw_p51 : lw_okq (⟨"VeneerYard$Layout", "walkFrom", "(I)J"⟩, 9) := ⟨⟨by decide +kernel, by decide +kernel⟩, List.mem_of_getElem? (i := 170) (by decide +kernel), List.mem_of_getElem? (i := 647) (by decide +kernel), List.mem_of_getElem? (i := 648) (by decide +kernel)⟩
theorem lw_p52 : lw_okq (⟨"VeneerYard$Kinds", "follow", "(IJI)J"⟩, 2) := ⟨⟨by decide +kernel, by decide +kernel⟩, List.mem_of_getElem? (i := 84) (by decide +kernel), List.mem_of_getElem? (i := 653) (by decide +kernel), List.mem_of_getElem? (i := 654) (by decide +kernel)⟩
theorem lw_p53 : lw_okq (⟨"VeneerYardModel", "addresses", "(I)V"⟩, 51) := ⟨⟨by decide +kernel, by decide +kernel⟩, List.mem_of_getElem? (i := 666) (by decide +kernel), List.mem_of_getElem? (i := 866) (by decide +kernel), List.mem_of_getElem? (i := 867) (by decide +kernel)⟩
theorem lw_p54 : lw_okq (⟨"VeneerYardModel", "isDirect", "(I)Z"⟩, 51) := ⟨⟨by decide +kernel, by decide +kernel⟩, List.mem_of_getElem? (i := 666) (by decide +kernel), List.mem_of_getElem? (i := 873) (by decide +kernel), List.mem_of_getElem? (i := 874) (by decide +kernel)⟩
theorem lw_p55 : lw_okq (⟨"VeneerYardModel", "reaches", "(IJJ)Z"⟩, 51) := ⟨⟨by decide +kernel, by decide +kernel⟩, List.mem_of_getElem? (i := 666) (by decide +kernel), List.mem_of_getElem? (i := 877) (by decide +kernel), List.mem_of_getElem? (i := 878) (by decide +kernel)⟩
theorem lw_p56 : lw_okq (⟨"VeneerYardModel", "thunkFor", "(II)I"⟩, 51) := ⟨⟨by decide +kernel, by decide +kernel⟩, List.mem_of_getElem? (i := 666) (by decide +kernel), List.mem_of_getElem? (i := 881) (by decide +kernel), List.mem_of_getElem? (i := 882) (by decide +kernel)⟩
theorem lw_p57 : lw_okq (⟨"VeneerYardModel", "wants", "(II)I"⟩, 51) := ⟨⟨by decide +kernel, by decide +kernel⟩, List.mem_of_getElem? (i := 666) (by decide +kernel), List.mem_of_getElem? (i := 888) (by decide +kernel), List.mem_of_getElem? (i := 889) (by decide +kernel)⟩
theorem lw_p58 : lw_okq (⟨"VeneerYardModel", "hasThunk", "(IIII)Z"⟩, 51) := ⟨⟨by decide +kernel, by decide +kernel⟩, List.mem_of_getElem? (i := 666) (by decide +kernel), List.mem_of_getElem? (i := 892) (by decide +kernel), List.mem_of_getElem? (i := 893) (by decide +kernel)⟩
theorem lw_p59 : lw_okq (⟨"VeneerYardModel", "keeps", "()I"⟩, 51) := ⟨⟨by decide +kernel, by decide +kernel⟩, List.mem_of_getElem? (i := 666) (by decide +kernel), List.mem_of_getElem? (i := 896) (by decide +kernel), List.mem_of_getElem? (i := 897) (by decide +kernel)⟩
theorem lw_p60 : lw_okq (⟨"VeneerYardModel", "ways", "(I)I"⟩, 51) := ⟨⟨by decide +kernel, by decide +kernel⟩, List.mem_of_getElem? (i := 666) (by decide +kernel), List.mem_of_getElem? (i := 904) (by decide +kernel), List.mem_of_getElem? (i := 905) (by decide +kernel)⟩
theorem lw_p61 : lw_okq (⟨"VeneerYardModel", "idle", "()I"⟩, 51) := ⟨⟨by decide +kernel, by decide +kernel⟩, List.mem_of_getElem? (i := 666) (by decide +kernel), List.mem_of_getElem? (i := 908) (by decide +kernel), List.mem_of_getElem? (i := 909) (by decide +kernel)⟩
theorem lw_p62 : lw_okq (⟨"VeneerYardModel", "between", "()J"⟩, 51) := ⟨⟨by decide +kernel, by decide +kernel⟩, List.mem_of_getElem? (i := 666) (by decide +kernel), List.mem_of_getElem? (i := 912) (by decide +kernel), List.mem_of_getElem? (i := 913) (by decide +kernel)⟩
theorem lw_p63 : lw_okq (⟨"VeneerYardModel", "way", "(IJJ)I"⟩, 51) := ⟨⟨by decide +kernel, by decide +kernel⟩, List.mem_of_getElem? (i := 666) (by decide +kernel), List.mem_of_getElem? (i := 933) (by decide +kernel), List.mem_of_getElem? (i := 934) (by decide +kernel)⟩
def lw_privs_4 : List (MethodName × Nat) := [(⟨"VeneerYard$Kinds", "encode", "(IJJ)I"⟩, 2), (⟨"VeneerYard$Layout", "thunkCode", "(I)I"⟩, 9), (⟨"VeneerYard$Layout", "whatIsAt", "(J)I"⟩, 9), (⟨"VeneerYard$Layout", "walkFrom", "(I)J"⟩, 9), (⟨"VeneerYard$Kinds", "follow", "(IJI)J"⟩, 2), (⟨"VeneerYardModel", "addresses", "(I)V"⟩, 51), (⟨"VeneerYardModel", "isDirect", "(I)Z"⟩, 51), (⟨"VeneerYardModel", "reaches", "(IJJ)Z"⟩, 51), (⟨"VeneerYardModel", "thunkFor", "(II)I"⟩, 51), (⟨"VeneerYardModel", "wants", "(II)I"⟩, 51), (⟨"VeneerYardModel", "hasThunk", "(IIII)Z"⟩, 51), (⟨"VeneerYardModel", "keeps", "()I"⟩, 51), (⟨"VeneerYardModel", "ways", "(I)I"⟩, 51), (⟨"VeneerYardModel", "idle", "()I"⟩, 51), (⟨"VeneerYardModel", "between", "()J"⟩, 51), (⟨"VeneerYardModel", "way", "(IJJ)I"⟩, 51)]
theorem lw_r4 : ∀ q ∈ lw_privs_4, lw_okq q := List.forall_mem_cons.mpr ⟨lw_p48, List.forall_mem_cons.mpr ⟨lw_p49, List.forall_mem_cons.mpr ⟨lw_p50, List.forall_mem_cons.mpr ⟨lw_p51, List.forall_mem_cons.mpr ⟨lw_p52, List.forall_mem_cons.mpr ⟨lw_p53, List.forall_mem_cons.mpr ⟨lw_p54, List.forall_mem_cons.mpr ⟨lw_p55, List.forall_mem_cons.mpr ⟨lw_p56, List.forall_mem_cons.mpr ⟨lw_p57, List.forall_mem_cons.mpr ⟨lw_p58, List.forall_mem_cons.mpr ⟨lw_p59, List.forall_mem_cons.mpr ⟨lw_p60, List.forall_mem_cons.mpr ⟨lw_p61, List.forall_mem_cons.mpr ⟨lw_p62, List.forall_mem_cons.mpr ⟨lw_p63, fun _ h => absurd h List.not_mem_nil⟩⟩⟩⟩⟩⟩⟩⟩⟩⟩⟩⟩⟩⟩⟩⟩
theorem lw_p64 : lw_okq (⟨"VeneerYardModel", "laidReaches", "(IJJ)Z"⟩, 51) := ⟨⟨by decide +kernel, by decide +kernel⟩, List.mem_of_getElem? (i := 666) (by decide +kernel), List.mem_of_getElem? (i := 937) (by decide +kernel), List.mem_of_getElem? (i := 938) (by decide +kernel)⟩
theorem lw_p65 : lw_okq (⟨"VeneerYardModel", "goes", "(IJI)J"⟩, 51) := ⟨⟨by decide +kernel, by decide +kernel⟩, List.mem_of_getElem? (i := 666) (by decide +kernel), List.mem_of_getElem? (i := 950) (by decide +kernel), List.mem_of_getElem? (i := 951) (by decide +kernel)⟩
def lw_privs_5 : List (MethodName × Nat) := [(⟨"VeneerYardModel", "laidReaches", "(IJJ)Z"⟩, 51), (⟨"VeneerYardModel", "goes", "(IJI)J"⟩, 51)]
theorem lw_r5 : ∀ q ∈ lw_privs_5, lw_okq q := List.forall_mem_cons.mpr ⟨lw_p64, List.forall_mem_cons.mpr ⟨lw_p65, fun _ h => absurd h List.not_mem_nil⟩⟩
def lw_privs : List (MethodName × Nat) := lw_privs_1 ++ (lw_privs_2 ++ (lw_privs_3 ++ (lw_privs_4 ++ (lw_privs_5))))
def lw_tbl : List Cond := k2_sels lw_privs ++ tables_1
theorem lw_privs_ok : ∀ q ∈ lw_privs, lw_okq q := by
  show ∀ q ∈ lw_privs_1 ++ (lw_privs_2 ++ (lw_privs_3 ++ (lw_privs_4 ++ (lw_privs_5)))), lw_okq q
  exact List.forall_mem_append.mpr ⟨lw_r1, List.forall_mem_append.mpr ⟨lw_r2, List.forall_mem_append.mpr ⟨lw_r3, List.forall_mem_append.mpr ⟨lw_r4, lw_r5⟩⟩⟩⟩
-- ===== end of PART A; then your names; then what follows =====
end
section
def RX0 : String := "VeneerYard$Addresses"
def TX0 : u_T := fun k => match k with
  | 0 => ("VeneerYard$Addresses", "section", "[J", true)
  | 1 => ("VeneerYard$Addresses", "poolStart", "[J", true)
  | 2 => ("VeneerYard$Addresses", "poolEnd", "[J", true)
  | _ => ("VeneerYard$Addresses", "end", "J", false)
def tyX0 : Nat → FieldType := fun k => match k with
  | 0 => .array .long
  | 1 => .array .long
  | 2 => .array .long
  | _ => .long
abbrev wsX00 : List Cond := u_ws RX0 TX0 4
theorem nmX0 : ∀ a, a < 4 → ∀ b, b < 4 → a ≠ b → (TX0 a).2.1 ≠ (TX0 b).2.1 := by decide +kernel
theorem tyX0_ok : ∀ k, k < 4 → parseFieldDescriptor (TX0 k).2.2.1 = some (tyX0 k) := by decide +kernel
abbrev cX0_init : ByteArray := prog_2_method_1_code
def yX0_init : MethodName := ⟨RX0, "<init>", "()V"⟩
abbrev cX0_find : ByteArray := prog_2_method_2_code
def yX0_find : MethodName := ⟨RX0, "find", "(LVeneerYard$Told;[I)V"⟩
def RX1 : String := "VeneerYard$Branches"
def TX1 : u_T := fun k => match k with
  | 0 => ("VeneerYard$Branches", "count", "I", false)
  | 1 => ("VeneerYard$Branches", "section", "[I", true)
  | 2 => ("VeneerYard$Branches", "offset", "[I", true)
  | 3 => ("VeneerYard$Branches", "kind", "[I", true)
  | _ => ("VeneerYard$Branches", "label", "[I", true)
def tyX1 : Nat → FieldType := fun k => match k with
  | 0 => .int
  | 1 => .array .int
  | 2 => .array .int
  | 3 => .array .int
  | _ => .array .int
abbrev wsX10 : List Cond := u_ws RX1 TX1 5
theorem nmX1 : ∀ a, a < 5 → ∀ b, b < 5 → a ≠ b → (TX1 a).2.1 ≠ (TX1 b).2.1 := by decide +kernel
theorem tyX1_ok : ∀ k, k < 5 → parseFieldDescriptor (TX1 k).2.2.1 = some (tyX1 k) := by decide +kernel
abbrev cX1_init : ByteArray := prog_3_method_1_code
def yX1_init : MethodName := ⟨RX1, "<init>", "()V"⟩
abbrev cX1_has : ByteArray := prog_3_method_2_code
def yX1_has : MethodName := ⟨RX1, "has", "(I)Z"⟩
abbrev cX1_append : ByteArray := prog_3_method_3_code
def yX1_append : MethodName := ⟨RX1, "append", "(IIII)I"⟩
abbrev cX1_highestIn : ByteArray := prog_3_method_4_code
def yX1_highestIn : MethodName := ⟨RX1, "highestIn", "(I)I"⟩
abbrev cX1_copyFrom : ByteArray := prog_3_method_5_code
def yX1_copyFrom : MethodName := ⟨RX1, "copyFrom", "(LVeneerYard$Branches;)V"⟩
def RX2 : String := "VeneerYard$Kinds"
def TX2 : u_T := fun k => match k with
  | 0 => ("VeneerYard$Kinds", "shift", "[I", true)
  | _ => ("VeneerYard$Kinds", "bits", "[I", true)
def tyX2 : Nat → FieldType := fun k => match k with
  | 0 => .array .int
  | _ => .array .int
abbrev wsX20 : List Cond := u_ws RX2 TX2 2
theorem nmX2 : ∀ a, a < 2 → ∀ b, b < 2 → a ≠ b → (TX2 a).2.1 ≠ (TX2 b).2.1 := by decide +kernel
theorem tyX2_ok : ∀ k, k < 2 → parseFieldDescriptor (TX2 k).2.2.1 = some (tyX2 k) := by decide +kernel
abbrev cX2_init : ByteArray := prog_4_method_1_code
def yX2_init : MethodName := ⟨RX2, "<init>", "()V"⟩
abbrev cX2_has : ByteArray := prog_4_method_2_code
def yX2_has : MethodName := ⟨RX2, "has", "(I)Z"⟩
abbrev cX2_tell : ByteArray := prog_4_method_3_code
def yX2_tell : MethodName := ⟨RX2, "tell", "(III)Z"⟩
abbrev cX2_powerOf : ByteArray := prog_4_method_4_code
def yX2_powerOf : MethodName := ⟨RX2, "powerOf", "(I)I"⟩
abbrev cX2_reaches : ByteArray := prog_4_method_5_code
def yX2_reaches : MethodName := ⟨RX2, "reaches", "(IJJ)Z"⟩
abbrev cX2_encode : ByteArray := prog_4_method_6_code
def yX2_encode : MethodName := ⟨RX2, "encode", "(IJJ)I"⟩
abbrev cX2_follow : ByteArray := prog_4_method_7_code
def yX2_follow : MethodName := ⟨RX2, "follow", "(IJI)J"⟩
abbrev cX2_copyFrom : ByteArray := prog_4_method_8_code
def yX2_copyFrom : MethodName := ⟨RX2, "copyFrom", "(LVeneerYard$Kinds;)V"⟩
def RX3 : String := "VeneerYard$Labels"
def TX3 : u_T := fun k => match k with
  | 0 => ("VeneerYard$Labels", "count", "I", false)
  | 1 => ("VeneerYard$Labels", "section", "[I", true)
  | _ => ("VeneerYard$Labels", "offset", "[I", true)
def tyX3 : Nat → FieldType := fun k => match k with
  | 0 => .int
  | 1 => .array .int
  | _ => .array .int
abbrev wsX30 : List Cond := u_ws RX3 TX3 3
theorem nmX3 : ∀ a, a < 3 → ∀ b, b < 3 → a ≠ b → (TX3 a).2.1 ≠ (TX3 b).2.1 := by decide +kernel
theorem tyX3_ok : ∀ k, k < 3 → parseFieldDescriptor (TX3 k).2.2.1 = some (tyX3 k) := by decide +kernel
abbrev cX3_init : ByteArray := prog_5_method_1_code
def yX3_init : MethodName := ⟨RX3, "<init>", "()V"⟩
abbrev cX3_has : ByteArray := prog_5_method_2_code
def yX3_has : MethodName := ⟨RX3, "has", "(I)Z"⟩
abbrev cX3_append : ByteArray := prog_5_method_3_code
def yX3_append : MethodName := ⟨RX3, "append", "(II)I"⟩
abbrev cX3_highestIn : ByteArray := prog_5_method_4_code
def yX3_highestIn : MethodName := ⟨RX3, "highestIn", "(I)I"⟩
abbrev cX3_copyFrom : ByteArray := prog_5_method_5_code
def yX3_copyFrom : MethodName := ⟨RX3, "copyFrom", "(LVeneerYard$Labels;)V"⟩
def RX4 : String := "VeneerYard$Layout"
def TX4 : u_T := fun k => match k with
  | 0 => ("VeneerYard$Layout", "told", "LVeneerYard$Told;", true)
  | 1 => ("VeneerYard$Layout", "addresses", "LVeneerYard$Addresses;", true)
  | 2 => ("VeneerYard$Layout", "thunks", "LVeneerYard$Thunks;", true)
  | 3 => ("VeneerYard$Layout", "way", "[I", true)
  | 4 => ("VeneerYard$Layout", "byThunk", "[I", true)
  | 5 => ("VeneerYard$Layout", "rounds", "I", false)
  | 6 => ("VeneerYard$Layout", "direct", "I", false)
  | 7 => ("VeneerYard$Layout", "throughThunks", "I", false)
  | _ => ("VeneerYard$Layout", "refused", "I", false)
def tyX4 : Nat → FieldType := fun k => match k with
  | 0 => .object "VeneerYard$Told"
  | 1 => .object "VeneerYard$Addresses"
  | 2 => .object "VeneerYard$Thunks"
  | 3 => .array .int
  | 4 => .array .int
  | 5 => .int
  | 6 => .int
  | 7 => .int
  | _ => .int
abbrev wsX40 : List Cond := u_ws RX4 TX4 9
theorem nmX4 : ∀ a, a < 9 → ∀ b, b < 9 → a ≠ b → (TX4 a).2.1 ≠ (TX4 b).2.1 := by decide +kernel
theorem tyX4_ok : ∀ k, k < 9 → parseFieldDescriptor (TX4 k).2.2.1 = some (tyX4 k) := by decide +kernel
abbrev cX4_init : ByteArray := prog_6_method_1_code
def yX4_init : MethodName := ⟨RX4, "<init>", "()V"⟩
abbrev cX4_layOut : ByteArray := prog_6_method_2_code
def yX4_layOut : MethodName := ⟨RX4, "layOut", "(LVeneerYard$Told;)V"⟩
abbrev cX4_anyWanted : ByteArray := prog_6_method_3_code
def yX4_anyWanted : MethodName := ⟨RX4, "anyWanted", "(I)Z"⟩
abbrev cX4_wantThunk : ByteArray := prog_6_method_4_code
def yX4_wantThunk : MethodName := ⟨RX4, "wantThunk", "(II)V"⟩
abbrev cX4_couldHelp : ByteArray := prog_6_method_5_code
def yX4_couldHelp : MethodName := ⟨RX4, "couldHelp", "(II)Z"⟩
abbrev cX4_isDirect : ByteArray := prog_6_method_6_code
def yX4_isDirect : MethodName := ⟨RX4, "isDirect", "(I)Z"⟩
abbrev cX4_nearestThunk : ByteArray := prog_6_method_7_code
def yX4_nearestThunk : MethodName := ⟨RX4, "nearestThunk", "(I)I"⟩
abbrev cX4_doesHelp : ByteArray := prog_6_method_8_code
def yX4_doesHelp : MethodName := ⟨RX4, "doesHelp", "(II)Z"⟩
abbrev cX4_routeAll : ByteArray := prog_6_method_9_code
def yX4_routeAll : MethodName := ⟨RX4, "routeAll", "()V"⟩
abbrev cX4_routeByThunk : ByteArray := prog_6_method_10_code
def yX4_routeByThunk : MethodName := ⟨RX4, "routeByThunk", "(I)V"⟩
abbrev cX4_labelAddress : ByteArray := prog_6_method_11_code
def yX4_labelAddress : MethodName := ⟨RX4, "labelAddress", "(I)J"⟩
abbrev cX4_branchAddress : ByteArray := prog_6_method_12_code
def yX4_branchAddress : MethodName := ⟨RX4, "branchAddress", "(I)J"⟩
abbrev cX4_bytesInAll : ByteArray := prog_6_method_13_code
def yX4_bytesInAll : MethodName := ⟨RX4, "bytesInAll", "()I"⟩
abbrev cX4_bytesBetween : ByteArray := prog_6_method_14_code
def yX4_bytesBetween : MethodName := ⟨RX4, "bytesBetween", "()I"⟩
abbrev cX4_branchCode : ByteArray := prog_6_method_15_code
def yX4_branchCode : MethodName := ⟨RX4, "branchCode", "(I)I"⟩
abbrev cX4_thunkCode : ByteArray := prog_6_method_16_code
def yX4_thunkCode : MethodName := ⟨RX4, "thunkCode", "(I)I"⟩
abbrev cX4_walkFrom : ByteArray := prog_6_method_17_code
def yX4_walkFrom : MethodName := ⟨RX4, "walkFrom", "(I)J"⟩
abbrev cX4_whatIsAt : ByteArray := prog_6_method_18_code
def yX4_whatIsAt : MethodName := ⟨RX4, "whatIsAt", "(J)I"⟩
abbrev cX4_isWithin : ByteArray := prog_6_method_19_code
def yX4_isWithin : MethodName := ⟨RX4, "isWithin", "(JJI)Z"⟩
def RX5 : String := "VeneerYard$Sections"
def TX5 : u_T := fun k => match k with
  | 0 => ("VeneerYard$Sections", "count", "I", false)
  | 1 => ("VeneerYard$Sections", "pools", "I", false)
  | 2 => ("VeneerYard$Sections", "size", "[I", true)
  | 3 => ("VeneerYard$Sections", "align", "[I", true)
  | _ => ("VeneerYard$Sections", "pool", "[Z", true)
def tyX5 : Nat → FieldType := fun k => match k with
  | 0 => .int
  | 1 => .int
  | 2 => .array .int
  | 3 => .array .int
  | _ => .array .boolean
abbrev wsX50 : List Cond := u_ws RX5 TX5 5
theorem nmX5 : ∀ a, a < 5 → ∀ b, b < 5 → a ≠ b → (TX5 a).2.1 ≠ (TX5 b).2.1 := by decide +kernel
theorem tyX5_ok : ∀ k, k < 5 → parseFieldDescriptor (TX5 k).2.2.1 = some (tyX5 k) := by decide +kernel
abbrev cX5_init : ByteArray := prog_7_method_1_code
def yX5_init : MethodName := ⟨RX5, "<init>", "()V"⟩
abbrev cX5_has : ByteArray := prog_7_method_2_code
def yX5_has : MethodName := ⟨RX5, "has", "(I)Z"⟩
abbrev cX5_hasPool : ByteArray := prog_7_method_3_code
def yX5_hasPool : MethodName := ⟨RX5, "hasPool", "(I)Z"⟩
abbrev cX5_isSize : ByteArray := prog_7_method_4_code
def yX5_isSize : MethodName := ⟨RX5, "isSize", "(I)Z"⟩
abbrev cX5_append : ByteArray := prog_7_method_5_code
def yX5_append : MethodName := ⟨RX5, "append", "(IIZ)I"⟩
abbrev cX5_copyFrom : ByteArray := prog_7_method_6_code
def yX5_copyFrom : MethodName := ⟨RX5, "copyFrom", "(LVeneerYard$Sections;)V"⟩
def RX6 : String := "VeneerYard$Thunks"
def TX6 : u_T := fun k => match k with
  | 0 => ("VeneerYard$Thunks", "made", "I", false)
  | 1 => ("VeneerYard$Thunks", "wanted", "I", false)
  | 2 => ("VeneerYard$Thunks", "pool", "[I", false)
  | 3 => ("VeneerYard$Thunks", "label", "[I", false)
  | 4 => ("VeneerYard$Thunks", "round", "[I", false)
  | 5 => ("VeneerYard$Thunks", "wanter", "[I", false)
  | 6 => ("VeneerYard$Thunks", "users", "[I", false)
  | 7 => ("VeneerYard$Thunks", "rank", "[I", false)
  | 8 => ("VeneerYard$Thunks", "place", "[J", false)
  | 9 => ("VeneerYard$Thunks", "inPool", "[I", true)
  | _ => ("VeneerYard$Thunks", "numbers", "[I", true)
def tyX6 : Nat → FieldType := fun k => match k with
  | 0 => .int
  | 1 => .int
  | 2 => .array .int
  | 3 => .array .int
  | 4 => .array .int
  | 5 => .array .int
  | 6 => .array .int
  | 7 => .array .int
  | 8 => .array .long
  | 9 => .array .int
  | _ => .array .int
abbrev wsX60 : List Cond := u_ws RX6 TX6 11
theorem nmX6 : ∀ a, a < 11 → ∀ b, b < 11 → a ≠ b → (TX6 a).2.1 ≠ (TX6 b).2.1 := by decide +kernel
theorem tyX6_ok : ∀ k, k < 11 → parseFieldDescriptor (TX6 k).2.2.1 = some (tyX6 k) := by decide +kernel
abbrev cX6_init : ByteArray := prog_8_method_1_code
def yX6_init : MethodName := ⟨RX6, "<init>", "()V"⟩
abbrev cX6_has : ByteArray := prog_8_method_2_code
def yX6_has : MethodName := ⟨RX6, "has", "(I)Z"⟩
abbrev cX6_clear : ByteArray := prog_8_method_3_code
def yX6_clear : MethodName := ⟨RX6, "clear", "()V"⟩
abbrev cX6_numberOf : ByteArray := prog_8_method_4_code
def yX6_numberOf : MethodName := ⟨RX6, "numberOf", "(II)I"⟩
abbrev cX6_isMade : ByteArray := prog_8_method_5_code
def yX6_isMade : MethodName := ⟨RX6, "isMade", "(II)Z"⟩
abbrev cX6_isWanted : ByteArray := prog_8_method_6_code
def yX6_isWanted : MethodName := ⟨RX6, "isWanted", "(II)Z"⟩
abbrev cX6_want : ByteArray := prog_8_method_7_code
def yX6_want : MethodName := ⟨RX6, "want", "(IIII)V"⟩
abbrev cX6_grow : ByteArray := prog_8_method_8_code
def yX6_grow : MethodName := ⟨RX6, "grow", "()V"⟩
abbrev cX6_makeWanted : ByteArray := prog_8_method_9_code
def yX6_makeWanted : MethodName := ⟨RX6, "makeWanted", "()Z"⟩
abbrev cX6_findPlaces : ByteArray := prog_8_method_10_code
def yX6_findPlaces : MethodName := ⟨RX6, "findPlaces", "(LVeneerYard$Addresses;J)V"⟩
abbrev cX6_unused : ByteArray := prog_8_method_11_code
def yX6_unused : MethodName := ⟨RX6, "unused", "()I"⟩
def RX7 : String := "VeneerYard$Told"
def TX7 : u_T := fun k => match k with
  | 0 => ("VeneerYard$Told", "sections", "LVeneerYard$Sections;", true)
  | 1 => ("VeneerYard$Told", "labels", "LVeneerYard$Labels;", true)
  | 2 => ("VeneerYard$Told", "kinds", "LVeneerYard$Kinds;", true)
  | 3 => ("VeneerYard$Told", "branches", "LVeneerYard$Branches;", true)
  | 4 => ("VeneerYard$Told", "start", "I", false)
  | 5 => ("VeneerYard$Told", "thunkSize", "I", false)
  | 6 => ("VeneerYard$Told", "thunkAlign", "I", false)
  | _ => ("VeneerYard$Told", "thunkKind", "I", false)
def tyX7 : Nat → FieldType := fun k => match k with
  | 0 => .object "VeneerYard$Sections"
  | 1 => .object "VeneerYard$Labels"
  | 2 => .object "VeneerYard$Kinds"
  | 3 => .object "VeneerYard$Branches"
  | 4 => .int
  | 5 => .int
  | 6 => .int
  | _ => .int
abbrev wsX70 : List Cond := u_ws RX7 TX7 8
theorem nmX7 : ∀ a, a < 8 → ∀ b, b < 8 → a ≠ b → (TX7 a).2.1 ≠ (TX7 b).2.1 := by decide +kernel
theorem tyX7_ok : ∀ k, k < 8 → parseFieldDescriptor (TX7 k).2.2.1 = some (tyX7 k) := by decide +kernel
abbrev cX7_init : ByteArray := prog_9_method_1_code
def yX7_init : MethodName := ⟨RX7, "<init>", "()V"⟩
abbrev cX7_hasThunks : ByteArray := prog_9_method_2_code
def yX7_hasThunks : MethodName := ⟨RX7, "hasThunks", "()Z"⟩
abbrev cX7_tellThunks : ByteArray := prog_9_method_3_code
def yX7_tellThunks : MethodName := ⟨RX7, "tellThunks", "(III)Z"⟩
abbrev cX7_changeSize : ByteArray := prog_9_method_4_code
def yX7_changeSize : MethodName := ⟨RX7, "changeSize", "(II)Z"⟩
abbrev cX7_thunkStride : ByteArray := prog_9_method_5_code
def yX7_thunkStride : MethodName := ⟨RX7, "thunkStride", "()J"⟩
abbrev cX7_copyFrom : ByteArray := prog_9_method_6_code
def yX7_copyFrom : MethodName := ⟨RX7, "copyFrom", "(LVeneerYard$Told;)V"⟩
def RX8 : String := "VeneerYard"
def TX8 : u_T := fun k => match k with
  | 0 => ("VeneerYard", "told", "LVeneerYard$Told;", true)
  | 1 => ("VeneerYard", "laid", "LVeneerYard$Layout;", true)
  | 2 => ("VeneerYard", "plain", "LVeneerYard$Addresses;", true)
  | 3 => ("VeneerYard", "noThunks", "[I", true)
  | _ => ("VeneerYard", "toldSinceLay", "Z", false)
def tyX8 : Nat → FieldType := fun k => match k with
  | 0 => .object "VeneerYard$Told"
  | 1 => .object "VeneerYard$Layout"
  | 2 => .object "VeneerYard$Addresses"
  | 3 => .array .int
  | _ => .boolean
abbrev wsX80 : List Cond := u_ws RX8 TX8 5
theorem nmX8 : ∀ a, a < 5 → ∀ b, b < 5 → a ≠ b → (TX8 a).2.1 ≠ (TX8 b).2.1 := by decide +kernel
theorem tyX8_ok : ∀ k, k < 5 → parseFieldDescriptor (TX8 k).2.2.1 = some (tyX8 k) := by decide +kernel
abbrev cX8_init : ByteArray := prog_1_method_1_code
def yX8_init : MethodName := ⟨RX8, "<init>", "()V"⟩
abbrev cX8_section : ByteArray := prog_1_method_2_code
def yX8_section : MethodName := ⟨RX8, "section", "(IIZ)I"⟩
abbrev cX8_label : ByteArray := prog_1_method_3_code
def yX8_label : MethodName := ⟨RX8, "label", "(II)I"⟩
abbrev cX8_kind : ByteArray := prog_1_method_4_code
def yX8_kind : MethodName := ⟨RX8, "kind", "(III)Z"⟩
abbrev cX8_branch : ByteArray := prog_1_method_5_code
def yX8_branch : MethodName := ⟨RX8, "branch", "(IIII)I"⟩
abbrev cX8_thunks : ByteArray := prog_1_method_6_code
def yX8_thunks : MethodName := ⟨RX8, "thunks", "(III)Z"⟩
abbrev cX8_base : ByteArray := prog_1_method_7_code
def yX8_base : MethodName := ⟨RX8, "base", "(I)Z"⟩
abbrev cX8_resize : ByteArray := prog_1_method_8_code
def yX8_resize : MethodName := ⟨RX8, "resize", "(II)Z"⟩
abbrev cX8_retarget : ByteArray := prog_1_method_9_code
def yX8_retarget : MethodName := ⟨RX8, "retarget", "(II)Z"⟩
abbrev cX8_lay : ByteArray := prog_1_method_10_code
def yX8_lay : MethodName := ⟨RX8, "lay", "()I"⟩
abbrev cX8_count : ByteArray := prog_1_method_11_code
def yX8_count : MethodName := ⟨RX8, "count", "(I)I"⟩
abbrev cX8_address : ByteArray := prog_1_method_12_code
def yX8_address : MethodName := ⟨RX8, "address", "(II)J"⟩
abbrev cX8_route : ByteArray := prog_1_method_13_code
def yX8_route : MethodName := ⟨RX8, "route", "(II)I"⟩
abbrev cX8_thunk : ByteArray := prog_1_method_14_code
def yX8_thunk : MethodName := ⟨RX8, "thunk", "(II)I"⟩
abbrev cX8_encoded : ByteArray := prog_1_method_15_code
def yX8_encoded : MethodName := ⟨RX8, "encoded", "(II)I"⟩
abbrev cX8_at : ByteArray := prog_1_method_16_code
def yX8_at : MethodName := ⟨RX8, "at", "(J)I"⟩
abbrev cX8_walk : ByteArray := prog_1_method_17_code
def yX8_walk : MethodName := ⟨RX8, "walk", "(I)J"⟩
abbrev cX8_far : ByteArray := prog_1_method_18_code
def yX8_far : MethodName := ⟨RX8, "far", "()I"⟩
abbrev cX8_notedNumber : ByteArray := prog_1_method_19_code
def yX8_notedNumber : MethodName := ⟨RX8, "notedNumber", "(I)I"⟩
abbrev cX8_noted : ByteArray := prog_1_method_20_code
def yX8_noted : MethodName := ⟨RX8, "noted", "(Z)Z"⟩
abbrev cX8_alignUp : ByteArray := prog_1_method_21_code
def yX8_alignUp : MethodName := ⟨RX8, "alignUp", "(JJ)J"⟩
def RX9 : String := "VeneerYardModel"
def TX9 : u_T := fun k => match k with
  | 0 => ("VeneerYardModel", "sections", "I", false)
  | 1 => ("VeneerYardModel", "labels", "I", false)
  | 2 => ("VeneerYardModel", "branches", "I", false)
  | 3 => ("VeneerYardModel", "pools", "I", false)
  | 4 => ("VeneerYardModel", "size", "[I", true)
  | 5 => ("VeneerYardModel", "align", "[I", true)
  | 6 => ("VeneerYardModel", "hasPool", "[Z", true)
  | 7 => ("VeneerYardModel", "labelOf", "[I", true)
  | 8 => ("VeneerYardModel", "labelAt", "[I", true)
  | 9 => ("VeneerYardModel", "branchOf", "[I", true)
  | 10 => ("VeneerYardModel", "branchAt", "[I", true)
  | 11 => ("VeneerYardModel", "branchKind", "[I", true)
  | 12 => ("VeneerYardModel", "branchTo", "[I", true)
  | 13 => ("VeneerYardModel", "step", "[I", true)
  | 14 => ("VeneerYardModel", "bits", "[I", true)
  | 15 => ("VeneerYardModel", "thunkSize", "I", false)
  | 16 => ("VeneerYardModel", "thunkAlign", "I", false)
  | 17 => ("VeneerYardModel", "thunkKind", "I", false)
  | 18 => ("VeneerYardModel", "base", "I", false)
  | 19 => ("VeneerYardModel", "isTold", "Z", false)
  | 20 => ("VeneerYardModel", "isLaid", "Z", false)
  | 21 => ("VeneerYardModel", "lSections", "I", false)
  | 22 => ("VeneerYardModel", "lLabels", "I", false)
  | 23 => ("VeneerYardModel", "lBranches", "I", false)
  | 24 => ("VeneerYardModel", "lThunks", "I", false)
  | 25 => ("VeneerYardModel", "lRounds", "I", false)
  | 26 => ("VeneerYardModel", "lBase", "J", false)
  | 27 => ("VeneerYardModel", "lEnd", "J", false)
  | 28 => ("VeneerYardModel", "sStart", "[J", true)
  | 29 => ("VeneerYardModel", "sEnd", "[J", true)
  | 30 => ("VeneerYardModel", "sPool", "[Z", true)
  | 31 => ("VeneerYardModel", "poolEnd", "[J", true)
  | 32 => ("VeneerYardModel", "lAddress", "[J", true)
  | 33 => ("VeneerYardModel", "bAddress", "[J", true)
  | 34 => ("VeneerYardModel", "bKind", "[I", true)
  | 35 => ("VeneerYardModel", "bTo", "[I", true)
  | 36 => ("VeneerYardModel", "bWay", "[I", true)
  | 37 => ("VeneerYardModel", "bThunk", "[I", true)
  | 38 => ("VeneerYardModel", "lStep", "[I", true)
  | 39 => ("VeneerYardModel", "lBits", "[I", true)
  | 40 => ("VeneerYardModel", "lThunkSize", "I", false)
  | 41 => ("VeneerYardModel", "lThunkKind", "I", false)
  | 42 => ("VeneerYardModel", "tAddress", "[J", true)
  | 43 => ("VeneerYardModel", "tSection", "[I", true)
  | 44 => ("VeneerYardModel", "tLabel", "[I", true)
  | 45 => ("VeneerYardModel", "tRound", "[I", true)
  | 46 => ("VeneerYardModel", "tBranch", "[I", true)
  | 47 => ("VeneerYardModel", "tUsed", "[I", true)
  | 48 => ("VeneerYardModel", "tPlace", "[I", true)
  | 49 => ("VeneerYardModel", "fresh", "I", false)
  | _ => ("VeneerYardModel", "now", "[J", true)
def tyX9 : Nat → FieldType := fun k => match k with
  | 0 => .int
  | 1 => .int
  | 2 => .int
  | 3 => .int
  | 4 => .array .int
  | 5 => .array .int
  | 6 => .array .boolean
  | 7 => .array .int
  | 8 => .array .int
  | 9 => .array .int
  | 10 => .array .int
  | 11 => .array .int
  | 12 => .array .int
  | 13 => .array .int
  | 14 => .array .int
  | 15 => .int
  | 16 => .int
  | 17 => .int
  | 18 => .int
  | 19 => .boolean
  | 20 => .boolean
  | 21 => .int
  | 22 => .int
  | 23 => .int
  | 24 => .int
  | 25 => .int
  | 26 => .long
  | 27 => .long
  | 28 => .array .long
  | 29 => .array .long
  | 30 => .array .boolean
  | 31 => .array .long
  | 32 => .array .long
  | 33 => .array .long
  | 34 => .array .int
  | 35 => .array .int
  | 36 => .array .int
  | 37 => .array .int
  | 38 => .array .int
  | 39 => .array .int
  | 40 => .int
  | 41 => .int
  | 42 => .array .long
  | 43 => .array .int
  | 44 => .array .int
  | 45 => .array .int
  | 46 => .array .int
  | 47 => .array .int
  | 48 => .array .int
  | 49 => .int
  | _ => .array .long
abbrev wsX90 : List Cond := u_ws RX9 TX9 51
theorem nmX9 : ∀ a, a < 51 → ∀ b, b < 51 → a ≠ b → (TX9 a).2.1 ≠ (TX9 b).2.1 := by decide +kernel
theorem tyX9_ok : ∀ k, k < 51 → parseFieldDescriptor (TX9 k).2.2.1 = some (tyX9 k) := by decide +kernel
abbrev cX9_init : ByteArray := prog_11_method_1_code
def yX9_init : MethodName := ⟨RX9, "<init>", "()V"⟩
abbrev cX9_in : ByteArray := prog_11_method_2_code
def yX9_in : MethodName := ⟨RX9, "in", "(III)Z"⟩
abbrev cX9_section : ByteArray := prog_11_method_3_code
def yX9_section : MethodName := ⟨RX9, "section", "(IIZ)I"⟩
abbrev cX9_label : ByteArray := prog_11_method_4_code
def yX9_label : MethodName := ⟨RX9, "label", "(II)I"⟩
abbrev cX9_kind : ByteArray := prog_11_method_5_code
def yX9_kind : MethodName := ⟨RX9, "kind", "(III)Z"⟩
abbrev cX9_branch : ByteArray := prog_11_method_6_code
def yX9_branch : MethodName := ⟨RX9, "branch", "(IIII)I"⟩
abbrev cX9_thunks : ByteArray := prog_11_method_7_code
def yX9_thunks : MethodName := ⟨RX9, "thunks", "(III)Z"⟩
abbrev cX9_base : ByteArray := prog_11_method_8_code
def yX9_base : MethodName := ⟨RX9, "base", "(I)Z"⟩
abbrev cX9_resize : ByteArray := prog_11_method_9_code
def yX9_resize : MethodName := ⟨RX9, "resize", "(II)Z"⟩
abbrev cX9_retarget : ByteArray := prog_11_method_10_code
def yX9_retarget : MethodName := ⟨RX9, "retarget", "(II)Z"⟩
abbrev cX9_upTo : ByteArray := prog_11_method_11_code
def yX9_upTo : MethodName := ⟨RX9, "upTo", "(JI)J"⟩
abbrev cX9_addresses : ByteArray := prog_11_method_12_code
def yX9_addresses : MethodName := ⟨RX9, "addresses", "(I)V"⟩
abbrev cX9_reaches : ByteArray := prog_11_method_13_code
def yX9_reaches : MethodName := ⟨RX9, "reaches", "(IJJ)Z"⟩
abbrev cX9_thunkFor : ByteArray := prog_11_method_14_code
def yX9_thunkFor : MethodName := ⟨RX9, "thunkFor", "(II)I"⟩
abbrev cX9_isNearer : ByteArray := prog_11_method_15_code
def yX9_isNearer : MethodName := ⟨RX9, "isNearer", "(JJJ)Z"⟩
abbrev cX9_isDirect : ByteArray := prog_11_method_16_code
def yX9_isDirect : MethodName := ⟨RX9, "isDirect", "(I)Z"⟩
abbrev cX9_hasThunk : ByteArray := prog_11_method_17_code
def yX9_hasThunk : MethodName := ⟨RX9, "hasThunk", "(IIII)Z"⟩
abbrev cX9_wants : ByteArray := prog_11_method_18_code
def yX9_wants : MethodName := ⟨RX9, "wants", "(II)I"⟩
abbrev cX9_lay : ByteArray := prog_11_method_19_code
def yX9_lay : MethodName := ⟨RX9, "lay", "()I"⟩
abbrev cX9_keeps : ByteArray := prog_11_method_20_code
def yX9_keeps : MethodName := ⟨RX9, "keeps", "()I"⟩
abbrev cX9_ways : ByteArray := prog_11_method_21_code
def yX9_ways : MethodName := ⟨RX9, "ways", "(I)I"⟩
abbrev cX9_idle : ByteArray := prog_11_method_22_code
def yX9_idle : MethodName := ⟨RX9, "idle", "()I"⟩
abbrev cX9_between : ByteArray := prog_11_method_23_code
def yX9_between : MethodName := ⟨RX9, "between", "()J"⟩
abbrev cX9_count : ByteArray := prog_11_method_24_code
def yX9_count : MethodName := ⟨RX9, "count", "(I)I"⟩
abbrev cX9_address : ByteArray := prog_11_method_25_code
def yX9_address : MethodName := ⟨RX9, "address", "(II)J"⟩
abbrev cX9_route : ByteArray := prog_11_method_26_code
def yX9_route : MethodName := ⟨RX9, "route", "(II)I"⟩
abbrev cX9_thunk : ByteArray := prog_11_method_27_code
def yX9_thunk : MethodName := ⟨RX9, "thunk", "(II)I"⟩
abbrev cX9_laidReaches : ByteArray := prog_11_method_28_code
def yX9_laidReaches : MethodName := ⟨RX9, "laidReaches", "(IJJ)Z"⟩
abbrev cX9_way : ByteArray := prog_11_method_29_code
def yX9_way : MethodName := ⟨RX9, "way", "(IJJ)I"⟩
abbrev cX9_encoded : ByteArray := prog_11_method_30_code
def yX9_encoded : MethodName := ⟨RX9, "encoded", "(II)I"⟩
abbrev cX9_at : ByteArray := prog_11_method_31_code
def yX9_at : MethodName := ⟨RX9, "at", "(J)I"⟩
abbrev cX9_goes : ByteArray := prog_11_method_32_code
def yX9_goes : MethodName := ⟨RX9, "goes", "(IJI)J"⟩
abbrev cX9_walk : ByteArray := prog_11_method_33_code
def yX9_walk : MethodName := ⟨RX9, "walk", "(I)J"⟩
abbrev cX9_far : ByteArray := prog_11_method_34_code
def yX9_far : MethodName := ⟨RX9, "far", "()I"⟩
def RJx8e188 : String := "java/lang/Cloneable"
def TJx8e188 : u_T := fun k => match k with
  | _ => ("", "", "", false)
def tyJx8e188 : Nat → FieldType := fun k => match k with
  | _ => .int
abbrev wsJx8e1880 : List Cond := u_ws RJx8e188 TJx8e188 0
theorem nmJx8e188 : ∀ a, a < 0 → ∀ b, b < 0 → a ≠ b → (TJx8e188 a).2.1 ≠ (TJx8e188 b).2.1 := by decide +kernel
theorem tyJx8e188_ok : ∀ k, k < 0 → parseFieldDescriptor (TJx8e188 k).2.2.1 = some (tyJx8e188 k) := by decide +kernel
def RJ9 : String := "java/lang/Math"
def TJ9 : u_T := fun k => match k with
  | _ => ("", "", "", false)
def tyJ9 : Nat → FieldType := fun k => match k with
  | _ => .int
abbrev wsJ90 : List Cond := u_ws RJ9 TJ9 0
theorem nmJ9 : ∀ a, a < 0 → ∀ b, b < 0 → a ≠ b → (TJ9 a).2.1 ≠ (TJ9 b).2.1 := by decide +kernel
theorem tyJ9_ok : ∀ k, k < 0 → parseFieldDescriptor (TJ9 k).2.2.1 = some (tyJ9 k) := by decide +kernel
abbrev cJ9_abs_067f4 : ByteArray := prog_13_method_61_code
def yJ9_abs_067f4 : MethodName := ⟨RJ9, "abs", "(J)J"⟩
abbrev cJ9_max_7cf53 : ByteArray := prog_13_method_65_code
def yJ9_max_7cf53 : MethodName := ⟨RJ9, "max", "(II)I"⟩
abbrev cJ9_min_7cf53 : ByteArray := prog_13_method_69_code
def yJ9_min_7cf53 : MethodName := ⟨RJ9, "min", "(II)I"⟩
def RJ10 : String := "java/lang/System"
def TJ10 : u_T := fun k => match k with
  | _ => ("", "", "", false)
def tyJ10 : Nat → FieldType := fun k => match k with
  | _ => .int
abbrev wsJ100 : List Cond := u_ws RJ10 TJ10 0
theorem nmJ10 : ∀ a, a < 0 → ∀ b, b < 0 → a ≠ b → (TJ10 a).2.1 ≠ (TJ10 b).2.1 := by decide +kernel
theorem tyJ10_ok : ∀ k, k < 0 → parseFieldDescriptor (TJ10 k).2.2.1 = some (tyJ10 k) := by decide +kernel
def RJ7 : String := "java/util/Arrays"
def TJ7 : u_T := fun k => match k with
  | _ => ("", "", "", false)
def tyJ7 : Nat → FieldType := fun k => match k with
  | _ => .int
abbrev wsJ70 : List Cond := u_ws RJ7 TJ7 0
theorem nmJ7 : ∀ a, a < 0 → ∀ b, b < 0 → a ≠ b → (TJ7 a).2.1 ≠ (TJ7 b).2.1 := by decide +kernel
theorem tyJ7_ok : ∀ k, k < 0 → parseFieldDescriptor (TJ7 k).2.2.1 = some (tyJ7 k) := by decide +kernel
abbrev cJ7_fill_53178 : ByteArray := prog_15_method_103_code
def yJ7_fill_53178 : MethodName := ⟨RJ7, "fill", "([II)V"⟩
abbrev cJ7_copyOf_59c91 : ByteArray := prog_15_method_123_code
def yJ7_copyOf_59c91 : MethodName := ⟨RJ7, "copyOf", "([II)[I"⟩
abbrev cJ7_copyOf_c38d5 : ByteArray := prog_15_method_124_code
def yJ7_copyOf_c38d5 : MethodName := ⟨RJ7, "copyOf", "([JI)[J"⟩
def RL : String := "VeneerYardLaw"
abbrev cL_law : ByteArray := code
def yL_law : MethodName := ⟨RL, "law", "([I)Z"⟩
theorem inX0 : ∀ w ∈ wsX00, w ∈ lw_tbl := by decide +kernel
theorem inX1 : ∀ w ∈ wsX10, w ∈ lw_tbl := by decide +kernel
theorem inX2 : ∀ w ∈ wsX20, w ∈ lw_tbl := by decide +kernel
theorem inX3 : ∀ w ∈ wsX30, w ∈ lw_tbl := by decide +kernel
theorem inX4 : ∀ w ∈ wsX40, w ∈ lw_tbl := by decide +kernel
theorem inX5 : ∀ w ∈ wsX50, w ∈ lw_tbl := by decide +kernel
theorem inX6 : ∀ w ∈ wsX60, w ∈ lw_tbl := by decide +kernel
theorem inX7 : ∀ w ∈ wsX70, w ∈ lw_tbl := by decide +kernel
theorem inX8 : ∀ w ∈ wsX80, w ∈ lw_tbl := by decide +kernel
theorem inX9 : ∀ w ∈ wsX90, w ∈ lw_tbl := by decide +kernel
theorem inJx8e188 : ∀ w ∈ wsJx8e1880, w ∈ lw_tbl := by decide +kernel
theorem inJ9 : ∀ w ∈ wsJ90, w ∈ lw_tbl := by decide +kernel
theorem inJ10 : ∀ w ∈ wsJ100, w ∈ lw_tbl := by decide +kernel
theorem inJ7 : ∀ w ∈ wsJ70, w ∈ lw_tbl := by decide +kernel
abbrev vwCl : List vw_C := [(RX0, TX0, 4), (RX1, TX1, 5), (RX2, TX2, 2), (RX3, TX3, 3), (RX4, TX4, 9), (RX5, TX5, 5), (RX6, TX6, 11), (RX7, TX7, 8), (RX8, TX8, 5), (RX9, TX9, 51)]
end
section
theorem dX0_init_0 : decode cX0_init 0 = .ok (.aload_n 0, 1) := by decide +kernel
theorem dX0_init_1 : decode cX0_init 1 = .ok (.invokespecial 3, 3) := by decide +kernel
theorem dX0_init_4 : decode cX0_init 4 = .ok (.aload_n 0, 1) := by decide +kernel
theorem dX0_init_5 : decode cX0_init 5 = .ok (.bipush 40, 2) := by decide +kernel
theorem dX0_init_7 : decode cX0_init 7 = .ok (.newarray .long, 2) := by decide +kernel
theorem dX0_init_9 : decode cX0_init 9 = .ok (.putfield 9, 3) := by decide +kernel
theorem dX0_init_12 : decode cX0_init 12 = .ok (.aload_n 0, 1) := by decide +kernel
theorem dX0_init_13 : decode cX0_init 13 = .ok (.bipush 40, 2) := by decide +kernel
theorem dX0_init_15 : decode cX0_init 15 = .ok (.newarray .long, 2) := by decide +kernel
theorem dX0_init_17 : decode cX0_init 17 = .ok (.putfield 15, 3) := by decide +kernel
theorem dX0_init_20 : decode cX0_init 20 = .ok (.aload_n 0, 1) := by decide +kernel
theorem dX0_init_21 : decode cX0_init 21 = .ok (.bipush 40, 2) := by decide +kernel
theorem dX0_init_23 : decode cX0_init 23 = .ok (.newarray .long, 2) := by decide +kernel
theorem dX0_init_25 : decode cX0_init 25 = .ok (.putfield 18, 3) := by decide +kernel
theorem dX0_init_28 : decode cX0_init 28 = .ok (.aload_n 0, 1) := by decide +kernel
theorem dX0_init_29 : decode cX0_init 29 = .ok (.lconst 0, 1) := by decide +kernel
theorem dX0_init_30 : decode cX0_init 30 = .ok (.putfield 21, 3) := by decide +kernel
theorem dX0_init_33 : decode cX0_init 33 = .ok (.return_, 1) := by decide +kernel
theorem dX0_find_0 : decode cX0_find 0 = .ok (.aload_n 1, 1) := by decide +kernel
theorem dX0_find_1 : decode cX0_find 1 = .ok (.getfield 25, 3) := by decide +kernel
theorem dX0_find_4 : decode cX0_find 4 = .ok (.i2l, 1) := by decide +kernel
theorem dX0_find_5 : decode cX0_find 5 = .ok (.lstore_n 3, 1) := by decide +kernel
theorem dX0_find_6 : decode cX0_find 6 = .ok (.aload_n 1, 1) := by decide +kernel
theorem dX0_find_7 : decode cX0_find 7 = .ok (.invokevirtual 31, 3) := by decide +kernel
theorem dX0_find_10 : decode cX0_find 10 = .ok (.lstore 5, 2) := by decide +kernel
theorem dX0_find_12 : decode cX0_find 12 = .ok (.iconst 0, 1) := by decide +kernel
theorem dX0_find_13 : decode cX0_find 13 = .ok (.istore 7, 2) := by decide +kernel
theorem dX0_find_15 : decode cX0_find 15 = .ok (.iload 7, 2) := by decide +kernel
theorem dX0_find_17 : decode cX0_find 17 = .ok (.aload_n 1, 1) := by decide +kernel
theorem dX0_find_18 : decode cX0_find 18 = .ok (.getfield 35, 3) := by decide +kernel
theorem dX0_find_21 : decode cX0_find 21 = .ok (.getfield 39, 3) := by decide +kernel
theorem dX0_find_24 : decode cX0_find 24 = .ok (.if_icmp .ge 114, 3) := by decide +kernel
theorem dX0_find_27 : decode cX0_find 27 = .ok (.aload_n 0, 1) := by decide +kernel
theorem dX0_find_28 : decode cX0_find 28 = .ok (.getfield 9, 3) := by decide +kernel
theorem dX0_find_31 : decode cX0_find 31 = .ok (.iload 7, 2) := by decide +kernel
theorem dX0_find_33 : decode cX0_find 33 = .ok (.lload_n 3, 1) := by decide +kernel
theorem dX0_find_34 : decode cX0_find 34 = .ok (.aload_n 1, 1) := by decide +kernel
theorem dX0_find_35 : decode cX0_find 35 = .ok (.getfield 35, 3) := by decide +kernel
theorem dX0_find_38 : decode cX0_find 38 = .ok (.getfield 44, 3) := by decide +kernel
theorem dX0_find_41 : decode cX0_find 41 = .ok (.iload 7, 2) := by decide +kernel
theorem dX0_find_43 : decode cX0_find 43 = .ok (.iaload, 1) := by decide +kernel
theorem dX0_find_44 : decode cX0_find 44 = .ok (.i2l, 1) := by decide +kernel
theorem dX0_find_45 : decode cX0_find 45 = .ok (.invokestatic 48, 3) := by decide +kernel
theorem dX0_find_48 : decode cX0_find 48 = .ok (.lastore, 1) := by decide +kernel
theorem dX0_find_49 : decode cX0_find 49 = .ok (.aload_n 0, 1) := by decide +kernel
theorem dX0_find_50 : decode cX0_find 50 = .ok (.getfield 9, 3) := by decide +kernel
theorem dX0_find_53 : decode cX0_find 53 = .ok (.iload 7, 2) := by decide +kernel
theorem dX0_find_55 : decode cX0_find 55 = .ok (.laload, 1) := by decide +kernel
theorem dX0_find_56 : decode cX0_find 56 = .ok (.aload_n 1, 1) := by decide +kernel
theorem dX0_find_57 : decode cX0_find 57 = .ok (.getfield 35, 3) := by decide +kernel
theorem dX0_find_60 : decode cX0_find 60 = .ok (.getfield 52, 3) := by decide +kernel
theorem dX0_find_63 : decode cX0_find 63 = .ok (.iload 7, 2) := by decide +kernel
theorem dX0_find_65 : decode cX0_find 65 = .ok (.iaload, 1) := by decide +kernel
theorem dX0_find_66 : decode cX0_find 66 = .ok (.i2l, 1) := by decide +kernel
theorem dX0_find_67 : decode cX0_find 67 = .ok (.ladd, 1) := by decide +kernel
theorem dX0_find_68 : decode cX0_find 68 = .ok (.lstore_n 3, 1) := by decide +kernel
theorem dX0_find_69 : decode cX0_find 69 = .ok (.aload_n 0, 1) := by decide +kernel
theorem dX0_find_70 : decode cX0_find 70 = .ok (.getfield 15, 3) := by decide +kernel
theorem dX0_find_73 : decode cX0_find 73 = .ok (.iload 7, 2) := by decide +kernel
theorem dX0_find_75 : decode cX0_find 75 = .ok (.lload_n 3, 1) := by decide +kernel
theorem dX0_find_76 : decode cX0_find 76 = .ok (.aload_n 1, 1) := by decide +kernel
theorem dX0_find_77 : decode cX0_find 77 = .ok (.getfield 55, 3) := by decide +kernel
theorem dX0_find_80 : decode cX0_find 80 = .ok (.i2l, 1) := by decide +kernel
theorem dX0_find_81 : decode cX0_find 81 = .ok (.invokestatic 48, 3) := by decide +kernel
theorem dX0_find_84 : decode cX0_find 84 = .ok (.lastore, 1) := by decide +kernel
theorem dX0_find_85 : decode cX0_find 85 = .ok (.aload_n 0, 1) := by decide +kernel
theorem dX0_find_86 : decode cX0_find 86 = .ok (.getfield 18, 3) := by decide +kernel
theorem dX0_find_89 : decode cX0_find 89 = .ok (.iload 7, 2) := by decide +kernel
theorem dX0_find_91 : decode cX0_find 91 = .ok (.aload_n 0, 1) := by decide +kernel
theorem dX0_find_92 : decode cX0_find 92 = .ok (.getfield 15, 3) := by decide +kernel
theorem dX0_find_95 : decode cX0_find 95 = .ok (.iload 7, 2) := by decide +kernel
theorem dX0_find_97 : decode cX0_find 97 = .ok (.laload, 1) := by decide +kernel
theorem dX0_find_98 : decode cX0_find 98 = .ok (.aload_n 2, 1) := by decide +kernel
theorem dX0_find_99 : decode cX0_find 99 = .ok (.iload 7, 2) := by decide +kernel
theorem dX0_find_101 : decode cX0_find 101 = .ok (.iaload, 1) := by decide +kernel
theorem dX0_find_102 : decode cX0_find 102 = .ok (.i2l, 1) := by decide +kernel
theorem dX0_find_103 : decode cX0_find 103 = .ok (.lload 5, 2) := by decide +kernel
theorem dX0_find_105 : decode cX0_find 105 = .ok (.lmul, 1) := by decide +kernel
theorem dX0_find_106 : decode cX0_find 106 = .ok (.ladd, 1) := by decide +kernel
theorem dX0_find_107 : decode cX0_find 107 = .ok (.lastore, 1) := by decide +kernel
theorem dX0_find_108 : decode cX0_find 108 = .ok (.aload_n 2, 1) := by decide +kernel
theorem dX0_find_109 : decode cX0_find 109 = .ok (.iload 7, 2) := by decide +kernel
theorem dX0_find_111 : decode cX0_find 111 = .ok (.iaload, 1) := by decide +kernel
theorem dX0_find_112 : decode cX0_find 112 = .ok (.ifCond .le 20, 3) := by decide +kernel
theorem dX0_find_115 : decode cX0_find 115 = .ok (.aload_n 0, 1) := by decide +kernel
theorem dX0_find_116 : decode cX0_find 116 = .ok (.getfield 18, 3) := by decide +kernel
theorem dX0_find_119 : decode cX0_find 119 = .ok (.iload 7, 2) := by decide +kernel
theorem dX0_find_121 : decode cX0_find 121 = .ok (.laload, 1) := by decide +kernel
theorem dX0_find_122 : decode cX0_find 122 = .ok (.lload 5, 2) := by decide +kernel
theorem dX0_find_124 : decode cX0_find 124 = .ok (.lsub, 1) := by decide +kernel
theorem dX0_find_125 : decode cX0_find 125 = .ok (.aload_n 1, 1) := by decide +kernel
theorem dX0_find_126 : decode cX0_find 126 = .ok (.getfield 58, 3) := by decide +kernel
theorem dX0_find_129 : decode cX0_find 129 = .ok (.i2l, 1) := by decide +kernel
theorem dX0_find_130 : decode cX0_find 130 = .ok (.ladd, 1) := by decide +kernel
theorem dX0_find_131 : decode cX0_find 131 = .ok (.lstore_n 3, 1) := by decide +kernel
theorem dX0_find_132 : decode cX0_find 132 = .ok (.iinc 7 1, 3) := by decide +kernel
theorem dX0_find_135 : decode cX0_find 135 = .ok (.goto (-120), 3) := by decide +kernel
theorem dX0_find_138 : decode cX0_find 138 = .ok (.aload_n 0, 1) := by decide +kernel
theorem dX0_find_139 : decode cX0_find 139 = .ok (.lload_n 3, 1) := by decide +kernel
theorem dX0_find_140 : decode cX0_find 140 = .ok (.putfield 21, 3) := by decide +kernel
theorem dX0_find_143 : decode cX0_find 143 = .ok (.return_, 1) := by decide +kernel
theorem dX1_init_0 : decode cX1_init 0 = .ok (.aload_n 0, 1) := by decide +kernel
theorem dX1_init_1 : decode cX1_init 1 = .ok (.invokespecial 3, 3) := by decide +kernel
theorem dX1_init_4 : decode cX1_init 4 = .ok (.aload_n 0, 1) := by decide +kernel
theorem dX1_init_5 : decode cX1_init 5 = .ok (.iconst 0, 1) := by decide +kernel
theorem dX1_init_6 : decode cX1_init 6 = .ok (.putfield 9, 3) := by decide +kernel
theorem dX1_init_9 : decode cX1_init 9 = .ok (.aload_n 0, 1) := by decide +kernel
theorem dX1_init_10 : decode cX1_init 10 = .ok (.sipush 200, 3) := by decide +kernel
theorem dX1_init_13 : decode cX1_init 13 = .ok (.newarray .int, 2) := by decide +kernel
theorem dX1_init_15 : decode cX1_init 15 = .ok (.putfield 15, 3) := by decide +kernel
theorem dX1_init_18 : decode cX1_init 18 = .ok (.aload_n 0, 1) := by decide +kernel
theorem dX1_init_19 : decode cX1_init 19 = .ok (.sipush 200, 3) := by decide +kernel
theorem dX1_init_22 : decode cX1_init 22 = .ok (.newarray .int, 2) := by decide +kernel
theorem dX1_init_24 : decode cX1_init 24 = .ok (.putfield 19, 3) := by decide +kernel
theorem dX1_init_27 : decode cX1_init 27 = .ok (.aload_n 0, 1) := by decide +kernel
theorem dX1_init_28 : decode cX1_init 28 = .ok (.sipush 200, 3) := by decide +kernel
theorem dX1_init_31 : decode cX1_init 31 = .ok (.newarray .int, 2) := by decide +kernel
theorem dX1_init_33 : decode cX1_init 33 = .ok (.putfield 22, 3) := by decide +kernel
theorem dX1_init_36 : decode cX1_init 36 = .ok (.aload_n 0, 1) := by decide +kernel
theorem dX1_init_37 : decode cX1_init 37 = .ok (.sipush 200, 3) := by decide +kernel
theorem dX1_init_40 : decode cX1_init 40 = .ok (.newarray .int, 2) := by decide +kernel
theorem dX1_init_42 : decode cX1_init 42 = .ok (.putfield 25, 3) := by decide +kernel
theorem dX1_init_45 : decode cX1_init 45 = .ok (.return_, 1) := by decide +kernel
theorem dX1_has_0 : decode cX1_has 0 = .ok (.iload_n 1, 1) := by decide +kernel
theorem dX1_has_1 : decode cX1_has 1 = .ok (.ifCond .lt 15, 3) := by decide +kernel
theorem dX1_has_4 : decode cX1_has 4 = .ok (.iload_n 1, 1) := by decide +kernel
theorem dX1_has_5 : decode cX1_has 5 = .ok (.aload_n 0, 1) := by decide +kernel
theorem dX1_has_6 : decode cX1_has 6 = .ok (.getfield 9, 3) := by decide +kernel
theorem dX1_has_9 : decode cX1_has 9 = .ok (.if_icmp .ge 7, 3) := by decide +kernel
theorem dX1_has_12 : decode cX1_has 12 = .ok (.iconst 1, 1) := by decide +kernel
theorem dX1_has_13 : decode cX1_has 13 = .ok (.goto 4, 3) := by decide +kernel
theorem dX1_has_16 : decode cX1_has 16 = .ok (.iconst 0, 1) := by decide +kernel
theorem dX1_has_17 : decode cX1_has 17 = .ok (.ireturn, 1) := by decide +kernel
theorem dX1_append_0 : decode cX1_append 0 = .ok (.aload_n 0, 1) := by decide +kernel
theorem dX1_append_1 : decode cX1_append 1 = .ok (.getfield 9, 3) := by decide +kernel
theorem dX1_append_4 : decode cX1_append 4 = .ok (.sipush 200, 3) := by decide +kernel
theorem dX1_append_7 : decode cX1_append 7 = .ok (.if_icmp .lt 5, 3) := by decide +kernel
theorem dX1_append_10 : decode cX1_append 10 = .ok (.iconst (-1), 1) := by decide +kernel
theorem dX1_append_11 : decode cX1_append 11 = .ok (.ireturn, 1) := by decide +kernel
theorem dX1_append_12 : decode cX1_append 12 = .ok (.aload_n 0, 1) := by decide +kernel
theorem dX1_append_13 : decode cX1_append 13 = .ok (.getfield 9, 3) := by decide +kernel
theorem dX1_append_16 : decode cX1_append 16 = .ok (.istore 5, 2) := by decide +kernel
theorem dX1_append_18 : decode cX1_append 18 = .ok (.aload_n 0, 1) := by decide +kernel
theorem dX1_append_19 : decode cX1_append 19 = .ok (.getfield 15, 3) := by decide +kernel
theorem dX1_append_22 : decode cX1_append 22 = .ok (.iload 5, 2) := by decide +kernel
theorem dX1_append_24 : decode cX1_append 24 = .ok (.iload_n 1, 1) := by decide +kernel
theorem dX1_append_25 : decode cX1_append 25 = .ok (.iastore, 1) := by decide +kernel
theorem dX1_append_26 : decode cX1_append 26 = .ok (.aload_n 0, 1) := by decide +kernel
theorem dX1_append_27 : decode cX1_append 27 = .ok (.getfield 19, 3) := by decide +kernel
theorem dX1_append_30 : decode cX1_append 30 = .ok (.iload 5, 2) := by decide +kernel
theorem dX1_append_32 : decode cX1_append 32 = .ok (.iload_n 2, 1) := by decide +kernel
theorem dX1_append_33 : decode cX1_append 33 = .ok (.iastore, 1) := by decide +kernel
theorem dX1_append_34 : decode cX1_append 34 = .ok (.aload_n 0, 1) := by decide +kernel
theorem dX1_append_35 : decode cX1_append 35 = .ok (.getfield 22, 3) := by decide +kernel
theorem dX1_append_38 : decode cX1_append 38 = .ok (.iload 5, 2) := by decide +kernel
theorem dX1_append_40 : decode cX1_append 40 = .ok (.iload_n 3, 1) := by decide +kernel
theorem dX1_append_41 : decode cX1_append 41 = .ok (.iastore, 1) := by decide +kernel
theorem dX1_append_42 : decode cX1_append 42 = .ok (.aload_n 0, 1) := by decide +kernel
theorem dX1_append_43 : decode cX1_append 43 = .ok (.getfield 25, 3) := by decide +kernel
theorem dX1_append_46 : decode cX1_append 46 = .ok (.iload 5, 2) := by decide +kernel
theorem dX1_append_48 : decode cX1_append 48 = .ok (.iload 4, 2) := by decide +kernel
theorem dX1_append_50 : decode cX1_append 50 = .ok (.iastore, 1) := by decide +kernel
theorem dX1_append_51 : decode cX1_append 51 = .ok (.aload_n 0, 1) := by decide +kernel
theorem dX1_append_52 : decode cX1_append 52 = .ok (.dup, 1) := by decide +kernel
theorem dX1_append_53 : decode cX1_append 53 = .ok (.getfield 9, 3) := by decide +kernel
theorem dX1_append_56 : decode cX1_append 56 = .ok (.iconst 1, 1) := by decide +kernel
theorem dX1_append_57 : decode cX1_append 57 = .ok (.iadd, 1) := by decide +kernel
theorem dX1_append_58 : decode cX1_append 58 = .ok (.putfield 9, 3) := by decide +kernel
theorem dX1_append_61 : decode cX1_append 61 = .ok (.iload 5, 2) := by decide +kernel
theorem dX1_append_63 : decode cX1_append 63 = .ok (.ireturn, 1) := by decide +kernel
theorem dX1_highestIn_0 : decode cX1_highestIn 0 = .ok (.iconst (-1), 1) := by decide +kernel
theorem dX1_highestIn_1 : decode cX1_highestIn 1 = .ok (.istore_n 2, 1) := by decide +kernel
theorem dX1_highestIn_2 : decode cX1_highestIn 2 = .ok (.iconst 0, 1) := by decide +kernel
theorem dX1_highestIn_3 : decode cX1_highestIn 3 = .ok (.istore_n 3, 1) := by decide +kernel
theorem dX1_highestIn_4 : decode cX1_highestIn 4 = .ok (.iload_n 3, 1) := by decide +kernel
theorem dX1_highestIn_5 : decode cX1_highestIn 5 = .ok (.aload_n 0, 1) := by decide +kernel
theorem dX1_highestIn_6 : decode cX1_highestIn 6 = .ok (.getfield 9, 3) := by decide +kernel
theorem dX1_highestIn_9 : decode cX1_highestIn 9 = .ok (.if_icmp .ge 30, 3) := by decide +kernel
theorem dX1_highestIn_12 : decode cX1_highestIn 12 = .ok (.aload_n 0, 1) := by decide +kernel
theorem dX1_highestIn_13 : decode cX1_highestIn 13 = .ok (.getfield 15, 3) := by decide +kernel
theorem dX1_highestIn_16 : decode cX1_highestIn 16 = .ok (.iload_n 3, 1) := by decide +kernel
theorem dX1_highestIn_17 : decode cX1_highestIn 17 = .ok (.iaload, 1) := by decide +kernel
theorem dX1_highestIn_18 : decode cX1_highestIn 18 = .ok (.iload_n 1, 1) := by decide +kernel
theorem dX1_highestIn_19 : decode cX1_highestIn 19 = .ok (.if_icmp .ne 14, 3) := by decide +kernel
theorem dX1_highestIn_22 : decode cX1_highestIn 22 = .ok (.iload_n 2, 1) := by decide +kernel
theorem dX1_highestIn_23 : decode cX1_highestIn 23 = .ok (.aload_n 0, 1) := by decide +kernel
theorem dX1_highestIn_24 : decode cX1_highestIn 24 = .ok (.getfield 19, 3) := by decide +kernel
theorem dX1_highestIn_27 : decode cX1_highestIn 27 = .ok (.iload_n 3, 1) := by decide +kernel
theorem dX1_highestIn_28 : decode cX1_highestIn 28 = .ok (.iaload, 1) := by decide +kernel
theorem dX1_highestIn_29 : decode cX1_highestIn 29 = .ok (.invokestatic 28, 3) := by decide +kernel
theorem dX1_highestIn_32 : decode cX1_highestIn 32 = .ok (.istore_n 2, 1) := by decide +kernel
theorem dX1_highestIn_33 : decode cX1_highestIn 33 = .ok (.iinc 3 1, 3) := by decide +kernel
theorem dX1_highestIn_36 : decode cX1_highestIn 36 = .ok (.goto (-32), 3) := by decide +kernel
theorem dX1_highestIn_39 : decode cX1_highestIn 39 = .ok (.iload_n 2, 1) := by decide +kernel
theorem dX1_highestIn_40 : decode cX1_highestIn 40 = .ok (.ireturn, 1) := by decide +kernel
theorem dX1_copyFrom_0 : decode cX1_copyFrom 0 = .ok (.aload_n 0, 1) := by decide +kernel
theorem dX1_copyFrom_1 : decode cX1_copyFrom 1 = .ok (.aload_n 1, 1) := by decide +kernel
theorem dX1_copyFrom_2 : decode cX1_copyFrom 2 = .ok (.getfield 9, 3) := by decide +kernel
theorem dX1_copyFrom_5 : decode cX1_copyFrom 5 = .ok (.putfield 9, 3) := by decide +kernel
theorem dX1_copyFrom_8 : decode cX1_copyFrom 8 = .ok (.aload_n 1, 1) := by decide +kernel
theorem dX1_copyFrom_9 : decode cX1_copyFrom 9 = .ok (.getfield 15, 3) := by decide +kernel
theorem dX1_copyFrom_12 : decode cX1_copyFrom 12 = .ok (.iconst 0, 1) := by decide +kernel
theorem dX1_copyFrom_13 : decode cX1_copyFrom 13 = .ok (.aload_n 0, 1) := by decide +kernel
theorem dX1_copyFrom_14 : decode cX1_copyFrom 14 = .ok (.getfield 15, 3) := by decide +kernel
theorem dX1_copyFrom_17 : decode cX1_copyFrom 17 = .ok (.iconst 0, 1) := by decide +kernel
theorem dX1_copyFrom_18 : decode cX1_copyFrom 18 = .ok (.sipush 200, 3) := by decide +kernel
theorem dX1_copyFrom_21 : decode cX1_copyFrom 21 = .ok (.invokestatic 34, 3) := by decide +kernel
theorem dX1_copyFrom_24 : decode cX1_copyFrom 24 = .ok (.aload_n 1, 1) := by decide +kernel
theorem dX1_copyFrom_25 : decode cX1_copyFrom 25 = .ok (.getfield 19, 3) := by decide +kernel
theorem dX1_copyFrom_28 : decode cX1_copyFrom 28 = .ok (.iconst 0, 1) := by decide +kernel
theorem dX1_copyFrom_29 : decode cX1_copyFrom 29 = .ok (.aload_n 0, 1) := by decide +kernel
theorem dX1_copyFrom_30 : decode cX1_copyFrom 30 = .ok (.getfield 19, 3) := by decide +kernel
theorem dX1_copyFrom_33 : decode cX1_copyFrom 33 = .ok (.iconst 0, 1) := by decide +kernel
theorem dX1_copyFrom_34 : decode cX1_copyFrom 34 = .ok (.sipush 200, 3) := by decide +kernel
theorem dX1_copyFrom_37 : decode cX1_copyFrom 37 = .ok (.invokestatic 34, 3) := by decide +kernel
theorem dX1_copyFrom_40 : decode cX1_copyFrom 40 = .ok (.aload_n 1, 1) := by decide +kernel
theorem dX1_copyFrom_41 : decode cX1_copyFrom 41 = .ok (.getfield 22, 3) := by decide +kernel
theorem dX1_copyFrom_44 : decode cX1_copyFrom 44 = .ok (.iconst 0, 1) := by decide +kernel
theorem dX1_copyFrom_45 : decode cX1_copyFrom 45 = .ok (.aload_n 0, 1) := by decide +kernel
theorem dX1_copyFrom_46 : decode cX1_copyFrom 46 = .ok (.getfield 22, 3) := by decide +kernel
theorem dX1_copyFrom_49 : decode cX1_copyFrom 49 = .ok (.iconst 0, 1) := by decide +kernel
theorem dX1_copyFrom_50 : decode cX1_copyFrom 50 = .ok (.sipush 200, 3) := by decide +kernel
theorem dX1_copyFrom_53 : decode cX1_copyFrom 53 = .ok (.invokestatic 34, 3) := by decide +kernel
theorem dX1_copyFrom_56 : decode cX1_copyFrom 56 = .ok (.aload_n 1, 1) := by decide +kernel
theorem dX1_copyFrom_57 : decode cX1_copyFrom 57 = .ok (.getfield 25, 3) := by decide +kernel
theorem dX1_copyFrom_60 : decode cX1_copyFrom 60 = .ok (.iconst 0, 1) := by decide +kernel
theorem dX1_copyFrom_61 : decode cX1_copyFrom 61 = .ok (.aload_n 0, 1) := by decide +kernel
theorem dX1_copyFrom_62 : decode cX1_copyFrom 62 = .ok (.getfield 25, 3) := by decide +kernel
theorem dX1_copyFrom_65 : decode cX1_copyFrom 65 = .ok (.iconst 0, 1) := by decide +kernel
theorem dX1_copyFrom_66 : decode cX1_copyFrom 66 = .ok (.sipush 200, 3) := by decide +kernel
theorem dX1_copyFrom_69 : decode cX1_copyFrom 69 = .ok (.invokestatic 34, 3) := by decide +kernel
theorem dX1_copyFrom_72 : decode cX1_copyFrom 72 = .ok (.return_, 1) := by decide +kernel
theorem dX2_init_0 : decode cX2_init 0 = .ok (.aload_n 0, 1) := by decide +kernel
theorem dX2_init_1 : decode cX2_init 1 = .ok (.invokespecial 3, 3) := by decide +kernel
theorem dX2_init_4 : decode cX2_init 4 = .ok (.aload_n 0, 1) := by decide +kernel
theorem dX2_init_5 : decode cX2_init 5 = .ok (.bipush 8, 2) := by decide +kernel
theorem dX2_init_7 : decode cX2_init 7 = .ok (.newarray .int, 2) := by decide +kernel
theorem dX2_init_9 : decode cX2_init 9 = .ok (.putfield 9, 3) := by decide +kernel
theorem dX2_init_12 : decode cX2_init 12 = .ok (.aload_n 0, 1) := by decide +kernel
theorem dX2_init_13 : decode cX2_init 13 = .ok (.bipush 8, 2) := by decide +kernel
theorem dX2_init_15 : decode cX2_init 15 = .ok (.newarray .int, 2) := by decide +kernel
theorem dX2_init_17 : decode cX2_init 17 = .ok (.putfield 15, 3) := by decide +kernel
theorem dX2_init_20 : decode cX2_init 20 = .ok (.return_, 1) := by decide +kernel
theorem dX2_has_0 : decode cX2_has 0 = .ok (.iload_n 1, 1) := by decide +kernel
theorem dX2_has_1 : decode cX2_has 1 = .ok (.ifCond .lt 22, 3) := by decide +kernel
theorem dX2_has_4 : decode cX2_has 4 = .ok (.iload_n 1, 1) := by decide +kernel
theorem dX2_has_5 : decode cX2_has 5 = .ok (.bipush 8, 2) := by decide +kernel
theorem dX2_has_7 : decode cX2_has 7 = .ok (.if_icmp .ge 16, 3) := by decide +kernel
theorem dX2_has_10 : decode cX2_has 10 = .ok (.aload_n 0, 1) := by decide +kernel
theorem dX2_has_11 : decode cX2_has 11 = .ok (.getfield 15, 3) := by decide +kernel
theorem dX2_has_14 : decode cX2_has 14 = .ok (.iload_n 1, 1) := by decide +kernel
theorem dX2_has_15 : decode cX2_has 15 = .ok (.iaload, 1) := by decide +kernel
theorem dX2_has_16 : decode cX2_has 16 = .ok (.ifCond .eq 7, 3) := by decide +kernel
theorem dX2_has_19 : decode cX2_has 19 = .ok (.iconst 1, 1) := by decide +kernel
theorem dX2_has_20 : decode cX2_has 20 = .ok (.goto 4, 3) := by decide +kernel
theorem dX2_has_23 : decode cX2_has 23 = .ok (.iconst 0, 1) := by decide +kernel
theorem dX2_has_24 : decode cX2_has 24 = .ok (.ireturn, 1) := by decide +kernel
theorem dX2_tell_0 : decode cX2_tell 0 = .ok (.iload_n 2, 1) := by decide +kernel
theorem dX2_tell_1 : decode cX2_tell 1 = .ok (.invokestatic 18, 3) := by decide +kernel
theorem dX2_tell_4 : decode cX2_tell 4 = .ok (.istore 4, 2) := by decide +kernel
theorem dX2_tell_6 : decode cX2_tell 6 = .ok (.iload_n 1, 1) := by decide +kernel
theorem dX2_tell_7 : decode cX2_tell 7 = .ok (.ifCond .lt 26, 3) := by decide +kernel
theorem dX2_tell_10 : decode cX2_tell 10 = .ok (.iload_n 1, 1) := by decide +kernel
theorem dX2_tell_11 : decode cX2_tell 11 = .ok (.bipush 8, 2) := by decide +kernel
theorem dX2_tell_13 : decode cX2_tell 13 = .ok (.if_icmp .ge 20, 3) := by decide +kernel
theorem dX2_tell_16 : decode cX2_tell 16 = .ok (.iload 4, 2) := by decide +kernel
theorem dX2_tell_18 : decode cX2_tell 18 = .ok (.iconst (-1), 1) := by decide +kernel
theorem dX2_tell_19 : decode cX2_tell 19 = .ok (.if_icmp .eq 14, 3) := by decide +kernel
theorem dX2_tell_22 : decode cX2_tell 22 = .ok (.iload_n 3, 1) := by decide +kernel
theorem dX2_tell_23 : decode cX2_tell 23 = .ok (.iconst 4, 1) := by decide +kernel
theorem dX2_tell_24 : decode cX2_tell 24 = .ok (.if_icmp .lt 9, 3) := by decide +kernel
theorem dX2_tell_27 : decode cX2_tell 27 = .ok (.iload_n 3, 1) := by decide +kernel
theorem dX2_tell_28 : decode cX2_tell 28 = .ok (.bipush 30, 2) := by decide +kernel
theorem dX2_tell_30 : decode cX2_tell 30 = .ok (.if_icmp .le 5, 3) := by decide +kernel
theorem dX2_tell_33 : decode cX2_tell 33 = .ok (.iconst 0, 1) := by decide +kernel
theorem dX2_tell_34 : decode cX2_tell 34 = .ok (.ireturn, 1) := by decide +kernel
theorem dX2_tell_35 : decode cX2_tell 35 = .ok (.aload_n 0, 1) := by decide +kernel
theorem dX2_tell_36 : decode cX2_tell 36 = .ok (.getfield 9, 3) := by decide +kernel
theorem dX2_tell_39 : decode cX2_tell 39 = .ok (.iload_n 1, 1) := by decide +kernel
theorem dX2_tell_40 : decode cX2_tell 40 = .ok (.iload 4, 2) := by decide +kernel
theorem dX2_tell_42 : decode cX2_tell 42 = .ok (.iastore, 1) := by decide +kernel
theorem dX2_tell_43 : decode cX2_tell 43 = .ok (.aload_n 0, 1) := by decide +kernel
theorem dX2_tell_44 : decode cX2_tell 44 = .ok (.getfield 15, 3) := by decide +kernel
theorem dX2_tell_47 : decode cX2_tell 47 = .ok (.iload_n 1, 1) := by decide +kernel
theorem dX2_tell_48 : decode cX2_tell 48 = .ok (.iload_n 3, 1) := by decide +kernel
theorem dX2_tell_49 : decode cX2_tell 49 = .ok (.iastore, 1) := by decide +kernel
theorem dX2_tell_50 : decode cX2_tell 50 = .ok (.iconst 1, 1) := by decide +kernel
theorem dX2_tell_51 : decode cX2_tell 51 = .ok (.ireturn, 1) := by decide +kernel
theorem dX2_powerOf_0 : decode cX2_powerOf 0 = .ok (.iload_n 0, 1) := by decide +kernel
theorem dX2_powerOf_1 : decode cX2_powerOf 1 = .ok (.tableswitch 55 1 8 #[47, 49, 55, 51, 55, 55, 55, 53], 47) := by decide +kernel
theorem dX2_powerOf_48 : decode cX2_powerOf 48 = .ok (.iconst 0, 1) := by decide +kernel
theorem dX2_powerOf_49 : decode cX2_powerOf 49 = .ok (.ireturn, 1) := by decide +kernel
theorem dX2_powerOf_50 : decode cX2_powerOf 50 = .ok (.iconst 1, 1) := by decide +kernel
theorem dX2_powerOf_51 : decode cX2_powerOf 51 = .ok (.ireturn, 1) := by decide +kernel
theorem dX2_powerOf_52 : decode cX2_powerOf 52 = .ok (.iconst 2, 1) := by decide +kernel
theorem dX2_powerOf_53 : decode cX2_powerOf 53 = .ok (.ireturn, 1) := by decide +kernel
theorem dX2_powerOf_54 : decode cX2_powerOf 54 = .ok (.iconst 3, 1) := by decide +kernel
theorem dX2_powerOf_55 : decode cX2_powerOf 55 = .ok (.ireturn, 1) := by decide +kernel
theorem dX2_powerOf_56 : decode cX2_powerOf 56 = .ok (.iconst (-1), 1) := by decide +kernel
theorem dX2_powerOf_57 : decode cX2_powerOf 57 = .ok (.ireturn, 1) := by decide +kernel
theorem dX2_reaches_0 : decode cX2_reaches 0 = .ok (.aload_n 0, 1) := by decide +kernel
theorem dX2_reaches_1 : decode cX2_reaches 1 = .ok (.iload_n 1, 1) := by decide +kernel
theorem dX2_reaches_2 : decode cX2_reaches 2 = .ok (.invokevirtual 22, 3) := by decide +kernel
theorem dX2_reaches_5 : decode cX2_reaches 5 = .ok (.ifCond .ne 5, 3) := by decide +kernel
theorem dX2_reaches_8 : decode cX2_reaches 8 = .ok (.iconst 0, 1) := by decide +kernel
theorem dX2_reaches_9 : decode cX2_reaches 9 = .ok (.ireturn, 1) := by decide +kernel
theorem dX2_reaches_10 : decode cX2_reaches 10 = .ok (.lload 4, 2) := by decide +kernel
theorem dX2_reaches_12 : decode cX2_reaches 12 = .ok (.lload_n 2, 1) := by decide +kernel
theorem dX2_reaches_13 : decode cX2_reaches 13 = .ok (.lsub, 1) := by decide +kernel
theorem dX2_reaches_14 : decode cX2_reaches 14 = .ok (.lstore 6, 2) := by decide +kernel
theorem dX2_reaches_16 : decode cX2_reaches 16 = .ok (.lload 6, 2) := by decide +kernel
theorem dX2_reaches_18 : decode cX2_reaches 18 = .ok (.aload_n 0, 1) := by decide +kernel
theorem dX2_reaches_19 : decode cX2_reaches 19 = .ok (.getfield 9, 3) := by decide +kernel
theorem dX2_reaches_22 : decode cX2_reaches 22 = .ok (.iload_n 1, 1) := by decide +kernel
theorem dX2_reaches_23 : decode cX2_reaches 23 = .ok (.iaload, 1) := by decide +kernel
theorem dX2_reaches_24 : decode cX2_reaches 24 = .ok (.lshr, 1) := by decide +kernel
theorem dX2_reaches_25 : decode cX2_reaches 25 = .ok (.lstore 8, 2) := by decide +kernel
theorem dX2_reaches_27 : decode cX2_reaches 27 = .ok (.lconst 1, 1) := by decide +kernel
theorem dX2_reaches_28 : decode cX2_reaches 28 = .ok (.aload_n 0, 1) := by decide +kernel
theorem dX2_reaches_29 : decode cX2_reaches 29 = .ok (.getfield 15, 3) := by decide +kernel
theorem dX2_reaches_32 : decode cX2_reaches 32 = .ok (.iload_n 1, 1) := by decide +kernel
theorem dX2_reaches_33 : decode cX2_reaches 33 = .ok (.iaload, 1) := by decide +kernel
theorem dX2_reaches_34 : decode cX2_reaches 34 = .ok (.iconst 1, 1) := by decide +kernel
theorem dX2_reaches_35 : decode cX2_reaches 35 = .ok (.isub, 1) := by decide +kernel
theorem dX2_reaches_36 : decode cX2_reaches 36 = .ok (.lshl, 1) := by decide +kernel
theorem dX2_reaches_37 : decode cX2_reaches 37 = .ok (.lstore 10, 2) := by decide +kernel
theorem dX2_reaches_39 : decode cX2_reaches 39 = .ok (.lload 8, 2) := by decide +kernel
theorem dX2_reaches_41 : decode cX2_reaches 41 = .ok (.aload_n 0, 1) := by decide +kernel
theorem dX2_reaches_42 : decode cX2_reaches 42 = .ok (.getfield 9, 3) := by decide +kernel
theorem dX2_reaches_45 : decode cX2_reaches 45 = .ok (.iload_n 1, 1) := by decide +kernel
theorem dX2_reaches_46 : decode cX2_reaches 46 = .ok (.iaload, 1) := by decide +kernel
theorem dX2_reaches_47 : decode cX2_reaches 47 = .ok (.lshl, 1) := by decide +kernel
theorem dX2_reaches_48 : decode cX2_reaches 48 = .ok (.lload 6, 2) := by decide +kernel
theorem dX2_reaches_50 : decode cX2_reaches 50 = .ok (.lcmp, 1) := by decide +kernel
theorem dX2_reaches_51 : decode cX2_reaches 51 = .ok (.ifCond .ne 24, 3) := by decide +kernel
theorem dX2_reaches_54 : decode cX2_reaches 54 = .ok (.lload 8, 2) := by decide +kernel
theorem dX2_reaches_56 : decode cX2_reaches 56 = .ok (.lload 10, 2) := by decide +kernel
theorem dX2_reaches_58 : decode cX2_reaches 58 = .ok (.lneg, 1) := by decide +kernel
theorem dX2_reaches_59 : decode cX2_reaches 59 = .ok (.lcmp, 1) := by decide +kernel
theorem dX2_reaches_60 : decode cX2_reaches 60 = .ok (.ifCond .lt 15, 3) := by decide +kernel
theorem dX2_reaches_63 : decode cX2_reaches 63 = .ok (.lload 8, 2) := by decide +kernel
theorem dX2_reaches_65 : decode cX2_reaches 65 = .ok (.lload 10, 2) := by decide +kernel
theorem dX2_reaches_67 : decode cX2_reaches 67 = .ok (.lcmp, 1) := by decide +kernel
theorem dX2_reaches_68 : decode cX2_reaches 68 = .ok (.ifCond .ge 7, 3) := by decide +kernel
theorem dX2_reaches_71 : decode cX2_reaches 71 = .ok (.iconst 1, 1) := by decide +kernel
theorem dX2_reaches_72 : decode cX2_reaches 72 = .ok (.goto 4, 3) := by decide +kernel
theorem dX2_reaches_75 : decode cX2_reaches 75 = .ok (.iconst 0, 1) := by decide +kernel
theorem dX2_reaches_76 : decode cX2_reaches 76 = .ok (.ireturn, 1) := by decide +kernel
theorem dX2_encode_0 : decode cX2_encode 0 = .ok (.aload_n 0, 1) := by decide +kernel
theorem dX2_encode_1 : decode cX2_encode 1 = .ok (.iload_n 1, 1) := by decide +kernel
theorem dX2_encode_2 : decode cX2_encode 2 = .ok (.lload_n 2, 1) := by decide +kernel
theorem dX2_encode_3 : decode cX2_encode 3 = .ok (.lload 4, 2) := by decide +kernel
theorem dX2_encode_5 : decode cX2_encode 5 = .ok (.invokevirtual 26, 3) := by decide +kernel
theorem dX2_encode_8 : decode cX2_encode 8 = .ok (.ifCond .ne 5, 3) := by decide +kernel
theorem dX2_encode_11 : decode cX2_encode 11 = .ok (.iconst (-1), 1) := by decide +kernel
theorem dX2_encode_12 : decode cX2_encode 12 = .ok (.ireturn, 1) := by decide +kernel
theorem dX2_encode_13 : decode cX2_encode 13 = .ok (.lload 4, 2) := by decide +kernel
theorem dX2_encode_15 : decode cX2_encode 15 = .ok (.lload_n 2, 1) := by decide +kernel
theorem dX2_encode_16 : decode cX2_encode 16 = .ok (.lsub, 1) := by decide +kernel
theorem dX2_encode_17 : decode cX2_encode 17 = .ok (.aload_n 0, 1) := by decide +kernel
theorem dX2_encode_18 : decode cX2_encode 18 = .ok (.getfield 9, 3) := by decide +kernel
theorem dX2_encode_21 : decode cX2_encode 21 = .ok (.iload_n 1, 1) := by decide +kernel
theorem dX2_encode_22 : decode cX2_encode 22 = .ok (.iaload, 1) := by decide +kernel
theorem dX2_encode_23 : decode cX2_encode 23 = .ok (.lshr, 1) := by decide +kernel
theorem dX2_encode_24 : decode cX2_encode 24 = .ok (.lstore 6, 2) := by decide +kernel
theorem dX2_encode_26 : decode cX2_encode 26 = .ok (.lload 6, 2) := by decide +kernel
theorem dX2_encode_28 : decode cX2_encode 28 = .ok (.lconst 1, 1) := by decide +kernel
theorem dX2_encode_29 : decode cX2_encode 29 = .ok (.aload_n 0, 1) := by decide +kernel
theorem dX2_encode_30 : decode cX2_encode 30 = .ok (.getfield 15, 3) := by decide +kernel
theorem dX2_encode_33 : decode cX2_encode 33 = .ok (.iload_n 1, 1) := by decide +kernel
theorem dX2_encode_34 : decode cX2_encode 34 = .ok (.iaload, 1) := by decide +kernel
theorem dX2_encode_35 : decode cX2_encode 35 = .ok (.lshl, 1) := by decide +kernel
theorem dX2_encode_36 : decode cX2_encode 36 = .ok (.lconst 1, 1) := by decide +kernel
theorem dX2_encode_37 : decode cX2_encode 37 = .ok (.lsub, 1) := by decide +kernel
theorem dX2_encode_38 : decode cX2_encode 38 = .ok (.land, 1) := by decide +kernel
theorem dX2_encode_39 : decode cX2_encode 39 = .ok (.l2i, 1) := by decide +kernel
theorem dX2_encode_40 : decode cX2_encode 40 = .ok (.ireturn, 1) := by decide +kernel
theorem dX2_follow_0 : decode cX2_follow 0 = .ok (.aload_n 0, 1) := by decide +kernel
theorem dX2_follow_1 : decode cX2_follow 1 = .ok (.iload_n 1, 1) := by decide +kernel
theorem dX2_follow_2 : decode cX2_follow 2 = .ok (.invokevirtual 22, 3) := by decide +kernel
theorem dX2_follow_5 : decode cX2_follow 5 = .ok (.ifCond .ne 7, 3) := by decide +kernel
theorem dX2_follow_8 : decode cX2_follow 8 = .ok (.ldc2_w 30, 3) := by decide +kernel
theorem dX2_follow_11 : decode cX2_follow 11 = .ok (.lreturn, 1) := by decide +kernel
theorem dX2_follow_12 : decode cX2_follow 12 = .ok (.lconst 1, 1) := by decide +kernel
theorem dX2_follow_13 : decode cX2_follow 13 = .ok (.aload_n 0, 1) := by decide +kernel
theorem dX2_follow_14 : decode cX2_follow 14 = .ok (.getfield 15, 3) := by decide +kernel
theorem dX2_follow_17 : decode cX2_follow 17 = .ok (.iload_n 1, 1) := by decide +kernel
theorem dX2_follow_18 : decode cX2_follow 18 = .ok (.iaload, 1) := by decide +kernel
theorem dX2_follow_19 : decode cX2_follow 19 = .ok (.iconst 1, 1) := by decide +kernel
theorem dX2_follow_20 : decode cX2_follow 20 = .ok (.isub, 1) := by decide +kernel
theorem dX2_follow_21 : decode cX2_follow 21 = .ok (.lshl, 1) := by decide +kernel
theorem dX2_follow_22 : decode cX2_follow 22 = .ok (.lstore 5, 2) := by decide +kernel
theorem dX2_follow_24 : decode cX2_follow 24 = .ok (.iload 4, 2) := by decide +kernel
theorem dX2_follow_26 : decode cX2_follow 26 = .ok (.i2l, 1) := by decide +kernel
theorem dX2_follow_27 : decode cX2_follow 27 = .ok (.lload 5, 2) := by decide +kernel
theorem dX2_follow_29 : decode cX2_follow 29 = .ok (.lcmp, 1) := by decide +kernel
theorem dX2_follow_30 : decode cX2_follow 30 = .ok (.ifCond .lt 16, 3) := by decide +kernel
theorem dX2_follow_33 : decode cX2_follow 33 = .ok (.iload 4, 2) := by decide +kernel
theorem dX2_follow_35 : decode cX2_follow 35 = .ok (.i2l, 1) := by decide +kernel
theorem dX2_follow_36 : decode cX2_follow 36 = .ok (.ldc2_w 32, 3) := by decide +kernel
theorem dX2_follow_39 : decode cX2_follow 39 = .ok (.lload 5, 2) := by decide +kernel
theorem dX2_follow_41 : decode cX2_follow 41 = .ok (.lmul, 1) := by decide +kernel
theorem dX2_follow_42 : decode cX2_follow 42 = .ok (.lsub, 1) := by decide +kernel
theorem dX2_follow_43 : decode cX2_follow 43 = .ok (.goto 6, 3) := by decide +kernel
theorem dX2_follow_46 : decode cX2_follow 46 = .ok (.iload 4, 2) := by decide +kernel
theorem dX2_follow_48 : decode cX2_follow 48 = .ok (.i2l, 1) := by decide +kernel
theorem dX2_follow_49 : decode cX2_follow 49 = .ok (.lstore 7, 2) := by decide +kernel
theorem dX2_follow_51 : decode cX2_follow 51 = .ok (.lload_n 2, 1) := by decide +kernel
theorem dX2_follow_52 : decode cX2_follow 52 = .ok (.lload 7, 2) := by decide +kernel
theorem dX2_follow_54 : decode cX2_follow 54 = .ok (.aload_n 0, 1) := by decide +kernel
theorem dX2_follow_55 : decode cX2_follow 55 = .ok (.getfield 9, 3) := by decide +kernel
theorem dX2_follow_58 : decode cX2_follow 58 = .ok (.iload_n 1, 1) := by decide +kernel
theorem dX2_follow_59 : decode cX2_follow 59 = .ok (.iaload, 1) := by decide +kernel
theorem dX2_follow_60 : decode cX2_follow 60 = .ok (.lshl, 1) := by decide +kernel
theorem dX2_follow_61 : decode cX2_follow 61 = .ok (.ladd, 1) := by decide +kernel
theorem dX2_follow_62 : decode cX2_follow 62 = .ok (.lreturn, 1) := by decide +kernel
theorem dX2_copyFrom_0 : decode cX2_copyFrom 0 = .ok (.aload_n 1, 1) := by decide +kernel
theorem dX2_copyFrom_1 : decode cX2_copyFrom 1 = .ok (.getfield 9, 3) := by decide +kernel
theorem dX2_copyFrom_4 : decode cX2_copyFrom 4 = .ok (.iconst 0, 1) := by decide +kernel
theorem dX2_copyFrom_5 : decode cX2_copyFrom 5 = .ok (.aload_n 0, 1) := by decide +kernel
theorem dX2_copyFrom_6 : decode cX2_copyFrom 6 = .ok (.getfield 9, 3) := by decide +kernel
theorem dX2_copyFrom_9 : decode cX2_copyFrom 9 = .ok (.iconst 0, 1) := by decide +kernel
theorem dX2_copyFrom_10 : decode cX2_copyFrom 10 = .ok (.bipush 8, 2) := by decide +kernel
theorem dX2_copyFrom_12 : decode cX2_copyFrom 12 = .ok (.invokestatic 34, 3) := by decide +kernel
theorem dX2_copyFrom_15 : decode cX2_copyFrom 15 = .ok (.aload_n 1, 1) := by decide +kernel
theorem dX2_copyFrom_16 : decode cX2_copyFrom 16 = .ok (.getfield 15, 3) := by decide +kernel
theorem dX2_copyFrom_19 : decode cX2_copyFrom 19 = .ok (.iconst 0, 1) := by decide +kernel
theorem dX2_copyFrom_20 : decode cX2_copyFrom 20 = .ok (.aload_n 0, 1) := by decide +kernel
theorem dX2_copyFrom_21 : decode cX2_copyFrom 21 = .ok (.getfield 15, 3) := by decide +kernel
theorem dX2_copyFrom_24 : decode cX2_copyFrom 24 = .ok (.iconst 0, 1) := by decide +kernel
theorem dX2_copyFrom_25 : decode cX2_copyFrom 25 = .ok (.bipush 8, 2) := by decide +kernel
theorem dX2_copyFrom_27 : decode cX2_copyFrom 27 = .ok (.invokestatic 34, 3) := by decide +kernel
theorem dX2_copyFrom_30 : decode cX2_copyFrom 30 = .ok (.return_, 1) := by decide +kernel
theorem dX3_init_0 : decode cX3_init 0 = .ok (.aload_n 0, 1) := by decide +kernel
theorem dX3_init_1 : decode cX3_init 1 = .ok (.invokespecial 3, 3) := by decide +kernel
theorem dX3_init_4 : decode cX3_init 4 = .ok (.aload_n 0, 1) := by decide +kernel
theorem dX3_init_5 : decode cX3_init 5 = .ok (.iconst 0, 1) := by decide +kernel
theorem dX3_init_6 : decode cX3_init 6 = .ok (.putfield 9, 3) := by decide +kernel
theorem dX3_init_9 : decode cX3_init 9 = .ok (.aload_n 0, 1) := by decide +kernel
theorem dX3_init_10 : decode cX3_init 10 = .ok (.bipush 60, 2) := by decide +kernel
theorem dX3_init_12 : decode cX3_init 12 = .ok (.newarray .int, 2) := by decide +kernel
theorem dX3_init_14 : decode cX3_init 14 = .ok (.putfield 15, 3) := by decide +kernel
theorem dX3_init_17 : decode cX3_init 17 = .ok (.aload_n 0, 1) := by decide +kernel
theorem dX3_init_18 : decode cX3_init 18 = .ok (.bipush 60, 2) := by decide +kernel
theorem dX3_init_20 : decode cX3_init 20 = .ok (.newarray .int, 2) := by decide +kernel
theorem dX3_init_22 : decode cX3_init 22 = .ok (.putfield 19, 3) := by decide +kernel
theorem dX3_init_25 : decode cX3_init 25 = .ok (.return_, 1) := by decide +kernel
theorem dX3_has_0 : decode cX3_has 0 = .ok (.iload_n 1, 1) := by decide +kernel
theorem dX3_has_1 : decode cX3_has 1 = .ok (.ifCond .lt 15, 3) := by decide +kernel
theorem dX3_has_4 : decode cX3_has 4 = .ok (.iload_n 1, 1) := by decide +kernel
theorem dX3_has_5 : decode cX3_has 5 = .ok (.aload_n 0, 1) := by decide +kernel
theorem dX3_has_6 : decode cX3_has 6 = .ok (.getfield 9, 3) := by decide +kernel
theorem dX3_has_9 : decode cX3_has 9 = .ok (.if_icmp .ge 7, 3) := by decide +kernel
theorem dX3_has_12 : decode cX3_has 12 = .ok (.iconst 1, 1) := by decide +kernel
theorem dX3_has_13 : decode cX3_has 13 = .ok (.goto 4, 3) := by decide +kernel
theorem dX3_has_16 : decode cX3_has 16 = .ok (.iconst 0, 1) := by decide +kernel
theorem dX3_has_17 : decode cX3_has 17 = .ok (.ireturn, 1) := by decide +kernel
theorem dX3_append_0 : decode cX3_append 0 = .ok (.aload_n 0, 1) := by decide +kernel
theorem dX3_append_1 : decode cX3_append 1 = .ok (.getfield 9, 3) := by decide +kernel
theorem dX3_append_4 : decode cX3_append 4 = .ok (.bipush 60, 2) := by decide +kernel
theorem dX3_append_6 : decode cX3_append 6 = .ok (.if_icmp .lt 5, 3) := by decide +kernel
theorem dX3_append_9 : decode cX3_append 9 = .ok (.iconst (-1), 1) := by decide +kernel
theorem dX3_append_10 : decode cX3_append 10 = .ok (.ireturn, 1) := by decide +kernel
theorem dX3_append_11 : decode cX3_append 11 = .ok (.aload_n 0, 1) := by decide +kernel
theorem dX3_append_12 : decode cX3_append 12 = .ok (.getfield 9, 3) := by decide +kernel
theorem dX3_append_15 : decode cX3_append 15 = .ok (.istore_n 3, 1) := by decide +kernel
theorem dX3_append_16 : decode cX3_append 16 = .ok (.aload_n 0, 1) := by decide +kernel
theorem dX3_append_17 : decode cX3_append 17 = .ok (.getfield 15, 3) := by decide +kernel
theorem dX3_append_20 : decode cX3_append 20 = .ok (.iload_n 3, 1) := by decide +kernel
theorem dX3_append_21 : decode cX3_append 21 = .ok (.iload_n 1, 1) := by decide +kernel
theorem dX3_append_22 : decode cX3_append 22 = .ok (.iastore, 1) := by decide +kernel
theorem dX3_append_23 : decode cX3_append 23 = .ok (.aload_n 0, 1) := by decide +kernel
theorem dX3_append_24 : decode cX3_append 24 = .ok (.getfield 19, 3) := by decide +kernel
theorem dX3_append_27 : decode cX3_append 27 = .ok (.iload_n 3, 1) := by decide +kernel
theorem dX3_append_28 : decode cX3_append 28 = .ok (.iload_n 2, 1) := by decide +kernel
theorem dX3_append_29 : decode cX3_append 29 = .ok (.iastore, 1) := by decide +kernel
theorem dX3_append_30 : decode cX3_append 30 = .ok (.aload_n 0, 1) := by decide +kernel
theorem dX3_append_31 : decode cX3_append 31 = .ok (.dup, 1) := by decide +kernel
theorem dX3_append_32 : decode cX3_append 32 = .ok (.getfield 9, 3) := by decide +kernel
theorem dX3_append_35 : decode cX3_append 35 = .ok (.iconst 1, 1) := by decide +kernel
theorem dX3_append_36 : decode cX3_append 36 = .ok (.iadd, 1) := by decide +kernel
theorem dX3_append_37 : decode cX3_append 37 = .ok (.putfield 9, 3) := by decide +kernel
theorem dX3_append_40 : decode cX3_append 40 = .ok (.iload_n 3, 1) := by decide +kernel
theorem dX3_append_41 : decode cX3_append 41 = .ok (.ireturn, 1) := by decide +kernel
theorem dX3_highestIn_0 : decode cX3_highestIn 0 = .ok (.iconst (-1), 1) := by decide +kernel
theorem dX3_highestIn_1 : decode cX3_highestIn 1 = .ok (.istore_n 2, 1) := by decide +kernel
theorem dX3_highestIn_2 : decode cX3_highestIn 2 = .ok (.iconst 0, 1) := by decide +kernel
theorem dX3_highestIn_3 : decode cX3_highestIn 3 = .ok (.istore_n 3, 1) := by decide +kernel
theorem dX3_highestIn_4 : decode cX3_highestIn 4 = .ok (.iload_n 3, 1) := by decide +kernel
theorem dX3_highestIn_5 : decode cX3_highestIn 5 = .ok (.aload_n 0, 1) := by decide +kernel
theorem dX3_highestIn_6 : decode cX3_highestIn 6 = .ok (.getfield 9, 3) := by decide +kernel
theorem dX3_highestIn_9 : decode cX3_highestIn 9 = .ok (.if_icmp .ge 30, 3) := by decide +kernel
theorem dX3_highestIn_12 : decode cX3_highestIn 12 = .ok (.aload_n 0, 1) := by decide +kernel
theorem dX3_highestIn_13 : decode cX3_highestIn 13 = .ok (.getfield 15, 3) := by decide +kernel
theorem dX3_highestIn_16 : decode cX3_highestIn 16 = .ok (.iload_n 3, 1) := by decide +kernel
theorem dX3_highestIn_17 : decode cX3_highestIn 17 = .ok (.iaload, 1) := by decide +kernel
theorem dX3_highestIn_18 : decode cX3_highestIn 18 = .ok (.iload_n 1, 1) := by decide +kernel
theorem dX3_highestIn_19 : decode cX3_highestIn 19 = .ok (.if_icmp .ne 14, 3) := by decide +kernel
theorem dX3_highestIn_22 : decode cX3_highestIn 22 = .ok (.iload_n 2, 1) := by decide +kernel
theorem dX3_highestIn_23 : decode cX3_highestIn 23 = .ok (.aload_n 0, 1) := by decide +kernel
theorem dX3_highestIn_24 : decode cX3_highestIn 24 = .ok (.getfield 19, 3) := by decide +kernel
theorem dX3_highestIn_27 : decode cX3_highestIn 27 = .ok (.iload_n 3, 1) := by decide +kernel
theorem dX3_highestIn_28 : decode cX3_highestIn 28 = .ok (.iaload, 1) := by decide +kernel
theorem dX3_highestIn_29 : decode cX3_highestIn 29 = .ok (.invokestatic 22, 3) := by decide +kernel
theorem dX3_highestIn_32 : decode cX3_highestIn 32 = .ok (.istore_n 2, 1) := by decide +kernel
theorem dX3_highestIn_33 : decode cX3_highestIn 33 = .ok (.iinc 3 1, 3) := by decide +kernel
theorem dX3_highestIn_36 : decode cX3_highestIn 36 = .ok (.goto (-32), 3) := by decide +kernel
theorem dX3_highestIn_39 : decode cX3_highestIn 39 = .ok (.iload_n 2, 1) := by decide +kernel
theorem dX3_highestIn_40 : decode cX3_highestIn 40 = .ok (.ireturn, 1) := by decide +kernel
theorem dX3_copyFrom_0 : decode cX3_copyFrom 0 = .ok (.aload_n 0, 1) := by decide +kernel
theorem dX3_copyFrom_1 : decode cX3_copyFrom 1 = .ok (.aload_n 1, 1) := by decide +kernel
theorem dX3_copyFrom_2 : decode cX3_copyFrom 2 = .ok (.getfield 9, 3) := by decide +kernel
theorem dX3_copyFrom_5 : decode cX3_copyFrom 5 = .ok (.putfield 9, 3) := by decide +kernel
theorem dX3_copyFrom_8 : decode cX3_copyFrom 8 = .ok (.aload_n 1, 1) := by decide +kernel
theorem dX3_copyFrom_9 : decode cX3_copyFrom 9 = .ok (.getfield 15, 3) := by decide +kernel
theorem dX3_copyFrom_12 : decode cX3_copyFrom 12 = .ok (.iconst 0, 1) := by decide +kernel
theorem dX3_copyFrom_13 : decode cX3_copyFrom 13 = .ok (.aload_n 0, 1) := by decide +kernel
theorem dX3_copyFrom_14 : decode cX3_copyFrom 14 = .ok (.getfield 15, 3) := by decide +kernel
theorem dX3_copyFrom_17 : decode cX3_copyFrom 17 = .ok (.iconst 0, 1) := by decide +kernel
theorem dX3_copyFrom_18 : decode cX3_copyFrom 18 = .ok (.bipush 60, 2) := by decide +kernel
theorem dX3_copyFrom_20 : decode cX3_copyFrom 20 = .ok (.invokestatic 28, 3) := by decide +kernel
theorem dX3_copyFrom_23 : decode cX3_copyFrom 23 = .ok (.aload_n 1, 1) := by decide +kernel
theorem dX3_copyFrom_24 : decode cX3_copyFrom 24 = .ok (.getfield 19, 3) := by decide +kernel
theorem dX3_copyFrom_27 : decode cX3_copyFrom 27 = .ok (.iconst 0, 1) := by decide +kernel
theorem dX3_copyFrom_28 : decode cX3_copyFrom 28 = .ok (.aload_n 0, 1) := by decide +kernel
theorem dX3_copyFrom_29 : decode cX3_copyFrom 29 = .ok (.getfield 19, 3) := by decide +kernel
theorem dX3_copyFrom_32 : decode cX3_copyFrom 32 = .ok (.iconst 0, 1) := by decide +kernel
theorem dX3_copyFrom_33 : decode cX3_copyFrom 33 = .ok (.bipush 60, 2) := by decide +kernel
theorem dX3_copyFrom_35 : decode cX3_copyFrom 35 = .ok (.invokestatic 28, 3) := by decide +kernel
theorem dX3_copyFrom_38 : decode cX3_copyFrom 38 = .ok (.return_, 1) := by decide +kernel
theorem dX4_init_0 : decode cX4_init 0 = .ok (.aload_n 0, 1) := by decide +kernel
theorem dX4_init_1 : decode cX4_init 1 = .ok (.invokespecial 3, 3) := by decide +kernel
theorem dX4_init_4 : decode cX4_init 4 = .ok (.aload_n 0, 1) := by decide +kernel
theorem dX4_init_5 : decode cX4_init 5 = .ok (.new 9, 3) := by decide +kernel
theorem dX4_init_8 : decode cX4_init 8 = .ok (.dup, 1) := by decide +kernel
theorem dX4_init_9 : decode cX4_init 9 = .ok (.invokespecial 11, 3) := by decide +kernel
theorem dX4_init_12 : decode cX4_init 12 = .ok (.putfield 12, 3) := by decide +kernel
theorem dX4_init_15 : decode cX4_init 15 = .ok (.aload_n 0, 1) := by decide +kernel
theorem dX4_init_16 : decode cX4_init 16 = .ok (.new 18, 3) := by decide +kernel
theorem dX4_init_19 : decode cX4_init 19 = .ok (.dup, 1) := by decide +kernel
theorem dX4_init_20 : decode cX4_init 20 = .ok (.invokespecial 20, 3) := by decide +kernel
theorem dX4_init_23 : decode cX4_init 23 = .ok (.putfield 21, 3) := by decide +kernel
theorem dX4_init_26 : decode cX4_init 26 = .ok (.aload_n 0, 1) := by decide +kernel
theorem dX4_init_27 : decode cX4_init 27 = .ok (.new 25, 3) := by decide +kernel
theorem dX4_init_30 : decode cX4_init 30 = .ok (.dup, 1) := by decide +kernel
theorem dX4_init_31 : decode cX4_init 31 = .ok (.invokespecial 27, 3) := by decide +kernel
theorem dX4_init_34 : decode cX4_init 34 = .ok (.putfield 28, 3) := by decide +kernel
theorem dX4_init_37 : decode cX4_init 37 = .ok (.aload_n 0, 1) := by decide +kernel
theorem dX4_init_38 : decode cX4_init 38 = .ok (.sipush 200, 3) := by decide +kernel
theorem dX4_init_41 : decode cX4_init 41 = .ok (.newarray .int, 2) := by decide +kernel
theorem dX4_init_43 : decode cX4_init 43 = .ok (.putfield 32, 3) := by decide +kernel
theorem dX4_init_46 : decode cX4_init 46 = .ok (.aload_n 0, 1) := by decide +kernel
theorem dX4_init_47 : decode cX4_init 47 = .ok (.sipush 200, 3) := by decide +kernel
theorem dX4_init_50 : decode cX4_init 50 = .ok (.newarray .int, 2) := by decide +kernel
theorem dX4_init_52 : decode cX4_init 52 = .ok (.putfield 36, 3) := by decide +kernel
theorem dX4_init_55 : decode cX4_init 55 = .ok (.aload_n 0, 1) := by decide +kernel
theorem dX4_init_56 : decode cX4_init 56 = .ok (.iconst 0, 1) := by decide +kernel
theorem dX4_init_57 : decode cX4_init 57 = .ok (.putfield 39, 3) := by decide +kernel
theorem dX4_init_60 : decode cX4_init 60 = .ok (.aload_n 0, 1) := by decide +kernel
theorem dX4_init_61 : decode cX4_init 61 = .ok (.iconst 0, 1) := by decide +kernel
theorem dX4_init_62 : decode cX4_init 62 = .ok (.putfield 43, 3) := by decide +kernel
theorem dX4_init_65 : decode cX4_init 65 = .ok (.aload_n 0, 1) := by decide +kernel
theorem dX4_init_66 : decode cX4_init 66 = .ok (.iconst 0, 1) := by decide +kernel
theorem dX4_init_67 : decode cX4_init 67 = .ok (.putfield 46, 3) := by decide +kernel
theorem dX4_init_70 : decode cX4_init 70 = .ok (.aload_n 0, 1) := by decide +kernel
theorem dX4_init_71 : decode cX4_init 71 = .ok (.iconst 0, 1) := by decide +kernel
theorem dX4_init_72 : decode cX4_init 72 = .ok (.putfield 49, 3) := by decide +kernel
theorem dX4_init_75 : decode cX4_init 75 = .ok (.return_, 1) := by decide +kernel
theorem dX4_layOut_0 : decode cX4_layOut 0 = .ok (.aload_n 0, 1) := by decide +kernel
theorem dX4_layOut_1 : decode cX4_layOut 1 = .ok (.getfield 12, 3) := by decide +kernel
theorem dX4_layOut_4 : decode cX4_layOut 4 = .ok (.aload_n 1, 1) := by decide +kernel
theorem dX4_layOut_5 : decode cX4_layOut 5 = .ok (.invokevirtual 52, 3) := by decide +kernel
theorem dX4_layOut_8 : decode cX4_layOut 8 = .ok (.aload_n 0, 1) := by decide +kernel
theorem dX4_layOut_9 : decode cX4_layOut 9 = .ok (.getfield 28, 3) := by decide +kernel
theorem dX4_layOut_12 : decode cX4_layOut 12 = .ok (.invokevirtual 56, 3) := by decide +kernel
theorem dX4_layOut_15 : decode cX4_layOut 15 = .ok (.iconst 1, 1) := by decide +kernel
theorem dX4_layOut_16 : decode cX4_layOut 16 = .ok (.istore_n 2, 1) := by decide +kernel
theorem dX4_layOut_17 : decode cX4_layOut 17 = .ok (.iload_n 2, 1) := by decide +kernel
theorem dX4_layOut_18 : decode cX4_layOut 18 = .ok (.sipush 2401, 3) := by decide +kernel
theorem dX4_layOut_21 : decode cX4_layOut 21 = .ok (.if_icmp .gt 61, 3) := by decide +kernel
theorem dX4_layOut_24 : decode cX4_layOut 24 = .ok (.aload_n 0, 1) := by decide +kernel
theorem dX4_layOut_25 : decode cX4_layOut 25 = .ok (.iload_n 2, 1) := by decide +kernel
theorem dX4_layOut_26 : decode cX4_layOut 26 = .ok (.putfield 39, 3) := by decide +kernel
theorem dX4_layOut_29 : decode cX4_layOut 29 = .ok (.aload_n 0, 1) := by decide +kernel
theorem dX4_layOut_30 : decode cX4_layOut 30 = .ok (.getfield 21, 3) := by decide +kernel
theorem dX4_layOut_33 : decode cX4_layOut 33 = .ok (.aload_n 0, 1) := by decide +kernel
theorem dX4_layOut_34 : decode cX4_layOut 34 = .ok (.getfield 12, 3) := by decide +kernel
theorem dX4_layOut_37 : decode cX4_layOut 37 = .ok (.aload_n 0, 1) := by decide +kernel
theorem dX4_layOut_38 : decode cX4_layOut 38 = .ok (.getfield 28, 3) := by decide +kernel
theorem dX4_layOut_41 : decode cX4_layOut 41 = .ok (.getfield 59, 3) := by decide +kernel
theorem dX4_layOut_44 : decode cX4_layOut 44 = .ok (.invokevirtual 62, 3) := by decide +kernel
theorem dX4_layOut_47 : decode cX4_layOut 47 = .ok (.aload_n 0, 1) := by decide +kernel
theorem dX4_layOut_48 : decode cX4_layOut 48 = .ok (.getfield 28, 3) := by decide +kernel
theorem dX4_layOut_51 : decode cX4_layOut 51 = .ok (.aload_n 0, 1) := by decide +kernel
theorem dX4_layOut_52 : decode cX4_layOut 52 = .ok (.getfield 21, 3) := by decide +kernel
theorem dX4_layOut_55 : decode cX4_layOut 55 = .ok (.aload_n 0, 1) := by decide +kernel
theorem dX4_layOut_56 : decode cX4_layOut 56 = .ok (.getfield 12, 3) := by decide +kernel
theorem dX4_layOut_59 : decode cX4_layOut 59 = .ok (.invokevirtual 66, 3) := by decide +kernel
theorem dX4_layOut_62 : decode cX4_layOut 62 = .ok (.invokevirtual 70, 3) := by decide +kernel
theorem dX4_layOut_65 : decode cX4_layOut 65 = .ok (.aload_n 0, 1) := by decide +kernel
theorem dX4_layOut_66 : decode cX4_layOut 66 = .ok (.iload_n 2, 1) := by decide +kernel
theorem dX4_layOut_67 : decode cX4_layOut 67 = .ok (.invokevirtual 74, 3) := by decide +kernel
theorem dX4_layOut_70 : decode cX4_layOut 70 = .ok (.ifCond .ne 6, 3) := by decide +kernel
theorem dX4_layOut_73 : decode cX4_layOut 73 = .ok (.goto 9, 3) := by decide +kernel
theorem dX4_layOut_76 : decode cX4_layOut 76 = .ok (.iinc 2 1, 3) := by decide +kernel
theorem dX4_layOut_79 : decode cX4_layOut 79 = .ok (.goto (-62), 3) := by decide +kernel
theorem dX4_layOut_82 : decode cX4_layOut 82 = .ok (.aload_n 0, 1) := by decide +kernel
theorem dX4_layOut_83 : decode cX4_layOut 83 = .ok (.invokevirtual 78, 3) := by decide +kernel
theorem dX4_layOut_86 : decode cX4_layOut 86 = .ok (.return_, 1) := by decide +kernel
theorem dX4_anyWanted_0 : decode cX4_anyWanted 0 = .ok (.aload_n 0, 1) := by decide +kernel
theorem dX4_anyWanted_1 : decode cX4_anyWanted 1 = .ok (.getfield 12, 3) := by decide +kernel
theorem dX4_anyWanted_4 : decode cX4_anyWanted 4 = .ok (.invokevirtual 81, 3) := by decide +kernel
theorem dX4_anyWanted_7 : decode cX4_anyWanted 7 = .ok (.ifCond .ne 5, 3) := by decide +kernel
theorem dX4_anyWanted_10 : decode cX4_anyWanted 10 = .ok (.iconst 0, 1) := by decide +kernel
theorem dX4_anyWanted_11 : decode cX4_anyWanted 11 = .ok (.ireturn, 1) := by decide +kernel
theorem dX4_anyWanted_12 : decode cX4_anyWanted 12 = .ok (.iconst 0, 1) := by decide +kernel
theorem dX4_anyWanted_13 : decode cX4_anyWanted 13 = .ok (.istore_n 2, 1) := by decide +kernel
theorem dX4_anyWanted_14 : decode cX4_anyWanted 14 = .ok (.iload_n 2, 1) := by decide +kernel
theorem dX4_anyWanted_15 : decode cX4_anyWanted 15 = .ok (.aload_n 0, 1) := by decide +kernel
theorem dX4_anyWanted_16 : decode cX4_anyWanted 16 = .ok (.getfield 12, 3) := by decide +kernel
theorem dX4_anyWanted_19 : decode cX4_anyWanted 19 = .ok (.getfield 85, 3) := by decide +kernel
theorem dX4_anyWanted_22 : decode cX4_anyWanted 22 = .ok (.getfield 89, 3) := by decide +kernel
theorem dX4_anyWanted_25 : decode cX4_anyWanted 25 = .ok (.if_icmp .ge 32, 3) := by decide +kernel
theorem dX4_anyWanted_28 : decode cX4_anyWanted 28 = .ok (.aload_n 0, 1) := by decide +kernel
theorem dX4_anyWanted_29 : decode cX4_anyWanted 29 = .ok (.iload_n 2, 1) := by decide +kernel
theorem dX4_anyWanted_30 : decode cX4_anyWanted 30 = .ok (.invokevirtual 94, 3) := by decide +kernel
theorem dX4_anyWanted_33 : decode cX4_anyWanted 33 = .ok (.ifCond .ne 18, 3) := by decide +kernel
theorem dX4_anyWanted_36 : decode cX4_anyWanted 36 = .ok (.aload_n 0, 1) := by decide +kernel
theorem dX4_anyWanted_37 : decode cX4_anyWanted 37 = .ok (.iload_n 2, 1) := by decide +kernel
theorem dX4_anyWanted_38 : decode cX4_anyWanted 38 = .ok (.invokevirtual 97, 3) := by decide +kernel
theorem dX4_anyWanted_41 : decode cX4_anyWanted 41 = .ok (.iconst (-1), 1) := by decide +kernel
theorem dX4_anyWanted_42 : decode cX4_anyWanted 42 = .ok (.if_icmp .ne 9, 3) := by decide +kernel
theorem dX4_anyWanted_45 : decode cX4_anyWanted 45 = .ok (.aload_n 0, 1) := by decide +kernel
theorem dX4_anyWanted_46 : decode cX4_anyWanted 46 = .ok (.iload_n 2, 1) := by decide +kernel
theorem dX4_anyWanted_47 : decode cX4_anyWanted 47 = .ok (.iload_n 1, 1) := by decide +kernel
theorem dX4_anyWanted_48 : decode cX4_anyWanted 48 = .ok (.invokevirtual 101, 3) := by decide +kernel
theorem dX4_anyWanted_51 : decode cX4_anyWanted 51 = .ok (.iinc 2 1, 3) := by decide +kernel
theorem dX4_anyWanted_54 : decode cX4_anyWanted 54 = .ok (.goto (-40), 3) := by decide +kernel
theorem dX4_anyWanted_57 : decode cX4_anyWanted 57 = .ok (.aload_n 0, 1) := by decide +kernel
theorem dX4_anyWanted_58 : decode cX4_anyWanted 58 = .ok (.getfield 28, 3) := by decide +kernel
theorem dX4_anyWanted_61 : decode cX4_anyWanted 61 = .ok (.invokevirtual 105, 3) := by decide +kernel
theorem dX4_anyWanted_64 : decode cX4_anyWanted 64 = .ok (.ireturn, 1) := by decide +kernel
theorem dX4_wantThunk_0 : decode cX4_wantThunk 0 = .ok (.aload_n 0, 1) := by decide +kernel
theorem dX4_wantThunk_1 : decode cX4_wantThunk 1 = .ok (.getfield 12, 3) := by decide +kernel
theorem dX4_wantThunk_4 : decode cX4_wantThunk 4 = .ok (.getfield 85, 3) := by decide +kernel
theorem dX4_wantThunk_7 : decode cX4_wantThunk 7 = .ok (.getfield 108, 3) := by decide +kernel
theorem dX4_wantThunk_10 : decode cX4_wantThunk 10 = .ok (.iload_n 1, 1) := by decide +kernel
theorem dX4_wantThunk_11 : decode cX4_wantThunk 11 = .ok (.iaload, 1) := by decide +kernel
theorem dX4_wantThunk_12 : decode cX4_wantThunk 12 = .ok (.istore_n 3, 1) := by decide +kernel
theorem dX4_wantThunk_13 : decode cX4_wantThunk 13 = .ok (.aload_n 0, 1) := by decide +kernel
theorem dX4_wantThunk_14 : decode cX4_wantThunk 14 = .ok (.iload_n 1, 1) := by decide +kernel
theorem dX4_wantThunk_15 : decode cX4_wantThunk 15 = .ok (.invokevirtual 111, 3) := by decide +kernel
theorem dX4_wantThunk_18 : decode cX4_wantThunk 18 = .ok (.lstore 4, 2) := by decide +kernel
theorem dX4_wantThunk_20 : decode cX4_wantThunk 20 = .ok (.iconst (-1), 1) := by decide +kernel
theorem dX4_wantThunk_21 : decode cX4_wantThunk 21 = .ok (.istore 6, 2) := by decide +kernel
theorem dX4_wantThunk_23 : decode cX4_wantThunk 23 = .ok (.lconst 0, 1) := by decide +kernel
theorem dX4_wantThunk_24 : decode cX4_wantThunk 24 = .ok (.lstore 7, 2) := by decide +kernel
theorem dX4_wantThunk_26 : decode cX4_wantThunk 26 = .ok (.iconst 0, 1) := by decide +kernel
theorem dX4_wantThunk_27 : decode cX4_wantThunk 27 = .ok (.istore 9, 2) := by decide +kernel
theorem dX4_wantThunk_29 : decode cX4_wantThunk 29 = .ok (.iload 9, 2) := by decide +kernel
theorem dX4_wantThunk_31 : decode cX4_wantThunk 31 = .ok (.aload_n 0, 1) := by decide +kernel
theorem dX4_wantThunk_32 : decode cX4_wantThunk 32 = .ok (.getfield 12, 3) := by decide +kernel
theorem dX4_wantThunk_35 : decode cX4_wantThunk 35 = .ok (.getfield 115, 3) := by decide +kernel
theorem dX4_wantThunk_38 : decode cX4_wantThunk 38 = .ok (.getfield 119, 3) := by decide +kernel
theorem dX4_wantThunk_41 : decode cX4_wantThunk 41 = .ok (.if_icmp .ge 76, 3) := by decide +kernel
theorem dX4_wantThunk_44 : decode cX4_wantThunk 44 = .ok (.aload_n 0, 1) := by decide +kernel
theorem dX4_wantThunk_45 : decode cX4_wantThunk 45 = .ok (.iload 9, 2) := by decide +kernel
theorem dX4_wantThunk_47 : decode cX4_wantThunk 47 = .ok (.iload_n 1, 1) := by decide +kernel
theorem dX4_wantThunk_48 : decode cX4_wantThunk 48 = .ok (.invokevirtual 122, 3) := by decide +kernel
theorem dX4_wantThunk_51 : decode cX4_wantThunk 51 = .ok (.ifCond .ne 6, 3) := by decide +kernel
theorem dX4_wantThunk_54 : decode cX4_wantThunk 54 = .ok (.goto 57, 3) := by decide +kernel
theorem dX4_wantThunk_57 : decode cX4_wantThunk 57 = .ok (.aload_n 0, 1) := by decide +kernel
theorem dX4_wantThunk_58 : decode cX4_wantThunk 58 = .ok (.getfield 28, 3) := by decide +kernel
theorem dX4_wantThunk_61 : decode cX4_wantThunk 61 = .ok (.iload 9, 2) := by decide +kernel
theorem dX4_wantThunk_63 : decode cX4_wantThunk 63 = .ok (.iload_n 3, 1) := by decide +kernel
theorem dX4_wantThunk_64 : decode cX4_wantThunk 64 = .ok (.invokevirtual 126, 3) := by decide +kernel
theorem dX4_wantThunk_67 : decode cX4_wantThunk 67 = .ok (.ifCond .eq 4, 3) := by decide +kernel
theorem dX4_wantThunk_70 : decode cX4_wantThunk 70 = .ok (.return_, 1) := by decide +kernel
theorem dX4_wantThunk_71 : decode cX4_wantThunk 71 = .ok (.aload_n 0, 1) := by decide +kernel
theorem dX4_wantThunk_72 : decode cX4_wantThunk 72 = .ok (.getfield 21, 3) := by decide +kernel
theorem dX4_wantThunk_75 : decode cX4_wantThunk 75 = .ok (.getfield 129, 3) := by decide +kernel
theorem dX4_wantThunk_78 : decode cX4_wantThunk 78 = .ok (.iload 9, 2) := by decide +kernel
theorem dX4_wantThunk_80 : decode cX4_wantThunk 80 = .ok (.laload, 1) := by decide +kernel
theorem dX4_wantThunk_81 : decode cX4_wantThunk 81 = .ok (.lload 4, 2) := by decide +kernel
theorem dX4_wantThunk_83 : decode cX4_wantThunk 83 = .ok (.lsub, 1) := by decide +kernel
theorem dX4_wantThunk_84 : decode cX4_wantThunk 84 = .ok (.invokestatic 133, 3) := by decide +kernel
theorem dX4_wantThunk_87 : decode cX4_wantThunk 87 = .ok (.lstore 10, 2) := by decide +kernel
theorem dX4_wantThunk_89 : decode cX4_wantThunk 89 = .ok (.iload 6, 2) := by decide +kernel
theorem dX4_wantThunk_91 : decode cX4_wantThunk 91 = .ok (.iconst (-1), 1) := by decide +kernel
theorem dX4_wantThunk_92 : decode cX4_wantThunk 92 = .ok (.if_icmp .eq 11, 3) := by decide +kernel
theorem dX4_wantThunk_95 : decode cX4_wantThunk 95 = .ok (.lload 10, 2) := by decide +kernel
theorem dX4_wantThunk_97 : decode cX4_wantThunk 97 = .ok (.lload 7, 2) := by decide +kernel
theorem dX4_wantThunk_99 : decode cX4_wantThunk 99 = .ok (.lcmp, 1) := by decide +kernel
theorem dX4_wantThunk_100 : decode cX4_wantThunk 100 = .ok (.ifCond .ge 11, 3) := by decide +kernel
theorem dX4_wantThunk_103 : decode cX4_wantThunk 103 = .ok (.iload 9, 2) := by decide +kernel
theorem dX4_wantThunk_105 : decode cX4_wantThunk 105 = .ok (.istore 6, 2) := by decide +kernel
theorem dX4_wantThunk_107 : decode cX4_wantThunk 107 = .ok (.lload 10, 2) := by decide +kernel
theorem dX4_wantThunk_109 : decode cX4_wantThunk 109 = .ok (.lstore 7, 2) := by decide +kernel
theorem dX4_wantThunk_111 : decode cX4_wantThunk 111 = .ok (.iinc 9 1, 3) := by decide +kernel
theorem dX4_wantThunk_114 : decode cX4_wantThunk 114 = .ok (.goto (-85), 3) := by decide +kernel
theorem dX4_wantThunk_117 : decode cX4_wantThunk 117 = .ok (.iload 6, 2) := by decide +kernel
theorem dX4_wantThunk_119 : decode cX4_wantThunk 119 = .ok (.iconst (-1), 1) := by decide +kernel
theorem dX4_wantThunk_120 : decode cX4_wantThunk 120 = .ok (.if_icmp .eq 15, 3) := by decide +kernel
theorem dX4_wantThunk_123 : decode cX4_wantThunk 123 = .ok (.aload_n 0, 1) := by decide +kernel
theorem dX4_wantThunk_124 : decode cX4_wantThunk 124 = .ok (.getfield 28, 3) := by decide +kernel
theorem dX4_wantThunk_127 : decode cX4_wantThunk 127 = .ok (.iload 6, 2) := by decide +kernel
theorem dX4_wantThunk_129 : decode cX4_wantThunk 129 = .ok (.iload_n 3, 1) := by decide +kernel
theorem dX4_wantThunk_130 : decode cX4_wantThunk 130 = .ok (.iload_n 2, 1) := by decide +kernel
theorem dX4_wantThunk_131 : decode cX4_wantThunk 131 = .ok (.iload_n 1, 1) := by decide +kernel
theorem dX4_wantThunk_132 : decode cX4_wantThunk 132 = .ok (.invokevirtual 139, 3) := by decide +kernel
theorem dX4_wantThunk_135 : decode cX4_wantThunk 135 = .ok (.return_, 1) := by decide +kernel
theorem dX4_couldHelp_0 : decode cX4_couldHelp 0 = .ok (.aload_n 0, 1) := by decide +kernel
theorem dX4_couldHelp_1 : decode cX4_couldHelp 1 = .ok (.getfield 12, 3) := by decide +kernel
theorem dX4_couldHelp_4 : decode cX4_couldHelp 4 = .ok (.getfield 85, 3) := by decide +kernel
theorem dX4_couldHelp_7 : decode cX4_couldHelp 7 = .ok (.getfield 108, 3) := by decide +kernel
theorem dX4_couldHelp_10 : decode cX4_couldHelp 10 = .ok (.iload_n 2, 1) := by decide +kernel
theorem dX4_couldHelp_11 : decode cX4_couldHelp 11 = .ok (.iaload, 1) := by decide +kernel
theorem dX4_couldHelp_12 : decode cX4_couldHelp 12 = .ok (.istore_n 3, 1) := by decide +kernel
theorem dX4_couldHelp_13 : decode cX4_couldHelp 13 = .ok (.aload_n 0, 1) := by decide +kernel
theorem dX4_couldHelp_14 : decode cX4_couldHelp 14 = .ok (.getfield 12, 3) := by decide +kernel
theorem dX4_couldHelp_17 : decode cX4_couldHelp 17 = .ok (.getfield 115, 3) := by decide +kernel
theorem dX4_couldHelp_20 : decode cX4_couldHelp 20 = .ok (.getfield 143, 3) := by decide +kernel
theorem dX4_couldHelp_23 : decode cX4_couldHelp 23 = .ok (.iload_n 1, 1) := by decide +kernel
theorem dX4_couldHelp_24 : decode cX4_couldHelp 24 = .ok (.baload, 1) := by decide +kernel
theorem dX4_couldHelp_25 : decode cX4_couldHelp 25 = .ok (.ifCond .eq 15, 3) := by decide +kernel
theorem dX4_couldHelp_28 : decode cX4_couldHelp 28 = .ok (.aload_n 0, 1) := by decide +kernel
theorem dX4_couldHelp_29 : decode cX4_couldHelp 29 = .ok (.getfield 28, 3) := by decide +kernel
theorem dX4_couldHelp_32 : decode cX4_couldHelp 32 = .ok (.iload_n 1, 1) := by decide +kernel
theorem dX4_couldHelp_33 : decode cX4_couldHelp 33 = .ok (.iload_n 3, 1) := by decide +kernel
theorem dX4_couldHelp_34 : decode cX4_couldHelp 34 = .ok (.invokevirtual 147, 3) := by decide +kernel
theorem dX4_couldHelp_37 : decode cX4_couldHelp 37 = .ok (.ifCond .eq 5, 3) := by decide +kernel
theorem dX4_couldHelp_40 : decode cX4_couldHelp 40 = .ok (.iconst 0, 1) := by decide +kernel
theorem dX4_couldHelp_41 : decode cX4_couldHelp 41 = .ok (.ireturn, 1) := by decide +kernel
theorem dX4_couldHelp_42 : decode cX4_couldHelp 42 = .ok (.aload_n 0, 1) := by decide +kernel
theorem dX4_couldHelp_43 : decode cX4_couldHelp 43 = .ok (.getfield 21, 3) := by decide +kernel
theorem dX4_couldHelp_46 : decode cX4_couldHelp 46 = .ok (.getfield 129, 3) := by decide +kernel
theorem dX4_couldHelp_49 : decode cX4_couldHelp 49 = .ok (.iload_n 1, 1) := by decide +kernel
theorem dX4_couldHelp_50 : decode cX4_couldHelp 50 = .ok (.laload, 1) := by decide +kernel
theorem dX4_couldHelp_51 : decode cX4_couldHelp 51 = .ok (.lstore 4, 2) := by decide +kernel
theorem dX4_couldHelp_53 : decode cX4_couldHelp 53 = .ok (.aload_n 0, 1) := by decide +kernel
theorem dX4_couldHelp_54 : decode cX4_couldHelp 54 = .ok (.getfield 12, 3) := by decide +kernel
theorem dX4_couldHelp_57 : decode cX4_couldHelp 57 = .ok (.getfield 150, 3) := by decide +kernel
theorem dX4_couldHelp_60 : decode cX4_couldHelp 60 = .ok (.aload_n 0, 1) := by decide +kernel
theorem dX4_couldHelp_61 : decode cX4_couldHelp 61 = .ok (.getfield 12, 3) := by decide +kernel
theorem dX4_couldHelp_64 : decode cX4_couldHelp 64 = .ok (.getfield 85, 3) := by decide +kernel
theorem dX4_couldHelp_67 : decode cX4_couldHelp 67 = .ok (.getfield 154, 3) := by decide +kernel
theorem dX4_couldHelp_70 : decode cX4_couldHelp 70 = .ok (.iload_n 2, 1) := by decide +kernel
theorem dX4_couldHelp_71 : decode cX4_couldHelp 71 = .ok (.iaload, 1) := by decide +kernel
theorem dX4_couldHelp_72 : decode cX4_couldHelp 72 = .ok (.aload_n 0, 1) := by decide +kernel
theorem dX4_couldHelp_73 : decode cX4_couldHelp 73 = .ok (.iload_n 2, 1) := by decide +kernel
theorem dX4_couldHelp_74 : decode cX4_couldHelp 74 = .ok (.invokevirtual 111, 3) := by decide +kernel
theorem dX4_couldHelp_77 : decode cX4_couldHelp 77 = .ok (.lload 4, 2) := by decide +kernel
theorem dX4_couldHelp_79 : decode cX4_couldHelp 79 = .ok (.invokevirtual 157, 3) := by decide +kernel
theorem dX4_couldHelp_82 : decode cX4_couldHelp 82 = .ok (.ifCond .eq 34, 3) := by decide +kernel
theorem dX4_couldHelp_85 : decode cX4_couldHelp 85 = .ok (.aload_n 0, 1) := by decide +kernel
theorem dX4_couldHelp_86 : decode cX4_couldHelp 86 = .ok (.getfield 12, 3) := by decide +kernel
theorem dX4_couldHelp_89 : decode cX4_couldHelp 89 = .ok (.getfield 150, 3) := by decide +kernel
theorem dX4_couldHelp_92 : decode cX4_couldHelp 92 = .ok (.aload_n 0, 1) := by decide +kernel
theorem dX4_couldHelp_93 : decode cX4_couldHelp 93 = .ok (.getfield 12, 3) := by decide +kernel
theorem dX4_couldHelp_96 : decode cX4_couldHelp 96 = .ok (.getfield 163, 3) := by decide +kernel
theorem dX4_couldHelp_99 : decode cX4_couldHelp 99 = .ok (.lload 4, 2) := by decide +kernel
theorem dX4_couldHelp_101 : decode cX4_couldHelp 101 = .ok (.aload_n 0, 1) := by decide +kernel
theorem dX4_couldHelp_102 : decode cX4_couldHelp 102 = .ok (.iload_n 3, 1) := by decide +kernel
theorem dX4_couldHelp_103 : decode cX4_couldHelp 103 = .ok (.invokevirtual 166, 3) := by decide +kernel
theorem dX4_couldHelp_106 : decode cX4_couldHelp 106 = .ok (.invokevirtual 157, 3) := by decide +kernel
theorem dX4_couldHelp_109 : decode cX4_couldHelp 109 = .ok (.ifCond .eq 7, 3) := by decide +kernel
theorem dX4_couldHelp_112 : decode cX4_couldHelp 112 = .ok (.iconst 1, 1) := by decide +kernel
theorem dX4_couldHelp_113 : decode cX4_couldHelp 113 = .ok (.goto 4, 3) := by decide +kernel
theorem dX4_couldHelp_116 : decode cX4_couldHelp 116 = .ok (.iconst 0, 1) := by decide +kernel
theorem dX4_couldHelp_117 : decode cX4_couldHelp 117 = .ok (.ireturn, 1) := by decide +kernel
theorem dX4_isDirect_0 : decode cX4_isDirect 0 = .ok (.aload_n 0, 1) := by decide +kernel
theorem dX4_isDirect_1 : decode cX4_isDirect 1 = .ok (.aload_n 0, 1) := by decide +kernel
theorem dX4_isDirect_2 : decode cX4_isDirect 2 = .ok (.getfield 12, 3) := by decide +kernel
theorem dX4_isDirect_5 : decode cX4_isDirect 5 = .ok (.getfield 85, 3) := by decide +kernel
theorem dX4_isDirect_8 : decode cX4_isDirect 8 = .ok (.getfield 108, 3) := by decide +kernel
theorem dX4_isDirect_11 : decode cX4_isDirect 11 = .ok (.iload_n 1, 1) := by decide +kernel
theorem dX4_isDirect_12 : decode cX4_isDirect 12 = .ok (.iaload, 1) := by decide +kernel
theorem dX4_isDirect_13 : decode cX4_isDirect 13 = .ok (.invokevirtual 166, 3) := by decide +kernel
theorem dX4_isDirect_16 : decode cX4_isDirect 16 = .ok (.lstore_n 2, 1) := by decide +kernel
theorem dX4_isDirect_17 : decode cX4_isDirect 17 = .ok (.aload_n 0, 1) := by decide +kernel
theorem dX4_isDirect_18 : decode cX4_isDirect 18 = .ok (.getfield 12, 3) := by decide +kernel
theorem dX4_isDirect_21 : decode cX4_isDirect 21 = .ok (.getfield 150, 3) := by decide +kernel
theorem dX4_isDirect_24 : decode cX4_isDirect 24 = .ok (.aload_n 0, 1) := by decide +kernel
theorem dX4_isDirect_25 : decode cX4_isDirect 25 = .ok (.getfield 12, 3) := by decide +kernel
theorem dX4_isDirect_28 : decode cX4_isDirect 28 = .ok (.getfield 85, 3) := by decide +kernel
theorem dX4_isDirect_31 : decode cX4_isDirect 31 = .ok (.getfield 154, 3) := by decide +kernel
theorem dX4_isDirect_34 : decode cX4_isDirect 34 = .ok (.iload_n 1, 1) := by decide +kernel
theorem dX4_isDirect_35 : decode cX4_isDirect 35 = .ok (.iaload, 1) := by decide +kernel
theorem dX4_isDirect_36 : decode cX4_isDirect 36 = .ok (.aload_n 0, 1) := by decide +kernel
theorem dX4_isDirect_37 : decode cX4_isDirect 37 = .ok (.iload_n 1, 1) := by decide +kernel
theorem dX4_isDirect_38 : decode cX4_isDirect 38 = .ok (.invokevirtual 111, 3) := by decide +kernel
theorem dX4_isDirect_41 : decode cX4_isDirect 41 = .ok (.lload_n 2, 1) := by decide +kernel
theorem dX4_isDirect_42 : decode cX4_isDirect 42 = .ok (.invokevirtual 157, 3) := by decide +kernel
theorem dX4_isDirect_45 : decode cX4_isDirect 45 = .ok (.ireturn, 1) := by decide +kernel
theorem dX4_nearestThunk_0 : decode cX4_nearestThunk 0 = .ok (.aload_n 0, 1) := by decide +kernel
theorem dX4_nearestThunk_1 : decode cX4_nearestThunk 1 = .ok (.getfield 12, 3) := by decide +kernel
theorem dX4_nearestThunk_4 : decode cX4_nearestThunk 4 = .ok (.getfield 85, 3) := by decide +kernel
theorem dX4_nearestThunk_7 : decode cX4_nearestThunk 7 = .ok (.getfield 108, 3) := by decide +kernel
theorem dX4_nearestThunk_10 : decode cX4_nearestThunk 10 = .ok (.iload_n 1, 1) := by decide +kernel
theorem dX4_nearestThunk_11 : decode cX4_nearestThunk 11 = .ok (.iaload, 1) := by decide +kernel
theorem dX4_nearestThunk_12 : decode cX4_nearestThunk 12 = .ok (.istore_n 2, 1) := by decide +kernel
theorem dX4_nearestThunk_13 : decode cX4_nearestThunk 13 = .ok (.aload_n 0, 1) := by decide +kernel
theorem dX4_nearestThunk_14 : decode cX4_nearestThunk 14 = .ok (.iload_n 1, 1) := by decide +kernel
theorem dX4_nearestThunk_15 : decode cX4_nearestThunk 15 = .ok (.invokevirtual 111, 3) := by decide +kernel
theorem dX4_nearestThunk_18 : decode cX4_nearestThunk 18 = .ok (.lstore_n 3, 1) := by decide +kernel
theorem dX4_nearestThunk_19 : decode cX4_nearestThunk 19 = .ok (.iconst (-1), 1) := by decide +kernel
theorem dX4_nearestThunk_20 : decode cX4_nearestThunk 20 = .ok (.istore 5, 2) := by decide +kernel
theorem dX4_nearestThunk_22 : decode cX4_nearestThunk 22 = .ok (.lconst 0, 1) := by decide +kernel
theorem dX4_nearestThunk_23 : decode cX4_nearestThunk 23 = .ok (.lstore 6, 2) := by decide +kernel
theorem dX4_nearestThunk_25 : decode cX4_nearestThunk 25 = .ok (.iconst 0, 1) := by decide +kernel
theorem dX4_nearestThunk_26 : decode cX4_nearestThunk 26 = .ok (.istore 8, 2) := by decide +kernel
theorem dX4_nearestThunk_28 : decode cX4_nearestThunk 28 = .ok (.iload 8, 2) := by decide +kernel
theorem dX4_nearestThunk_30 : decode cX4_nearestThunk 30 = .ok (.aload_n 0, 1) := by decide +kernel
theorem dX4_nearestThunk_31 : decode cX4_nearestThunk 31 = .ok (.getfield 12, 3) := by decide +kernel
theorem dX4_nearestThunk_34 : decode cX4_nearestThunk 34 = .ok (.getfield 115, 3) := by decide +kernel
theorem dX4_nearestThunk_37 : decode cX4_nearestThunk 37 = .ok (.getfield 119, 3) := by decide +kernel
theorem dX4_nearestThunk_40 : decode cX4_nearestThunk 40 = .ok (.if_icmp .ge 85, 3) := by decide +kernel
theorem dX4_nearestThunk_43 : decode cX4_nearestThunk 43 = .ok (.aload_n 0, 1) := by decide +kernel
theorem dX4_nearestThunk_44 : decode cX4_nearestThunk 44 = .ok (.getfield 28, 3) := by decide +kernel
theorem dX4_nearestThunk_47 : decode cX4_nearestThunk 47 = .ok (.iload 8, 2) := by decide +kernel
theorem dX4_nearestThunk_49 : decode cX4_nearestThunk 49 = .ok (.iload_n 2, 1) := by decide +kernel
theorem dX4_nearestThunk_50 : decode cX4_nearestThunk 50 = .ok (.invokevirtual 169, 3) := by decide +kernel
theorem dX4_nearestThunk_53 : decode cX4_nearestThunk 53 = .ok (.istore 9, 2) := by decide +kernel
theorem dX4_nearestThunk_55 : decode cX4_nearestThunk 55 = .ok (.aload_n 0, 1) := by decide +kernel
theorem dX4_nearestThunk_56 : decode cX4_nearestThunk 56 = .ok (.getfield 28, 3) := by decide +kernel
theorem dX4_nearestThunk_59 : decode cX4_nearestThunk 59 = .ok (.iload 9, 2) := by decide +kernel
theorem dX4_nearestThunk_61 : decode cX4_nearestThunk 61 = .ok (.invokevirtual 173, 3) := by decide +kernel
theorem dX4_nearestThunk_64 : decode cX4_nearestThunk 64 = .ok (.ifCond .eq 55, 3) := by decide +kernel
theorem dX4_nearestThunk_67 : decode cX4_nearestThunk 67 = .ok (.aload_n 0, 1) := by decide +kernel
theorem dX4_nearestThunk_68 : decode cX4_nearestThunk 68 = .ok (.iload 9, 2) := by decide +kernel
theorem dX4_nearestThunk_70 : decode cX4_nearestThunk 70 = .ok (.iload_n 1, 1) := by decide +kernel
theorem dX4_nearestThunk_71 : decode cX4_nearestThunk 71 = .ok (.invokevirtual 176, 3) := by decide +kernel
theorem dX4_nearestThunk_74 : decode cX4_nearestThunk 74 = .ok (.ifCond .ne 6, 3) := by decide +kernel
theorem dX4_nearestThunk_77 : decode cX4_nearestThunk 77 = .ok (.goto 42, 3) := by decide +kernel
theorem dX4_nearestThunk_80 : decode cX4_nearestThunk 80 = .ok (.aload_n 0, 1) := by decide +kernel
theorem dX4_nearestThunk_81 : decode cX4_nearestThunk 81 = .ok (.getfield 28, 3) := by decide +kernel
theorem dX4_nearestThunk_84 : decode cX4_nearestThunk 84 = .ok (.getfield 179, 3) := by decide +kernel
theorem dX4_nearestThunk_87 : decode cX4_nearestThunk 87 = .ok (.iload 9, 2) := by decide +kernel
theorem dX4_nearestThunk_89 : decode cX4_nearestThunk 89 = .ok (.laload, 1) := by decide +kernel
theorem dX4_nearestThunk_90 : decode cX4_nearestThunk 90 = .ok (.lload_n 3, 1) := by decide +kernel
theorem dX4_nearestThunk_91 : decode cX4_nearestThunk 91 = .ok (.lsub, 1) := by decide +kernel
theorem dX4_nearestThunk_92 : decode cX4_nearestThunk 92 = .ok (.invokestatic 133, 3) := by decide +kernel
theorem dX4_nearestThunk_95 : decode cX4_nearestThunk 95 = .ok (.lstore 10, 2) := by decide +kernel
theorem dX4_nearestThunk_97 : decode cX4_nearestThunk 97 = .ok (.iload 5, 2) := by decide +kernel
theorem dX4_nearestThunk_99 : decode cX4_nearestThunk 99 = .ok (.iconst (-1), 1) := by decide +kernel
theorem dX4_nearestThunk_100 : decode cX4_nearestThunk 100 = .ok (.if_icmp .eq 11, 3) := by decide +kernel
theorem dX4_nearestThunk_103 : decode cX4_nearestThunk 103 = .ok (.lload 10, 2) := by decide +kernel
theorem dX4_nearestThunk_105 : decode cX4_nearestThunk 105 = .ok (.lload 6, 2) := by decide +kernel
theorem dX4_nearestThunk_107 : decode cX4_nearestThunk 107 = .ok (.lcmp, 1) := by decide +kernel
theorem dX4_nearestThunk_108 : decode cX4_nearestThunk 108 = .ok (.ifCond .ge 11, 3) := by decide +kernel
theorem dX4_nearestThunk_111 : decode cX4_nearestThunk 111 = .ok (.iload 9, 2) := by decide +kernel
theorem dX4_nearestThunk_113 : decode cX4_nearestThunk 113 = .ok (.istore 5, 2) := by decide +kernel
theorem dX4_nearestThunk_115 : decode cX4_nearestThunk 115 = .ok (.lload 10, 2) := by decide +kernel
theorem dX4_nearestThunk_117 : decode cX4_nearestThunk 117 = .ok (.lstore 6, 2) := by decide +kernel
theorem dX4_nearestThunk_119 : decode cX4_nearestThunk 119 = .ok (.iinc 8 1, 3) := by decide +kernel
theorem dX4_nearestThunk_122 : decode cX4_nearestThunk 122 = .ok (.goto (-94), 3) := by decide +kernel
theorem dX4_nearestThunk_125 : decode cX4_nearestThunk 125 = .ok (.iload 5, 2) := by decide +kernel
theorem dX4_nearestThunk_127 : decode cX4_nearestThunk 127 = .ok (.ireturn, 1) := by decide +kernel
theorem dX4_doesHelp_0 : decode cX4_doesHelp 0 = .ok (.aload_n 0, 1) := by decide +kernel
theorem dX4_doesHelp_1 : decode cX4_doesHelp 1 = .ok (.getfield 28, 3) := by decide +kernel
theorem dX4_doesHelp_4 : decode cX4_doesHelp 4 = .ok (.getfield 179, 3) := by decide +kernel
theorem dX4_doesHelp_7 : decode cX4_doesHelp 7 = .ok (.iload_n 1, 1) := by decide +kernel
theorem dX4_doesHelp_8 : decode cX4_doesHelp 8 = .ok (.laload, 1) := by decide +kernel
theorem dX4_doesHelp_9 : decode cX4_doesHelp 9 = .ok (.lstore_n 3, 1) := by decide +kernel
theorem dX4_doesHelp_10 : decode cX4_doesHelp 10 = .ok (.aload_n 0, 1) := by decide +kernel
theorem dX4_doesHelp_11 : decode cX4_doesHelp 11 = .ok (.getfield 12, 3) := by decide +kernel
theorem dX4_doesHelp_14 : decode cX4_doesHelp 14 = .ok (.getfield 150, 3) := by decide +kernel
theorem dX4_doesHelp_17 : decode cX4_doesHelp 17 = .ok (.aload_n 0, 1) := by decide +kernel
theorem dX4_doesHelp_18 : decode cX4_doesHelp 18 = .ok (.getfield 12, 3) := by decide +kernel
theorem dX4_doesHelp_21 : decode cX4_doesHelp 21 = .ok (.getfield 85, 3) := by decide +kernel
theorem dX4_doesHelp_24 : decode cX4_doesHelp 24 = .ok (.getfield 154, 3) := by decide +kernel
theorem dX4_doesHelp_27 : decode cX4_doesHelp 27 = .ok (.iload_n 2, 1) := by decide +kernel
theorem dX4_doesHelp_28 : decode cX4_doesHelp 28 = .ok (.iaload, 1) := by decide +kernel
theorem dX4_doesHelp_29 : decode cX4_doesHelp 29 = .ok (.aload_n 0, 1) := by decide +kernel
theorem dX4_doesHelp_30 : decode cX4_doesHelp 30 = .ok (.iload_n 2, 1) := by decide +kernel
theorem dX4_doesHelp_31 : decode cX4_doesHelp 31 = .ok (.invokevirtual 111, 3) := by decide +kernel
theorem dX4_doesHelp_34 : decode cX4_doesHelp 34 = .ok (.lload_n 3, 1) := by decide +kernel
theorem dX4_doesHelp_35 : decode cX4_doesHelp 35 = .ok (.invokevirtual 157, 3) := by decide +kernel
theorem dX4_doesHelp_38 : decode cX4_doesHelp 38 = .ok (.ifCond .eq 41, 3) := by decide +kernel
theorem dX4_doesHelp_41 : decode cX4_doesHelp 41 = .ok (.aload_n 0, 1) := by decide +kernel
theorem dX4_doesHelp_42 : decode cX4_doesHelp 42 = .ok (.getfield 12, 3) := by decide +kernel
theorem dX4_doesHelp_45 : decode cX4_doesHelp 45 = .ok (.getfield 150, 3) := by decide +kernel
theorem dX4_doesHelp_48 : decode cX4_doesHelp 48 = .ok (.aload_n 0, 1) := by decide +kernel
theorem dX4_doesHelp_49 : decode cX4_doesHelp 49 = .ok (.getfield 12, 3) := by decide +kernel
theorem dX4_doesHelp_52 : decode cX4_doesHelp 52 = .ok (.getfield 163, 3) := by decide +kernel
theorem dX4_doesHelp_55 : decode cX4_doesHelp 55 = .ok (.lload_n 3, 1) := by decide +kernel
theorem dX4_doesHelp_56 : decode cX4_doesHelp 56 = .ok (.aload_n 0, 1) := by decide +kernel
theorem dX4_doesHelp_57 : decode cX4_doesHelp 57 = .ok (.aload_n 0, 1) := by decide +kernel
theorem dX4_doesHelp_58 : decode cX4_doesHelp 58 = .ok (.getfield 28, 3) := by decide +kernel
theorem dX4_doesHelp_61 : decode cX4_doesHelp 61 = .ok (.getfield 182, 3) := by decide +kernel
theorem dX4_doesHelp_64 : decode cX4_doesHelp 64 = .ok (.iload_n 1, 1) := by decide +kernel
theorem dX4_doesHelp_65 : decode cX4_doesHelp 65 = .ok (.iaload, 1) := by decide +kernel
theorem dX4_doesHelp_66 : decode cX4_doesHelp 66 = .ok (.invokevirtual 166, 3) := by decide +kernel
theorem dX4_doesHelp_69 : decode cX4_doesHelp 69 = .ok (.invokevirtual 157, 3) := by decide +kernel
theorem dX4_doesHelp_72 : decode cX4_doesHelp 72 = .ok (.ifCond .eq 7, 3) := by decide +kernel
theorem dX4_doesHelp_75 : decode cX4_doesHelp 75 = .ok (.iconst 1, 1) := by decide +kernel
theorem dX4_doesHelp_76 : decode cX4_doesHelp 76 = .ok (.goto 4, 3) := by decide +kernel
theorem dX4_doesHelp_79 : decode cX4_doesHelp 79 = .ok (.iconst 0, 1) := by decide +kernel
theorem dX4_doesHelp_80 : decode cX4_doesHelp 80 = .ok (.ireturn, 1) := by decide +kernel
theorem dX4_routeAll_0 : decode cX4_routeAll 0 = .ok (.aload_n 0, 1) := by decide +kernel
theorem dX4_routeAll_1 : decode cX4_routeAll 1 = .ok (.iconst 0, 1) := by decide +kernel
theorem dX4_routeAll_2 : decode cX4_routeAll 2 = .ok (.putfield 43, 3) := by decide +kernel
theorem dX4_routeAll_5 : decode cX4_routeAll 5 = .ok (.aload_n 0, 1) := by decide +kernel
theorem dX4_routeAll_6 : decode cX4_routeAll 6 = .ok (.iconst 0, 1) := by decide +kernel
theorem dX4_routeAll_7 : decode cX4_routeAll 7 = .ok (.putfield 46, 3) := by decide +kernel
theorem dX4_routeAll_10 : decode cX4_routeAll 10 = .ok (.aload_n 0, 1) := by decide +kernel
theorem dX4_routeAll_11 : decode cX4_routeAll 11 = .ok (.iconst 0, 1) := by decide +kernel
theorem dX4_routeAll_12 : decode cX4_routeAll 12 = .ok (.putfield 49, 3) := by decide +kernel
theorem dX4_routeAll_15 : decode cX4_routeAll 15 = .ok (.iconst 0, 1) := by decide +kernel
theorem dX4_routeAll_16 : decode cX4_routeAll 16 = .ok (.istore_n 1, 1) := by decide +kernel
theorem dX4_routeAll_17 : decode cX4_routeAll 17 = .ok (.iload_n 1, 1) := by decide +kernel
theorem dX4_routeAll_18 : decode cX4_routeAll 18 = .ok (.aload_n 0, 1) := by decide +kernel
theorem dX4_routeAll_19 : decode cX4_routeAll 19 = .ok (.getfield 12, 3) := by decide +kernel
theorem dX4_routeAll_22 : decode cX4_routeAll 22 = .ok (.getfield 85, 3) := by decide +kernel
theorem dX4_routeAll_25 : decode cX4_routeAll 25 = .ok (.getfield 89, 3) := by decide +kernel
theorem dX4_routeAll_28 : decode cX4_routeAll 28 = .ok (.if_icmp .ge 49, 3) := by decide +kernel
theorem dX4_routeAll_31 : decode cX4_routeAll 31 = .ok (.aload_n 0, 1) := by decide +kernel
theorem dX4_routeAll_32 : decode cX4_routeAll 32 = .ok (.getfield 36, 3) := by decide +kernel
theorem dX4_routeAll_35 : decode cX4_routeAll 35 = .ok (.iload_n 1, 1) := by decide +kernel
theorem dX4_routeAll_36 : decode cX4_routeAll 36 = .ok (.iconst (-1), 1) := by decide +kernel
theorem dX4_routeAll_37 : decode cX4_routeAll 37 = .ok (.iastore, 1) := by decide +kernel
theorem dX4_routeAll_38 : decode cX4_routeAll 38 = .ok (.aload_n 0, 1) := by decide +kernel
theorem dX4_routeAll_39 : decode cX4_routeAll 39 = .ok (.iload_n 1, 1) := by decide +kernel
theorem dX4_routeAll_40 : decode cX4_routeAll 40 = .ok (.invokevirtual 94, 3) := by decide +kernel
theorem dX4_routeAll_43 : decode cX4_routeAll 43 = .ok (.ifCond .eq 23, 3) := by decide +kernel
theorem dX4_routeAll_46 : decode cX4_routeAll 46 = .ok (.aload_n 0, 1) := by decide +kernel
theorem dX4_routeAll_47 : decode cX4_routeAll 47 = .ok (.getfield 32, 3) := by decide +kernel
theorem dX4_routeAll_50 : decode cX4_routeAll 50 = .ok (.iload_n 1, 1) := by decide +kernel
theorem dX4_routeAll_51 : decode cX4_routeAll 51 = .ok (.iconst 0, 1) := by decide +kernel
theorem dX4_routeAll_52 : decode cX4_routeAll 52 = .ok (.iastore, 1) := by decide +kernel
theorem dX4_routeAll_53 : decode cX4_routeAll 53 = .ok (.aload_n 0, 1) := by decide +kernel
theorem dX4_routeAll_54 : decode cX4_routeAll 54 = .ok (.dup, 1) := by decide +kernel
theorem dX4_routeAll_55 : decode cX4_routeAll 55 = .ok (.getfield 43, 3) := by decide +kernel
theorem dX4_routeAll_58 : decode cX4_routeAll 58 = .ok (.iconst 1, 1) := by decide +kernel
theorem dX4_routeAll_59 : decode cX4_routeAll 59 = .ok (.iadd, 1) := by decide +kernel
theorem dX4_routeAll_60 : decode cX4_routeAll 60 = .ok (.putfield 43, 3) := by decide +kernel
theorem dX4_routeAll_63 : decode cX4_routeAll 63 = .ok (.goto 8, 3) := by decide +kernel
theorem dX4_routeAll_66 : decode cX4_routeAll 66 = .ok (.aload_n 0, 1) := by decide +kernel
theorem dX4_routeAll_67 : decode cX4_routeAll 67 = .ok (.iload_n 1, 1) := by decide +kernel
theorem dX4_routeAll_68 : decode cX4_routeAll 68 = .ok (.invokevirtual 183, 3) := by decide +kernel
theorem dX4_routeAll_71 : decode cX4_routeAll 71 = .ok (.iinc 1 1, 3) := by decide +kernel
theorem dX4_routeAll_74 : decode cX4_routeAll 74 = .ok (.goto (-57), 3) := by decide +kernel
theorem dX4_routeAll_77 : decode cX4_routeAll 77 = .ok (.return_, 1) := by decide +kernel
theorem dX4_routeByThunk_0 : decode cX4_routeByThunk 0 = .ok (.aload_n 0, 1) := by decide +kernel
theorem dX4_routeByThunk_1 : decode cX4_routeByThunk 1 = .ok (.iload_n 1, 1) := by decide +kernel
theorem dX4_routeByThunk_2 : decode cX4_routeByThunk 2 = .ok (.invokevirtual 97, 3) := by decide +kernel
theorem dX4_routeByThunk_5 : decode cX4_routeByThunk 5 = .ok (.istore_n 2, 1) := by decide +kernel
theorem dX4_routeByThunk_6 : decode cX4_routeByThunk 6 = .ok (.aload_n 0, 1) := by decide +kernel
theorem dX4_routeByThunk_7 : decode cX4_routeByThunk 7 = .ok (.getfield 36, 3) := by decide +kernel
theorem dX4_routeByThunk_10 : decode cX4_routeByThunk 10 = .ok (.iload_n 1, 1) := by decide +kernel
theorem dX4_routeByThunk_11 : decode cX4_routeByThunk 11 = .ok (.iload_n 2, 1) := by decide +kernel
theorem dX4_routeByThunk_12 : decode cX4_routeByThunk 12 = .ok (.iastore, 1) := by decide +kernel
theorem dX4_routeByThunk_13 : decode cX4_routeByThunk 13 = .ok (.aload_n 0, 1) := by decide +kernel
theorem dX4_routeByThunk_14 : decode cX4_routeByThunk 14 = .ok (.getfield 28, 3) := by decide +kernel
theorem dX4_routeByThunk_17 : decode cX4_routeByThunk 17 = .ok (.iload_n 2, 1) := by decide +kernel
theorem dX4_routeByThunk_18 : decode cX4_routeByThunk 18 = .ok (.invokevirtual 173, 3) := by decide +kernel
theorem dX4_routeByThunk_21 : decode cX4_routeByThunk 21 = .ok (.ifCond .ne 21, 3) := by decide +kernel
theorem dX4_routeByThunk_24 : decode cX4_routeByThunk 24 = .ok (.aload_n 0, 1) := by decide +kernel
theorem dX4_routeByThunk_25 : decode cX4_routeByThunk 25 = .ok (.getfield 32, 3) := by decide +kernel
theorem dX4_routeByThunk_28 : decode cX4_routeByThunk 28 = .ok (.iload_n 1, 1) := by decide +kernel
theorem dX4_routeByThunk_29 : decode cX4_routeByThunk 29 = .ok (.iconst 2, 1) := by decide +kernel
theorem dX4_routeByThunk_30 : decode cX4_routeByThunk 30 = .ok (.iastore, 1) := by decide +kernel
theorem dX4_routeByThunk_31 : decode cX4_routeByThunk 31 = .ok (.aload_n 0, 1) := by decide +kernel
theorem dX4_routeByThunk_32 : decode cX4_routeByThunk 32 = .ok (.dup, 1) := by decide +kernel
theorem dX4_routeByThunk_33 : decode cX4_routeByThunk 33 = .ok (.getfield 49, 3) := by decide +kernel
theorem dX4_routeByThunk_36 : decode cX4_routeByThunk 36 = .ok (.iconst 1, 1) := by decide +kernel
theorem dX4_routeByThunk_37 : decode cX4_routeByThunk 37 = .ok (.iadd, 1) := by decide +kernel
theorem dX4_routeByThunk_38 : decode cX4_routeByThunk 38 = .ok (.putfield 49, 3) := by decide +kernel
theorem dX4_routeByThunk_41 : decode cX4_routeByThunk 41 = .ok (.return_, 1) := by decide +kernel
theorem dX4_routeByThunk_42 : decode cX4_routeByThunk 42 = .ok (.aload_n 0, 1) := by decide +kernel
theorem dX4_routeByThunk_43 : decode cX4_routeByThunk 43 = .ok (.getfield 32, 3) := by decide +kernel
theorem dX4_routeByThunk_46 : decode cX4_routeByThunk 46 = .ok (.iload_n 1, 1) := by decide +kernel
theorem dX4_routeByThunk_47 : decode cX4_routeByThunk 47 = .ok (.iconst 1, 1) := by decide +kernel
theorem dX4_routeByThunk_48 : decode cX4_routeByThunk 48 = .ok (.iastore, 1) := by decide +kernel
theorem dX4_routeByThunk_49 : decode cX4_routeByThunk 49 = .ok (.aload_n 0, 1) := by decide +kernel
theorem dX4_routeByThunk_50 : decode cX4_routeByThunk 50 = .ok (.dup, 1) := by decide +kernel
theorem dX4_routeByThunk_51 : decode cX4_routeByThunk 51 = .ok (.getfield 46, 3) := by decide +kernel
theorem dX4_routeByThunk_54 : decode cX4_routeByThunk 54 = .ok (.iconst 1, 1) := by decide +kernel
theorem dX4_routeByThunk_55 : decode cX4_routeByThunk 55 = .ok (.iadd, 1) := by decide +kernel
theorem dX4_routeByThunk_56 : decode cX4_routeByThunk 56 = .ok (.putfield 46, 3) := by decide +kernel
theorem dX4_routeByThunk_59 : decode cX4_routeByThunk 59 = .ok (.aload_n 0, 1) := by decide +kernel
theorem dX4_routeByThunk_60 : decode cX4_routeByThunk 60 = .ok (.getfield 28, 3) := by decide +kernel
theorem dX4_routeByThunk_63 : decode cX4_routeByThunk 63 = .ok (.getfield 187, 3) := by decide +kernel
theorem dX4_routeByThunk_66 : decode cX4_routeByThunk 66 = .ok (.iload_n 2, 1) := by decide +kernel
theorem dX4_routeByThunk_67 : decode cX4_routeByThunk 67 = .ok (.dup2, 1) := by decide +kernel
theorem dX4_routeByThunk_68 : decode cX4_routeByThunk 68 = .ok (.iaload, 1) := by decide +kernel
theorem dX4_routeByThunk_69 : decode cX4_routeByThunk 69 = .ok (.iconst 1, 1) := by decide +kernel
theorem dX4_routeByThunk_70 : decode cX4_routeByThunk 70 = .ok (.iadd, 1) := by decide +kernel
theorem dX4_routeByThunk_71 : decode cX4_routeByThunk 71 = .ok (.iastore, 1) := by decide +kernel
theorem dX4_routeByThunk_72 : decode cX4_routeByThunk 72 = .ok (.return_, 1) := by decide +kernel
theorem dX4_labelAddress_0 : decode cX4_labelAddress 0 = .ok (.aload_n 0, 1) := by decide +kernel
theorem dX4_labelAddress_1 : decode cX4_labelAddress 1 = .ok (.getfield 21, 3) := by decide +kernel
theorem dX4_labelAddress_4 : decode cX4_labelAddress 4 = .ok (.getfield 190, 3) := by decide +kernel
theorem dX4_labelAddress_7 : decode cX4_labelAddress 7 = .ok (.aload_n 0, 1) := by decide +kernel
theorem dX4_labelAddress_8 : decode cX4_labelAddress 8 = .ok (.getfield 12, 3) := by decide +kernel
theorem dX4_labelAddress_11 : decode cX4_labelAddress 11 = .ok (.getfield 193, 3) := by decide +kernel
theorem dX4_labelAddress_14 : decode cX4_labelAddress 14 = .ok (.getfield 197, 3) := by decide +kernel
theorem dX4_labelAddress_17 : decode cX4_labelAddress 17 = .ok (.iload_n 1, 1) := by decide +kernel
theorem dX4_labelAddress_18 : decode cX4_labelAddress 18 = .ok (.iaload, 1) := by decide +kernel
theorem dX4_labelAddress_19 : decode cX4_labelAddress 19 = .ok (.laload, 1) := by decide +kernel
theorem dX4_labelAddress_20 : decode cX4_labelAddress 20 = .ok (.aload_n 0, 1) := by decide +kernel
theorem dX4_labelAddress_21 : decode cX4_labelAddress 21 = .ok (.getfield 12, 3) := by decide +kernel
theorem dX4_labelAddress_24 : decode cX4_labelAddress 24 = .ok (.getfield 193, 3) := by decide +kernel
theorem dX4_labelAddress_27 : decode cX4_labelAddress 27 = .ok (.getfield 201, 3) := by decide +kernel
theorem dX4_labelAddress_30 : decode cX4_labelAddress 30 = .ok (.iload_n 1, 1) := by decide +kernel
theorem dX4_labelAddress_31 : decode cX4_labelAddress 31 = .ok (.iaload, 1) := by decide +kernel
theorem dX4_labelAddress_32 : decode cX4_labelAddress 32 = .ok (.i2l, 1) := by decide +kernel
theorem dX4_labelAddress_33 : decode cX4_labelAddress 33 = .ok (.ladd, 1) := by decide +kernel
theorem dX4_labelAddress_34 : decode cX4_labelAddress 34 = .ok (.lreturn, 1) := by decide +kernel
theorem dX4_branchAddress_0 : decode cX4_branchAddress 0 = .ok (.aload_n 0, 1) := by decide +kernel
theorem dX4_branchAddress_1 : decode cX4_branchAddress 1 = .ok (.getfield 21, 3) := by decide +kernel
theorem dX4_branchAddress_4 : decode cX4_branchAddress 4 = .ok (.getfield 190, 3) := by decide +kernel
theorem dX4_branchAddress_7 : decode cX4_branchAddress 7 = .ok (.aload_n 0, 1) := by decide +kernel
theorem dX4_branchAddress_8 : decode cX4_branchAddress 8 = .ok (.getfield 12, 3) := by decide +kernel
theorem dX4_branchAddress_11 : decode cX4_branchAddress 11 = .ok (.getfield 85, 3) := by decide +kernel
theorem dX4_branchAddress_14 : decode cX4_branchAddress 14 = .ok (.getfield 204, 3) := by decide +kernel
theorem dX4_branchAddress_17 : decode cX4_branchAddress 17 = .ok (.iload_n 1, 1) := by decide +kernel
theorem dX4_branchAddress_18 : decode cX4_branchAddress 18 = .ok (.iaload, 1) := by decide +kernel
theorem dX4_branchAddress_19 : decode cX4_branchAddress 19 = .ok (.laload, 1) := by decide +kernel
theorem dX4_branchAddress_20 : decode cX4_branchAddress 20 = .ok (.aload_n 0, 1) := by decide +kernel
theorem dX4_branchAddress_21 : decode cX4_branchAddress 21 = .ok (.getfield 12, 3) := by decide +kernel
theorem dX4_branchAddress_24 : decode cX4_branchAddress 24 = .ok (.getfield 85, 3) := by decide +kernel
theorem dX4_branchAddress_27 : decode cX4_branchAddress 27 = .ok (.getfield 205, 3) := by decide +kernel
theorem dX4_branchAddress_30 : decode cX4_branchAddress 30 = .ok (.iload_n 1, 1) := by decide +kernel
theorem dX4_branchAddress_31 : decode cX4_branchAddress 31 = .ok (.iaload, 1) := by decide +kernel
theorem dX4_branchAddress_32 : decode cX4_branchAddress 32 = .ok (.i2l, 1) := by decide +kernel
theorem dX4_branchAddress_33 : decode cX4_branchAddress 33 = .ok (.ladd, 1) := by decide +kernel
theorem dX4_branchAddress_34 : decode cX4_branchAddress 34 = .ok (.lreturn, 1) := by decide +kernel
theorem dX4_bytesInAll_0 : decode cX4_bytesInAll 0 = .ok (.aload_n 0, 1) := by decide +kernel
theorem dX4_bytesInAll_1 : decode cX4_bytesInAll 1 = .ok (.getfield 21, 3) := by decide +kernel
theorem dX4_bytesInAll_4 : decode cX4_bytesInAll 4 = .ok (.getfield 206, 3) := by decide +kernel
theorem dX4_bytesInAll_7 : decode cX4_bytesInAll 7 = .ok (.aload_n 0, 1) := by decide +kernel
theorem dX4_bytesInAll_8 : decode cX4_bytesInAll 8 = .ok (.getfield 12, 3) := by decide +kernel
theorem dX4_bytesInAll_11 : decode cX4_bytesInAll 11 = .ok (.getfield 210, 3) := by decide +kernel
theorem dX4_bytesInAll_14 : decode cX4_bytesInAll 14 = .ok (.i2l, 1) := by decide +kernel
theorem dX4_bytesInAll_15 : decode cX4_bytesInAll 15 = .ok (.lsub, 1) := by decide +kernel
theorem dX4_bytesInAll_16 : decode cX4_bytesInAll 16 = .ok (.l2i, 1) := by decide +kernel
theorem dX4_bytesInAll_17 : decode cX4_bytesInAll 17 = .ok (.ireturn, 1) := by decide +kernel
theorem dX4_bytesBetween_0 : decode cX4_bytesBetween 0 = .ok (.aload_n 0, 1) := by decide +kernel
theorem dX4_bytesBetween_1 : decode cX4_bytesBetween 1 = .ok (.invokevirtual 213, 3) := by decide +kernel
theorem dX4_bytesBetween_4 : decode cX4_bytesBetween 4 = .ok (.aload_n 0, 1) := by decide +kernel
theorem dX4_bytesBetween_5 : decode cX4_bytesBetween 5 = .ok (.getfield 28, 3) := by decide +kernel
theorem dX4_bytesBetween_8 : decode cX4_bytesBetween 8 = .ok (.getfield 217, 3) := by decide +kernel
theorem dX4_bytesBetween_11 : decode cX4_bytesBetween 11 = .ok (.aload_n 0, 1) := by decide +kernel
theorem dX4_bytesBetween_12 : decode cX4_bytesBetween 12 = .ok (.getfield 12, 3) := by decide +kernel
theorem dX4_bytesBetween_15 : decode cX4_bytesBetween 15 = .ok (.getfield 220, 3) := by decide +kernel
theorem dX4_bytesBetween_18 : decode cX4_bytesBetween 18 = .ok (.imul, 1) := by decide +kernel
theorem dX4_bytesBetween_19 : decode cX4_bytesBetween 19 = .ok (.isub, 1) := by decide +kernel
theorem dX4_bytesBetween_20 : decode cX4_bytesBetween 20 = .ok (.istore_n 1, 1) := by decide +kernel
theorem dX4_bytesBetween_21 : decode cX4_bytesBetween 21 = .ok (.iconst 0, 1) := by decide +kernel
theorem dX4_bytesBetween_22 : decode cX4_bytesBetween 22 = .ok (.istore_n 2, 1) := by decide +kernel
theorem dX4_bytesBetween_23 : decode cX4_bytesBetween 23 = .ok (.iload_n 2, 1) := by decide +kernel
theorem dX4_bytesBetween_24 : decode cX4_bytesBetween 24 = .ok (.aload_n 0, 1) := by decide +kernel
theorem dX4_bytesBetween_25 : decode cX4_bytesBetween 25 = .ok (.getfield 12, 3) := by decide +kernel
theorem dX4_bytesBetween_28 : decode cX4_bytesBetween 28 = .ok (.getfield 115, 3) := by decide +kernel
theorem dX4_bytesBetween_31 : decode cX4_bytesBetween 31 = .ok (.getfield 119, 3) := by decide +kernel
theorem dX4_bytesBetween_34 : decode cX4_bytesBetween 34 = .ok (.if_icmp .ge 24, 3) := by decide +kernel
theorem dX4_bytesBetween_37 : decode cX4_bytesBetween 37 = .ok (.iload_n 1, 1) := by decide +kernel
theorem dX4_bytesBetween_38 : decode cX4_bytesBetween 38 = .ok (.aload_n 0, 1) := by decide +kernel
theorem dX4_bytesBetween_39 : decode cX4_bytesBetween 39 = .ok (.getfield 12, 3) := by decide +kernel
theorem dX4_bytesBetween_42 : decode cX4_bytesBetween 42 = .ok (.getfield 115, 3) := by decide +kernel
theorem dX4_bytesBetween_45 : decode cX4_bytesBetween 45 = .ok (.getfield 223, 3) := by decide +kernel
theorem dX4_bytesBetween_48 : decode cX4_bytesBetween 48 = .ok (.iload_n 2, 1) := by decide +kernel
theorem dX4_bytesBetween_49 : decode cX4_bytesBetween 49 = .ok (.iaload, 1) := by decide +kernel
theorem dX4_bytesBetween_50 : decode cX4_bytesBetween 50 = .ok (.isub, 1) := by decide +kernel
theorem dX4_bytesBetween_51 : decode cX4_bytesBetween 51 = .ok (.istore_n 1, 1) := by decide +kernel
theorem dX4_bytesBetween_52 : decode cX4_bytesBetween 52 = .ok (.iinc 2 1, 3) := by decide +kernel
theorem dX4_bytesBetween_55 : decode cX4_bytesBetween 55 = .ok (.goto (-32), 3) := by decide +kernel
theorem dX4_bytesBetween_58 : decode cX4_bytesBetween 58 = .ok (.iload_n 1, 1) := by decide +kernel
theorem dX4_bytesBetween_59 : decode cX4_bytesBetween 59 = .ok (.ireturn, 1) := by decide +kernel
theorem dX4_branchCode_0 : decode cX4_branchCode 0 = .ok (.aload_n 0, 1) := by decide +kernel
theorem dX4_branchCode_1 : decode cX4_branchCode 1 = .ok (.getfield 12, 3) := by decide +kernel
theorem dX4_branchCode_4 : decode cX4_branchCode 4 = .ok (.getfield 85, 3) := by decide +kernel
theorem dX4_branchCode_7 : decode cX4_branchCode 7 = .ok (.iload_n 1, 1) := by decide +kernel
theorem dX4_branchCode_8 : decode cX4_branchCode 8 = .ok (.invokevirtual 226, 3) := by decide +kernel
theorem dX4_branchCode_11 : decode cX4_branchCode 11 = .ok (.ifCond .eq 13, 3) := by decide +kernel
theorem dX4_branchCode_14 : decode cX4_branchCode 14 = .ok (.aload_n 0, 1) := by decide +kernel
theorem dX4_branchCode_15 : decode cX4_branchCode 15 = .ok (.getfield 32, 3) := by decide +kernel
theorem dX4_branchCode_18 : decode cX4_branchCode 18 = .ok (.iload_n 1, 1) := by decide +kernel
theorem dX4_branchCode_19 : decode cX4_branchCode 19 = .ok (.iaload, 1) := by decide +kernel
theorem dX4_branchCode_20 : decode cX4_branchCode 20 = .ok (.iconst 2, 1) := by decide +kernel
theorem dX4_branchCode_21 : decode cX4_branchCode 21 = .ok (.if_icmp .ne 5, 3) := by decide +kernel
theorem dX4_branchCode_24 : decode cX4_branchCode 24 = .ok (.iconst (-1), 1) := by decide +kernel
theorem dX4_branchCode_25 : decode cX4_branchCode 25 = .ok (.ireturn, 1) := by decide +kernel
theorem dX4_branchCode_26 : decode cX4_branchCode 26 = .ok (.aload_n 0, 1) := by decide +kernel
theorem dX4_branchCode_27 : decode cX4_branchCode 27 = .ok (.getfield 36, 3) := by decide +kernel
theorem dX4_branchCode_30 : decode cX4_branchCode 30 = .ok (.iload_n 1, 1) := by decide +kernel
theorem dX4_branchCode_31 : decode cX4_branchCode 31 = .ok (.iaload, 1) := by decide +kernel
theorem dX4_branchCode_32 : decode cX4_branchCode 32 = .ok (.istore_n 2, 1) := by decide +kernel
theorem dX4_branchCode_33 : decode cX4_branchCode 33 = .ok (.aload_n 0, 1) := by decide +kernel
theorem dX4_branchCode_34 : decode cX4_branchCode 34 = .ok (.getfield 28, 3) := by decide +kernel
theorem dX4_branchCode_37 : decode cX4_branchCode 37 = .ok (.iload_n 2, 1) := by decide +kernel
theorem dX4_branchCode_38 : decode cX4_branchCode 38 = .ok (.invokevirtual 173, 3) := by decide +kernel
theorem dX4_branchCode_41 : decode cX4_branchCode 41 = .ok (.ifCond .eq 15, 3) := by decide +kernel
theorem dX4_branchCode_44 : decode cX4_branchCode 44 = .ok (.aload_n 0, 1) := by decide +kernel
theorem dX4_branchCode_45 : decode cX4_branchCode 45 = .ok (.getfield 28, 3) := by decide +kernel
theorem dX4_branchCode_48 : decode cX4_branchCode 48 = .ok (.getfield 179, 3) := by decide +kernel
theorem dX4_branchCode_51 : decode cX4_branchCode 51 = .ok (.iload_n 2, 1) := by decide +kernel
theorem dX4_branchCode_52 : decode cX4_branchCode 52 = .ok (.laload, 1) := by decide +kernel
theorem dX4_branchCode_53 : decode cX4_branchCode 53 = .ok (.goto 19, 3) := by decide +kernel
theorem dX4_branchCode_56 : decode cX4_branchCode 56 = .ok (.aload_n 0, 1) := by decide +kernel
theorem dX4_branchCode_57 : decode cX4_branchCode 57 = .ok (.aload_n 0, 1) := by decide +kernel
theorem dX4_branchCode_58 : decode cX4_branchCode 58 = .ok (.getfield 12, 3) := by decide +kernel
theorem dX4_branchCode_61 : decode cX4_branchCode 61 = .ok (.getfield 85, 3) := by decide +kernel
theorem dX4_branchCode_64 : decode cX4_branchCode 64 = .ok (.getfield 108, 3) := by decide +kernel
theorem dX4_branchCode_67 : decode cX4_branchCode 67 = .ok (.iload_n 1, 1) := by decide +kernel
theorem dX4_branchCode_68 : decode cX4_branchCode 68 = .ok (.iaload, 1) := by decide +kernel
theorem dX4_branchCode_69 : decode cX4_branchCode 69 = .ok (.invokevirtual 166, 3) := by decide +kernel
theorem dX4_branchCode_72 : decode cX4_branchCode 72 = .ok (.lstore_n 3, 1) := by decide +kernel
theorem dX4_branchCode_73 : decode cX4_branchCode 73 = .ok (.aload_n 0, 1) := by decide +kernel
theorem dX4_branchCode_74 : decode cX4_branchCode 74 = .ok (.getfield 12, 3) := by decide +kernel
theorem dX4_branchCode_77 : decode cX4_branchCode 77 = .ok (.getfield 150, 3) := by decide +kernel
theorem dX4_branchCode_80 : decode cX4_branchCode 80 = .ok (.aload_n 0, 1) := by decide +kernel
theorem dX4_branchCode_81 : decode cX4_branchCode 81 = .ok (.getfield 12, 3) := by decide +kernel
theorem dX4_branchCode_84 : decode cX4_branchCode 84 = .ok (.getfield 85, 3) := by decide +kernel
theorem dX4_branchCode_87 : decode cX4_branchCode 87 = .ok (.getfield 154, 3) := by decide +kernel
theorem dX4_branchCode_90 : decode cX4_branchCode 90 = .ok (.iload_n 1, 1) := by decide +kernel
theorem dX4_branchCode_91 : decode cX4_branchCode 91 = .ok (.iaload, 1) := by decide +kernel
theorem dX4_branchCode_92 : decode cX4_branchCode 92 = .ok (.aload_n 0, 1) := by decide +kernel
theorem dX4_branchCode_93 : decode cX4_branchCode 93 = .ok (.iload_n 1, 1) := by decide +kernel
theorem dX4_branchCode_94 : decode cX4_branchCode 94 = .ok (.invokevirtual 111, 3) := by decide +kernel
theorem dX4_branchCode_97 : decode cX4_branchCode 97 = .ok (.lload_n 3, 1) := by decide +kernel
theorem dX4_branchCode_98 : decode cX4_branchCode 98 = .ok (.invokevirtual 227, 3) := by decide +kernel
theorem dX4_branchCode_101 : decode cX4_branchCode 101 = .ok (.ireturn, 1) := by decide +kernel
theorem dX4_thunkCode_0 : decode cX4_thunkCode 0 = .ok (.aload_n 0, 1) := by decide +kernel
theorem dX4_thunkCode_1 : decode cX4_thunkCode 1 = .ok (.getfield 28, 3) := by decide +kernel
theorem dX4_thunkCode_4 : decode cX4_thunkCode 4 = .ok (.iload_n 1, 1) := by decide +kernel
theorem dX4_thunkCode_5 : decode cX4_thunkCode 5 = .ok (.invokevirtual 173, 3) := by decide +kernel
theorem dX4_thunkCode_8 : decode cX4_thunkCode 8 = .ok (.ifCond .ne 5, 3) := by decide +kernel
theorem dX4_thunkCode_11 : decode cX4_thunkCode 11 = .ok (.iconst (-1), 1) := by decide +kernel
theorem dX4_thunkCode_12 : decode cX4_thunkCode 12 = .ok (.ireturn, 1) := by decide +kernel
theorem dX4_thunkCode_13 : decode cX4_thunkCode 13 = .ok (.aload_n 0, 1) := by decide +kernel
theorem dX4_thunkCode_14 : decode cX4_thunkCode 14 = .ok (.getfield 12, 3) := by decide +kernel
theorem dX4_thunkCode_17 : decode cX4_thunkCode 17 = .ok (.getfield 150, 3) := by decide +kernel
theorem dX4_thunkCode_20 : decode cX4_thunkCode 20 = .ok (.aload_n 0, 1) := by decide +kernel
theorem dX4_thunkCode_21 : decode cX4_thunkCode 21 = .ok (.getfield 12, 3) := by decide +kernel
theorem dX4_thunkCode_24 : decode cX4_thunkCode 24 = .ok (.getfield 163, 3) := by decide +kernel
theorem dX4_thunkCode_27 : decode cX4_thunkCode 27 = .ok (.aload_n 0, 1) := by decide +kernel
theorem dX4_thunkCode_28 : decode cX4_thunkCode 28 = .ok (.getfield 28, 3) := by decide +kernel
theorem dX4_thunkCode_31 : decode cX4_thunkCode 31 = .ok (.getfield 179, 3) := by decide +kernel
theorem dX4_thunkCode_34 : decode cX4_thunkCode 34 = .ok (.iload_n 1, 1) := by decide +kernel
theorem dX4_thunkCode_35 : decode cX4_thunkCode 35 = .ok (.laload, 1) := by decide +kernel
theorem dX4_thunkCode_36 : decode cX4_thunkCode 36 = .ok (.aload_n 0, 1) := by decide +kernel
theorem dX4_thunkCode_37 : decode cX4_thunkCode 37 = .ok (.aload_n 0, 1) := by decide +kernel
theorem dX4_thunkCode_38 : decode cX4_thunkCode 38 = .ok (.getfield 28, 3) := by decide +kernel
theorem dX4_thunkCode_41 : decode cX4_thunkCode 41 = .ok (.getfield 182, 3) := by decide +kernel
theorem dX4_thunkCode_44 : decode cX4_thunkCode 44 = .ok (.iload_n 1, 1) := by decide +kernel
theorem dX4_thunkCode_45 : decode cX4_thunkCode 45 = .ok (.iaload, 1) := by decide +kernel
theorem dX4_thunkCode_46 : decode cX4_thunkCode 46 = .ok (.invokevirtual 166, 3) := by decide +kernel
theorem dX4_thunkCode_49 : decode cX4_thunkCode 49 = .ok (.invokevirtual 227, 3) := by decide +kernel
theorem dX4_thunkCode_52 : decode cX4_thunkCode 52 = .ok (.ireturn, 1) := by decide +kernel
theorem dX4_walkFrom_0 : decode cX4_walkFrom 0 = .ok (.aload_n 0, 1) := by decide +kernel
theorem dX4_walkFrom_1 : decode cX4_walkFrom 1 = .ok (.iload_n 1, 1) := by decide +kernel
theorem dX4_walkFrom_2 : decode cX4_walkFrom 2 = .ok (.invokevirtual 231, 3) := by decide +kernel
theorem dX4_walkFrom_5 : decode cX4_walkFrom 5 = .ok (.istore_n 2, 1) := by decide +kernel
theorem dX4_walkFrom_6 : decode cX4_walkFrom 6 = .ok (.iload_n 2, 1) := by decide +kernel
theorem dX4_walkFrom_7 : decode cX4_walkFrom 7 = .ok (.iconst (-1), 1) := by decide +kernel
theorem dX4_walkFrom_8 : decode cX4_walkFrom 8 = .ok (.if_icmp .ne 7, 3) := by decide +kernel
theorem dX4_walkFrom_11 : decode cX4_walkFrom 11 = .ok (.ldc2_w 234, 3) := by decide +kernel
theorem dX4_walkFrom_14 : decode cX4_walkFrom 14 = .ok (.lreturn, 1) := by decide +kernel
theorem dX4_walkFrom_15 : decode cX4_walkFrom 15 = .ok (.aload_n 0, 1) := by decide +kernel
theorem dX4_walkFrom_16 : decode cX4_walkFrom 16 = .ok (.getfield 12, 3) := by decide +kernel
theorem dX4_walkFrom_19 : decode cX4_walkFrom 19 = .ok (.getfield 150, 3) := by decide +kernel
theorem dX4_walkFrom_22 : decode cX4_walkFrom 22 = .ok (.aload_n 0, 1) := by decide +kernel
theorem dX4_walkFrom_23 : decode cX4_walkFrom 23 = .ok (.getfield 12, 3) := by decide +kernel
theorem dX4_walkFrom_26 : decode cX4_walkFrom 26 = .ok (.getfield 85, 3) := by decide +kernel
theorem dX4_walkFrom_29 : decode cX4_walkFrom 29 = .ok (.getfield 154, 3) := by decide +kernel
theorem dX4_walkFrom_32 : decode cX4_walkFrom 32 = .ok (.iload_n 1, 1) := by decide +kernel
theorem dX4_walkFrom_33 : decode cX4_walkFrom 33 = .ok (.iaload, 1) := by decide +kernel
theorem dX4_walkFrom_34 : decode cX4_walkFrom 34 = .ok (.aload_n 0, 1) := by decide +kernel
theorem dX4_walkFrom_35 : decode cX4_walkFrom 35 = .ok (.iload_n 1, 1) := by decide +kernel
theorem dX4_walkFrom_36 : decode cX4_walkFrom 36 = .ok (.invokevirtual 111, 3) := by decide +kernel
theorem dX4_walkFrom_39 : decode cX4_walkFrom 39 = .ok (.iload_n 2, 1) := by decide +kernel
theorem dX4_walkFrom_40 : decode cX4_walkFrom 40 = .ok (.invokevirtual 236, 3) := by decide +kernel
theorem dX4_walkFrom_43 : decode cX4_walkFrom 43 = .ok (.lstore_n 3, 1) := by decide +kernel
theorem dX4_walkFrom_44 : decode cX4_walkFrom 44 = .ok (.aload_n 0, 1) := by decide +kernel
theorem dX4_walkFrom_45 : decode cX4_walkFrom 45 = .ok (.aload_n 0, 1) := by decide +kernel
theorem dX4_walkFrom_46 : decode cX4_walkFrom 46 = .ok (.getfield 36, 3) := by decide +kernel
theorem dX4_walkFrom_49 : decode cX4_walkFrom 49 = .ok (.iload_n 1, 1) := by decide +kernel
theorem dX4_walkFrom_50 : decode cX4_walkFrom 50 = .ok (.iaload, 1) := by decide +kernel
theorem dX4_walkFrom_51 : decode cX4_walkFrom 51 = .ok (.invokevirtual 240, 3) := by decide +kernel
theorem dX4_walkFrom_54 : decode cX4_walkFrom 54 = .ok (.istore 5, 2) := by decide +kernel
theorem dX4_walkFrom_56 : decode cX4_walkFrom 56 = .ok (.iload 5, 2) := by decide +kernel
theorem dX4_walkFrom_58 : decode cX4_walkFrom 58 = .ok (.iconst (-1), 1) := by decide +kernel
theorem dX4_walkFrom_59 : decode cX4_walkFrom 59 = .ok (.if_icmp .ne 5, 3) := by decide +kernel
theorem dX4_walkFrom_62 : decode cX4_walkFrom 62 = .ok (.lload_n 3, 1) := by decide +kernel
theorem dX4_walkFrom_63 : decode cX4_walkFrom 63 = .ok (.lreturn, 1) := by decide +kernel
theorem dX4_walkFrom_64 : decode cX4_walkFrom 64 = .ok (.aload_n 0, 1) := by decide +kernel
theorem dX4_walkFrom_65 : decode cX4_walkFrom 65 = .ok (.getfield 12, 3) := by decide +kernel
theorem dX4_walkFrom_68 : decode cX4_walkFrom 68 = .ok (.getfield 150, 3) := by decide +kernel
theorem dX4_walkFrom_71 : decode cX4_walkFrom 71 = .ok (.aload_n 0, 1) := by decide +kernel
theorem dX4_walkFrom_72 : decode cX4_walkFrom 72 = .ok (.getfield 12, 3) := by decide +kernel
theorem dX4_walkFrom_75 : decode cX4_walkFrom 75 = .ok (.getfield 163, 3) := by decide +kernel
theorem dX4_walkFrom_78 : decode cX4_walkFrom 78 = .ok (.lload_n 3, 1) := by decide +kernel
theorem dX4_walkFrom_79 : decode cX4_walkFrom 79 = .ok (.iload 5, 2) := by decide +kernel
theorem dX4_walkFrom_81 : decode cX4_walkFrom 81 = .ok (.invokevirtual 236, 3) := by decide +kernel
theorem dX4_walkFrom_84 : decode cX4_walkFrom 84 = .ok (.lreturn, 1) := by decide +kernel
theorem dX4_whatIsAt_0 : decode cX4_whatIsAt 0 = .ok (.lload_n 1, 1) := by decide +kernel
theorem dX4_whatIsAt_1 : decode cX4_whatIsAt 1 = .ok (.aload_n 0, 1) := by decide +kernel
theorem dX4_whatIsAt_2 : decode cX4_whatIsAt 2 = .ok (.getfield 12, 3) := by decide +kernel
theorem dX4_whatIsAt_5 : decode cX4_whatIsAt 5 = .ok (.getfield 210, 3) := by decide +kernel
theorem dX4_whatIsAt_8 : decode cX4_whatIsAt 8 = .ok (.i2l, 1) := by decide +kernel
theorem dX4_whatIsAt_9 : decode cX4_whatIsAt 9 = .ok (.lcmp, 1) := by decide +kernel
theorem dX4_whatIsAt_10 : decode cX4_whatIsAt 10 = .ok (.ifCond .lt 15, 3) := by decide +kernel
theorem dX4_whatIsAt_13 : decode cX4_whatIsAt 13 = .ok (.lload_n 1, 1) := by decide +kernel
theorem dX4_whatIsAt_14 : decode cX4_whatIsAt 14 = .ok (.aload_n 0, 1) := by decide +kernel
theorem dX4_whatIsAt_15 : decode cX4_whatIsAt 15 = .ok (.getfield 21, 3) := by decide +kernel
theorem dX4_whatIsAt_18 : decode cX4_whatIsAt 18 = .ok (.getfield 206, 3) := by decide +kernel
theorem dX4_whatIsAt_21 : decode cX4_whatIsAt 21 = .ok (.lcmp, 1) := by decide +kernel
theorem dX4_whatIsAt_22 : decode cX4_whatIsAt 22 = .ok (.ifCond .lt 5, 3) := by decide +kernel
theorem dX4_whatIsAt_25 : decode cX4_whatIsAt 25 = .ok (.iconst (-1), 1) := by decide +kernel
theorem dX4_whatIsAt_26 : decode cX4_whatIsAt 26 = .ok (.ireturn, 1) := by decide +kernel
theorem dX4_whatIsAt_27 : decode cX4_whatIsAt 27 = .ok (.iconst 0, 1) := by decide +kernel
theorem dX4_whatIsAt_28 : decode cX4_whatIsAt 28 = .ok (.istore_n 3, 1) := by decide +kernel
theorem dX4_whatIsAt_29 : decode cX4_whatIsAt 29 = .ok (.iload_n 3, 1) := by decide +kernel
theorem dX4_whatIsAt_30 : decode cX4_whatIsAt 30 = .ok (.aload_n 0, 1) := by decide +kernel
theorem dX4_whatIsAt_31 : decode cX4_whatIsAt 31 = .ok (.getfield 12, 3) := by decide +kernel
theorem dX4_whatIsAt_34 : decode cX4_whatIsAt 34 = .ok (.getfield 115, 3) := by decide +kernel
theorem dX4_whatIsAt_37 : decode cX4_whatIsAt 37 = .ok (.getfield 119, 3) := by decide +kernel
theorem dX4_whatIsAt_40 : decode cX4_whatIsAt 40 = .ok (.if_icmp .ge 43, 3) := by decide +kernel
theorem dX4_whatIsAt_43 : decode cX4_whatIsAt 43 = .ok (.lload_n 1, 1) := by decide +kernel
theorem dX4_whatIsAt_44 : decode cX4_whatIsAt 44 = .ok (.aload_n 0, 1) := by decide +kernel
theorem dX4_whatIsAt_45 : decode cX4_whatIsAt 45 = .ok (.getfield 21, 3) := by decide +kernel
theorem dX4_whatIsAt_48 : decode cX4_whatIsAt 48 = .ok (.getfield 190, 3) := by decide +kernel
theorem dX4_whatIsAt_51 : decode cX4_whatIsAt 51 = .ok (.iload_n 3, 1) := by decide +kernel
theorem dX4_whatIsAt_52 : decode cX4_whatIsAt 52 = .ok (.laload, 1) := by decide +kernel
theorem dX4_whatIsAt_53 : decode cX4_whatIsAt 53 = .ok (.aload_n 0, 1) := by decide +kernel
theorem dX4_whatIsAt_54 : decode cX4_whatIsAt 54 = .ok (.getfield 12, 3) := by decide +kernel
theorem dX4_whatIsAt_57 : decode cX4_whatIsAt 57 = .ok (.getfield 115, 3) := by decide +kernel
theorem dX4_whatIsAt_60 : decode cX4_whatIsAt 60 = .ok (.getfield 223, 3) := by decide +kernel
theorem dX4_whatIsAt_63 : decode cX4_whatIsAt 63 = .ok (.iload_n 3, 1) := by decide +kernel
theorem dX4_whatIsAt_64 : decode cX4_whatIsAt 64 = .ok (.iaload, 1) := by decide +kernel
theorem dX4_whatIsAt_65 : decode cX4_whatIsAt 65 = .ok (.invokestatic 243, 3) := by decide +kernel
end
section
theorem dX4_whatIsAt_68 : decode cX4_whatIsAt 68 = .ok (.ifCond .eq 9, 3) := by decide +kernel
theorem dX4_whatIsAt_71 : decode cX4_whatIsAt 71 = .ok (.sipush 1000, 3) := by decide +kernel
theorem dX4_whatIsAt_74 : decode cX4_whatIsAt 74 = .ok (.iload_n 3, 1) := by decide +kernel
theorem dX4_whatIsAt_75 : decode cX4_whatIsAt 75 = .ok (.iadd, 1) := by decide +kernel
theorem dX4_whatIsAt_76 : decode cX4_whatIsAt 76 = .ok (.ireturn, 1) := by decide +kernel
theorem dX4_whatIsAt_77 : decode cX4_whatIsAt 77 = .ok (.iinc 3 1, 3) := by decide +kernel
theorem dX4_whatIsAt_80 : decode cX4_whatIsAt 80 = .ok (.goto (-51), 3) := by decide +kernel
theorem dX4_whatIsAt_83 : decode cX4_whatIsAt 83 = .ok (.iconst 0, 1) := by decide +kernel
theorem dX4_whatIsAt_84 : decode cX4_whatIsAt 84 = .ok (.istore_n 3, 1) := by decide +kernel
theorem dX4_whatIsAt_85 : decode cX4_whatIsAt 85 = .ok (.iload_n 3, 1) := by decide +kernel
theorem dX4_whatIsAt_86 : decode cX4_whatIsAt 86 = .ok (.aload_n 0, 1) := by decide +kernel
theorem dX4_whatIsAt_87 : decode cX4_whatIsAt 87 = .ok (.getfield 28, 3) := by decide +kernel
theorem dX4_whatIsAt_90 : decode cX4_whatIsAt 90 = .ok (.getfield 217, 3) := by decide +kernel
theorem dX4_whatIsAt_93 : decode cX4_whatIsAt 93 = .ok (.if_icmp .ge 38, 3) := by decide +kernel
theorem dX4_whatIsAt_96 : decode cX4_whatIsAt 96 = .ok (.lload_n 1, 1) := by decide +kernel
theorem dX4_whatIsAt_97 : decode cX4_whatIsAt 97 = .ok (.aload_n 0, 1) := by decide +kernel
theorem dX4_whatIsAt_98 : decode cX4_whatIsAt 98 = .ok (.getfield 28, 3) := by decide +kernel
theorem dX4_whatIsAt_101 : decode cX4_whatIsAt 101 = .ok (.getfield 179, 3) := by decide +kernel
theorem dX4_whatIsAt_104 : decode cX4_whatIsAt 104 = .ok (.iload_n 3, 1) := by decide +kernel
theorem dX4_whatIsAt_105 : decode cX4_whatIsAt 105 = .ok (.laload, 1) := by decide +kernel
theorem dX4_whatIsAt_106 : decode cX4_whatIsAt 106 = .ok (.aload_n 0, 1) := by decide +kernel
theorem dX4_whatIsAt_107 : decode cX4_whatIsAt 107 = .ok (.getfield 12, 3) := by decide +kernel
theorem dX4_whatIsAt_110 : decode cX4_whatIsAt 110 = .ok (.getfield 220, 3) := by decide +kernel
theorem dX4_whatIsAt_113 : decode cX4_whatIsAt 113 = .ok (.invokestatic 243, 3) := by decide +kernel
theorem dX4_whatIsAt_116 : decode cX4_whatIsAt 116 = .ok (.ifCond .eq 9, 3) := by decide +kernel
theorem dX4_whatIsAt_119 : decode cX4_whatIsAt 119 = .ok (.sipush 2000, 3) := by decide +kernel
theorem dX4_whatIsAt_122 : decode cX4_whatIsAt 122 = .ok (.iload_n 3, 1) := by decide +kernel
theorem dX4_whatIsAt_123 : decode cX4_whatIsAt 123 = .ok (.iadd, 1) := by decide +kernel
theorem dX4_whatIsAt_124 : decode cX4_whatIsAt 124 = .ok (.ireturn, 1) := by decide +kernel
theorem dX4_whatIsAt_125 : decode cX4_whatIsAt 125 = .ok (.iinc 3 1, 3) := by decide +kernel
theorem dX4_whatIsAt_128 : decode cX4_whatIsAt 128 = .ok (.goto (-43), 3) := by decide +kernel
theorem dX4_whatIsAt_131 : decode cX4_whatIsAt 131 = .ok (.iconst 0, 1) := by decide +kernel
theorem dX4_whatIsAt_132 : decode cX4_whatIsAt 132 = .ok (.ireturn, 1) := by decide +kernel
theorem dX4_isWithin_0 : decode cX4_isWithin 0 = .ok (.lload_n 0, 1) := by decide +kernel
theorem dX4_isWithin_1 : decode cX4_isWithin 1 = .ok (.lload_n 2, 1) := by decide +kernel
theorem dX4_isWithin_2 : decode cX4_isWithin 2 = .ok (.lcmp, 1) := by decide +kernel
theorem dX4_isWithin_3 : decode cX4_isWithin 3 = .ok (.ifCond .lt 17, 3) := by decide +kernel
theorem dX4_isWithin_6 : decode cX4_isWithin 6 = .ok (.lload_n 0, 1) := by decide +kernel
theorem dX4_isWithin_7 : decode cX4_isWithin 7 = .ok (.lload_n 2, 1) := by decide +kernel
theorem dX4_isWithin_8 : decode cX4_isWithin 8 = .ok (.iload 4, 2) := by decide +kernel
theorem dX4_isWithin_10 : decode cX4_isWithin 10 = .ok (.i2l, 1) := by decide +kernel
theorem dX4_isWithin_11 : decode cX4_isWithin 11 = .ok (.ladd, 1) := by decide +kernel
theorem dX4_isWithin_12 : decode cX4_isWithin 12 = .ok (.lcmp, 1) := by decide +kernel
theorem dX4_isWithin_13 : decode cX4_isWithin 13 = .ok (.ifCond .ge 7, 3) := by decide +kernel
theorem dX4_isWithin_16 : decode cX4_isWithin 16 = .ok (.iconst 1, 1) := by decide +kernel
theorem dX4_isWithin_17 : decode cX4_isWithin 17 = .ok (.goto 4, 3) := by decide +kernel
theorem dX4_isWithin_20 : decode cX4_isWithin 20 = .ok (.iconst 0, 1) := by decide +kernel
theorem dX4_isWithin_21 : decode cX4_isWithin 21 = .ok (.ireturn, 1) := by decide +kernel
theorem dX5_init_0 : decode cX5_init 0 = .ok (.aload_n 0, 1) := by decide +kernel
theorem dX5_init_1 : decode cX5_init 1 = .ok (.invokespecial 3, 3) := by decide +kernel
theorem dX5_init_4 : decode cX5_init 4 = .ok (.aload_n 0, 1) := by decide +kernel
theorem dX5_init_5 : decode cX5_init 5 = .ok (.iconst 0, 1) := by decide +kernel
theorem dX5_init_6 : decode cX5_init 6 = .ok (.putfield 9, 3) := by decide +kernel
theorem dX5_init_9 : decode cX5_init 9 = .ok (.aload_n 0, 1) := by decide +kernel
theorem dX5_init_10 : decode cX5_init 10 = .ok (.iconst 0, 1) := by decide +kernel
theorem dX5_init_11 : decode cX5_init 11 = .ok (.putfield 15, 3) := by decide +kernel
theorem dX5_init_14 : decode cX5_init 14 = .ok (.aload_n 0, 1) := by decide +kernel
theorem dX5_init_15 : decode cX5_init 15 = .ok (.bipush 40, 2) := by decide +kernel
theorem dX5_init_17 : decode cX5_init 17 = .ok (.newarray .int, 2) := by decide +kernel
theorem dX5_init_19 : decode cX5_init 19 = .ok (.putfield 18, 3) := by decide +kernel
theorem dX5_init_22 : decode cX5_init 22 = .ok (.aload_n 0, 1) := by decide +kernel
theorem dX5_init_23 : decode cX5_init 23 = .ok (.bipush 40, 2) := by decide +kernel
theorem dX5_init_25 : decode cX5_init 25 = .ok (.newarray .int, 2) := by decide +kernel
theorem dX5_init_27 : decode cX5_init 27 = .ok (.putfield 22, 3) := by decide +kernel
theorem dX5_init_30 : decode cX5_init 30 = .ok (.aload_n 0, 1) := by decide +kernel
theorem dX5_init_31 : decode cX5_init 31 = .ok (.bipush 40, 2) := by decide +kernel
theorem dX5_init_33 : decode cX5_init 33 = .ok (.newarray .boolean, 2) := by decide +kernel
theorem dX5_init_35 : decode cX5_init 35 = .ok (.putfield 25, 3) := by decide +kernel
theorem dX5_init_38 : decode cX5_init 38 = .ok (.return_, 1) := by decide +kernel
theorem dX5_has_0 : decode cX5_has 0 = .ok (.iload_n 1, 1) := by decide +kernel
theorem dX5_has_1 : decode cX5_has 1 = .ok (.ifCond .lt 15, 3) := by decide +kernel
theorem dX5_has_4 : decode cX5_has 4 = .ok (.iload_n 1, 1) := by decide +kernel
theorem dX5_has_5 : decode cX5_has 5 = .ok (.aload_n 0, 1) := by decide +kernel
theorem dX5_has_6 : decode cX5_has 6 = .ok (.getfield 9, 3) := by decide +kernel
theorem dX5_has_9 : decode cX5_has 9 = .ok (.if_icmp .ge 7, 3) := by decide +kernel
theorem dX5_has_12 : decode cX5_has 12 = .ok (.iconst 1, 1) := by decide +kernel
theorem dX5_has_13 : decode cX5_has 13 = .ok (.goto 4, 3) := by decide +kernel
theorem dX5_has_16 : decode cX5_has 16 = .ok (.iconst 0, 1) := by decide +kernel
theorem dX5_has_17 : decode cX5_has 17 = .ok (.ireturn, 1) := by decide +kernel
theorem dX5_hasPool_0 : decode cX5_hasPool 0 = .ok (.aload_n 0, 1) := by decide +kernel
theorem dX5_hasPool_1 : decode cX5_hasPool 1 = .ok (.iload_n 1, 1) := by decide +kernel
theorem dX5_hasPool_2 : decode cX5_hasPool 2 = .ok (.invokevirtual 29, 3) := by decide +kernel
theorem dX5_hasPool_5 : decode cX5_hasPool 5 = .ok (.ifCond .eq 16, 3) := by decide +kernel
theorem dX5_hasPool_8 : decode cX5_hasPool 8 = .ok (.aload_n 0, 1) := by decide +kernel
theorem dX5_hasPool_9 : decode cX5_hasPool 9 = .ok (.getfield 25, 3) := by decide +kernel
theorem dX5_hasPool_12 : decode cX5_hasPool 12 = .ok (.iload_n 1, 1) := by decide +kernel
theorem dX5_hasPool_13 : decode cX5_hasPool 13 = .ok (.baload, 1) := by decide +kernel
theorem dX5_hasPool_14 : decode cX5_hasPool 14 = .ok (.ifCond .eq 7, 3) := by decide +kernel
theorem dX5_hasPool_17 : decode cX5_hasPool 17 = .ok (.iconst 1, 1) := by decide +kernel
theorem dX5_hasPool_18 : decode cX5_hasPool 18 = .ok (.goto 4, 3) := by decide +kernel
theorem dX5_hasPool_21 : decode cX5_hasPool 21 = .ok (.iconst 0, 1) := by decide +kernel
theorem dX5_hasPool_22 : decode cX5_hasPool 22 = .ok (.ireturn, 1) := by decide +kernel
theorem dX5_isSize_0 : decode cX5_isSize 0 = .ok (.iload_n 0, 1) := by decide +kernel
theorem dX5_isSize_1 : decode cX5_isSize 1 = .ok (.ifCond .lt 13, 3) := by decide +kernel
theorem dX5_isSize_4 : decode cX5_isSize 4 = .ok (.iload_n 0, 1) := by decide +kernel
theorem dX5_isSize_5 : decode cX5_isSize 5 = .ok (.ldc 33, 2) := by decide +kernel
theorem dX5_isSize_7 : decode cX5_isSize 7 = .ok (.if_icmp .gt 7, 3) := by decide +kernel
theorem dX5_isSize_10 : decode cX5_isSize 10 = .ok (.iconst 1, 1) := by decide +kernel
theorem dX5_isSize_11 : decode cX5_isSize 11 = .ok (.goto 4, 3) := by decide +kernel
theorem dX5_isSize_14 : decode cX5_isSize 14 = .ok (.iconst 0, 1) := by decide +kernel
theorem dX5_isSize_15 : decode cX5_isSize 15 = .ok (.ireturn, 1) := by decide +kernel
theorem dX5_append_0 : decode cX5_append 0 = .ok (.aload_n 0, 1) := by decide +kernel
theorem dX5_append_1 : decode cX5_append 1 = .ok (.getfield 9, 3) := by decide +kernel
theorem dX5_append_4 : decode cX5_append 4 = .ok (.bipush 40, 2) := by decide +kernel
theorem dX5_append_6 : decode cX5_append 6 = .ok (.if_icmp .ge 20, 3) := by decide +kernel
theorem dX5_append_9 : decode cX5_append 9 = .ok (.iload_n 1, 1) := by decide +kernel
theorem dX5_append_10 : decode cX5_append 10 = .ok (.invokestatic 34, 3) := by decide +kernel
theorem dX5_append_13 : decode cX5_append 13 = .ok (.ifCond .eq 13, 3) := by decide +kernel
theorem dX5_append_16 : decode cX5_append 16 = .ok (.iload_n 2, 1) := by decide +kernel
theorem dX5_append_17 : decode cX5_append 17 = .ok (.ifCond .lt 9, 3) := by decide +kernel
theorem dX5_append_20 : decode cX5_append 20 = .ok (.iload_n 2, 1) := by decide +kernel
theorem dX5_append_21 : decode cX5_append 21 = .ok (.bipush 12, 2) := by decide +kernel
theorem dX5_append_23 : decode cX5_append 23 = .ok (.if_icmp .le 5, 3) := by decide +kernel
theorem dX5_append_26 : decode cX5_append 26 = .ok (.iconst (-1), 1) := by decide +kernel
theorem dX5_append_27 : decode cX5_append 27 = .ok (.ireturn, 1) := by decide +kernel
theorem dX5_append_28 : decode cX5_append 28 = .ok (.aload_n 0, 1) := by decide +kernel
theorem dX5_append_29 : decode cX5_append 29 = .ok (.getfield 9, 3) := by decide +kernel
theorem dX5_append_32 : decode cX5_append 32 = .ok (.istore 4, 2) := by decide +kernel
theorem dX5_append_34 : decode cX5_append 34 = .ok (.aload_n 0, 1) := by decide +kernel
theorem dX5_append_35 : decode cX5_append 35 = .ok (.getfield 18, 3) := by decide +kernel
theorem dX5_append_38 : decode cX5_append 38 = .ok (.iload 4, 2) := by decide +kernel
theorem dX5_append_40 : decode cX5_append 40 = .ok (.iload_n 1, 1) := by decide +kernel
theorem dX5_append_41 : decode cX5_append 41 = .ok (.iastore, 1) := by decide +kernel
theorem dX5_append_42 : decode cX5_append 42 = .ok (.aload_n 0, 1) := by decide +kernel
theorem dX5_append_43 : decode cX5_append 43 = .ok (.getfield 22, 3) := by decide +kernel
theorem dX5_append_46 : decode cX5_append 46 = .ok (.iload 4, 2) := by decide +kernel
theorem dX5_append_48 : decode cX5_append 48 = .ok (.iconst 1, 1) := by decide +kernel
theorem dX5_append_49 : decode cX5_append 49 = .ok (.iload_n 2, 1) := by decide +kernel
theorem dX5_append_50 : decode cX5_append 50 = .ok (.ishl, 1) := by decide +kernel
theorem dX5_append_51 : decode cX5_append 51 = .ok (.iastore, 1) := by decide +kernel
theorem dX5_append_52 : decode cX5_append 52 = .ok (.aload_n 0, 1) := by decide +kernel
theorem dX5_append_53 : decode cX5_append 53 = .ok (.getfield 25, 3) := by decide +kernel
theorem dX5_append_56 : decode cX5_append 56 = .ok (.iload 4, 2) := by decide +kernel
theorem dX5_append_58 : decode cX5_append 58 = .ok (.iload_n 3, 1) := by decide +kernel
theorem dX5_append_59 : decode cX5_append 59 = .ok (.bastore, 1) := by decide +kernel
theorem dX5_append_60 : decode cX5_append 60 = .ok (.iload_n 3, 1) := by decide +kernel
theorem dX5_append_61 : decode cX5_append 61 = .ok (.ifCond .eq 13, 3) := by decide +kernel
theorem dX5_append_64 : decode cX5_append 64 = .ok (.aload_n 0, 1) := by decide +kernel
theorem dX5_append_65 : decode cX5_append 65 = .ok (.dup, 1) := by decide +kernel
theorem dX5_append_66 : decode cX5_append 66 = .ok (.getfield 15, 3) := by decide +kernel
theorem dX5_append_69 : decode cX5_append 69 = .ok (.iconst 1, 1) := by decide +kernel
theorem dX5_append_70 : decode cX5_append 70 = .ok (.iadd, 1) := by decide +kernel
theorem dX5_append_71 : decode cX5_append 71 = .ok (.putfield 15, 3) := by decide +kernel
theorem dX5_append_74 : decode cX5_append 74 = .ok (.aload_n 0, 1) := by decide +kernel
theorem dX5_append_75 : decode cX5_append 75 = .ok (.dup, 1) := by decide +kernel
theorem dX5_append_76 : decode cX5_append 76 = .ok (.getfield 9, 3) := by decide +kernel
theorem dX5_append_79 : decode cX5_append 79 = .ok (.iconst 1, 1) := by decide +kernel
theorem dX5_append_80 : decode cX5_append 80 = .ok (.iadd, 1) := by decide +kernel
theorem dX5_append_81 : decode cX5_append 81 = .ok (.putfield 9, 3) := by decide +kernel
theorem dX5_append_84 : decode cX5_append 84 = .ok (.iload 4, 2) := by decide +kernel
theorem dX5_append_86 : decode cX5_append 86 = .ok (.ireturn, 1) := by decide +kernel
theorem dX5_copyFrom_0 : decode cX5_copyFrom 0 = .ok (.aload_n 0, 1) := by decide +kernel
theorem dX5_copyFrom_1 : decode cX5_copyFrom 1 = .ok (.aload_n 1, 1) := by decide +kernel
theorem dX5_copyFrom_2 : decode cX5_copyFrom 2 = .ok (.getfield 9, 3) := by decide +kernel
theorem dX5_copyFrom_5 : decode cX5_copyFrom 5 = .ok (.putfield 9, 3) := by decide +kernel
theorem dX5_copyFrom_8 : decode cX5_copyFrom 8 = .ok (.aload_n 0, 1) := by decide +kernel
theorem dX5_copyFrom_9 : decode cX5_copyFrom 9 = .ok (.aload_n 1, 1) := by decide +kernel
theorem dX5_copyFrom_10 : decode cX5_copyFrom 10 = .ok (.getfield 15, 3) := by decide +kernel
theorem dX5_copyFrom_13 : decode cX5_copyFrom 13 = .ok (.putfield 15, 3) := by decide +kernel
theorem dX5_copyFrom_16 : decode cX5_copyFrom 16 = .ok (.iconst 0, 1) := by decide +kernel
theorem dX5_copyFrom_17 : decode cX5_copyFrom 17 = .ok (.istore_n 2, 1) := by decide +kernel
theorem dX5_copyFrom_18 : decode cX5_copyFrom 18 = .ok (.iload_n 2, 1) := by decide +kernel
theorem dX5_copyFrom_19 : decode cX5_copyFrom 19 = .ok (.bipush 40, 2) := by decide +kernel
theorem dX5_copyFrom_21 : decode cX5_copyFrom 21 = .ok (.if_icmp .ge 45, 3) := by decide +kernel
theorem dX5_copyFrom_24 : decode cX5_copyFrom 24 = .ok (.aload_n 0, 1) := by decide +kernel
theorem dX5_copyFrom_25 : decode cX5_copyFrom 25 = .ok (.getfield 18, 3) := by decide +kernel
theorem dX5_copyFrom_28 : decode cX5_copyFrom 28 = .ok (.iload_n 2, 1) := by decide +kernel
theorem dX5_copyFrom_29 : decode cX5_copyFrom 29 = .ok (.aload_n 1, 1) := by decide +kernel
theorem dX5_copyFrom_30 : decode cX5_copyFrom 30 = .ok (.getfield 18, 3) := by decide +kernel
theorem dX5_copyFrom_33 : decode cX5_copyFrom 33 = .ok (.iload_n 2, 1) := by decide +kernel
theorem dX5_copyFrom_34 : decode cX5_copyFrom 34 = .ok (.iaload, 1) := by decide +kernel
theorem dX5_copyFrom_35 : decode cX5_copyFrom 35 = .ok (.iastore, 1) := by decide +kernel
theorem dX5_copyFrom_36 : decode cX5_copyFrom 36 = .ok (.aload_n 0, 1) := by decide +kernel
theorem dX5_copyFrom_37 : decode cX5_copyFrom 37 = .ok (.getfield 22, 3) := by decide +kernel
theorem dX5_copyFrom_40 : decode cX5_copyFrom 40 = .ok (.iload_n 2, 1) := by decide +kernel
theorem dX5_copyFrom_41 : decode cX5_copyFrom 41 = .ok (.aload_n 1, 1) := by decide +kernel
theorem dX5_copyFrom_42 : decode cX5_copyFrom 42 = .ok (.getfield 22, 3) := by decide +kernel
theorem dX5_copyFrom_45 : decode cX5_copyFrom 45 = .ok (.iload_n 2, 1) := by decide +kernel
theorem dX5_copyFrom_46 : decode cX5_copyFrom 46 = .ok (.iaload, 1) := by decide +kernel
theorem dX5_copyFrom_47 : decode cX5_copyFrom 47 = .ok (.iastore, 1) := by decide +kernel
theorem dX5_copyFrom_48 : decode cX5_copyFrom 48 = .ok (.aload_n 0, 1) := by decide +kernel
theorem dX5_copyFrom_49 : decode cX5_copyFrom 49 = .ok (.getfield 25, 3) := by decide +kernel
theorem dX5_copyFrom_52 : decode cX5_copyFrom 52 = .ok (.iload_n 2, 1) := by decide +kernel
theorem dX5_copyFrom_53 : decode cX5_copyFrom 53 = .ok (.aload_n 1, 1) := by decide +kernel
theorem dX5_copyFrom_54 : decode cX5_copyFrom 54 = .ok (.getfield 25, 3) := by decide +kernel
theorem dX5_copyFrom_57 : decode cX5_copyFrom 57 = .ok (.iload_n 2, 1) := by decide +kernel
theorem dX5_copyFrom_58 : decode cX5_copyFrom 58 = .ok (.baload, 1) := by decide +kernel
theorem dX5_copyFrom_59 : decode cX5_copyFrom 59 = .ok (.bastore, 1) := by decide +kernel
theorem dX5_copyFrom_60 : decode cX5_copyFrom 60 = .ok (.iinc 2 1, 3) := by decide +kernel
theorem dX5_copyFrom_63 : decode cX5_copyFrom 63 = .ok (.goto (-45), 3) := by decide +kernel
theorem dX5_copyFrom_66 : decode cX5_copyFrom 66 = .ok (.return_, 1) := by decide +kernel
theorem dX6_init_0 : decode cX6_init 0 = .ok (.aload_n 0, 1) := by decide +kernel
theorem dX6_init_1 : decode cX6_init 1 = .ok (.invokespecial 3, 3) := by decide +kernel
theorem dX6_init_4 : decode cX6_init 4 = .ok (.aload_n 0, 1) := by decide +kernel
theorem dX6_init_5 : decode cX6_init 5 = .ok (.iconst 0, 1) := by decide +kernel
theorem dX6_init_6 : decode cX6_init 6 = .ok (.putfield 9, 3) := by decide +kernel
theorem dX6_init_9 : decode cX6_init 9 = .ok (.aload_n 0, 1) := by decide +kernel
theorem dX6_init_10 : decode cX6_init 10 = .ok (.iconst 0, 1) := by decide +kernel
theorem dX6_init_11 : decode cX6_init 11 = .ok (.putfield 15, 3) := by decide +kernel
theorem dX6_init_14 : decode cX6_init 14 = .ok (.aload_n 0, 1) := by decide +kernel
theorem dX6_init_15 : decode cX6_init 15 = .ok (.bipush 16, 2) := by decide +kernel
theorem dX6_init_17 : decode cX6_init 17 = .ok (.newarray .int, 2) := by decide +kernel
theorem dX6_init_19 : decode cX6_init 19 = .ok (.putfield 18, 3) := by decide +kernel
theorem dX6_init_22 : decode cX6_init 22 = .ok (.aload_n 0, 1) := by decide +kernel
theorem dX6_init_23 : decode cX6_init 23 = .ok (.bipush 16, 2) := by decide +kernel
theorem dX6_init_25 : decode cX6_init 25 = .ok (.newarray .int, 2) := by decide +kernel
theorem dX6_init_27 : decode cX6_init 27 = .ok (.putfield 22, 3) := by decide +kernel
theorem dX6_init_30 : decode cX6_init 30 = .ok (.aload_n 0, 1) := by decide +kernel
theorem dX6_init_31 : decode cX6_init 31 = .ok (.bipush 16, 2) := by decide +kernel
theorem dX6_init_33 : decode cX6_init 33 = .ok (.newarray .int, 2) := by decide +kernel
theorem dX6_init_35 : decode cX6_init 35 = .ok (.putfield 25, 3) := by decide +kernel
theorem dX6_init_38 : decode cX6_init 38 = .ok (.aload_n 0, 1) := by decide +kernel
theorem dX6_init_39 : decode cX6_init 39 = .ok (.bipush 16, 2) := by decide +kernel
theorem dX6_init_41 : decode cX6_init 41 = .ok (.newarray .int, 2) := by decide +kernel
theorem dX6_init_43 : decode cX6_init 43 = .ok (.putfield 28, 3) := by decide +kernel
theorem dX6_init_46 : decode cX6_init 46 = .ok (.aload_n 0, 1) := by decide +kernel
theorem dX6_init_47 : decode cX6_init 47 = .ok (.bipush 16, 2) := by decide +kernel
theorem dX6_init_49 : decode cX6_init 49 = .ok (.newarray .int, 2) := by decide +kernel
theorem dX6_init_51 : decode cX6_init 51 = .ok (.putfield 31, 3) := by decide +kernel
theorem dX6_init_54 : decode cX6_init 54 = .ok (.aload_n 0, 1) := by decide +kernel
theorem dX6_init_55 : decode cX6_init 55 = .ok (.bipush 16, 2) := by decide +kernel
theorem dX6_init_57 : decode cX6_init 57 = .ok (.newarray .int, 2) := by decide +kernel
theorem dX6_init_59 : decode cX6_init 59 = .ok (.putfield 34, 3) := by decide +kernel
theorem dX6_init_62 : decode cX6_init 62 = .ok (.aload_n 0, 1) := by decide +kernel
theorem dX6_init_63 : decode cX6_init 63 = .ok (.bipush 16, 2) := by decide +kernel
theorem dX6_init_65 : decode cX6_init 65 = .ok (.newarray .long, 2) := by decide +kernel
theorem dX6_init_67 : decode cX6_init 67 = .ok (.putfield 37, 3) := by decide +kernel
theorem dX6_init_70 : decode cX6_init 70 = .ok (.aload_n 0, 1) := by decide +kernel
theorem dX6_init_71 : decode cX6_init 71 = .ok (.bipush 40, 2) := by decide +kernel
theorem dX6_init_73 : decode cX6_init 73 = .ok (.newarray .int, 2) := by decide +kernel
theorem dX6_init_75 : decode cX6_init 75 = .ok (.putfield 41, 3) := by decide +kernel
theorem dX6_init_78 : decode cX6_init 78 = .ok (.aload_n 0, 1) := by decide +kernel
theorem dX6_init_79 : decode cX6_init 79 = .ok (.sipush 2400, 3) := by decide +kernel
theorem dX6_init_82 : decode cX6_init 82 = .ok (.newarray .int, 2) := by decide +kernel
theorem dX6_init_84 : decode cX6_init 84 = .ok (.putfield 44, 3) := by decide +kernel
theorem dX6_init_87 : decode cX6_init 87 = .ok (.return_, 1) := by decide +kernel
theorem dX6_has_0 : decode cX6_has 0 = .ok (.iload_n 1, 1) := by decide +kernel
theorem dX6_has_1 : decode cX6_has 1 = .ok (.ifCond .lt 15, 3) := by decide +kernel
theorem dX6_has_4 : decode cX6_has 4 = .ok (.iload_n 1, 1) := by decide +kernel
theorem dX6_has_5 : decode cX6_has 5 = .ok (.aload_n 0, 1) := by decide +kernel
theorem dX6_has_6 : decode cX6_has 6 = .ok (.getfield 9, 3) := by decide +kernel
theorem dX6_has_9 : decode cX6_has 9 = .ok (.if_icmp .ge 7, 3) := by decide +kernel
theorem dX6_has_12 : decode cX6_has 12 = .ok (.iconst 1, 1) := by decide +kernel
theorem dX6_has_13 : decode cX6_has 13 = .ok (.goto 4, 3) := by decide +kernel
theorem dX6_has_16 : decode cX6_has 16 = .ok (.iconst 0, 1) := by decide +kernel
theorem dX6_has_17 : decode cX6_has 17 = .ok (.ireturn, 1) := by decide +kernel
theorem dX6_clear_0 : decode cX6_clear 0 = .ok (.aload_n 0, 1) := by decide +kernel
theorem dX6_clear_1 : decode cX6_clear 1 = .ok (.iconst 0, 1) := by decide +kernel
theorem dX6_clear_2 : decode cX6_clear 2 = .ok (.putfield 9, 3) := by decide +kernel
theorem dX6_clear_5 : decode cX6_clear 5 = .ok (.aload_n 0, 1) := by decide +kernel
theorem dX6_clear_6 : decode cX6_clear 6 = .ok (.iconst 0, 1) := by decide +kernel
theorem dX6_clear_7 : decode cX6_clear 7 = .ok (.putfield 15, 3) := by decide +kernel
theorem dX6_clear_10 : decode cX6_clear 10 = .ok (.aload_n 0, 1) := by decide +kernel
theorem dX6_clear_11 : decode cX6_clear 11 = .ok (.getfield 41, 3) := by decide +kernel
theorem dX6_clear_14 : decode cX6_clear 14 = .ok (.iconst 0, 1) := by decide +kernel
theorem dX6_clear_15 : decode cX6_clear 15 = .ok (.invokestatic 47, 3) := by decide +kernel
theorem dX6_clear_18 : decode cX6_clear 18 = .ok (.aload_n 0, 1) := by decide +kernel
theorem dX6_clear_19 : decode cX6_clear 19 = .ok (.getfield 44, 3) := by decide +kernel
theorem dX6_clear_22 : decode cX6_clear 22 = .ok (.iconst (-1), 1) := by decide +kernel
theorem dX6_clear_23 : decode cX6_clear 23 = .ok (.invokestatic 47, 3) := by decide +kernel
theorem dX6_clear_26 : decode cX6_clear 26 = .ok (.return_, 1) := by decide +kernel
theorem dX6_numberOf_0 : decode cX6_numberOf 0 = .ok (.aload_n 0, 1) := by decide +kernel
theorem dX6_numberOf_1 : decode cX6_numberOf 1 = .ok (.getfield 44, 3) := by decide +kernel
theorem dX6_numberOf_4 : decode cX6_numberOf 4 = .ok (.iload_n 1, 1) := by decide +kernel
theorem dX6_numberOf_5 : decode cX6_numberOf 5 = .ok (.bipush 60, 2) := by decide +kernel
theorem dX6_numberOf_7 : decode cX6_numberOf 7 = .ok (.imul, 1) := by decide +kernel
theorem dX6_numberOf_8 : decode cX6_numberOf 8 = .ok (.iload_n 2, 1) := by decide +kernel
theorem dX6_numberOf_9 : decode cX6_numberOf 9 = .ok (.iadd, 1) := by decide +kernel
theorem dX6_numberOf_10 : decode cX6_numberOf 10 = .ok (.iaload, 1) := by decide +kernel
theorem dX6_numberOf_11 : decode cX6_numberOf 11 = .ok (.ireturn, 1) := by decide +kernel
theorem dX6_isMade_0 : decode cX6_isMade 0 = .ok (.aload_n 0, 1) := by decide +kernel
theorem dX6_isMade_1 : decode cX6_isMade 1 = .ok (.aload_n 0, 1) := by decide +kernel
theorem dX6_isMade_2 : decode cX6_isMade 2 = .ok (.iload_n 1, 1) := by decide +kernel
theorem dX6_isMade_3 : decode cX6_isMade 3 = .ok (.iload_n 2, 1) := by decide +kernel
theorem dX6_isMade_4 : decode cX6_isMade 4 = .ok (.invokevirtual 53, 3) := by decide +kernel
theorem dX6_isMade_7 : decode cX6_isMade 7 = .ok (.invokevirtual 57, 3) := by decide +kernel
theorem dX6_isMade_10 : decode cX6_isMade 10 = .ok (.ireturn, 1) := by decide +kernel
theorem dX6_isWanted_0 : decode cX6_isWanted 0 = .ok (.aload_n 0, 1) := by decide +kernel
theorem dX6_isWanted_1 : decode cX6_isWanted 1 = .ok (.iload_n 1, 1) := by decide +kernel
theorem dX6_isWanted_2 : decode cX6_isWanted 2 = .ok (.iload_n 2, 1) := by decide +kernel
theorem dX6_isWanted_3 : decode cX6_isWanted 3 = .ok (.invokevirtual 53, 3) := by decide +kernel
theorem dX6_isWanted_6 : decode cX6_isWanted 6 = .ok (.aload_n 0, 1) := by decide +kernel
theorem dX6_isWanted_7 : decode cX6_isWanted 7 = .ok (.getfield 9, 3) := by decide +kernel
theorem dX6_isWanted_10 : decode cX6_isWanted 10 = .ok (.if_icmp .lt 7, 3) := by decide +kernel
theorem dX6_isWanted_13 : decode cX6_isWanted 13 = .ok (.iconst 1, 1) := by decide +kernel
theorem dX6_isWanted_14 : decode cX6_isWanted 14 = .ok (.goto 4, 3) := by decide +kernel
theorem dX6_isWanted_17 : decode cX6_isWanted 17 = .ok (.iconst 0, 1) := by decide +kernel
theorem dX6_isWanted_18 : decode cX6_isWanted 18 = .ok (.ireturn, 1) := by decide +kernel
theorem dX6_want_0 : decode cX6_want 0 = .ok (.aload_n 0, 1) := by decide +kernel
theorem dX6_want_1 : decode cX6_want 1 = .ok (.getfield 15, 3) := by decide +kernel
theorem dX6_want_4 : decode cX6_want 4 = .ok (.sipush 2400, 3) := by decide +kernel
theorem dX6_want_7 : decode cX6_want 7 = .ok (.if_icmp .lt 4, 3) := by decide +kernel
theorem dX6_want_10 : decode cX6_want 10 = .ok (.return_, 1) := by decide +kernel
theorem dX6_want_11 : decode cX6_want 11 = .ok (.aload_n 0, 1) := by decide +kernel
theorem dX6_want_12 : decode cX6_want 12 = .ok (.getfield 15, 3) := by decide +kernel
theorem dX6_want_15 : decode cX6_want 15 = .ok (.aload_n 0, 1) := by decide +kernel
theorem dX6_want_16 : decode cX6_want 16 = .ok (.getfield 18, 3) := by decide +kernel
theorem dX6_want_19 : decode cX6_want 19 = .ok (.arraylength, 1) := by decide +kernel
theorem dX6_want_20 : decode cX6_want 20 = .ok (.if_icmp .lt 7, 3) := by decide +kernel
theorem dX6_want_23 : decode cX6_want 23 = .ok (.aload_n 0, 1) := by decide +kernel
theorem dX6_want_24 : decode cX6_want 24 = .ok (.invokevirtual 61, 3) := by decide +kernel
theorem dX6_want_27 : decode cX6_want 27 = .ok (.aload_n 0, 1) := by decide +kernel
theorem dX6_want_28 : decode cX6_want 28 = .ok (.getfield 15, 3) := by decide +kernel
theorem dX6_want_31 : decode cX6_want 31 = .ok (.istore 5, 2) := by decide +kernel
theorem dX6_want_33 : decode cX6_want 33 = .ok (.aload_n 0, 1) := by decide +kernel
theorem dX6_want_34 : decode cX6_want 34 = .ok (.getfield 18, 3) := by decide +kernel
theorem dX6_want_37 : decode cX6_want 37 = .ok (.iload 5, 2) := by decide +kernel
theorem dX6_want_39 : decode cX6_want 39 = .ok (.iload_n 1, 1) := by decide +kernel
theorem dX6_want_40 : decode cX6_want 40 = .ok (.iastore, 1) := by decide +kernel
theorem dX6_want_41 : decode cX6_want 41 = .ok (.aload_n 0, 1) := by decide +kernel
theorem dX6_want_42 : decode cX6_want 42 = .ok (.getfield 22, 3) := by decide +kernel
theorem dX6_want_45 : decode cX6_want 45 = .ok (.iload 5, 2) := by decide +kernel
theorem dX6_want_47 : decode cX6_want 47 = .ok (.iload_n 2, 1) := by decide +kernel
theorem dX6_want_48 : decode cX6_want 48 = .ok (.iastore, 1) := by decide +kernel
theorem dX6_want_49 : decode cX6_want 49 = .ok (.aload_n 0, 1) := by decide +kernel
theorem dX6_want_50 : decode cX6_want 50 = .ok (.getfield 25, 3) := by decide +kernel
theorem dX6_want_53 : decode cX6_want 53 = .ok (.iload 5, 2) := by decide +kernel
theorem dX6_want_55 : decode cX6_want 55 = .ok (.iload_n 3, 1) := by decide +kernel
theorem dX6_want_56 : decode cX6_want 56 = .ok (.iastore, 1) := by decide +kernel
theorem dX6_want_57 : decode cX6_want 57 = .ok (.aload_n 0, 1) := by decide +kernel
theorem dX6_want_58 : decode cX6_want 58 = .ok (.getfield 28, 3) := by decide +kernel
theorem dX6_want_61 : decode cX6_want 61 = .ok (.iload 5, 2) := by decide +kernel
theorem dX6_want_63 : decode cX6_want 63 = .ok (.iload 4, 2) := by decide +kernel
theorem dX6_want_65 : decode cX6_want 65 = .ok (.iastore, 1) := by decide +kernel
theorem dX6_want_66 : decode cX6_want 66 = .ok (.aload_n 0, 1) := by decide +kernel
theorem dX6_want_67 : decode cX6_want 67 = .ok (.getfield 31, 3) := by decide +kernel
theorem dX6_want_70 : decode cX6_want 70 = .ok (.iload 5, 2) := by decide +kernel
theorem dX6_want_72 : decode cX6_want 72 = .ok (.iconst 0, 1) := by decide +kernel
theorem dX6_want_73 : decode cX6_want 73 = .ok (.iastore, 1) := by decide +kernel
theorem dX6_want_74 : decode cX6_want 74 = .ok (.aload_n 0, 1) := by decide +kernel
theorem dX6_want_75 : decode cX6_want 75 = .ok (.getfield 44, 3) := by decide +kernel
theorem dX6_want_78 : decode cX6_want 78 = .ok (.iload_n 1, 1) := by decide +kernel
theorem dX6_want_79 : decode cX6_want 79 = .ok (.bipush 60, 2) := by decide +kernel
theorem dX6_want_81 : decode cX6_want 81 = .ok (.imul, 1) := by decide +kernel
theorem dX6_want_82 : decode cX6_want 82 = .ok (.iload_n 2, 1) := by decide +kernel
theorem dX6_want_83 : decode cX6_want 83 = .ok (.iadd, 1) := by decide +kernel
theorem dX6_want_84 : decode cX6_want 84 = .ok (.iload 5, 2) := by decide +kernel
theorem dX6_want_86 : decode cX6_want 86 = .ok (.iastore, 1) := by decide +kernel
theorem dX6_want_87 : decode cX6_want 87 = .ok (.aload_n 0, 1) := by decide +kernel
theorem dX6_want_88 : decode cX6_want 88 = .ok (.dup, 1) := by decide +kernel
theorem dX6_want_89 : decode cX6_want 89 = .ok (.getfield 15, 3) := by decide +kernel
theorem dX6_want_92 : decode cX6_want 92 = .ok (.iconst 1, 1) := by decide +kernel
theorem dX6_want_93 : decode cX6_want 93 = .ok (.iadd, 1) := by decide +kernel
theorem dX6_want_94 : decode cX6_want 94 = .ok (.putfield 15, 3) := by decide +kernel
theorem dX6_want_97 : decode cX6_want 97 = .ok (.return_, 1) := by decide +kernel
theorem dX6_grow_0 : decode cX6_grow 0 = .ok (.sipush 2400, 3) := by decide +kernel
theorem dX6_grow_3 : decode cX6_grow 3 = .ok (.aload_n 0, 1) := by decide +kernel
theorem dX6_grow_4 : decode cX6_grow 4 = .ok (.getfield 18, 3) := by decide +kernel
theorem dX6_grow_7 : decode cX6_grow 7 = .ok (.arraylength, 1) := by decide +kernel
theorem dX6_grow_8 : decode cX6_grow 8 = .ok (.iconst 2, 1) := by decide +kernel
theorem dX6_grow_9 : decode cX6_grow 9 = .ok (.imul, 1) := by decide +kernel
theorem dX6_grow_10 : decode cX6_grow 10 = .ok (.invokestatic 64, 3) := by decide +kernel
theorem dX6_grow_13 : decode cX6_grow 13 = .ok (.istore_n 1, 1) := by decide +kernel
theorem dX6_grow_14 : decode cX6_grow 14 = .ok (.aload_n 0, 1) := by decide +kernel
theorem dX6_grow_15 : decode cX6_grow 15 = .ok (.aload_n 0, 1) := by decide +kernel
theorem dX6_grow_16 : decode cX6_grow 16 = .ok (.getfield 18, 3) := by decide +kernel
theorem dX6_grow_19 : decode cX6_grow 19 = .ok (.iload_n 1, 1) := by decide +kernel
theorem dX6_grow_20 : decode cX6_grow 20 = .ok (.invokestatic 69, 3) := by decide +kernel
theorem dX6_grow_23 : decode cX6_grow 23 = .ok (.putfield 18, 3) := by decide +kernel
theorem dX6_grow_26 : decode cX6_grow 26 = .ok (.aload_n 0, 1) := by decide +kernel
theorem dX6_grow_27 : decode cX6_grow 27 = .ok (.aload_n 0, 1) := by decide +kernel
theorem dX6_grow_28 : decode cX6_grow 28 = .ok (.getfield 22, 3) := by decide +kernel
theorem dX6_grow_31 : decode cX6_grow 31 = .ok (.iload_n 1, 1) := by decide +kernel
theorem dX6_grow_32 : decode cX6_grow 32 = .ok (.invokestatic 69, 3) := by decide +kernel
theorem dX6_grow_35 : decode cX6_grow 35 = .ok (.putfield 22, 3) := by decide +kernel
theorem dX6_grow_38 : decode cX6_grow 38 = .ok (.aload_n 0, 1) := by decide +kernel
theorem dX6_grow_39 : decode cX6_grow 39 = .ok (.aload_n 0, 1) := by decide +kernel
theorem dX6_grow_40 : decode cX6_grow 40 = .ok (.getfield 25, 3) := by decide +kernel
theorem dX6_grow_43 : decode cX6_grow 43 = .ok (.iload_n 1, 1) := by decide +kernel
theorem dX6_grow_44 : decode cX6_grow 44 = .ok (.invokestatic 69, 3) := by decide +kernel
theorem dX6_grow_47 : decode cX6_grow 47 = .ok (.putfield 25, 3) := by decide +kernel
theorem dX6_grow_50 : decode cX6_grow 50 = .ok (.aload_n 0, 1) := by decide +kernel
theorem dX6_grow_51 : decode cX6_grow 51 = .ok (.aload_n 0, 1) := by decide +kernel
theorem dX6_grow_52 : decode cX6_grow 52 = .ok (.getfield 28, 3) := by decide +kernel
theorem dX6_grow_55 : decode cX6_grow 55 = .ok (.iload_n 1, 1) := by decide +kernel
theorem dX6_grow_56 : decode cX6_grow 56 = .ok (.invokestatic 69, 3) := by decide +kernel
theorem dX6_grow_59 : decode cX6_grow 59 = .ok (.putfield 28, 3) := by decide +kernel
theorem dX6_grow_62 : decode cX6_grow 62 = .ok (.aload_n 0, 1) := by decide +kernel
theorem dX6_grow_63 : decode cX6_grow 63 = .ok (.aload_n 0, 1) := by decide +kernel
theorem dX6_grow_64 : decode cX6_grow 64 = .ok (.getfield 31, 3) := by decide +kernel
theorem dX6_grow_67 : decode cX6_grow 67 = .ok (.iload_n 1, 1) := by decide +kernel
theorem dX6_grow_68 : decode cX6_grow 68 = .ok (.invokestatic 69, 3) := by decide +kernel
theorem dX6_grow_71 : decode cX6_grow 71 = .ok (.putfield 31, 3) := by decide +kernel
theorem dX6_grow_74 : decode cX6_grow 74 = .ok (.aload_n 0, 1) := by decide +kernel
theorem dX6_grow_75 : decode cX6_grow 75 = .ok (.aload_n 0, 1) := by decide +kernel
theorem dX6_grow_76 : decode cX6_grow 76 = .ok (.getfield 34, 3) := by decide +kernel
theorem dX6_grow_79 : decode cX6_grow 79 = .ok (.iload_n 1, 1) := by decide +kernel
theorem dX6_grow_80 : decode cX6_grow 80 = .ok (.invokestatic 69, 3) := by decide +kernel
theorem dX6_grow_83 : decode cX6_grow 83 = .ok (.putfield 34, 3) := by decide +kernel
theorem dX6_grow_86 : decode cX6_grow 86 = .ok (.aload_n 0, 1) := by decide +kernel
theorem dX6_grow_87 : decode cX6_grow 87 = .ok (.aload_n 0, 1) := by decide +kernel
theorem dX6_grow_88 : decode cX6_grow 88 = .ok (.getfield 37, 3) := by decide +kernel
theorem dX6_grow_91 : decode cX6_grow 91 = .ok (.iload_n 1, 1) := by decide +kernel
theorem dX6_grow_92 : decode cX6_grow 92 = .ok (.invokestatic 73, 3) := by decide +kernel
theorem dX6_grow_95 : decode cX6_grow 95 = .ok (.putfield 37, 3) := by decide +kernel
theorem dX6_grow_98 : decode cX6_grow 98 = .ok (.return_, 1) := by decide +kernel
theorem dX6_makeWanted_0 : decode cX6_makeWanted 0 = .ok (.aload_n 0, 1) := by decide +kernel
theorem dX6_makeWanted_1 : decode cX6_makeWanted 1 = .ok (.getfield 9, 3) := by decide +kernel
theorem dX6_makeWanted_4 : decode cX6_makeWanted 4 = .ok (.aload_n 0, 1) := by decide +kernel
theorem dX6_makeWanted_5 : decode cX6_makeWanted 5 = .ok (.getfield 15, 3) := by decide +kernel
theorem dX6_makeWanted_8 : decode cX6_makeWanted 8 = .ok (.if_icmp .ne 5, 3) := by decide +kernel
theorem dX6_makeWanted_11 : decode cX6_makeWanted 11 = .ok (.iconst 0, 1) := by decide +kernel
theorem dX6_makeWanted_12 : decode cX6_makeWanted 12 = .ok (.ireturn, 1) := by decide +kernel
theorem dX6_makeWanted_13 : decode cX6_makeWanted 13 = .ok (.aload_n 0, 1) := by decide +kernel
theorem dX6_makeWanted_14 : decode cX6_makeWanted 14 = .ok (.getfield 9, 3) := by decide +kernel
theorem dX6_makeWanted_17 : decode cX6_makeWanted 17 = .ok (.istore_n 1, 1) := by decide +kernel
theorem dX6_makeWanted_18 : decode cX6_makeWanted 18 = .ok (.iload_n 1, 1) := by decide +kernel
theorem dX6_makeWanted_19 : decode cX6_makeWanted 19 = .ok (.aload_n 0, 1) := by decide +kernel
theorem dX6_makeWanted_20 : decode cX6_makeWanted 20 = .ok (.getfield 15, 3) := by decide +kernel
theorem dX6_makeWanted_23 : decode cX6_makeWanted 23 = .ok (.if_icmp .ge 41, 3) := by decide +kernel
theorem dX6_makeWanted_26 : decode cX6_makeWanted 26 = .ok (.aload_n 0, 1) := by decide +kernel
theorem dX6_makeWanted_27 : decode cX6_makeWanted 27 = .ok (.getfield 34, 3) := by decide +kernel
theorem dX6_makeWanted_30 : decode cX6_makeWanted 30 = .ok (.iload_n 1, 1) := by decide +kernel
theorem dX6_makeWanted_31 : decode cX6_makeWanted 31 = .ok (.aload_n 0, 1) := by decide +kernel
theorem dX6_makeWanted_32 : decode cX6_makeWanted 32 = .ok (.getfield 41, 3) := by decide +kernel
theorem dX6_makeWanted_35 : decode cX6_makeWanted 35 = .ok (.aload_n 0, 1) := by decide +kernel
theorem dX6_makeWanted_36 : decode cX6_makeWanted 36 = .ok (.getfield 18, 3) := by decide +kernel
theorem dX6_makeWanted_39 : decode cX6_makeWanted 39 = .ok (.iload_n 1, 1) := by decide +kernel
theorem dX6_makeWanted_40 : decode cX6_makeWanted 40 = .ok (.iaload, 1) := by decide +kernel
theorem dX6_makeWanted_41 : decode cX6_makeWanted 41 = .ok (.iaload, 1) := by decide +kernel
theorem dX6_makeWanted_42 : decode cX6_makeWanted 42 = .ok (.iastore, 1) := by decide +kernel
theorem dX6_makeWanted_43 : decode cX6_makeWanted 43 = .ok (.aload_n 0, 1) := by decide +kernel
theorem dX6_makeWanted_44 : decode cX6_makeWanted 44 = .ok (.getfield 41, 3) := by decide +kernel
theorem dX6_makeWanted_47 : decode cX6_makeWanted 47 = .ok (.aload_n 0, 1) := by decide +kernel
theorem dX6_makeWanted_48 : decode cX6_makeWanted 48 = .ok (.getfield 18, 3) := by decide +kernel
theorem dX6_makeWanted_51 : decode cX6_makeWanted 51 = .ok (.iload_n 1, 1) := by decide +kernel
theorem dX6_makeWanted_52 : decode cX6_makeWanted 52 = .ok (.iaload, 1) := by decide +kernel
theorem dX6_makeWanted_53 : decode cX6_makeWanted 53 = .ok (.dup2, 1) := by decide +kernel
theorem dX6_makeWanted_54 : decode cX6_makeWanted 54 = .ok (.iaload, 1) := by decide +kernel
theorem dX6_makeWanted_55 : decode cX6_makeWanted 55 = .ok (.iconst 1, 1) := by decide +kernel
theorem dX6_makeWanted_56 : decode cX6_makeWanted 56 = .ok (.iadd, 1) := by decide +kernel
theorem dX6_makeWanted_57 : decode cX6_makeWanted 57 = .ok (.iastore, 1) := by decide +kernel
theorem dX6_makeWanted_58 : decode cX6_makeWanted 58 = .ok (.iinc 1 1, 3) := by decide +kernel
theorem dX6_makeWanted_61 : decode cX6_makeWanted 61 = .ok (.goto (-43), 3) := by decide +kernel
theorem dX6_makeWanted_64 : decode cX6_makeWanted 64 = .ok (.aload_n 0, 1) := by decide +kernel
theorem dX6_makeWanted_65 : decode cX6_makeWanted 65 = .ok (.aload_n 0, 1) := by decide +kernel
theorem dX6_makeWanted_66 : decode cX6_makeWanted 66 = .ok (.getfield 15, 3) := by decide +kernel
theorem dX6_makeWanted_69 : decode cX6_makeWanted 69 = .ok (.putfield 9, 3) := by decide +kernel
theorem dX6_makeWanted_72 : decode cX6_makeWanted 72 = .ok (.iconst 1, 1) := by decide +kernel
theorem dX6_makeWanted_73 : decode cX6_makeWanted 73 = .ok (.ireturn, 1) := by decide +kernel
theorem dX6_findPlaces_0 : decode cX6_findPlaces 0 = .ok (.iconst 0, 1) := by decide +kernel
theorem dX6_findPlaces_1 : decode cX6_findPlaces 1 = .ok (.istore 4, 2) := by decide +kernel
theorem dX6_findPlaces_3 : decode cX6_findPlaces 3 = .ok (.iload 4, 2) := by decide +kernel
theorem dX6_findPlaces_5 : decode cX6_findPlaces 5 = .ok (.aload_n 0, 1) := by decide +kernel
theorem dX6_findPlaces_6 : decode cX6_findPlaces 6 = .ok (.getfield 9, 3) := by decide +kernel
theorem dX6_findPlaces_9 : decode cX6_findPlaces 9 = .ok (.if_icmp .ge 39, 3) := by decide +kernel
theorem dX6_findPlaces_12 : decode cX6_findPlaces 12 = .ok (.aload_n 0, 1) := by decide +kernel
theorem dX6_findPlaces_13 : decode cX6_findPlaces 13 = .ok (.getfield 37, 3) := by decide +kernel
theorem dX6_findPlaces_16 : decode cX6_findPlaces 16 = .ok (.iload 4, 2) := by decide +kernel
theorem dX6_findPlaces_18 : decode cX6_findPlaces 18 = .ok (.aload_n 1, 1) := by decide +kernel
theorem dX6_findPlaces_19 : decode cX6_findPlaces 19 = .ok (.getfield 76, 3) := by decide +kernel
theorem dX6_findPlaces_22 : decode cX6_findPlaces 22 = .ok (.aload_n 0, 1) := by decide +kernel
theorem dX6_findPlaces_23 : decode cX6_findPlaces 23 = .ok (.getfield 18, 3) := by decide +kernel
theorem dX6_findPlaces_26 : decode cX6_findPlaces 26 = .ok (.iload 4, 2) := by decide +kernel
theorem dX6_findPlaces_28 : decode cX6_findPlaces 28 = .ok (.iaload, 1) := by decide +kernel
theorem dX6_findPlaces_29 : decode cX6_findPlaces 29 = .ok (.laload, 1) := by decide +kernel
theorem dX6_findPlaces_30 : decode cX6_findPlaces 30 = .ok (.aload_n 0, 1) := by decide +kernel
theorem dX6_findPlaces_31 : decode cX6_findPlaces 31 = .ok (.getfield 34, 3) := by decide +kernel
theorem dX6_findPlaces_34 : decode cX6_findPlaces 34 = .ok (.iload 4, 2) := by decide +kernel
theorem dX6_findPlaces_36 : decode cX6_findPlaces 36 = .ok (.iaload, 1) := by decide +kernel
theorem dX6_findPlaces_37 : decode cX6_findPlaces 37 = .ok (.i2l, 1) := by decide +kernel
theorem dX6_findPlaces_38 : decode cX6_findPlaces 38 = .ok (.lload_n 2, 1) := by decide +kernel
theorem dX6_findPlaces_39 : decode cX6_findPlaces 39 = .ok (.lmul, 1) := by decide +kernel
theorem dX6_findPlaces_40 : decode cX6_findPlaces 40 = .ok (.ladd, 1) := by decide +kernel
theorem dX6_findPlaces_41 : decode cX6_findPlaces 41 = .ok (.lastore, 1) := by decide +kernel
theorem dX6_findPlaces_42 : decode cX6_findPlaces 42 = .ok (.iinc 4 1, 3) := by decide +kernel
theorem dX6_findPlaces_45 : decode cX6_findPlaces 45 = .ok (.goto (-42), 3) := by decide +kernel
theorem dX6_findPlaces_48 : decode cX6_findPlaces 48 = .ok (.return_, 1) := by decide +kernel
theorem dX6_unused_0 : decode cX6_unused 0 = .ok (.iconst 0, 1) := by decide +kernel
theorem dX6_unused_1 : decode cX6_unused 1 = .ok (.istore_n 1, 1) := by decide +kernel
theorem dX6_unused_2 : decode cX6_unused 2 = .ok (.iconst 0, 1) := by decide +kernel
theorem dX6_unused_3 : decode cX6_unused 3 = .ok (.istore_n 2, 1) := by decide +kernel
theorem dX6_unused_4 : decode cX6_unused 4 = .ok (.iload_n 2, 1) := by decide +kernel
theorem dX6_unused_5 : decode cX6_unused 5 = .ok (.aload_n 0, 1) := by decide +kernel
theorem dX6_unused_6 : decode cX6_unused 6 = .ok (.getfield 9, 3) := by decide +kernel
theorem dX6_unused_9 : decode cX6_unused 9 = .ok (.if_icmp .ge 21, 3) := by decide +kernel
theorem dX6_unused_12 : decode cX6_unused 12 = .ok (.aload_n 0, 1) := by decide +kernel
theorem dX6_unused_13 : decode cX6_unused 13 = .ok (.getfield 31, 3) := by decide +kernel
theorem dX6_unused_16 : decode cX6_unused 16 = .ok (.iload_n 2, 1) := by decide +kernel
theorem dX6_unused_17 : decode cX6_unused 17 = .ok (.iaload, 1) := by decide +kernel
theorem dX6_unused_18 : decode cX6_unused 18 = .ok (.ifCond .ne 6, 3) := by decide +kernel
theorem dX6_unused_21 : decode cX6_unused 21 = .ok (.iinc 1 1, 3) := by decide +kernel
theorem dX6_unused_24 : decode cX6_unused 24 = .ok (.iinc 2 1, 3) := by decide +kernel
theorem dX6_unused_27 : decode cX6_unused 27 = .ok (.goto (-23), 3) := by decide +kernel
theorem dX6_unused_30 : decode cX6_unused 30 = .ok (.iload_n 1, 1) := by decide +kernel
theorem dX6_unused_31 : decode cX6_unused 31 = .ok (.ireturn, 1) := by decide +kernel
theorem dX7_init_0 : decode cX7_init 0 = .ok (.aload_n 0, 1) := by decide +kernel
theorem dX7_init_1 : decode cX7_init 1 = .ok (.invokespecial 3, 3) := by decide +kernel
theorem dX7_init_4 : decode cX7_init 4 = .ok (.aload_n 0, 1) := by decide +kernel
theorem dX7_init_5 : decode cX7_init 5 = .ok (.new 9, 3) := by decide +kernel
theorem dX7_init_8 : decode cX7_init 8 = .ok (.dup, 1) := by decide +kernel
theorem dX7_init_9 : decode cX7_init 9 = .ok (.invokespecial 11, 3) := by decide +kernel
theorem dX7_init_12 : decode cX7_init 12 = .ok (.putfield 12, 3) := by decide +kernel
theorem dX7_init_15 : decode cX7_init 15 = .ok (.aload_n 0, 1) := by decide +kernel
theorem dX7_init_16 : decode cX7_init 16 = .ok (.new 18, 3) := by decide +kernel
theorem dX7_init_19 : decode cX7_init 19 = .ok (.dup, 1) := by decide +kernel
theorem dX7_init_20 : decode cX7_init 20 = .ok (.invokespecial 20, 3) := by decide +kernel
theorem dX7_init_23 : decode cX7_init 23 = .ok (.putfield 21, 3) := by decide +kernel
theorem dX7_init_26 : decode cX7_init 26 = .ok (.aload_n 0, 1) := by decide +kernel
theorem dX7_init_27 : decode cX7_init 27 = .ok (.new 25, 3) := by decide +kernel
theorem dX7_init_30 : decode cX7_init 30 = .ok (.dup, 1) := by decide +kernel
theorem dX7_init_31 : decode cX7_init 31 = .ok (.invokespecial 27, 3) := by decide +kernel
theorem dX7_init_34 : decode cX7_init 34 = .ok (.putfield 28, 3) := by decide +kernel
theorem dX7_init_37 : decode cX7_init 37 = .ok (.aload_n 0, 1) := by decide +kernel
theorem dX7_init_38 : decode cX7_init 38 = .ok (.new 32, 3) := by decide +kernel
theorem dX7_init_41 : decode cX7_init 41 = .ok (.dup, 1) := by decide +kernel
theorem dX7_init_42 : decode cX7_init 42 = .ok (.invokespecial 34, 3) := by decide +kernel
theorem dX7_init_45 : decode cX7_init 45 = .ok (.putfield 35, 3) := by decide +kernel
theorem dX7_init_48 : decode cX7_init 48 = .ok (.aload_n 0, 1) := by decide +kernel
theorem dX7_init_49 : decode cX7_init 49 = .ok (.iconst 0, 1) := by decide +kernel
theorem dX7_init_50 : decode cX7_init 50 = .ok (.putfield 39, 3) := by decide +kernel
theorem dX7_init_53 : decode cX7_init 53 = .ok (.aload_n 0, 1) := by decide +kernel
theorem dX7_init_54 : decode cX7_init 54 = .ok (.iconst 0, 1) := by decide +kernel
theorem dX7_init_55 : decode cX7_init 55 = .ok (.putfield 43, 3) := by decide +kernel
theorem dX7_init_58 : decode cX7_init 58 = .ok (.aload_n 0, 1) := by decide +kernel
theorem dX7_init_59 : decode cX7_init 59 = .ok (.iconst 1, 1) := by decide +kernel
theorem dX7_init_60 : decode cX7_init 60 = .ok (.putfield 46, 3) := by decide +kernel
theorem dX7_init_63 : decode cX7_init 63 = .ok (.aload_n 0, 1) := by decide +kernel
theorem dX7_init_64 : decode cX7_init 64 = .ok (.iconst (-1), 1) := by decide +kernel
theorem dX7_init_65 : decode cX7_init 65 = .ok (.putfield 49, 3) := by decide +kernel
theorem dX7_init_68 : decode cX7_init 68 = .ok (.return_, 1) := by decide +kernel
theorem dX7_hasThunks_0 : decode cX7_hasThunks 0 = .ok (.aload_n 0, 1) := by decide +kernel
theorem dX7_hasThunks_1 : decode cX7_hasThunks 1 = .ok (.getfield 43, 3) := by decide +kernel
theorem dX7_hasThunks_4 : decode cX7_hasThunks 4 = .ok (.ifCond .le 7, 3) := by decide +kernel
theorem dX7_hasThunks_7 : decode cX7_hasThunks 7 = .ok (.iconst 1, 1) := by decide +kernel
theorem dX7_hasThunks_8 : decode cX7_hasThunks 8 = .ok (.goto 4, 3) := by decide +kernel
theorem dX7_hasThunks_11 : decode cX7_hasThunks 11 = .ok (.iconst 0, 1) := by decide +kernel
theorem dX7_hasThunks_12 : decode cX7_hasThunks 12 = .ok (.ireturn, 1) := by decide +kernel
theorem dX7_tellThunks_0 : decode cX7_tellThunks 0 = .ok (.iload_n 1, 1) := by decide +kernel
theorem dX7_tellThunks_1 : decode cX7_tellThunks 1 = .ok (.iconst 1, 1) := by decide +kernel
theorem dX7_tellThunks_2 : decode cX7_tellThunks 2 = .ok (.if_icmp .lt 30, 3) := by decide +kernel
theorem dX7_tellThunks_5 : decode cX7_tellThunks 5 = .ok (.iload_n 1, 1) := by decide +kernel
theorem dX7_tellThunks_6 : decode cX7_tellThunks 6 = .ok (.bipush 64, 2) := by decide +kernel
theorem dX7_tellThunks_8 : decode cX7_tellThunks 8 = .ok (.if_icmp .gt 24, 3) := by decide +kernel
theorem dX7_tellThunks_11 : decode cX7_tellThunks 11 = .ok (.iload_n 2, 1) := by decide +kernel
theorem dX7_tellThunks_12 : decode cX7_tellThunks 12 = .ok (.ifCond .lt 20, 3) := by decide +kernel
theorem dX7_tellThunks_15 : decode cX7_tellThunks 15 = .ok (.iload_n 2, 1) := by decide +kernel
theorem dX7_tellThunks_16 : decode cX7_tellThunks 16 = .ok (.bipush 6, 2) := by decide +kernel
theorem dX7_tellThunks_18 : decode cX7_tellThunks 18 = .ok (.if_icmp .gt 14, 3) := by decide +kernel
theorem dX7_tellThunks_21 : decode cX7_tellThunks 21 = .ok (.aload_n 0, 1) := by decide +kernel
theorem dX7_tellThunks_22 : decode cX7_tellThunks 22 = .ok (.getfield 28, 3) := by decide +kernel
theorem dX7_tellThunks_25 : decode cX7_tellThunks 25 = .ok (.iload_n 3, 1) := by decide +kernel
theorem dX7_tellThunks_26 : decode cX7_tellThunks 26 = .ok (.invokevirtual 52, 3) := by decide +kernel
theorem dX7_tellThunks_29 : decode cX7_tellThunks 29 = .ok (.ifCond .ne 5, 3) := by decide +kernel
theorem dX7_tellThunks_32 : decode cX7_tellThunks 32 = .ok (.iconst 0, 1) := by decide +kernel
theorem dX7_tellThunks_33 : decode cX7_tellThunks 33 = .ok (.ireturn, 1) := by decide +kernel
theorem dX7_tellThunks_34 : decode cX7_tellThunks 34 = .ok (.aload_n 0, 1) := by decide +kernel
theorem dX7_tellThunks_35 : decode cX7_tellThunks 35 = .ok (.iload_n 1, 1) := by decide +kernel
theorem dX7_tellThunks_36 : decode cX7_tellThunks 36 = .ok (.putfield 43, 3) := by decide +kernel
theorem dX7_tellThunks_39 : decode cX7_tellThunks 39 = .ok (.aload_n 0, 1) := by decide +kernel
theorem dX7_tellThunks_40 : decode cX7_tellThunks 40 = .ok (.iconst 1, 1) := by decide +kernel
theorem dX7_tellThunks_41 : decode cX7_tellThunks 41 = .ok (.iload_n 2, 1) := by decide +kernel
theorem dX7_tellThunks_42 : decode cX7_tellThunks 42 = .ok (.ishl, 1) := by decide +kernel
theorem dX7_tellThunks_43 : decode cX7_tellThunks 43 = .ok (.putfield 46, 3) := by decide +kernel
theorem dX7_tellThunks_46 : decode cX7_tellThunks 46 = .ok (.aload_n 0, 1) := by decide +kernel
theorem dX7_tellThunks_47 : decode cX7_tellThunks 47 = .ok (.iload_n 3, 1) := by decide +kernel
theorem dX7_tellThunks_48 : decode cX7_tellThunks 48 = .ok (.putfield 49, 3) := by decide +kernel
theorem dX7_tellThunks_51 : decode cX7_tellThunks 51 = .ok (.iconst 1, 1) := by decide +kernel
theorem dX7_tellThunks_52 : decode cX7_tellThunks 52 = .ok (.ireturn, 1) := by decide +kernel
theorem dX7_changeSize_0 : decode cX7_changeSize 0 = .ok (.aload_n 0, 1) := by decide +kernel
theorem dX7_changeSize_1 : decode cX7_changeSize 1 = .ok (.getfield 12, 3) := by decide +kernel
theorem dX7_changeSize_4 : decode cX7_changeSize 4 = .ok (.iload_n 1, 1) := by decide +kernel
theorem dX7_changeSize_5 : decode cX7_changeSize 5 = .ok (.invokevirtual 56, 3) := by decide +kernel
theorem dX7_changeSize_8 : decode cX7_changeSize 8 = .ok (.ifCond .eq 10, 3) := by decide +kernel
theorem dX7_changeSize_11 : decode cX7_changeSize 11 = .ok (.iload_n 2, 1) := by decide +kernel
theorem dX7_changeSize_12 : decode cX7_changeSize 12 = .ok (.invokestatic 57, 3) := by decide +kernel
theorem dX7_changeSize_15 : decode cX7_changeSize 15 = .ok (.ifCond .ne 5, 3) := by decide +kernel
theorem dX7_changeSize_18 : decode cX7_changeSize 18 = .ok (.iconst 0, 1) := by decide +kernel
theorem dX7_changeSize_19 : decode cX7_changeSize 19 = .ok (.ireturn, 1) := by decide +kernel
theorem dX7_changeSize_20 : decode cX7_changeSize 20 = .ok (.aload_n 0, 1) := by decide +kernel
theorem dX7_changeSize_21 : decode cX7_changeSize 21 = .ok (.getfield 21, 3) := by decide +kernel
theorem dX7_changeSize_24 : decode cX7_changeSize 24 = .ok (.iload_n 1, 1) := by decide +kernel
theorem dX7_changeSize_25 : decode cX7_changeSize 25 = .ok (.invokevirtual 60, 3) := by decide +kernel
theorem dX7_changeSize_28 : decode cX7_changeSize 28 = .ok (.iload_n 2, 1) := by decide +kernel
theorem dX7_changeSize_29 : decode cX7_changeSize 29 = .ok (.if_icmp .gt 15, 3) := by decide +kernel
theorem dX7_changeSize_32 : decode cX7_changeSize 32 = .ok (.aload_n 0, 1) := by decide +kernel
theorem dX7_changeSize_33 : decode cX7_changeSize 33 = .ok (.getfield 35, 3) := by decide +kernel
theorem dX7_changeSize_36 : decode cX7_changeSize 36 = .ok (.iload_n 1, 1) := by decide +kernel
theorem dX7_changeSize_37 : decode cX7_changeSize 37 = .ok (.invokevirtual 64, 3) := by decide +kernel
theorem dX7_changeSize_40 : decode cX7_changeSize 40 = .ok (.iload_n 2, 1) := by decide +kernel
theorem dX7_changeSize_41 : decode cX7_changeSize 41 = .ok (.if_icmp .lt 5, 3) := by decide +kernel
theorem dX7_changeSize_44 : decode cX7_changeSize 44 = .ok (.iconst 0, 1) := by decide +kernel
theorem dX7_changeSize_45 : decode cX7_changeSize 45 = .ok (.ireturn, 1) := by decide +kernel
theorem dX7_changeSize_46 : decode cX7_changeSize 46 = .ok (.aload_n 0, 1) := by decide +kernel
theorem dX7_changeSize_47 : decode cX7_changeSize 47 = .ok (.getfield 12, 3) := by decide +kernel
theorem dX7_changeSize_50 : decode cX7_changeSize 50 = .ok (.getfield 65, 3) := by decide +kernel
theorem dX7_changeSize_53 : decode cX7_changeSize 53 = .ok (.iload_n 1, 1) := by decide +kernel
theorem dX7_changeSize_54 : decode cX7_changeSize 54 = .ok (.iload_n 2, 1) := by decide +kernel
theorem dX7_changeSize_55 : decode cX7_changeSize 55 = .ok (.iastore, 1) := by decide +kernel
theorem dX7_changeSize_56 : decode cX7_changeSize 56 = .ok (.iconst 1, 1) := by decide +kernel
theorem dX7_changeSize_57 : decode cX7_changeSize 57 = .ok (.ireturn, 1) := by decide +kernel
theorem dX7_thunkStride_0 : decode cX7_thunkStride 0 = .ok (.aload_n 0, 1) := by decide +kernel
theorem dX7_thunkStride_1 : decode cX7_thunkStride 1 = .ok (.getfield 43, 3) := by decide +kernel
theorem dX7_thunkStride_4 : decode cX7_thunkStride 4 = .ok (.i2l, 1) := by decide +kernel
theorem dX7_thunkStride_5 : decode cX7_thunkStride 5 = .ok (.aload_n 0, 1) := by decide +kernel
theorem dX7_thunkStride_6 : decode cX7_thunkStride 6 = .ok (.getfield 46, 3) := by decide +kernel
theorem dX7_thunkStride_9 : decode cX7_thunkStride 9 = .ok (.i2l, 1) := by decide +kernel
theorem dX7_thunkStride_10 : decode cX7_thunkStride 10 = .ok (.invokestatic 69, 3) := by decide +kernel
theorem dX7_thunkStride_13 : decode cX7_thunkStride 13 = .ok (.lreturn, 1) := by decide +kernel
theorem dX7_copyFrom_0 : decode cX7_copyFrom 0 = .ok (.aload_n 0, 1) := by decide +kernel
theorem dX7_copyFrom_1 : decode cX7_copyFrom 1 = .ok (.getfield 12, 3) := by decide +kernel
theorem dX7_copyFrom_4 : decode cX7_copyFrom 4 = .ok (.aload_n 1, 1) := by decide +kernel
theorem dX7_copyFrom_5 : decode cX7_copyFrom 5 = .ok (.getfield 12, 3) := by decide +kernel
theorem dX7_copyFrom_8 : decode cX7_copyFrom 8 = .ok (.invokevirtual 73, 3) := by decide +kernel
theorem dX7_copyFrom_11 : decode cX7_copyFrom 11 = .ok (.aload_n 0, 1) := by decide +kernel
theorem dX7_copyFrom_12 : decode cX7_copyFrom 12 = .ok (.getfield 21, 3) := by decide +kernel
theorem dX7_copyFrom_15 : decode cX7_copyFrom 15 = .ok (.aload_n 1, 1) := by decide +kernel
theorem dX7_copyFrom_16 : decode cX7_copyFrom 16 = .ok (.getfield 21, 3) := by decide +kernel
theorem dX7_copyFrom_19 : decode cX7_copyFrom 19 = .ok (.invokevirtual 77, 3) := by decide +kernel
theorem dX7_copyFrom_22 : decode cX7_copyFrom 22 = .ok (.aload_n 0, 1) := by decide +kernel
theorem dX7_copyFrom_23 : decode cX7_copyFrom 23 = .ok (.getfield 28, 3) := by decide +kernel
theorem dX7_copyFrom_26 : decode cX7_copyFrom 26 = .ok (.aload_n 1, 1) := by decide +kernel
theorem dX7_copyFrom_27 : decode cX7_copyFrom 27 = .ok (.getfield 28, 3) := by decide +kernel
theorem dX7_copyFrom_30 : decode cX7_copyFrom 30 = .ok (.invokevirtual 80, 3) := by decide +kernel
theorem dX7_copyFrom_33 : decode cX7_copyFrom 33 = .ok (.aload_n 0, 1) := by decide +kernel
theorem dX7_copyFrom_34 : decode cX7_copyFrom 34 = .ok (.getfield 35, 3) := by decide +kernel
theorem dX7_copyFrom_37 : decode cX7_copyFrom 37 = .ok (.aload_n 1, 1) := by decide +kernel
theorem dX7_copyFrom_38 : decode cX7_copyFrom 38 = .ok (.getfield 35, 3) := by decide +kernel
theorem dX7_copyFrom_41 : decode cX7_copyFrom 41 = .ok (.invokevirtual 83, 3) := by decide +kernel
theorem dX7_copyFrom_44 : decode cX7_copyFrom 44 = .ok (.aload_n 0, 1) := by decide +kernel
theorem dX7_copyFrom_45 : decode cX7_copyFrom 45 = .ok (.aload_n 1, 1) := by decide +kernel
theorem dX7_copyFrom_46 : decode cX7_copyFrom 46 = .ok (.getfield 39, 3) := by decide +kernel
theorem dX7_copyFrom_49 : decode cX7_copyFrom 49 = .ok (.putfield 39, 3) := by decide +kernel
theorem dX7_copyFrom_52 : decode cX7_copyFrom 52 = .ok (.aload_n 0, 1) := by decide +kernel
theorem dX7_copyFrom_53 : decode cX7_copyFrom 53 = .ok (.aload_n 1, 1) := by decide +kernel
theorem dX7_copyFrom_54 : decode cX7_copyFrom 54 = .ok (.getfield 43, 3) := by decide +kernel
theorem dX7_copyFrom_57 : decode cX7_copyFrom 57 = .ok (.putfield 43, 3) := by decide +kernel
theorem dX7_copyFrom_60 : decode cX7_copyFrom 60 = .ok (.aload_n 0, 1) := by decide +kernel
theorem dX7_copyFrom_61 : decode cX7_copyFrom 61 = .ok (.aload_n 1, 1) := by decide +kernel
theorem dX7_copyFrom_62 : decode cX7_copyFrom 62 = .ok (.getfield 46, 3) := by decide +kernel
theorem dX7_copyFrom_65 : decode cX7_copyFrom 65 = .ok (.putfield 46, 3) := by decide +kernel
theorem dX7_copyFrom_68 : decode cX7_copyFrom 68 = .ok (.aload_n 0, 1) := by decide +kernel
theorem dX7_copyFrom_69 : decode cX7_copyFrom 69 = .ok (.aload_n 1, 1) := by decide +kernel
theorem dX7_copyFrom_70 : decode cX7_copyFrom 70 = .ok (.getfield 49, 3) := by decide +kernel
theorem dX7_copyFrom_73 : decode cX7_copyFrom 73 = .ok (.putfield 49, 3) := by decide +kernel
theorem dX7_copyFrom_76 : decode cX7_copyFrom 76 = .ok (.return_, 1) := by decide +kernel
theorem dX8_init_0 : decode cX8_init 0 = .ok (.aload_n 0, 1) := by decide +kernel
theorem dX8_init_1 : decode cX8_init 1 = .ok (.invokespecial 3, 3) := by decide +kernel
theorem dX8_init_4 : decode cX8_init 4 = .ok (.aload_n 0, 1) := by decide +kernel
theorem dX8_init_5 : decode cX8_init 5 = .ok (.new 9, 3) := by decide +kernel
theorem dX8_init_8 : decode cX8_init 8 = .ok (.dup, 1) := by decide +kernel
theorem dX8_init_9 : decode cX8_init 9 = .ok (.invokespecial 11, 3) := by decide +kernel
theorem dX8_init_12 : decode cX8_init 12 = .ok (.putfield 12, 3) := by decide +kernel
theorem dX8_init_15 : decode cX8_init 15 = .ok (.aload_n 0, 1) := by decide +kernel
theorem dX8_init_16 : decode cX8_init 16 = .ok (.new 16, 3) := by decide +kernel
theorem dX8_init_19 : decode cX8_init 19 = .ok (.dup, 1) := by decide +kernel
theorem dX8_init_20 : decode cX8_init 20 = .ok (.invokespecial 18, 3) := by decide +kernel
theorem dX8_init_23 : decode cX8_init 23 = .ok (.putfield 19, 3) := by decide +kernel
theorem dX8_init_26 : decode cX8_init 26 = .ok (.aload_n 0, 1) := by decide +kernel
theorem dX8_init_27 : decode cX8_init 27 = .ok (.new 23, 3) := by decide +kernel
theorem dX8_init_30 : decode cX8_init 30 = .ok (.dup, 1) := by decide +kernel
theorem dX8_init_31 : decode cX8_init 31 = .ok (.invokespecial 25, 3) := by decide +kernel
theorem dX8_init_34 : decode cX8_init 34 = .ok (.putfield 26, 3) := by decide +kernel
theorem dX8_init_37 : decode cX8_init 37 = .ok (.aload_n 0, 1) := by decide +kernel
theorem dX8_init_38 : decode cX8_init 38 = .ok (.bipush 40, 2) := by decide +kernel
theorem dX8_init_40 : decode cX8_init 40 = .ok (.newarray .int, 2) := by decide +kernel
theorem dX8_init_42 : decode cX8_init 42 = .ok (.putfield 30, 3) := by decide +kernel
theorem dX8_init_45 : decode cX8_init 45 = .ok (.aload_n 0, 1) := by decide +kernel
theorem dX8_init_46 : decode cX8_init 46 = .ok (.iconst 0, 1) := by decide +kernel
theorem dX8_init_47 : decode cX8_init 47 = .ok (.putfield 34, 3) := by decide +kernel
theorem dX8_init_50 : decode cX8_init 50 = .ok (.return_, 1) := by decide +kernel
theorem dX8_section_0 : decode cX8_section 0 = .ok (.aload_n 0, 1) := by decide +kernel
theorem dX8_section_1 : decode cX8_section 1 = .ok (.aload_n 0, 1) := by decide +kernel
theorem dX8_section_2 : decode cX8_section 2 = .ok (.getfield 12, 3) := by decide +kernel
theorem dX8_section_5 : decode cX8_section 5 = .ok (.getfield 38, 3) := by decide +kernel
theorem dX8_section_8 : decode cX8_section 8 = .ok (.iload_n 1, 1) := by decide +kernel
theorem dX8_section_9 : decode cX8_section 9 = .ok (.iload_n 2, 1) := by decide +kernel
theorem dX8_section_10 : decode cX8_section 10 = .ok (.iload_n 3, 1) := by decide +kernel
theorem dX8_section_11 : decode cX8_section 11 = .ok (.invokevirtual 42, 3) := by decide +kernel
theorem dX8_section_14 : decode cX8_section 14 = .ok (.invokevirtual 48, 3) := by decide +kernel
theorem dX8_section_17 : decode cX8_section 17 = .ok (.ireturn, 1) := by decide +kernel
theorem dX8_label_0 : decode cX8_label 0 = .ok (.aload_n 0, 1) := by decide +kernel
theorem dX8_label_1 : decode cX8_label 1 = .ok (.getfield 12, 3) := by decide +kernel
theorem dX8_label_4 : decode cX8_label 4 = .ok (.getfield 38, 3) := by decide +kernel
theorem dX8_label_7 : decode cX8_label 7 = .ok (.iload_n 1, 1) := by decide +kernel
theorem dX8_label_8 : decode cX8_label 8 = .ok (.invokevirtual 52, 3) := by decide +kernel
theorem dX8_label_11 : decode cX8_label 11 = .ok (.ifCond .ne 5, 3) := by decide +kernel
theorem dX8_label_14 : decode cX8_label 14 = .ok (.iconst (-1), 1) := by decide +kernel
theorem dX8_label_15 : decode cX8_label 15 = .ok (.ireturn, 1) := by decide +kernel
theorem dX8_label_16 : decode cX8_label 16 = .ok (.iload_n 2, 1) := by decide +kernel
theorem dX8_label_17 : decode cX8_label 17 = .ok (.ifCond .lt 19, 3) := by decide +kernel
theorem dX8_label_20 : decode cX8_label 20 = .ok (.iload_n 2, 1) := by decide +kernel
theorem dX8_label_21 : decode cX8_label 21 = .ok (.aload_n 0, 1) := by decide +kernel
theorem dX8_label_22 : decode cX8_label 22 = .ok (.getfield 12, 3) := by decide +kernel
theorem dX8_label_25 : decode cX8_label 25 = .ok (.getfield 38, 3) := by decide +kernel
theorem dX8_label_28 : decode cX8_label 28 = .ok (.getfield 56, 3) := by decide +kernel
theorem dX8_label_31 : decode cX8_label 31 = .ok (.iload_n 1, 1) := by decide +kernel
theorem dX8_label_32 : decode cX8_label 32 = .ok (.iaload, 1) := by decide +kernel
theorem dX8_label_33 : decode cX8_label 33 = .ok (.if_icmp .le 5, 3) := by decide +kernel
theorem dX8_label_36 : decode cX8_label 36 = .ok (.iconst (-1), 1) := by decide +kernel
theorem dX8_label_37 : decode cX8_label 37 = .ok (.ireturn, 1) := by decide +kernel
theorem dX8_label_38 : decode cX8_label 38 = .ok (.aload_n 0, 1) := by decide +kernel
theorem dX8_label_39 : decode cX8_label 39 = .ok (.aload_n 0, 1) := by decide +kernel
theorem dX8_label_40 : decode cX8_label 40 = .ok (.getfield 12, 3) := by decide +kernel
theorem dX8_label_43 : decode cX8_label 43 = .ok (.getfield 59, 3) := by decide +kernel
theorem dX8_label_46 : decode cX8_label 46 = .ok (.iload_n 1, 1) := by decide +kernel
theorem dX8_label_47 : decode cX8_label 47 = .ok (.iload_n 2, 1) := by decide +kernel
theorem dX8_label_48 : decode cX8_label 48 = .ok (.invokevirtual 63, 3) := by decide +kernel
theorem dX8_label_51 : decode cX8_label 51 = .ok (.invokevirtual 48, 3) := by decide +kernel
theorem dX8_label_54 : decode cX8_label 54 = .ok (.ireturn, 1) := by decide +kernel
theorem dX8_kind_0 : decode cX8_kind 0 = .ok (.aload_n 0, 1) := by decide +kernel
theorem dX8_kind_1 : decode cX8_kind 1 = .ok (.aload_n 0, 1) := by decide +kernel
theorem dX8_kind_2 : decode cX8_kind 2 = .ok (.getfield 12, 3) := by decide +kernel
theorem dX8_kind_5 : decode cX8_kind 5 = .ok (.getfield 68, 3) := by decide +kernel
theorem dX8_kind_8 : decode cX8_kind 8 = .ok (.iload_n 1, 1) := by decide +kernel
theorem dX8_kind_9 : decode cX8_kind 9 = .ok (.iload_n 2, 1) := by decide +kernel
theorem dX8_kind_10 : decode cX8_kind 10 = .ok (.iload_n 3, 1) := by decide +kernel
theorem dX8_kind_11 : decode cX8_kind 11 = .ok (.invokevirtual 72, 3) := by decide +kernel
theorem dX8_kind_14 : decode cX8_kind 14 = .ok (.invokevirtual 78, 3) := by decide +kernel
theorem dX8_kind_17 : decode cX8_kind 17 = .ok (.ireturn, 1) := by decide +kernel
theorem dX8_branch_0 : decode cX8_branch 0 = .ok (.aload_n 0, 1) := by decide +kernel
theorem dX8_branch_1 : decode cX8_branch 1 = .ok (.getfield 12, 3) := by decide +kernel
theorem dX8_branch_4 : decode cX8_branch 4 = .ok (.getfield 38, 3) := by decide +kernel
theorem dX8_branch_7 : decode cX8_branch 7 = .ok (.iload_n 1, 1) := by decide +kernel
theorem dX8_branch_8 : decode cX8_branch 8 = .ok (.invokevirtual 52, 3) := by decide +kernel
theorem dX8_branch_11 : decode cX8_branch 11 = .ok (.ifCond .eq 32, 3) := by decide +kernel
theorem dX8_branch_14 : decode cX8_branch 14 = .ok (.aload_n 0, 1) := by decide +kernel
theorem dX8_branch_15 : decode cX8_branch 15 = .ok (.getfield 12, 3) := by decide +kernel
theorem dX8_branch_18 : decode cX8_branch 18 = .ok (.getfield 68, 3) := by decide +kernel
theorem dX8_branch_21 : decode cX8_branch 21 = .ok (.iload_n 3, 1) := by decide +kernel
theorem dX8_branch_22 : decode cX8_branch 22 = .ok (.invokevirtual 82, 3) := by decide +kernel
theorem dX8_branch_25 : decode cX8_branch 25 = .ok (.ifCond .eq 18, 3) := by decide +kernel
theorem dX8_branch_28 : decode cX8_branch 28 = .ok (.aload_n 0, 1) := by decide +kernel
theorem dX8_branch_29 : decode cX8_branch 29 = .ok (.getfield 12, 3) := by decide +kernel
theorem dX8_branch_32 : decode cX8_branch 32 = .ok (.getfield 59, 3) := by decide +kernel
theorem dX8_branch_35 : decode cX8_branch 35 = .ok (.iload 4, 2) := by decide +kernel
theorem dX8_branch_37 : decode cX8_branch 37 = .ok (.invokevirtual 83, 3) := by decide +kernel
theorem dX8_branch_40 : decode cX8_branch 40 = .ok (.ifCond .ne 5, 3) := by decide +kernel
theorem dX8_branch_43 : decode cX8_branch 43 = .ok (.iconst (-1), 1) := by decide +kernel
theorem dX8_branch_44 : decode cX8_branch 44 = .ok (.ireturn, 1) := by decide +kernel
theorem dX8_branch_45 : decode cX8_branch 45 = .ok (.iload_n 2, 1) := by decide +kernel
theorem dX8_branch_46 : decode cX8_branch 46 = .ok (.ifCond .lt 19, 3) := by decide +kernel
theorem dX8_branch_49 : decode cX8_branch 49 = .ok (.iload_n 2, 1) := by decide +kernel
theorem dX8_branch_50 : decode cX8_branch 50 = .ok (.aload_n 0, 1) := by decide +kernel
theorem dX8_branch_51 : decode cX8_branch 51 = .ok (.getfield 12, 3) := by decide +kernel
theorem dX8_branch_54 : decode cX8_branch 54 = .ok (.getfield 38, 3) := by decide +kernel
theorem dX8_branch_57 : decode cX8_branch 57 = .ok (.getfield 56, 3) := by decide +kernel
theorem dX8_branch_60 : decode cX8_branch 60 = .ok (.iload_n 1, 1) := by decide +kernel
theorem dX8_branch_61 : decode cX8_branch 61 = .ok (.iaload, 1) := by decide +kernel
theorem dX8_branch_62 : decode cX8_branch 62 = .ok (.if_icmp .lt 5, 3) := by decide +kernel
theorem dX8_branch_65 : decode cX8_branch 65 = .ok (.iconst (-1), 1) := by decide +kernel
theorem dX8_branch_66 : decode cX8_branch 66 = .ok (.ireturn, 1) := by decide +kernel
theorem dX8_branch_67 : decode cX8_branch 67 = .ok (.aload_n 0, 1) := by decide +kernel
theorem dX8_branch_68 : decode cX8_branch 68 = .ok (.aload_n 0, 1) := by decide +kernel
theorem dX8_branch_69 : decode cX8_branch 69 = .ok (.getfield 12, 3) := by decide +kernel
theorem dX8_branch_72 : decode cX8_branch 72 = .ok (.getfield 84, 3) := by decide +kernel
theorem dX8_branch_75 : decode cX8_branch 75 = .ok (.iload_n 1, 1) := by decide +kernel
theorem dX8_branch_76 : decode cX8_branch 76 = .ok (.iload_n 2, 1) := by decide +kernel
theorem dX8_branch_77 : decode cX8_branch 77 = .ok (.iload_n 3, 1) := by decide +kernel
theorem dX8_branch_78 : decode cX8_branch 78 = .ok (.iload 4, 2) := by decide +kernel
theorem dX8_branch_80 : decode cX8_branch 80 = .ok (.invokevirtual 88, 3) := by decide +kernel
theorem dX8_branch_83 : decode cX8_branch 83 = .ok (.invokevirtual 48, 3) := by decide +kernel
theorem dX8_branch_86 : decode cX8_branch 86 = .ok (.ireturn, 1) := by decide +kernel
theorem dX8_thunks_0 : decode cX8_thunks 0 = .ok (.aload_n 0, 1) := by decide +kernel
theorem dX8_thunks_1 : decode cX8_thunks 1 = .ok (.aload_n 0, 1) := by decide +kernel
theorem dX8_thunks_2 : decode cX8_thunks 2 = .ok (.getfield 12, 3) := by decide +kernel
theorem dX8_thunks_5 : decode cX8_thunks 5 = .ok (.iload_n 1, 1) := by decide +kernel
theorem dX8_thunks_6 : decode cX8_thunks 6 = .ok (.iload_n 2, 1) := by decide +kernel
theorem dX8_thunks_7 : decode cX8_thunks 7 = .ok (.iload_n 3, 1) := by decide +kernel
theorem dX8_thunks_8 : decode cX8_thunks 8 = .ok (.invokevirtual 93, 3) := by decide +kernel
theorem dX8_thunks_11 : decode cX8_thunks 11 = .ok (.invokevirtual 78, 3) := by decide +kernel
theorem dX8_thunks_14 : decode cX8_thunks 14 = .ok (.ireturn, 1) := by decide +kernel
theorem dX8_base_0 : decode cX8_base 0 = .ok (.iload_n 1, 1) := by decide +kernel
theorem dX8_base_1 : decode cX8_base 1 = .ok (.ifCond .ge 5, 3) := by decide +kernel
theorem dX8_base_4 : decode cX8_base 4 = .ok (.iconst 0, 1) := by decide +kernel
theorem dX8_base_5 : decode cX8_base 5 = .ok (.ireturn, 1) := by decide +kernel
theorem dX8_base_6 : decode cX8_base 6 = .ok (.aload_n 0, 1) := by decide +kernel
theorem dX8_base_7 : decode cX8_base 7 = .ok (.getfield 12, 3) := by decide +kernel
theorem dX8_base_10 : decode cX8_base 10 = .ok (.iload_n 1, 1) := by decide +kernel
theorem dX8_base_11 : decode cX8_base 11 = .ok (.putfield 96, 3) := by decide +kernel
theorem dX8_base_14 : decode cX8_base 14 = .ok (.aload_n 0, 1) := by decide +kernel
theorem dX8_base_15 : decode cX8_base 15 = .ok (.iconst 1, 1) := by decide +kernel
theorem dX8_base_16 : decode cX8_base 16 = .ok (.invokevirtual 78, 3) := by decide +kernel
theorem dX8_base_19 : decode cX8_base 19 = .ok (.ireturn, 1) := by decide +kernel
theorem dX8_resize_0 : decode cX8_resize 0 = .ok (.aload_n 0, 1) := by decide +kernel
theorem dX8_resize_1 : decode cX8_resize 1 = .ok (.aload_n 0, 1) := by decide +kernel
theorem dX8_resize_2 : decode cX8_resize 2 = .ok (.getfield 12, 3) := by decide +kernel
theorem dX8_resize_5 : decode cX8_resize 5 = .ok (.iload_n 1, 1) := by decide +kernel
theorem dX8_resize_6 : decode cX8_resize 6 = .ok (.iload_n 2, 1) := by decide +kernel
theorem dX8_resize_7 : decode cX8_resize 7 = .ok (.invokevirtual 100, 3) := by decide +kernel
theorem dX8_resize_10 : decode cX8_resize 10 = .ok (.invokevirtual 78, 3) := by decide +kernel
theorem dX8_resize_13 : decode cX8_resize 13 = .ok (.ireturn, 1) := by decide +kernel
theorem dX8_retarget_0 : decode cX8_retarget 0 = .ok (.aload_n 0, 1) := by decide +kernel
theorem dX8_retarget_1 : decode cX8_retarget 1 = .ok (.getfield 12, 3) := by decide +kernel
theorem dX8_retarget_4 : decode cX8_retarget 4 = .ok (.getfield 84, 3) := by decide +kernel
theorem dX8_retarget_7 : decode cX8_retarget 7 = .ok (.iload_n 1, 1) := by decide +kernel
theorem dX8_retarget_8 : decode cX8_retarget 8 = .ok (.invokevirtual 104, 3) := by decide +kernel
theorem dX8_retarget_11 : decode cX8_retarget 11 = .ok (.ifCond .eq 17, 3) := by decide +kernel
theorem dX8_retarget_14 : decode cX8_retarget 14 = .ok (.aload_n 0, 1) := by decide +kernel
theorem dX8_retarget_15 : decode cX8_retarget 15 = .ok (.getfield 12, 3) := by decide +kernel
theorem dX8_retarget_18 : decode cX8_retarget 18 = .ok (.getfield 59, 3) := by decide +kernel
theorem dX8_retarget_21 : decode cX8_retarget 21 = .ok (.iload_n 2, 1) := by decide +kernel
theorem dX8_retarget_22 : decode cX8_retarget 22 = .ok (.invokevirtual 83, 3) := by decide +kernel
theorem dX8_retarget_25 : decode cX8_retarget 25 = .ok (.ifCond .ne 5, 3) := by decide +kernel
theorem dX8_retarget_28 : decode cX8_retarget 28 = .ok (.iconst 0, 1) := by decide +kernel
theorem dX8_retarget_29 : decode cX8_retarget 29 = .ok (.ireturn, 1) := by decide +kernel
theorem dX8_retarget_30 : decode cX8_retarget 30 = .ok (.aload_n 0, 1) := by decide +kernel
theorem dX8_retarget_31 : decode cX8_retarget 31 = .ok (.getfield 12, 3) := by decide +kernel
theorem dX8_retarget_34 : decode cX8_retarget 34 = .ok (.getfield 84, 3) := by decide +kernel
theorem dX8_retarget_37 : decode cX8_retarget 37 = .ok (.getfield 105, 3) := by decide +kernel
theorem dX8_retarget_40 : decode cX8_retarget 40 = .ok (.iload_n 1, 1) := by decide +kernel
theorem dX8_retarget_41 : decode cX8_retarget 41 = .ok (.iload_n 2, 1) := by decide +kernel
theorem dX8_retarget_42 : decode cX8_retarget 42 = .ok (.iastore, 1) := by decide +kernel
theorem dX8_retarget_43 : decode cX8_retarget 43 = .ok (.aload_n 0, 1) := by decide +kernel
theorem dX8_retarget_44 : decode cX8_retarget 44 = .ok (.iconst 1, 1) := by decide +kernel
theorem dX8_retarget_45 : decode cX8_retarget 45 = .ok (.invokevirtual 78, 3) := by decide +kernel
theorem dX8_retarget_48 : decode cX8_retarget 48 = .ok (.ireturn, 1) := by decide +kernel
theorem dX8_lay_0 : decode cX8_lay 0 = .ok (.aload_n 0, 1) := by decide +kernel
theorem dX8_lay_1 : decode cX8_lay 1 = .ok (.getfield 19, 3) := by decide +kernel
theorem dX8_lay_4 : decode cX8_lay 4 = .ok (.aload_n 0, 1) := by decide +kernel
theorem dX8_lay_5 : decode cX8_lay 5 = .ok (.getfield 12, 3) := by decide +kernel
theorem dX8_lay_8 : decode cX8_lay 8 = .ok (.invokevirtual 108, 3) := by decide +kernel
theorem dX8_lay_11 : decode cX8_lay 11 = .ok (.aload_n 0, 1) := by decide +kernel
theorem dX8_lay_12 : decode cX8_lay 12 = .ok (.iconst 0, 1) := by decide +kernel
theorem dX8_lay_13 : decode cX8_lay 13 = .ok (.putfield 34, 3) := by decide +kernel
theorem dX8_lay_16 : decode cX8_lay 16 = .ok (.aload_n 0, 1) := by decide +kernel
theorem dX8_lay_17 : decode cX8_lay 17 = .ok (.getfield 19, 3) := by decide +kernel
theorem dX8_lay_20 : decode cX8_lay 20 = .ok (.getfield 112, 3) := by decide +kernel
theorem dX8_lay_23 : decode cX8_lay 23 = .ok (.ireturn, 1) := by decide +kernel
theorem dX8_count_0 : decode cX8_count 0 = .ok (.iload_n 1, 1) := by decide +kernel
theorem dX8_count_1 : decode cX8_count 1 = .ok (.tableswitch 202 0 14 #[75, 83, 94, 102, 110, 118, 129, 137, 202, 202, 145, 156, 167, 178, 189], 75) := by decide +kernel
theorem dX8_count_76 : decode cX8_count 76 = .ok (.aload_n 0, 1) := by decide +kernel
theorem dX8_count_77 : decode cX8_count 77 = .ok (.getfield 19, 3) := by decide +kernel
theorem dX8_count_80 : decode cX8_count 80 = .ok (.getfield 115, 3) := by decide +kernel
theorem dX8_count_83 : decode cX8_count 83 = .ok (.ireturn, 1) := by decide +kernel
theorem dX8_count_84 : decode cX8_count 84 = .ok (.aload_n 0, 1) := by decide +kernel
theorem dX8_count_85 : decode cX8_count 85 = .ok (.getfield 19, 3) := by decide +kernel
theorem dX8_count_88 : decode cX8_count 88 = .ok (.getfield 118, 3) := by decide +kernel
theorem dX8_count_91 : decode cX8_count 91 = .ok (.getfield 122, 3) := by decide +kernel
theorem dX8_count_94 : decode cX8_count 94 = .ok (.ireturn, 1) := by decide +kernel
theorem dX8_count_95 : decode cX8_count 95 = .ok (.aload_n 0, 1) := by decide +kernel
theorem dX8_count_96 : decode cX8_count 96 = .ok (.getfield 19, 3) := by decide +kernel
theorem dX8_count_99 : decode cX8_count 99 = .ok (.getfield 127, 3) := by decide +kernel
theorem dX8_count_102 : decode cX8_count 102 = .ok (.ireturn, 1) := by decide +kernel
theorem dX8_count_103 : decode cX8_count 103 = .ok (.aload_n 0, 1) := by decide +kernel
theorem dX8_count_104 : decode cX8_count 104 = .ok (.getfield 19, 3) := by decide +kernel
theorem dX8_count_107 : decode cX8_count 107 = .ok (.getfield 130, 3) := by decide +kernel
theorem dX8_count_110 : decode cX8_count 110 = .ok (.ireturn, 1) := by decide +kernel
theorem dX8_count_111 : decode cX8_count 111 = .ok (.aload_n 0, 1) := by decide +kernel
theorem dX8_count_112 : decode cX8_count 112 = .ok (.getfield 19, 3) := by decide +kernel
theorem dX8_count_115 : decode cX8_count 115 = .ok (.getfield 112, 3) := by decide +kernel
theorem dX8_count_118 : decode cX8_count 118 = .ok (.ireturn, 1) := by decide +kernel
theorem dX8_count_119 : decode cX8_count 119 = .ok (.aload_n 0, 1) := by decide +kernel
theorem dX8_count_120 : decode cX8_count 120 = .ok (.getfield 19, 3) := by decide +kernel
theorem dX8_count_123 : decode cX8_count 123 = .ok (.getfield 118, 3) := by decide +kernel
theorem dX8_count_126 : decode cX8_count 126 = .ok (.invokevirtual 133, 3) := by decide +kernel
theorem dX8_count_129 : decode cX8_count 129 = .ok (.ireturn, 1) := by decide +kernel
theorem dX8_count_130 : decode cX8_count 130 = .ok (.aload_n 0, 1) := by decide +kernel
theorem dX8_count_131 : decode cX8_count 131 = .ok (.getfield 19, 3) := by decide +kernel
theorem dX8_count_134 : decode cX8_count 134 = .ok (.invokevirtual 137, 3) := by decide +kernel
theorem dX8_count_137 : decode cX8_count 137 = .ok (.ireturn, 1) := by decide +kernel
theorem dX8_count_138 : decode cX8_count 138 = .ok (.aload_n 0, 1) := by decide +kernel
theorem dX8_count_139 : decode cX8_count 139 = .ok (.getfield 19, 3) := by decide +kernel
theorem dX8_count_142 : decode cX8_count 142 = .ok (.invokevirtual 140, 3) := by decide +kernel
theorem dX8_count_145 : decode cX8_count 145 = .ok (.ireturn, 1) := by decide +kernel
theorem dX8_count_146 : decode cX8_count 146 = .ok (.aload_n 0, 1) := by decide +kernel
theorem dX8_count_147 : decode cX8_count 147 = .ok (.getfield 12, 3) := by decide +kernel
theorem dX8_count_150 : decode cX8_count 150 = .ok (.getfield 38, 3) := by decide +kernel
theorem dX8_count_153 : decode cX8_count 153 = .ok (.getfield 143, 3) := by decide +kernel
theorem dX8_count_156 : decode cX8_count 156 = .ok (.ireturn, 1) := by decide +kernel
theorem dX8_count_157 : decode cX8_count 157 = .ok (.aload_n 0, 1) := by decide +kernel
theorem dX8_count_158 : decode cX8_count 158 = .ok (.getfield 12, 3) := by decide +kernel
theorem dX8_count_161 : decode cX8_count 161 = .ok (.getfield 59, 3) := by decide +kernel
theorem dX8_count_164 : decode cX8_count 164 = .ok (.getfield 146, 3) := by decide +kernel
theorem dX8_count_167 : decode cX8_count 167 = .ok (.ireturn, 1) := by decide +kernel
theorem dX8_count_168 : decode cX8_count 168 = .ok (.aload_n 0, 1) := by decide +kernel
theorem dX8_count_169 : decode cX8_count 169 = .ok (.getfield 12, 3) := by decide +kernel
theorem dX8_count_172 : decode cX8_count 172 = .ok (.getfield 84, 3) := by decide +kernel
theorem dX8_count_175 : decode cX8_count 175 = .ok (.getfield 147, 3) := by decide +kernel
theorem dX8_count_178 : decode cX8_count 178 = .ok (.ireturn, 1) := by decide +kernel
theorem dX8_count_179 : decode cX8_count 179 = .ok (.aload_n 0, 1) := by decide +kernel
theorem dX8_count_180 : decode cX8_count 180 = .ok (.getfield 12, 3) := by decide +kernel
theorem dX8_count_183 : decode cX8_count 183 = .ok (.getfield 38, 3) := by decide +kernel
theorem dX8_count_186 : decode cX8_count 186 = .ok (.getfield 148, 3) := by decide +kernel
theorem dX8_count_189 : decode cX8_count 189 = .ok (.ireturn, 1) := by decide +kernel
theorem dX8_count_190 : decode cX8_count 190 = .ok (.aload_n 0, 1) := by decide +kernel
theorem dX8_count_191 : decode cX8_count 191 = .ok (.getfield 34, 3) := by decide +kernel
theorem dX8_count_194 : decode cX8_count 194 = .ok (.ifCond .eq 7, 3) := by decide +kernel
theorem dX8_count_197 : decode cX8_count 197 = .ok (.iconst 1, 1) := by decide +kernel
theorem dX8_count_198 : decode cX8_count 198 = .ok (.goto 4, 3) := by decide +kernel
theorem dX8_count_201 : decode cX8_count 201 = .ok (.iconst 0, 1) := by decide +kernel
theorem dX8_count_202 : decode cX8_count 202 = .ok (.ireturn, 1) := by decide +kernel
theorem dX8_count_203 : decode cX8_count 203 = .ok (.iconst (-1), 1) := by decide +kernel
theorem dX8_count_204 : decode cX8_count 204 = .ok (.ireturn, 1) := by decide +kernel
theorem dX8_address_0 : decode cX8_address 0 = .ok (.iload_n 1, 1) := by decide +kernel
theorem dX8_address_1 : decode cX8_address 1 = .ok (.tableswitch 204 0 4 #[35, 71, 103, 135, 168], 35) := by decide +kernel
theorem dX8_address_36 : decode cX8_address 36 = .ok (.aload_n 0, 1) := by decide +kernel
theorem dX8_address_37 : decode cX8_address 37 = .ok (.getfield 19, 3) := by decide +kernel
theorem dX8_address_40 : decode cX8_address 40 = .ok (.getfield 151, 3) := by decide +kernel
theorem dX8_address_43 : decode cX8_address 43 = .ok (.getfield 38, 3) := by decide +kernel
theorem dX8_address_46 : decode cX8_address 46 = .ok (.iload_n 2, 1) := by decide +kernel
theorem dX8_address_47 : decode cX8_address 47 = .ok (.invokevirtual 52, 3) := by decide +kernel
theorem dX8_address_50 : decode cX8_address 50 = .ok (.ifCond .eq 18, 3) := by decide +kernel
theorem dX8_address_53 : decode cX8_address 53 = .ok (.aload_n 0, 1) := by decide +kernel
theorem dX8_address_54 : decode cX8_address 54 = .ok (.getfield 19, 3) := by decide +kernel
theorem dX8_address_57 : decode cX8_address 57 = .ok (.getfield 152, 3) := by decide +kernel
theorem dX8_address_60 : decode cX8_address 60 = .ok (.getfield 155, 3) := by decide +kernel
theorem dX8_address_63 : decode cX8_address 63 = .ok (.iload_n 2, 1) := by decide +kernel
theorem dX8_address_64 : decode cX8_address 64 = .ok (.laload, 1) := by decide +kernel
theorem dX8_address_65 : decode cX8_address 65 = .ok (.goto 6, 3) := by decide +kernel
theorem dX8_address_68 : decode cX8_address 68 = .ok (.ldc2_w 159, 3) := by decide +kernel
theorem dX8_address_71 : decode cX8_address 71 = .ok (.lreturn, 1) := by decide +kernel
theorem dX8_address_72 : decode cX8_address 72 = .ok (.aload_n 0, 1) := by decide +kernel
theorem dX8_address_73 : decode cX8_address 73 = .ok (.getfield 19, 3) := by decide +kernel
theorem dX8_address_76 : decode cX8_address 76 = .ok (.getfield 151, 3) := by decide +kernel
theorem dX8_address_79 : decode cX8_address 79 = .ok (.getfield 59, 3) := by decide +kernel
theorem dX8_address_82 : decode cX8_address 82 = .ok (.iload_n 2, 1) := by decide +kernel
theorem dX8_address_83 : decode cX8_address 83 = .ok (.invokevirtual 83, 3) := by decide +kernel
theorem dX8_address_86 : decode cX8_address 86 = .ok (.ifCond .eq 14, 3) := by decide +kernel
theorem dX8_address_89 : decode cX8_address 89 = .ok (.aload_n 0, 1) := by decide +kernel
theorem dX8_address_90 : decode cX8_address 90 = .ok (.getfield 19, 3) := by decide +kernel
theorem dX8_address_93 : decode cX8_address 93 = .ok (.iload_n 2, 1) := by decide +kernel
theorem dX8_address_94 : decode cX8_address 94 = .ok (.invokevirtual 161, 3) := by decide +kernel
theorem dX8_address_97 : decode cX8_address 97 = .ok (.goto 6, 3) := by decide +kernel
theorem dX8_address_100 : decode cX8_address 100 = .ok (.ldc2_w 159, 3) := by decide +kernel
theorem dX8_address_103 : decode cX8_address 103 = .ok (.lreturn, 1) := by decide +kernel
theorem dX8_address_104 : decode cX8_address 104 = .ok (.aload_n 0, 1) := by decide +kernel
theorem dX8_address_105 : decode cX8_address 105 = .ok (.getfield 19, 3) := by decide +kernel
theorem dX8_address_108 : decode cX8_address 108 = .ok (.getfield 151, 3) := by decide +kernel
theorem dX8_address_111 : decode cX8_address 111 = .ok (.getfield 84, 3) := by decide +kernel
theorem dX8_address_114 : decode cX8_address 114 = .ok (.iload_n 2, 1) := by decide +kernel
theorem dX8_address_115 : decode cX8_address 115 = .ok (.invokevirtual 104, 3) := by decide +kernel
theorem dX8_address_118 : decode cX8_address 118 = .ok (.ifCond .eq 14, 3) := by decide +kernel
theorem dX8_address_121 : decode cX8_address 121 = .ok (.aload_n 0, 1) := by decide +kernel
theorem dX8_address_122 : decode cX8_address 122 = .ok (.getfield 19, 3) := by decide +kernel
theorem dX8_address_125 : decode cX8_address 125 = .ok (.iload_n 2, 1) := by decide +kernel
theorem dX8_address_126 : decode cX8_address 126 = .ok (.invokevirtual 165, 3) := by decide +kernel
theorem dX8_address_129 : decode cX8_address 129 = .ok (.goto 6, 3) := by decide +kernel
theorem dX8_address_132 : decode cX8_address 132 = .ok (.ldc2_w 159, 3) := by decide +kernel
theorem dX8_address_135 : decode cX8_address 135 = .ok (.lreturn, 1) := by decide +kernel
theorem dX8_address_136 : decode cX8_address 136 = .ok (.aload_n 0, 1) := by decide +kernel
theorem dX8_address_137 : decode cX8_address 137 = .ok (.getfield 19, 3) := by decide +kernel
theorem dX8_address_140 : decode cX8_address 140 = .ok (.getfield 118, 3) := by decide +kernel
theorem dX8_address_143 : decode cX8_address 143 = .ok (.iload_n 2, 1) := by decide +kernel
theorem dX8_address_144 : decode cX8_address 144 = .ok (.invokevirtual 168, 3) := by decide +kernel
theorem dX8_address_147 : decode cX8_address 147 = .ok (.ifCond .eq 18, 3) := by decide +kernel
theorem dX8_address_150 : decode cX8_address 150 = .ok (.aload_n 0, 1) := by decide +kernel
theorem dX8_address_151 : decode cX8_address 151 = .ok (.getfield 19, 3) := by decide +kernel
theorem dX8_address_154 : decode cX8_address 154 = .ok (.getfield 118, 3) := by decide +kernel
theorem dX8_address_157 : decode cX8_address 157 = .ok (.getfield 169, 3) := by decide +kernel
theorem dX8_address_160 : decode cX8_address 160 = .ok (.iload_n 2, 1) := by decide +kernel
theorem dX8_address_161 : decode cX8_address 161 = .ok (.laload, 1) := by decide +kernel
theorem dX8_address_162 : decode cX8_address 162 = .ok (.goto 6, 3) := by decide +kernel
theorem dX8_address_165 : decode cX8_address 165 = .ok (.ldc2_w 159, 3) := by decide +kernel
theorem dX8_address_168 : decode cX8_address 168 = .ok (.lreturn, 1) := by decide +kernel
theorem dX8_address_169 : decode cX8_address 169 = .ok (.aload_n 0, 1) := by decide +kernel
theorem dX8_address_170 : decode cX8_address 170 = .ok (.getfield 19, 3) := by decide +kernel
theorem dX8_address_173 : decode cX8_address 173 = .ok (.getfield 151, 3) := by decide +kernel
theorem dX8_address_176 : decode cX8_address 176 = .ok (.getfield 38, 3) := by decide +kernel
theorem dX8_address_179 : decode cX8_address 179 = .ok (.iload_n 2, 1) := by decide +kernel
theorem dX8_address_180 : decode cX8_address 180 = .ok (.invokevirtual 172, 3) := by decide +kernel
theorem dX8_address_183 : decode cX8_address 183 = .ok (.ifCond .eq 18, 3) := by decide +kernel
theorem dX8_address_186 : decode cX8_address 186 = .ok (.aload_n 0, 1) := by decide +kernel
theorem dX8_address_187 : decode cX8_address 187 = .ok (.getfield 19, 3) := by decide +kernel
theorem dX8_address_190 : decode cX8_address 190 = .ok (.getfield 152, 3) := by decide +kernel
theorem dX8_address_193 : decode cX8_address 193 = .ok (.getfield 175, 3) := by decide +kernel
theorem dX8_address_196 : decode cX8_address 196 = .ok (.iload_n 2, 1) := by decide +kernel
theorem dX8_address_197 : decode cX8_address 197 = .ok (.laload, 1) := by decide +kernel
theorem dX8_address_198 : decode cX8_address 198 = .ok (.goto 6, 3) := by decide +kernel
theorem dX8_address_201 : decode cX8_address 201 = .ok (.ldc2_w 159, 3) := by decide +kernel
theorem dX8_address_204 : decode cX8_address 204 = .ok (.lreturn, 1) := by decide +kernel
theorem dX8_address_205 : decode cX8_address 205 = .ok (.ldc2_w 159, 3) := by decide +kernel
theorem dX8_address_208 : decode cX8_address 208 = .ok (.lreturn, 1) := by decide +kernel
theorem dX8_route_0 : decode cX8_route 0 = .ok (.aload_n 0, 1) := by decide +kernel
theorem dX8_route_1 : decode cX8_route 1 = .ok (.getfield 19, 3) := by decide +kernel
theorem dX8_route_4 : decode cX8_route 4 = .ok (.getfield 151, 3) := by decide +kernel
theorem dX8_route_7 : decode cX8_route 7 = .ok (.getfield 84, 3) := by decide +kernel
theorem dX8_route_10 : decode cX8_route 10 = .ok (.iload_n 1, 1) := by decide +kernel
theorem dX8_route_11 : decode cX8_route 11 = .ok (.invokevirtual 104, 3) := by decide +kernel
theorem dX8_route_14 : decode cX8_route 14 = .ok (.ifCond .ne 5, 3) := by decide +kernel
theorem dX8_route_17 : decode cX8_route 17 = .ok (.iconst (-1), 1) := by decide +kernel
theorem dX8_route_18 : decode cX8_route 18 = .ok (.ireturn, 1) := by decide +kernel
theorem dX8_route_19 : decode cX8_route 19 = .ok (.iload_n 2, 1) := by decide +kernel
theorem dX8_route_20 : decode cX8_route 20 = .ok (.lookupswitch 48 #[(0, 28), (1, 38)], 28) := by decide +kernel
theorem dX8_route_48 : decode cX8_route 48 = .ok (.aload_n 0, 1) := by decide +kernel
theorem dX8_route_49 : decode cX8_route 49 = .ok (.getfield 19, 3) := by decide +kernel
theorem dX8_route_52 : decode cX8_route 52 = .ok (.getfield 178, 3) := by decide +kernel
theorem dX8_route_55 : decode cX8_route 55 = .ok (.iload_n 1, 1) := by decide +kernel
theorem dX8_route_56 : decode cX8_route 56 = .ok (.iaload, 1) := by decide +kernel
theorem dX8_route_57 : decode cX8_route 57 = .ok (.ireturn, 1) := by decide +kernel
theorem dX8_route_58 : decode cX8_route 58 = .ok (.aload_n 0, 1) := by decide +kernel
theorem dX8_route_59 : decode cX8_route 59 = .ok (.getfield 19, 3) := by decide +kernel
theorem dX8_route_62 : decode cX8_route 62 = .ok (.getfield 181, 3) := by decide +kernel
theorem dX8_route_65 : decode cX8_route 65 = .ok (.iload_n 1, 1) := by decide +kernel
theorem dX8_route_66 : decode cX8_route 66 = .ok (.iaload, 1) := by decide +kernel
theorem dX8_route_67 : decode cX8_route 67 = .ok (.ireturn, 1) := by decide +kernel
theorem dX8_route_68 : decode cX8_route 68 = .ok (.iconst (-1), 1) := by decide +kernel
theorem dX8_route_69 : decode cX8_route 69 = .ok (.ireturn, 1) := by decide +kernel
theorem dX8_thunk_0 : decode cX8_thunk 0 = .ok (.aload_n 0, 1) := by decide +kernel
theorem dX8_thunk_1 : decode cX8_thunk 1 = .ok (.getfield 19, 3) := by decide +kernel
theorem dX8_thunk_4 : decode cX8_thunk 4 = .ok (.getfield 118, 3) := by decide +kernel
theorem dX8_thunk_7 : decode cX8_thunk 7 = .ok (.iload_n 1, 1) := by decide +kernel
theorem dX8_thunk_8 : decode cX8_thunk 8 = .ok (.invokevirtual 168, 3) := by decide +kernel
theorem dX8_thunk_11 : decode cX8_thunk 11 = .ok (.ifCond .ne 5, 3) := by decide +kernel
theorem dX8_thunk_14 : decode cX8_thunk 14 = .ok (.iconst (-1), 1) := by decide +kernel
theorem dX8_thunk_15 : decode cX8_thunk 15 = .ok (.ireturn, 1) := by decide +kernel
theorem dX8_thunk_16 : decode cX8_thunk 16 = .ok (.iload_n 2, 1) := by decide +kernel
theorem dX8_thunk_17 : decode cX8_thunk 17 = .ok (.tableswitch 117 0 5 #[39, 52, 65, 78, 91, 104], 39) := by decide +kernel
theorem dX8_thunk_56 : decode cX8_thunk 56 = .ok (.aload_n 0, 1) := by decide +kernel
theorem dX8_thunk_57 : decode cX8_thunk 57 = .ok (.getfield 19, 3) := by decide +kernel
theorem dX8_thunk_60 : decode cX8_thunk 60 = .ok (.getfield 118, 3) := by decide +kernel
theorem dX8_thunk_63 : decode cX8_thunk 63 = .ok (.getfield 184, 3) := by decide +kernel
theorem dX8_thunk_66 : decode cX8_thunk 66 = .ok (.iload_n 1, 1) := by decide +kernel
theorem dX8_thunk_67 : decode cX8_thunk 67 = .ok (.iaload, 1) := by decide +kernel
theorem dX8_thunk_68 : decode cX8_thunk 68 = .ok (.ireturn, 1) := by decide +kernel
theorem dX8_thunk_69 : decode cX8_thunk 69 = .ok (.aload_n 0, 1) := by decide +kernel
theorem dX8_thunk_70 : decode cX8_thunk 70 = .ok (.getfield 19, 3) := by decide +kernel
theorem dX8_thunk_73 : decode cX8_thunk 73 = .ok (.getfield 118, 3) := by decide +kernel
theorem dX8_thunk_76 : decode cX8_thunk 76 = .ok (.getfield 187, 3) := by decide +kernel
theorem dX8_thunk_79 : decode cX8_thunk 79 = .ok (.iload_n 1, 1) := by decide +kernel
theorem dX8_thunk_80 : decode cX8_thunk 80 = .ok (.iaload, 1) := by decide +kernel
theorem dX8_thunk_81 : decode cX8_thunk 81 = .ok (.ireturn, 1) := by decide +kernel
theorem dX8_thunk_82 : decode cX8_thunk 82 = .ok (.aload_n 0, 1) := by decide +kernel
theorem dX8_thunk_83 : decode cX8_thunk 83 = .ok (.getfield 19, 3) := by decide +kernel
theorem dX8_thunk_86 : decode cX8_thunk 86 = .ok (.getfield 118, 3) := by decide +kernel
theorem dX8_thunk_89 : decode cX8_thunk 89 = .ok (.getfield 188, 3) := by decide +kernel
theorem dX8_thunk_92 : decode cX8_thunk 92 = .ok (.iload_n 1, 1) := by decide +kernel
theorem dX8_thunk_93 : decode cX8_thunk 93 = .ok (.iaload, 1) := by decide +kernel
theorem dX8_thunk_94 : decode cX8_thunk 94 = .ok (.ireturn, 1) := by decide +kernel
theorem dX8_thunk_95 : decode cX8_thunk 95 = .ok (.aload_n 0, 1) := by decide +kernel
theorem dX8_thunk_96 : decode cX8_thunk 96 = .ok (.getfield 19, 3) := by decide +kernel
theorem dX8_thunk_99 : decode cX8_thunk 99 = .ok (.getfield 118, 3) := by decide +kernel
theorem dX8_thunk_102 : decode cX8_thunk 102 = .ok (.getfield 191, 3) := by decide +kernel
theorem dX8_thunk_105 : decode cX8_thunk 105 = .ok (.iload_n 1, 1) := by decide +kernel
theorem dX8_thunk_106 : decode cX8_thunk 106 = .ok (.iaload, 1) := by decide +kernel
theorem dX8_thunk_107 : decode cX8_thunk 107 = .ok (.ireturn, 1) := by decide +kernel
theorem dX8_thunk_108 : decode cX8_thunk 108 = .ok (.aload_n 0, 1) := by decide +kernel
theorem dX8_thunk_109 : decode cX8_thunk 109 = .ok (.getfield 19, 3) := by decide +kernel
theorem dX8_thunk_112 : decode cX8_thunk 112 = .ok (.getfield 118, 3) := by decide +kernel
theorem dX8_thunk_115 : decode cX8_thunk 115 = .ok (.getfield 194, 3) := by decide +kernel
theorem dX8_thunk_118 : decode cX8_thunk 118 = .ok (.iload_n 1, 1) := by decide +kernel
theorem dX8_thunk_119 : decode cX8_thunk 119 = .ok (.iaload, 1) := by decide +kernel
theorem dX8_thunk_120 : decode cX8_thunk 120 = .ok (.ireturn, 1) := by decide +kernel
theorem dX8_thunk_121 : decode cX8_thunk 121 = .ok (.aload_n 0, 1) := by decide +kernel
theorem dX8_thunk_122 : decode cX8_thunk 122 = .ok (.getfield 19, 3) := by decide +kernel
theorem dX8_thunk_125 : decode cX8_thunk 125 = .ok (.getfield 118, 3) := by decide +kernel
theorem dX8_thunk_128 : decode cX8_thunk 128 = .ok (.getfield 197, 3) := by decide +kernel
theorem dX8_thunk_131 : decode cX8_thunk 131 = .ok (.iload_n 1, 1) := by decide +kernel
theorem dX8_thunk_132 : decode cX8_thunk 132 = .ok (.iaload, 1) := by decide +kernel
theorem dX8_thunk_133 : decode cX8_thunk 133 = .ok (.ireturn, 1) := by decide +kernel
theorem dX8_thunk_134 : decode cX8_thunk 134 = .ok (.iconst (-1), 1) := by decide +kernel
theorem dX8_thunk_135 : decode cX8_thunk 135 = .ok (.ireturn, 1) := by decide +kernel
theorem dX8_encoded_0 : decode cX8_encoded 0 = .ok (.iload_n 1, 1) := by decide +kernel
theorem dX8_encoded_1 : decode cX8_encoded 1 = .ok (.lookupswitch 45 #[(0, 27), (1, 36)], 27) := by decide +kernel
theorem dX8_encoded_28 : decode cX8_encoded 28 = .ok (.aload_n 0, 1) := by decide +kernel
theorem dX8_encoded_29 : decode cX8_encoded 29 = .ok (.getfield 19, 3) := by decide +kernel
theorem dX8_encoded_32 : decode cX8_encoded 32 = .ok (.iload_n 2, 1) := by decide +kernel
theorem dX8_encoded_33 : decode cX8_encoded 33 = .ok (.invokevirtual 200, 3) := by decide +kernel
theorem dX8_encoded_36 : decode cX8_encoded 36 = .ok (.ireturn, 1) := by decide +kernel
theorem dX8_encoded_37 : decode cX8_encoded 37 = .ok (.aload_n 0, 1) := by decide +kernel
theorem dX8_encoded_38 : decode cX8_encoded 38 = .ok (.getfield 19, 3) := by decide +kernel
theorem dX8_encoded_41 : decode cX8_encoded 41 = .ok (.iload_n 2, 1) := by decide +kernel
theorem dX8_encoded_42 : decode cX8_encoded 42 = .ok (.invokevirtual 203, 3) := by decide +kernel
theorem dX8_encoded_45 : decode cX8_encoded 45 = .ok (.ireturn, 1) := by decide +kernel
theorem dX8_encoded_46 : decode cX8_encoded 46 = .ok (.iconst (-1), 1) := by decide +kernel
theorem dX8_encoded_47 : decode cX8_encoded 47 = .ok (.ireturn, 1) := by decide +kernel
theorem dX8_at_0 : decode cX8_at 0 = .ok (.aload_n 0, 1) := by decide +kernel
theorem dX8_at_1 : decode cX8_at 1 = .ok (.getfield 19, 3) := by decide +kernel
theorem dX8_at_4 : decode cX8_at 4 = .ok (.lload_n 1, 1) := by decide +kernel
theorem dX8_at_5 : decode cX8_at 5 = .ok (.invokevirtual 206, 3) := by decide +kernel
theorem dX8_at_8 : decode cX8_at 8 = .ok (.ireturn, 1) := by decide +kernel
theorem dX8_walk_0 : decode cX8_walk 0 = .ok (.aload_n 0, 1) := by decide +kernel
theorem dX8_walk_1 : decode cX8_walk 1 = .ok (.getfield 19, 3) := by decide +kernel
theorem dX8_walk_4 : decode cX8_walk 4 = .ok (.iload_n 1, 1) := by decide +kernel
theorem dX8_walk_5 : decode cX8_walk 5 = .ok (.invokevirtual 210, 3) := by decide +kernel
theorem dX8_walk_8 : decode cX8_walk 8 = .ok (.lreturn, 1) := by decide +kernel
theorem dX8_far_0 : decode cX8_far 0 = .ok (.aload_n 0, 1) := by decide +kernel
theorem dX8_far_1 : decode cX8_far 1 = .ok (.getfield 26, 3) := by decide +kernel
theorem dX8_far_4 : decode cX8_far 4 = .ok (.aload_n 0, 1) := by decide +kernel
theorem dX8_far_5 : decode cX8_far 5 = .ok (.getfield 12, 3) := by decide +kernel
theorem dX8_far_8 : decode cX8_far 8 = .ok (.aload_n 0, 1) := by decide +kernel
theorem dX8_far_9 : decode cX8_far 9 = .ok (.getfield 30, 3) := by decide +kernel
theorem dX8_far_12 : decode cX8_far 12 = .ok (.invokevirtual 213, 3) := by decide +kernel
theorem dX8_far_15 : decode cX8_far 15 = .ok (.iconst 0, 1) := by decide +kernel
theorem dX8_far_16 : decode cX8_far 16 = .ok (.istore_n 1, 1) := by decide +kernel
theorem dX8_far_17 : decode cX8_far 17 = .ok (.iconst 0, 1) := by decide +kernel
theorem dX8_far_18 : decode cX8_far 18 = .ok (.istore_n 2, 1) := by decide +kernel
theorem dX8_far_19 : decode cX8_far 19 = .ok (.iload_n 2, 1) := by decide +kernel
theorem dX8_far_20 : decode cX8_far 20 = .ok (.aload_n 0, 1) := by decide +kernel
theorem dX8_far_21 : decode cX8_far 21 = .ok (.getfield 12, 3) := by decide +kernel
theorem dX8_far_24 : decode cX8_far 24 = .ok (.getfield 84, 3) := by decide +kernel
theorem dX8_far_27 : decode cX8_far 27 = .ok (.getfield 147, 3) := by decide +kernel
theorem dX8_far_30 : decode cX8_far 30 = .ok (.if_icmp .ge 127, 3) := by decide +kernel
theorem dX8_far_33 : decode cX8_far 33 = .ok (.aload_n 0, 1) := by decide +kernel
theorem dX8_far_34 : decode cX8_far 34 = .ok (.getfield 26, 3) := by decide +kernel
theorem dX8_far_37 : decode cX8_far 37 = .ok (.getfield 155, 3) := by decide +kernel
theorem dX8_far_40 : decode cX8_far 40 = .ok (.aload_n 0, 1) := by decide +kernel
theorem dX8_far_41 : decode cX8_far 41 = .ok (.getfield 12, 3) := by decide +kernel
theorem dX8_far_44 : decode cX8_far 44 = .ok (.getfield 84, 3) := by decide +kernel
theorem dX8_far_47 : decode cX8_far 47 = .ok (.getfield 217, 3) := by decide +kernel
theorem dX8_far_50 : decode cX8_far 50 = .ok (.iload_n 2, 1) := by decide +kernel
theorem dX8_far_51 : decode cX8_far 51 = .ok (.iaload, 1) := by decide +kernel
theorem dX8_far_52 : decode cX8_far 52 = .ok (.laload, 1) := by decide +kernel
theorem dX8_far_53 : decode cX8_far 53 = .ok (.aload_n 0, 1) := by decide +kernel
theorem dX8_far_54 : decode cX8_far 54 = .ok (.getfield 12, 3) := by decide +kernel
theorem dX8_far_57 : decode cX8_far 57 = .ok (.getfield 84, 3) := by decide +kernel
theorem dX8_far_60 : decode cX8_far 60 = .ok (.getfield 219, 3) := by decide +kernel
theorem dX8_far_63 : decode cX8_far 63 = .ok (.iload_n 2, 1) := by decide +kernel
theorem dX8_far_64 : decode cX8_far 64 = .ok (.iaload, 1) := by decide +kernel
theorem dX8_far_65 : decode cX8_far 65 = .ok (.i2l, 1) := by decide +kernel
theorem dX8_far_66 : decode cX8_far 66 = .ok (.ladd, 1) := by decide +kernel
theorem dX8_far_67 : decode cX8_far 67 = .ok (.lstore_n 3, 1) := by decide +kernel
theorem dX8_far_68 : decode cX8_far 68 = .ok (.aload_n 0, 1) := by decide +kernel
theorem dX8_far_69 : decode cX8_far 69 = .ok (.getfield 12, 3) := by decide +kernel
theorem dX8_far_72 : decode cX8_far 72 = .ok (.getfield 84, 3) := by decide +kernel
theorem dX8_far_75 : decode cX8_far 75 = .ok (.getfield 105, 3) := by decide +kernel
theorem dX8_far_78 : decode cX8_far 78 = .ok (.iload_n 2, 1) := by decide +kernel
theorem dX8_far_79 : decode cX8_far 79 = .ok (.iaload, 1) := by decide +kernel
theorem dX8_far_80 : decode cX8_far 80 = .ok (.istore 5, 2) := by decide +kernel
theorem dX8_far_82 : decode cX8_far 82 = .ok (.aload_n 0, 1) := by decide +kernel
theorem dX8_far_83 : decode cX8_far 83 = .ok (.getfield 26, 3) := by decide +kernel
theorem dX8_far_86 : decode cX8_far 86 = .ok (.getfield 155, 3) := by decide +kernel
theorem dX8_far_89 : decode cX8_far 89 = .ok (.aload_n 0, 1) := by decide +kernel
theorem dX8_far_90 : decode cX8_far 90 = .ok (.getfield 12, 3) := by decide +kernel
theorem dX8_far_93 : decode cX8_far 93 = .ok (.getfield 59, 3) := by decide +kernel
theorem dX8_far_96 : decode cX8_far 96 = .ok (.getfield 222, 3) := by decide +kernel
theorem dX8_far_99 : decode cX8_far 99 = .ok (.iload 5, 2) := by decide +kernel
theorem dX8_far_101 : decode cX8_far 101 = .ok (.iaload, 1) := by decide +kernel
theorem dX8_far_102 : decode cX8_far 102 = .ok (.laload, 1) := by decide +kernel
theorem dX8_far_103 : decode cX8_far 103 = .ok (.aload_n 0, 1) := by decide +kernel
theorem dX8_far_104 : decode cX8_far 104 = .ok (.getfield 12, 3) := by decide +kernel
theorem dX8_far_107 : decode cX8_far 107 = .ok (.getfield 59, 3) := by decide +kernel
theorem dX8_far_110 : decode cX8_far 110 = .ok (.getfield 223, 3) := by decide +kernel
theorem dX8_far_113 : decode cX8_far 113 = .ok (.iload 5, 2) := by decide +kernel
theorem dX8_far_115 : decode cX8_far 115 = .ok (.iaload, 1) := by decide +kernel
theorem dX8_far_116 : decode cX8_far 116 = .ok (.i2l, 1) := by decide +kernel
theorem dX8_far_117 : decode cX8_far 117 = .ok (.ladd, 1) := by decide +kernel
theorem dX8_far_118 : decode cX8_far 118 = .ok (.lstore 6, 2) := by decide +kernel
theorem dX8_far_120 : decode cX8_far 120 = .ok (.aload_n 0, 1) := by decide +kernel
theorem dX8_far_121 : decode cX8_far 121 = .ok (.getfield 12, 3) := by decide +kernel
theorem dX8_far_124 : decode cX8_far 124 = .ok (.getfield 68, 3) := by decide +kernel
theorem dX8_far_127 : decode cX8_far 127 = .ok (.aload_n 0, 1) := by decide +kernel
theorem dX8_far_128 : decode cX8_far 128 = .ok (.getfield 12, 3) := by decide +kernel
theorem dX8_far_131 : decode cX8_far 131 = .ok (.getfield 84, 3) := by decide +kernel
theorem dX8_far_134 : decode cX8_far 134 = .ok (.getfield 224, 3) := by decide +kernel
theorem dX8_far_137 : decode cX8_far 137 = .ok (.iload_n 2, 1) := by decide +kernel
theorem dX8_far_138 : decode cX8_far 138 = .ok (.iaload, 1) := by decide +kernel
theorem dX8_far_139 : decode cX8_far 139 = .ok (.lload_n 3, 1) := by decide +kernel
theorem dX8_far_140 : decode cX8_far 140 = .ok (.lload 6, 2) := by decide +kernel
theorem dX8_far_142 : decode cX8_far 142 = .ok (.invokevirtual 227, 3) := by decide +kernel
theorem dX8_far_145 : decode cX8_far 145 = .ok (.ifCond .ne 6, 3) := by decide +kernel
theorem dX8_far_148 : decode cX8_far 148 = .ok (.iinc 1 1, 3) := by decide +kernel
theorem dX8_far_151 : decode cX8_far 151 = .ok (.iinc 2 1, 3) := by decide +kernel
theorem dX8_far_154 : decode cX8_far 154 = .ok (.goto (-135), 3) := by decide +kernel
theorem dX8_far_157 : decode cX8_far 157 = .ok (.iload_n 1, 1) := by decide +kernel
theorem dX8_far_158 : decode cX8_far 158 = .ok (.ireturn, 1) := by decide +kernel
theorem dX8_notedNumber_0 : decode cX8_notedNumber 0 = .ok (.aload_n 0, 1) := by decide +kernel
theorem dX8_notedNumber_1 : decode cX8_notedNumber 1 = .ok (.iload_n 1, 1) := by decide +kernel
theorem dX8_notedNumber_2 : decode cX8_notedNumber 2 = .ok (.iconst (-1), 1) := by decide +kernel
theorem dX8_notedNumber_3 : decode cX8_notedNumber 3 = .ok (.if_icmp .eq 7, 3) := by decide +kernel
theorem dX8_notedNumber_6 : decode cX8_notedNumber 6 = .ok (.iconst 1, 1) := by decide +kernel
theorem dX8_notedNumber_7 : decode cX8_notedNumber 7 = .ok (.goto 4, 3) := by decide +kernel
theorem dX8_notedNumber_10 : decode cX8_notedNumber 10 = .ok (.iconst 0, 1) := by decide +kernel
theorem dX8_notedNumber_11 : decode cX8_notedNumber 11 = .ok (.invokevirtual 78, 3) := by decide +kernel
theorem dX8_notedNumber_14 : decode cX8_notedNumber 14 = .ok (.pop, 1) := by decide +kernel
theorem dX8_notedNumber_15 : decode cX8_notedNumber 15 = .ok (.iload_n 1, 1) := by decide +kernel
theorem dX8_notedNumber_16 : decode cX8_notedNumber 16 = .ok (.ireturn, 1) := by decide +kernel
theorem dX8_noted_0 : decode cX8_noted 0 = .ok (.iload_n 1, 1) := by decide +kernel
theorem dX8_noted_1 : decode cX8_noted 1 = .ok (.ifCond .eq 8, 3) := by decide +kernel
theorem dX8_noted_4 : decode cX8_noted 4 = .ok (.aload_n 0, 1) := by decide +kernel
theorem dX8_noted_5 : decode cX8_noted 5 = .ok (.iconst 1, 1) := by decide +kernel
theorem dX8_noted_6 : decode cX8_noted 6 = .ok (.putfield 34, 3) := by decide +kernel
theorem dX8_noted_9 : decode cX8_noted 9 = .ok (.iload_n 1, 1) := by decide +kernel
theorem dX8_noted_10 : decode cX8_noted 10 = .ok (.ireturn, 1) := by decide +kernel
theorem dX8_alignUp_0 : decode cX8_alignUp 0 = .ok (.lload_n 0, 1) := by decide +kernel
theorem dX8_alignUp_1 : decode cX8_alignUp 1 = .ok (.lload_n 2, 1) := by decide +kernel
theorem dX8_alignUp_2 : decode cX8_alignUp 2 = .ok (.ladd, 1) := by decide +kernel
theorem dX8_alignUp_3 : decode cX8_alignUp 3 = .ok (.lconst 1, 1) := by decide +kernel
theorem dX8_alignUp_4 : decode cX8_alignUp 4 = .ok (.lsub, 1) := by decide +kernel
theorem dX8_alignUp_5 : decode cX8_alignUp 5 = .ok (.lload_n 2, 1) := by decide +kernel
theorem dX8_alignUp_6 : decode cX8_alignUp 6 = .ok (.lneg, 1) := by decide +kernel
theorem dX8_alignUp_7 : decode cX8_alignUp 7 = .ok (.land, 1) := by decide +kernel
theorem dX8_alignUp_8 : decode cX8_alignUp 8 = .ok (.lreturn, 1) := by decide +kernel
theorem dX9_init_0 : decode cX9_init 0 = .ok (.aload_n 0, 1) := by decide +kernel
theorem dX9_init_1 : decode cX9_init 1 = .ok (.invokespecial 1, 3) := by decide +kernel
theorem dX9_init_4 : decode cX9_init 4 = .ok (.aload_n 0, 1) := by decide +kernel
theorem dX9_init_5 : decode cX9_init 5 = .ok (.bipush 40, 2) := by decide +kernel
theorem dX9_init_7 : decode cX9_init 7 = .ok (.newarray .int, 2) := by decide +kernel
theorem dX9_init_9 : decode cX9_init 9 = .ok (.putfield 7, 3) := by decide +kernel
theorem dX9_init_12 : decode cX9_init 12 = .ok (.aload_n 0, 1) := by decide +kernel
theorem dX9_init_13 : decode cX9_init 13 = .ok (.bipush 40, 2) := by decide +kernel
theorem dX9_init_15 : decode cX9_init 15 = .ok (.newarray .int, 2) := by decide +kernel
theorem dX9_init_17 : decode cX9_init 17 = .ok (.putfield 13, 3) := by decide +kernel
theorem dX9_init_20 : decode cX9_init 20 = .ok (.aload_n 0, 1) := by decide +kernel
theorem dX9_init_21 : decode cX9_init 21 = .ok (.bipush 40, 2) := by decide +kernel
theorem dX9_init_23 : decode cX9_init 23 = .ok (.newarray .boolean, 2) := by decide +kernel
theorem dX9_init_25 : decode cX9_init 25 = .ok (.putfield 16, 3) := by decide +kernel
theorem dX9_init_28 : decode cX9_init 28 = .ok (.aload_n 0, 1) := by decide +kernel
theorem dX9_init_29 : decode cX9_init 29 = .ok (.bipush 60, 2) := by decide +kernel
theorem dX9_init_31 : decode cX9_init 31 = .ok (.newarray .int, 2) := by decide +kernel
theorem dX9_init_33 : decode cX9_init 33 = .ok (.putfield 20, 3) := by decide +kernel
theorem dX9_init_36 : decode cX9_init 36 = .ok (.aload_n 0, 1) := by decide +kernel
theorem dX9_init_37 : decode cX9_init 37 = .ok (.bipush 60, 2) := by decide +kernel
theorem dX9_init_39 : decode cX9_init 39 = .ok (.newarray .int, 2) := by decide +kernel
theorem dX9_init_41 : decode cX9_init 41 = .ok (.putfield 23, 3) := by decide +kernel
theorem dX9_init_44 : decode cX9_init 44 = .ok (.aload_n 0, 1) := by decide +kernel
theorem dX9_init_45 : decode cX9_init 45 = .ok (.sipush 200, 3) := by decide +kernel
theorem dX9_init_48 : decode cX9_init 48 = .ok (.newarray .int, 2) := by decide +kernel
theorem dX9_init_50 : decode cX9_init 50 = .ok (.putfield 26, 3) := by decide +kernel
theorem dX9_init_53 : decode cX9_init 53 = .ok (.aload_n 0, 1) := by decide +kernel
theorem dX9_init_54 : decode cX9_init 54 = .ok (.sipush 200, 3) := by decide +kernel
theorem dX9_init_57 : decode cX9_init 57 = .ok (.newarray .int, 2) := by decide +kernel
theorem dX9_init_59 : decode cX9_init 59 = .ok (.putfield 29, 3) := by decide +kernel
theorem dX9_init_62 : decode cX9_init 62 = .ok (.aload_n 0, 1) := by decide +kernel
theorem dX9_init_63 : decode cX9_init 63 = .ok (.sipush 200, 3) := by decide +kernel
theorem dX9_init_66 : decode cX9_init 66 = .ok (.newarray .int, 2) := by decide +kernel
theorem dX9_init_68 : decode cX9_init 68 = .ok (.putfield 32, 3) := by decide +kernel
theorem dX9_init_71 : decode cX9_init 71 = .ok (.aload_n 0, 1) := by decide +kernel
theorem dX9_init_72 : decode cX9_init 72 = .ok (.sipush 200, 3) := by decide +kernel
theorem dX9_init_75 : decode cX9_init 75 = .ok (.newarray .int, 2) := by decide +kernel
theorem dX9_init_77 : decode cX9_init 77 = .ok (.putfield 35, 3) := by decide +kernel
theorem dX9_init_80 : decode cX9_init 80 = .ok (.aload_n 0, 1) := by decide +kernel
theorem dX9_init_81 : decode cX9_init 81 = .ok (.bipush 8, 2) := by decide +kernel
theorem dX9_init_83 : decode cX9_init 83 = .ok (.newarray .int, 2) := by decide +kernel
theorem dX9_init_85 : decode cX9_init 85 = .ok (.putfield 38, 3) := by decide +kernel
theorem dX9_init_88 : decode cX9_init 88 = .ok (.aload_n 0, 1) := by decide +kernel
theorem dX9_init_89 : decode cX9_init 89 = .ok (.bipush 8, 2) := by decide +kernel
theorem dX9_init_91 : decode cX9_init 91 = .ok (.newarray .int, 2) := by decide +kernel
theorem dX9_init_93 : decode cX9_init 93 = .ok (.putfield 41, 3) := by decide +kernel
theorem dX9_init_96 : decode cX9_init 96 = .ok (.aload_n 0, 1) := by decide +kernel
theorem dX9_init_97 : decode cX9_init 97 = .ok (.bipush 40, 2) := by decide +kernel
theorem dX9_init_99 : decode cX9_init 99 = .ok (.newarray .long, 2) := by decide +kernel
theorem dX9_init_101 : decode cX9_init 101 = .ok (.putfield 44, 3) := by decide +kernel
theorem dX9_init_104 : decode cX9_init 104 = .ok (.aload_n 0, 1) := by decide +kernel
theorem dX9_init_105 : decode cX9_init 105 = .ok (.bipush 40, 2) := by decide +kernel
theorem dX9_init_107 : decode cX9_init 107 = .ok (.newarray .long, 2) := by decide +kernel
theorem dX9_init_109 : decode cX9_init 109 = .ok (.putfield 48, 3) := by decide +kernel
theorem dX9_init_112 : decode cX9_init 112 = .ok (.aload_n 0, 1) := by decide +kernel
theorem dX9_init_113 : decode cX9_init 113 = .ok (.bipush 40, 2) := by decide +kernel
theorem dX9_init_115 : decode cX9_init 115 = .ok (.newarray .boolean, 2) := by decide +kernel
theorem dX9_init_117 : decode cX9_init 117 = .ok (.putfield 51, 3) := by decide +kernel
theorem dX9_init_120 : decode cX9_init 120 = .ok (.aload_n 0, 1) := by decide +kernel
theorem dX9_init_121 : decode cX9_init 121 = .ok (.bipush 40, 2) := by decide +kernel
end
section
theorem dX9_init_123 : decode cX9_init 123 = .ok (.newarray .long, 2) := by decide +kernel
theorem dX9_init_125 : decode cX9_init 125 = .ok (.putfield 54, 3) := by decide +kernel
theorem dX9_init_128 : decode cX9_init 128 = .ok (.aload_n 0, 1) := by decide +kernel
theorem dX9_init_129 : decode cX9_init 129 = .ok (.bipush 60, 2) := by decide +kernel
theorem dX9_init_131 : decode cX9_init 131 = .ok (.newarray .long, 2) := by decide +kernel
theorem dX9_init_133 : decode cX9_init 133 = .ok (.putfield 57, 3) := by decide +kernel
theorem dX9_init_136 : decode cX9_init 136 = .ok (.aload_n 0, 1) := by decide +kernel
theorem dX9_init_137 : decode cX9_init 137 = .ok (.sipush 200, 3) := by decide +kernel
theorem dX9_init_140 : decode cX9_init 140 = .ok (.newarray .long, 2) := by decide +kernel
theorem dX9_init_142 : decode cX9_init 142 = .ok (.putfield 60, 3) := by decide +kernel
theorem dX9_init_145 : decode cX9_init 145 = .ok (.aload_n 0, 1) := by decide +kernel
theorem dX9_init_146 : decode cX9_init 146 = .ok (.sipush 200, 3) := by decide +kernel
theorem dX9_init_149 : decode cX9_init 149 = .ok (.newarray .int, 2) := by decide +kernel
theorem dX9_init_151 : decode cX9_init 151 = .ok (.putfield 63, 3) := by decide +kernel
theorem dX9_init_154 : decode cX9_init 154 = .ok (.aload_n 0, 1) := by decide +kernel
theorem dX9_init_155 : decode cX9_init 155 = .ok (.sipush 200, 3) := by decide +kernel
theorem dX9_init_158 : decode cX9_init 158 = .ok (.newarray .int, 2) := by decide +kernel
theorem dX9_init_160 : decode cX9_init 160 = .ok (.putfield 66, 3) := by decide +kernel
theorem dX9_init_163 : decode cX9_init 163 = .ok (.aload_n 0, 1) := by decide +kernel
theorem dX9_init_164 : decode cX9_init 164 = .ok (.sipush 200, 3) := by decide +kernel
theorem dX9_init_167 : decode cX9_init 167 = .ok (.newarray .int, 2) := by decide +kernel
theorem dX9_init_169 : decode cX9_init 169 = .ok (.putfield 69, 3) := by decide +kernel
theorem dX9_init_172 : decode cX9_init 172 = .ok (.aload_n 0, 1) := by decide +kernel
theorem dX9_init_173 : decode cX9_init 173 = .ok (.sipush 200, 3) := by decide +kernel
theorem dX9_init_176 : decode cX9_init 176 = .ok (.newarray .int, 2) := by decide +kernel
theorem dX9_init_178 : decode cX9_init 178 = .ok (.putfield 72, 3) := by decide +kernel
theorem dX9_init_181 : decode cX9_init 181 = .ok (.aload_n 0, 1) := by decide +kernel
theorem dX9_init_182 : decode cX9_init 182 = .ok (.bipush 8, 2) := by decide +kernel
theorem dX9_init_184 : decode cX9_init 184 = .ok (.newarray .int, 2) := by decide +kernel
theorem dX9_init_186 : decode cX9_init 186 = .ok (.putfield 75, 3) := by decide +kernel
theorem dX9_init_189 : decode cX9_init 189 = .ok (.aload_n 0, 1) := by decide +kernel
theorem dX9_init_190 : decode cX9_init 190 = .ok (.bipush 8, 2) := by decide +kernel
theorem dX9_init_192 : decode cX9_init 192 = .ok (.newarray .int, 2) := by decide +kernel
theorem dX9_init_194 : decode cX9_init 194 = .ok (.putfield 78, 3) := by decide +kernel
theorem dX9_init_197 : decode cX9_init 197 = .ok (.aload_n 0, 1) := by decide +kernel
theorem dX9_init_198 : decode cX9_init 198 = .ok (.sipush 2400, 3) := by decide +kernel
theorem dX9_init_201 : decode cX9_init 201 = .ok (.newarray .long, 2) := by decide +kernel
theorem dX9_init_203 : decode cX9_init 203 = .ok (.putfield 81, 3) := by decide +kernel
theorem dX9_init_206 : decode cX9_init 206 = .ok (.aload_n 0, 1) := by decide +kernel
theorem dX9_init_207 : decode cX9_init 207 = .ok (.sipush 2400, 3) := by decide +kernel
theorem dX9_init_210 : decode cX9_init 210 = .ok (.newarray .int, 2) := by decide +kernel
theorem dX9_init_212 : decode cX9_init 212 = .ok (.putfield 84, 3) := by decide +kernel
theorem dX9_init_215 : decode cX9_init 215 = .ok (.aload_n 0, 1) := by decide +kernel
theorem dX9_init_216 : decode cX9_init 216 = .ok (.sipush 2400, 3) := by decide +kernel
theorem dX9_init_219 : decode cX9_init 219 = .ok (.newarray .int, 2) := by decide +kernel
theorem dX9_init_221 : decode cX9_init 221 = .ok (.putfield 87, 3) := by decide +kernel
theorem dX9_init_224 : decode cX9_init 224 = .ok (.aload_n 0, 1) := by decide +kernel
theorem dX9_init_225 : decode cX9_init 225 = .ok (.sipush 2400, 3) := by decide +kernel
theorem dX9_init_228 : decode cX9_init 228 = .ok (.newarray .int, 2) := by decide +kernel
theorem dX9_init_230 : decode cX9_init 230 = .ok (.putfield 90, 3) := by decide +kernel
theorem dX9_init_233 : decode cX9_init 233 = .ok (.aload_n 0, 1) := by decide +kernel
theorem dX9_init_234 : decode cX9_init 234 = .ok (.sipush 2400, 3) := by decide +kernel
theorem dX9_init_237 : decode cX9_init 237 = .ok (.newarray .int, 2) := by decide +kernel
theorem dX9_init_239 : decode cX9_init 239 = .ok (.putfield 93, 3) := by decide +kernel
theorem dX9_init_242 : decode cX9_init 242 = .ok (.aload_n 0, 1) := by decide +kernel
theorem dX9_init_243 : decode cX9_init 243 = .ok (.sipush 2400, 3) := by decide +kernel
theorem dX9_init_246 : decode cX9_init 246 = .ok (.newarray .int, 2) := by decide +kernel
theorem dX9_init_248 : decode cX9_init 248 = .ok (.putfield 96, 3) := by decide +kernel
theorem dX9_init_251 : decode cX9_init 251 = .ok (.aload_n 0, 1) := by decide +kernel
theorem dX9_init_252 : decode cX9_init 252 = .ok (.sipush 2400, 3) := by decide +kernel
theorem dX9_init_255 : decode cX9_init 255 = .ok (.newarray .int, 2) := by decide +kernel
theorem dX9_init_257 : decode cX9_init 257 = .ok (.putfield 99, 3) := by decide +kernel
theorem dX9_init_260 : decode cX9_init 260 = .ok (.aload_n 0, 1) := by decide +kernel
theorem dX9_init_261 : decode cX9_init 261 = .ok (.bipush 40, 2) := by decide +kernel
theorem dX9_init_263 : decode cX9_init 263 = .ok (.newarray .long, 2) := by decide +kernel
theorem dX9_init_265 : decode cX9_init 265 = .ok (.putfield 102, 3) := by decide +kernel
theorem dX9_init_268 : decode cX9_init 268 = .ok (.return_, 1) := by decide +kernel
theorem dX9_in_0 : decode cX9_in 0 = .ok (.iload_n 0, 1) := by decide +kernel
theorem dX9_in_1 : decode cX9_in 1 = .ok (.iload_n 1, 1) := by decide +kernel
theorem dX9_in_2 : decode cX9_in 2 = .ok (.if_icmp .lt 12, 3) := by decide +kernel
theorem dX9_in_5 : decode cX9_in 5 = .ok (.iload_n 0, 1) := by decide +kernel
theorem dX9_in_6 : decode cX9_in 6 = .ok (.iload_n 2, 1) := by decide +kernel
theorem dX9_in_7 : decode cX9_in 7 = .ok (.if_icmp .gt 7, 3) := by decide +kernel
theorem dX9_in_10 : decode cX9_in 10 = .ok (.iconst 1, 1) := by decide +kernel
theorem dX9_in_11 : decode cX9_in 11 = .ok (.goto 4, 3) := by decide +kernel
theorem dX9_in_14 : decode cX9_in 14 = .ok (.iconst 0, 1) := by decide +kernel
theorem dX9_in_15 : decode cX9_in 15 = .ok (.ireturn, 1) := by decide +kernel
theorem dX9_section_0 : decode cX9_section 0 = .ok (.aload_n 0, 1) := by decide +kernel
theorem dX9_section_1 : decode cX9_section 1 = .ok (.getfield 105, 3) := by decide +kernel
theorem dX9_section_4 : decode cX9_section 4 = .ok (.bipush 40, 2) := by decide +kernel
theorem dX9_section_6 : decode cX9_section 6 = .ok (.if_icmp .eq 23, 3) := by decide +kernel
theorem dX9_section_9 : decode cX9_section 9 = .ok (.iload_n 1, 1) := by decide +kernel
theorem dX9_section_10 : decode cX9_section 10 = .ok (.iconst 0, 1) := by decide +kernel
theorem dX9_section_11 : decode cX9_section 11 = .ok (.ldc 109, 2) := by decide +kernel
theorem dX9_section_13 : decode cX9_section 13 = .ok (.invokestatic 110, 3) := by decide +kernel
theorem dX9_section_16 : decode cX9_section 16 = .ok (.ifCond .eq 13, 3) := by decide +kernel
theorem dX9_section_19 : decode cX9_section 19 = .ok (.iload_n 2, 1) := by decide +kernel
theorem dX9_section_20 : decode cX9_section 20 = .ok (.iconst 0, 1) := by decide +kernel
theorem dX9_section_21 : decode cX9_section 21 = .ok (.bipush 12, 2) := by decide +kernel
theorem dX9_section_23 : decode cX9_section 23 = .ok (.invokestatic 110, 3) := by decide +kernel
theorem dX9_section_26 : decode cX9_section 26 = .ok (.ifCond .ne 5, 3) := by decide +kernel
theorem dX9_section_29 : decode cX9_section 29 = .ok (.iconst (-1), 1) := by decide +kernel
theorem dX9_section_30 : decode cX9_section 30 = .ok (.ireturn, 1) := by decide +kernel
theorem dX9_section_31 : decode cX9_section 31 = .ok (.aload_n 0, 1) := by decide +kernel
theorem dX9_section_32 : decode cX9_section 32 = .ok (.getfield 7, 3) := by decide +kernel
theorem dX9_section_35 : decode cX9_section 35 = .ok (.aload_n 0, 1) := by decide +kernel
theorem dX9_section_36 : decode cX9_section 36 = .ok (.getfield 105, 3) := by decide +kernel
theorem dX9_section_39 : decode cX9_section 39 = .ok (.iload_n 1, 1) := by decide +kernel
theorem dX9_section_40 : decode cX9_section 40 = .ok (.iastore, 1) := by decide +kernel
theorem dX9_section_41 : decode cX9_section 41 = .ok (.aload_n 0, 1) := by decide +kernel
theorem dX9_section_42 : decode cX9_section 42 = .ok (.getfield 13, 3) := by decide +kernel
theorem dX9_section_45 : decode cX9_section 45 = .ok (.aload_n 0, 1) := by decide +kernel
theorem dX9_section_46 : decode cX9_section 46 = .ok (.getfield 105, 3) := by decide +kernel
theorem dX9_section_49 : decode cX9_section 49 = .ok (.iload_n 2, 1) := by decide +kernel
theorem dX9_section_50 : decode cX9_section 50 = .ok (.iastore, 1) := by decide +kernel
theorem dX9_section_51 : decode cX9_section 51 = .ok (.aload_n 0, 1) := by decide +kernel
theorem dX9_section_52 : decode cX9_section 52 = .ok (.getfield 16, 3) := by decide +kernel
theorem dX9_section_55 : decode cX9_section 55 = .ok (.aload_n 0, 1) := by decide +kernel
theorem dX9_section_56 : decode cX9_section 56 = .ok (.getfield 105, 3) := by decide +kernel
theorem dX9_section_59 : decode cX9_section 59 = .ok (.iload_n 3, 1) := by decide +kernel
theorem dX9_section_60 : decode cX9_section 60 = .ok (.bastore, 1) := by decide +kernel
theorem dX9_section_61 : decode cX9_section 61 = .ok (.aload_n 0, 1) := by decide +kernel
theorem dX9_section_62 : decode cX9_section 62 = .ok (.dup, 1) := by decide +kernel
theorem dX9_section_63 : decode cX9_section 63 = .ok (.getfield 114, 3) := by decide +kernel
theorem dX9_section_66 : decode cX9_section 66 = .ok (.iload_n 3, 1) := by decide +kernel
theorem dX9_section_67 : decode cX9_section 67 = .ok (.ifCond .eq 7, 3) := by decide +kernel
theorem dX9_section_70 : decode cX9_section 70 = .ok (.iconst 1, 1) := by decide +kernel
theorem dX9_section_71 : decode cX9_section 71 = .ok (.goto 4, 3) := by decide +kernel
theorem dX9_section_74 : decode cX9_section 74 = .ok (.iconst 0, 1) := by decide +kernel
theorem dX9_section_75 : decode cX9_section 75 = .ok (.iadd, 1) := by decide +kernel
theorem dX9_section_76 : decode cX9_section 76 = .ok (.putfield 114, 3) := by decide +kernel
theorem dX9_section_79 : decode cX9_section 79 = .ok (.aload_n 0, 1) := by decide +kernel
theorem dX9_section_80 : decode cX9_section 80 = .ok (.dup, 1) := by decide +kernel
theorem dX9_section_81 : decode cX9_section 81 = .ok (.getfield 105, 3) := by decide +kernel
theorem dX9_section_84 : decode cX9_section 84 = .ok (.iconst 1, 1) := by decide +kernel
theorem dX9_section_85 : decode cX9_section 85 = .ok (.iadd, 1) := by decide +kernel
theorem dX9_section_86 : decode cX9_section 86 = .ok (.putfield 105, 3) := by decide +kernel
theorem dX9_section_89 : decode cX9_section 89 = .ok (.aload_n 0, 1) := by decide +kernel
theorem dX9_section_90 : decode cX9_section 90 = .ok (.iconst 1, 1) := by decide +kernel
theorem dX9_section_91 : decode cX9_section 91 = .ok (.putfield 117, 3) := by decide +kernel
theorem dX9_section_94 : decode cX9_section 94 = .ok (.aload_n 0, 1) := by decide +kernel
theorem dX9_section_95 : decode cX9_section 95 = .ok (.getfield 105, 3) := by decide +kernel
theorem dX9_section_98 : decode cX9_section 98 = .ok (.iconst 1, 1) := by decide +kernel
theorem dX9_section_99 : decode cX9_section 99 = .ok (.isub, 1) := by decide +kernel
theorem dX9_section_100 : decode cX9_section 100 = .ok (.ireturn, 1) := by decide +kernel
theorem dX9_label_0 : decode cX9_label 0 = .ok (.aload_n 0, 1) := by decide +kernel
theorem dX9_label_1 : decode cX9_label 1 = .ok (.getfield 121, 3) := by decide +kernel
theorem dX9_label_4 : decode cX9_label 4 = .ok (.bipush 60, 2) := by decide +kernel
theorem dX9_label_6 : decode cX9_label 6 = .ok (.if_icmp .eq 31, 3) := by decide +kernel
theorem dX9_label_9 : decode cX9_label 9 = .ok (.iload_n 1, 1) := by decide +kernel
theorem dX9_label_10 : decode cX9_label 10 = .ok (.iconst 0, 1) := by decide +kernel
theorem dX9_label_11 : decode cX9_label 11 = .ok (.aload_n 0, 1) := by decide +kernel
theorem dX9_label_12 : decode cX9_label 12 = .ok (.getfield 105, 3) := by decide +kernel
theorem dX9_label_15 : decode cX9_label 15 = .ok (.iconst 1, 1) := by decide +kernel
theorem dX9_label_16 : decode cX9_label 16 = .ok (.isub, 1) := by decide +kernel
theorem dX9_label_17 : decode cX9_label 17 = .ok (.invokestatic 110, 3) := by decide +kernel
theorem dX9_label_20 : decode cX9_label 20 = .ok (.ifCond .eq 17, 3) := by decide +kernel
theorem dX9_label_23 : decode cX9_label 23 = .ok (.iload_n 2, 1) := by decide +kernel
theorem dX9_label_24 : decode cX9_label 24 = .ok (.iconst 0, 1) := by decide +kernel
theorem dX9_label_25 : decode cX9_label 25 = .ok (.aload_n 0, 1) := by decide +kernel
theorem dX9_label_26 : decode cX9_label 26 = .ok (.getfield 7, 3) := by decide +kernel
theorem dX9_label_29 : decode cX9_label 29 = .ok (.iload_n 1, 1) := by decide +kernel
theorem dX9_label_30 : decode cX9_label 30 = .ok (.iaload, 1) := by decide +kernel
theorem dX9_label_31 : decode cX9_label 31 = .ok (.invokestatic 110, 3) := by decide +kernel
theorem dX9_label_34 : decode cX9_label 34 = .ok (.ifCond .ne 5, 3) := by decide +kernel
theorem dX9_label_37 : decode cX9_label 37 = .ok (.iconst (-1), 1) := by decide +kernel
theorem dX9_label_38 : decode cX9_label 38 = .ok (.ireturn, 1) := by decide +kernel
theorem dX9_label_39 : decode cX9_label 39 = .ok (.aload_n 0, 1) := by decide +kernel
theorem dX9_label_40 : decode cX9_label 40 = .ok (.getfield 20, 3) := by decide +kernel
theorem dX9_label_43 : decode cX9_label 43 = .ok (.aload_n 0, 1) := by decide +kernel
theorem dX9_label_44 : decode cX9_label 44 = .ok (.getfield 121, 3) := by decide +kernel
theorem dX9_label_47 : decode cX9_label 47 = .ok (.iload_n 1, 1) := by decide +kernel
theorem dX9_label_48 : decode cX9_label 48 = .ok (.iastore, 1) := by decide +kernel
theorem dX9_label_49 : decode cX9_label 49 = .ok (.aload_n 0, 1) := by decide +kernel
theorem dX9_label_50 : decode cX9_label 50 = .ok (.getfield 23, 3) := by decide +kernel
theorem dX9_label_53 : decode cX9_label 53 = .ok (.aload_n 0, 1) := by decide +kernel
theorem dX9_label_54 : decode cX9_label 54 = .ok (.getfield 121, 3) := by decide +kernel
theorem dX9_label_57 : decode cX9_label 57 = .ok (.iload_n 2, 1) := by decide +kernel
theorem dX9_label_58 : decode cX9_label 58 = .ok (.iastore, 1) := by decide +kernel
theorem dX9_label_59 : decode cX9_label 59 = .ok (.aload_n 0, 1) := by decide +kernel
theorem dX9_label_60 : decode cX9_label 60 = .ok (.dup, 1) := by decide +kernel
theorem dX9_label_61 : decode cX9_label 61 = .ok (.getfield 121, 3) := by decide +kernel
theorem dX9_label_64 : decode cX9_label 64 = .ok (.iconst 1, 1) := by decide +kernel
theorem dX9_label_65 : decode cX9_label 65 = .ok (.iadd, 1) := by decide +kernel
theorem dX9_label_66 : decode cX9_label 66 = .ok (.putfield 121, 3) := by decide +kernel
theorem dX9_label_69 : decode cX9_label 69 = .ok (.aload_n 0, 1) := by decide +kernel
theorem dX9_label_70 : decode cX9_label 70 = .ok (.iconst 1, 1) := by decide +kernel
theorem dX9_label_71 : decode cX9_label 71 = .ok (.putfield 117, 3) := by decide +kernel
theorem dX9_label_74 : decode cX9_label 74 = .ok (.aload_n 0, 1) := by decide +kernel
theorem dX9_label_75 : decode cX9_label 75 = .ok (.getfield 121, 3) := by decide +kernel
theorem dX9_label_78 : decode cX9_label 78 = .ok (.iconst 1, 1) := by decide +kernel
theorem dX9_label_79 : decode cX9_label 79 = .ok (.isub, 1) := by decide +kernel
theorem dX9_label_80 : decode cX9_label 80 = .ok (.ireturn, 1) := by decide +kernel
theorem dX9_kind_0 : decode cX9_kind 0 = .ok (.iload_n 1, 1) := by decide +kernel
theorem dX9_kind_1 : decode cX9_kind 1 = .ok (.iconst 0, 1) := by decide +kernel
theorem dX9_kind_2 : decode cX9_kind 2 = .ok (.bipush 7, 2) := by decide +kernel
theorem dX9_kind_4 : decode cX9_kind 4 = .ok (.invokestatic 110, 3) := by decide +kernel
theorem dX9_kind_7 : decode cX9_kind 7 = .ok (.ifCond .eq 34, 3) := by decide +kernel
theorem dX9_kind_10 : decode cX9_kind 10 = .ok (.iload_n 2, 1) := by decide +kernel
theorem dX9_kind_11 : decode cX9_kind 11 = .ok (.iconst 1, 1) := by decide +kernel
theorem dX9_kind_12 : decode cX9_kind 12 = .ok (.if_icmp .eq 19, 3) := by decide +kernel
theorem dX9_kind_15 : decode cX9_kind 15 = .ok (.iload_n 2, 1) := by decide +kernel
theorem dX9_kind_16 : decode cX9_kind 16 = .ok (.iconst 2, 1) := by decide +kernel
theorem dX9_kind_17 : decode cX9_kind 17 = .ok (.if_icmp .eq 14, 3) := by decide +kernel
theorem dX9_kind_20 : decode cX9_kind 20 = .ok (.iload_n 2, 1) := by decide +kernel
theorem dX9_kind_21 : decode cX9_kind 21 = .ok (.iconst 4, 1) := by decide +kernel
theorem dX9_kind_22 : decode cX9_kind 22 = .ok (.if_icmp .eq 9, 3) := by decide +kernel
theorem dX9_kind_25 : decode cX9_kind 25 = .ok (.iload_n 2, 1) := by decide +kernel
theorem dX9_kind_26 : decode cX9_kind 26 = .ok (.bipush 8, 2) := by decide +kernel
theorem dX9_kind_28 : decode cX9_kind 28 = .ok (.if_icmp .ne 13, 3) := by decide +kernel
theorem dX9_kind_31 : decode cX9_kind 31 = .ok (.iload_n 3, 1) := by decide +kernel
theorem dX9_kind_32 : decode cX9_kind 32 = .ok (.iconst 4, 1) := by decide +kernel
theorem dX9_kind_33 : decode cX9_kind 33 = .ok (.bipush 30, 2) := by decide +kernel
theorem dX9_kind_35 : decode cX9_kind 35 = .ok (.invokestatic 110, 3) := by decide +kernel
theorem dX9_kind_38 : decode cX9_kind 38 = .ok (.ifCond .ne 5, 3) := by decide +kernel
theorem dX9_kind_41 : decode cX9_kind 41 = .ok (.iconst 0, 1) := by decide +kernel
theorem dX9_kind_42 : decode cX9_kind 42 = .ok (.ireturn, 1) := by decide +kernel
theorem dX9_kind_43 : decode cX9_kind 43 = .ok (.aload_n 0, 1) := by decide +kernel
theorem dX9_kind_44 : decode cX9_kind 44 = .ok (.getfield 38, 3) := by decide +kernel
theorem dX9_kind_47 : decode cX9_kind 47 = .ok (.iload_n 1, 1) := by decide +kernel
theorem dX9_kind_48 : decode cX9_kind 48 = .ok (.iload_n 2, 1) := by decide +kernel
theorem dX9_kind_49 : decode cX9_kind 49 = .ok (.iastore, 1) := by decide +kernel
theorem dX9_kind_50 : decode cX9_kind 50 = .ok (.aload_n 0, 1) := by decide +kernel
theorem dX9_kind_51 : decode cX9_kind 51 = .ok (.getfield 41, 3) := by decide +kernel
theorem dX9_kind_54 : decode cX9_kind 54 = .ok (.iload_n 1, 1) := by decide +kernel
theorem dX9_kind_55 : decode cX9_kind 55 = .ok (.iload_n 3, 1) := by decide +kernel
theorem dX9_kind_56 : decode cX9_kind 56 = .ok (.iastore, 1) := by decide +kernel
theorem dX9_kind_57 : decode cX9_kind 57 = .ok (.aload_n 0, 1) := by decide +kernel
theorem dX9_kind_58 : decode cX9_kind 58 = .ok (.iconst 1, 1) := by decide +kernel
theorem dX9_kind_59 : decode cX9_kind 59 = .ok (.putfield 117, 3) := by decide +kernel
theorem dX9_kind_62 : decode cX9_kind 62 = .ok (.iconst 1, 1) := by decide +kernel
theorem dX9_kind_63 : decode cX9_kind 63 = .ok (.ireturn, 1) := by decide +kernel
theorem dX9_branch_0 : decode cX9_branch 0 = .ok (.aload_n 0, 1) := by decide +kernel
theorem dX9_branch_1 : decode cX9_branch 1 = .ok (.getfield 124, 3) := by decide +kernel
theorem dX9_branch_4 : decode cX9_branch 4 = .ok (.sipush 200, 3) := by decide +kernel
theorem dX9_branch_7 : decode cX9_branch 7 = .ok (.if_icmp .eq 67, 3) := by decide +kernel
theorem dX9_branch_10 : decode cX9_branch 10 = .ok (.iload_n 1, 1) := by decide +kernel
theorem dX9_branch_11 : decode cX9_branch 11 = .ok (.iconst 0, 1) := by decide +kernel
theorem dX9_branch_12 : decode cX9_branch 12 = .ok (.aload_n 0, 1) := by decide +kernel
theorem dX9_branch_13 : decode cX9_branch 13 = .ok (.getfield 105, 3) := by decide +kernel
theorem dX9_branch_16 : decode cX9_branch 16 = .ok (.iconst 1, 1) := by decide +kernel
theorem dX9_branch_17 : decode cX9_branch 17 = .ok (.isub, 1) := by decide +kernel
theorem dX9_branch_18 : decode cX9_branch 18 = .ok (.invokestatic 110, 3) := by decide +kernel
theorem dX9_branch_21 : decode cX9_branch 21 = .ok (.ifCond .eq 53, 3) := by decide +kernel
theorem dX9_branch_24 : decode cX9_branch 24 = .ok (.iload_n 2, 1) := by decide +kernel
theorem dX9_branch_25 : decode cX9_branch 25 = .ok (.iconst 0, 1) := by decide +kernel
theorem dX9_branch_26 : decode cX9_branch 26 = .ok (.aload_n 0, 1) := by decide +kernel
theorem dX9_branch_27 : decode cX9_branch 27 = .ok (.getfield 7, 3) := by decide +kernel
theorem dX9_branch_30 : decode cX9_branch 30 = .ok (.iload_n 1, 1) := by decide +kernel
theorem dX9_branch_31 : decode cX9_branch 31 = .ok (.iaload, 1) := by decide +kernel
theorem dX9_branch_32 : decode cX9_branch 32 = .ok (.iconst 1, 1) := by decide +kernel
theorem dX9_branch_33 : decode cX9_branch 33 = .ok (.isub, 1) := by decide +kernel
theorem dX9_branch_34 : decode cX9_branch 34 = .ok (.invokestatic 110, 3) := by decide +kernel
theorem dX9_branch_37 : decode cX9_branch 37 = .ok (.ifCond .eq 37, 3) := by decide +kernel
theorem dX9_branch_40 : decode cX9_branch 40 = .ok (.iload_n 3, 1) := by decide +kernel
theorem dX9_branch_41 : decode cX9_branch 41 = .ok (.iconst 0, 1) := by decide +kernel
theorem dX9_branch_42 : decode cX9_branch 42 = .ok (.bipush 7, 2) := by decide +kernel
theorem dX9_branch_44 : decode cX9_branch 44 = .ok (.invokestatic 110, 3) := by decide +kernel
theorem dX9_branch_47 : decode cX9_branch 47 = .ok (.ifCond .eq 27, 3) := by decide +kernel
theorem dX9_branch_50 : decode cX9_branch 50 = .ok (.aload_n 0, 1) := by decide +kernel
theorem dX9_branch_51 : decode cX9_branch 51 = .ok (.getfield 38, 3) := by decide +kernel
theorem dX9_branch_54 : decode cX9_branch 54 = .ok (.iload_n 3, 1) := by decide +kernel
theorem dX9_branch_55 : decode cX9_branch 55 = .ok (.iaload, 1) := by decide +kernel
theorem dX9_branch_56 : decode cX9_branch 56 = .ok (.ifCond .eq 18, 3) := by decide +kernel
theorem dX9_branch_59 : decode cX9_branch 59 = .ok (.iload 4, 2) := by decide +kernel
theorem dX9_branch_61 : decode cX9_branch 61 = .ok (.iconst 0, 1) := by decide +kernel
theorem dX9_branch_62 : decode cX9_branch 62 = .ok (.aload_n 0, 1) := by decide +kernel
theorem dX9_branch_63 : decode cX9_branch 63 = .ok (.getfield 121, 3) := by decide +kernel
theorem dX9_branch_66 : decode cX9_branch 66 = .ok (.iconst 1, 1) := by decide +kernel
theorem dX9_branch_67 : decode cX9_branch 67 = .ok (.isub, 1) := by decide +kernel
theorem dX9_branch_68 : decode cX9_branch 68 = .ok (.invokestatic 110, 3) := by decide +kernel
theorem dX9_branch_71 : decode cX9_branch 71 = .ok (.ifCond .ne 5, 3) := by decide +kernel
theorem dX9_branch_74 : decode cX9_branch 74 = .ok (.iconst (-1), 1) := by decide +kernel
theorem dX9_branch_75 : decode cX9_branch 75 = .ok (.ireturn, 1) := by decide +kernel
theorem dX9_branch_76 : decode cX9_branch 76 = .ok (.aload_n 0, 1) := by decide +kernel
theorem dX9_branch_77 : decode cX9_branch 77 = .ok (.getfield 26, 3) := by decide +kernel
theorem dX9_branch_80 : decode cX9_branch 80 = .ok (.aload_n 0, 1) := by decide +kernel
theorem dX9_branch_81 : decode cX9_branch 81 = .ok (.getfield 124, 3) := by decide +kernel
theorem dX9_branch_84 : decode cX9_branch 84 = .ok (.iload_n 1, 1) := by decide +kernel
theorem dX9_branch_85 : decode cX9_branch 85 = .ok (.iastore, 1) := by decide +kernel
theorem dX9_branch_86 : decode cX9_branch 86 = .ok (.aload_n 0, 1) := by decide +kernel
theorem dX9_branch_87 : decode cX9_branch 87 = .ok (.getfield 29, 3) := by decide +kernel
theorem dX9_branch_90 : decode cX9_branch 90 = .ok (.aload_n 0, 1) := by decide +kernel
theorem dX9_branch_91 : decode cX9_branch 91 = .ok (.getfield 124, 3) := by decide +kernel
theorem dX9_branch_94 : decode cX9_branch 94 = .ok (.iload_n 2, 1) := by decide +kernel
theorem dX9_branch_95 : decode cX9_branch 95 = .ok (.iastore, 1) := by decide +kernel
theorem dX9_branch_96 : decode cX9_branch 96 = .ok (.aload_n 0, 1) := by decide +kernel
theorem dX9_branch_97 : decode cX9_branch 97 = .ok (.getfield 32, 3) := by decide +kernel
theorem dX9_branch_100 : decode cX9_branch 100 = .ok (.aload_n 0, 1) := by decide +kernel
theorem dX9_branch_101 : decode cX9_branch 101 = .ok (.getfield 124, 3) := by decide +kernel
theorem dX9_branch_104 : decode cX9_branch 104 = .ok (.iload_n 3, 1) := by decide +kernel
theorem dX9_branch_105 : decode cX9_branch 105 = .ok (.iastore, 1) := by decide +kernel
theorem dX9_branch_106 : decode cX9_branch 106 = .ok (.aload_n 0, 1) := by decide +kernel
theorem dX9_branch_107 : decode cX9_branch 107 = .ok (.getfield 35, 3) := by decide +kernel
theorem dX9_branch_110 : decode cX9_branch 110 = .ok (.aload_n 0, 1) := by decide +kernel
theorem dX9_branch_111 : decode cX9_branch 111 = .ok (.getfield 124, 3) := by decide +kernel
theorem dX9_branch_114 : decode cX9_branch 114 = .ok (.iload 4, 2) := by decide +kernel
theorem dX9_branch_116 : decode cX9_branch 116 = .ok (.iastore, 1) := by decide +kernel
theorem dX9_branch_117 : decode cX9_branch 117 = .ok (.aload_n 0, 1) := by decide +kernel
theorem dX9_branch_118 : decode cX9_branch 118 = .ok (.dup, 1) := by decide +kernel
theorem dX9_branch_119 : decode cX9_branch 119 = .ok (.getfield 124, 3) := by decide +kernel
theorem dX9_branch_122 : decode cX9_branch 122 = .ok (.iconst 1, 1) := by decide +kernel
theorem dX9_branch_123 : decode cX9_branch 123 = .ok (.iadd, 1) := by decide +kernel
theorem dX9_branch_124 : decode cX9_branch 124 = .ok (.putfield 124, 3) := by decide +kernel
theorem dX9_branch_127 : decode cX9_branch 127 = .ok (.aload_n 0, 1) := by decide +kernel
theorem dX9_branch_128 : decode cX9_branch 128 = .ok (.iconst 1, 1) := by decide +kernel
theorem dX9_branch_129 : decode cX9_branch 129 = .ok (.putfield 117, 3) := by decide +kernel
theorem dX9_branch_132 : decode cX9_branch 132 = .ok (.aload_n 0, 1) := by decide +kernel
theorem dX9_branch_133 : decode cX9_branch 133 = .ok (.getfield 124, 3) := by decide +kernel
theorem dX9_branch_136 : decode cX9_branch 136 = .ok (.iconst 1, 1) := by decide +kernel
theorem dX9_branch_137 : decode cX9_branch 137 = .ok (.isub, 1) := by decide +kernel
theorem dX9_branch_138 : decode cX9_branch 138 = .ok (.ireturn, 1) := by decide +kernel
theorem dX9_thunks_0 : decode cX9_thunks 0 = .ok (.iload_n 1, 1) := by decide +kernel
theorem dX9_thunks_1 : decode cX9_thunks 1 = .ok (.iconst 1, 1) := by decide +kernel
theorem dX9_thunks_2 : decode cX9_thunks 2 = .ok (.bipush 64, 2) := by decide +kernel
theorem dX9_thunks_4 : decode cX9_thunks 4 = .ok (.invokestatic 110, 3) := by decide +kernel
theorem dX9_thunks_7 : decode cX9_thunks 7 = .ok (.ifCond .eq 32, 3) := by decide +kernel
theorem dX9_thunks_10 : decode cX9_thunks 10 = .ok (.iload_n 2, 1) := by decide +kernel
theorem dX9_thunks_11 : decode cX9_thunks 11 = .ok (.iconst 0, 1) := by decide +kernel
theorem dX9_thunks_12 : decode cX9_thunks 12 = .ok (.bipush 6, 2) := by decide +kernel
theorem dX9_thunks_14 : decode cX9_thunks 14 = .ok (.invokestatic 110, 3) := by decide +kernel
theorem dX9_thunks_17 : decode cX9_thunks 17 = .ok (.ifCond .eq 22, 3) := by decide +kernel
theorem dX9_thunks_20 : decode cX9_thunks 20 = .ok (.iload_n 3, 1) := by decide +kernel
theorem dX9_thunks_21 : decode cX9_thunks 21 = .ok (.iconst 0, 1) := by decide +kernel
theorem dX9_thunks_22 : decode cX9_thunks 22 = .ok (.bipush 7, 2) := by decide +kernel
theorem dX9_thunks_24 : decode cX9_thunks 24 = .ok (.invokestatic 110, 3) := by decide +kernel
theorem dX9_thunks_27 : decode cX9_thunks 27 = .ok (.ifCond .eq 12, 3) := by decide +kernel
theorem dX9_thunks_30 : decode cX9_thunks 30 = .ok (.aload_n 0, 1) := by decide +kernel
theorem dX9_thunks_31 : decode cX9_thunks 31 = .ok (.getfield 38, 3) := by decide +kernel
theorem dX9_thunks_34 : decode cX9_thunks 34 = .ok (.iload_n 3, 1) := by decide +kernel
theorem dX9_thunks_35 : decode cX9_thunks 35 = .ok (.iaload, 1) := by decide +kernel
theorem dX9_thunks_36 : decode cX9_thunks 36 = .ok (.ifCond .ne 5, 3) := by decide +kernel
theorem dX9_thunks_39 : decode cX9_thunks 39 = .ok (.iconst 0, 1) := by decide +kernel
theorem dX9_thunks_40 : decode cX9_thunks 40 = .ok (.ireturn, 1) := by decide +kernel
theorem dX9_thunks_41 : decode cX9_thunks 41 = .ok (.aload_n 0, 1) := by decide +kernel
theorem dX9_thunks_42 : decode cX9_thunks 42 = .ok (.iload_n 1, 1) := by decide +kernel
theorem dX9_thunks_43 : decode cX9_thunks 43 = .ok (.putfield 127, 3) := by decide +kernel
theorem dX9_thunks_46 : decode cX9_thunks 46 = .ok (.aload_n 0, 1) := by decide +kernel
theorem dX9_thunks_47 : decode cX9_thunks 47 = .ok (.iload_n 2, 1) := by decide +kernel
theorem dX9_thunks_48 : decode cX9_thunks 48 = .ok (.putfield 130, 3) := by decide +kernel
theorem dX9_thunks_51 : decode cX9_thunks 51 = .ok (.aload_n 0, 1) := by decide +kernel
theorem dX9_thunks_52 : decode cX9_thunks 52 = .ok (.iload_n 3, 1) := by decide +kernel
theorem dX9_thunks_53 : decode cX9_thunks 53 = .ok (.putfield 133, 3) := by decide +kernel
theorem dX9_thunks_56 : decode cX9_thunks 56 = .ok (.aload_n 0, 1) := by decide +kernel
theorem dX9_thunks_57 : decode cX9_thunks 57 = .ok (.iconst 1, 1) := by decide +kernel
theorem dX9_thunks_58 : decode cX9_thunks 58 = .ok (.putfield 117, 3) := by decide +kernel
theorem dX9_thunks_61 : decode cX9_thunks 61 = .ok (.iconst 1, 1) := by decide +kernel
theorem dX9_thunks_62 : decode cX9_thunks 62 = .ok (.ireturn, 1) := by decide +kernel
theorem dX9_base_0 : decode cX9_base 0 = .ok (.iload_n 1, 1) := by decide +kernel
theorem dX9_base_1 : decode cX9_base 1 = .ok (.ifCond .ge 5, 3) := by decide +kernel
theorem dX9_base_4 : decode cX9_base 4 = .ok (.iconst 0, 1) := by decide +kernel
theorem dX9_base_5 : decode cX9_base 5 = .ok (.ireturn, 1) := by decide +kernel
theorem dX9_base_6 : decode cX9_base 6 = .ok (.aload_n 0, 1) := by decide +kernel
theorem dX9_base_7 : decode cX9_base 7 = .ok (.iload_n 1, 1) := by decide +kernel
theorem dX9_base_8 : decode cX9_base 8 = .ok (.putfield 136, 3) := by decide +kernel
theorem dX9_base_11 : decode cX9_base 11 = .ok (.aload_n 0, 1) := by decide +kernel
theorem dX9_base_12 : decode cX9_base 12 = .ok (.iconst 1, 1) := by decide +kernel
theorem dX9_base_13 : decode cX9_base 13 = .ok (.putfield 117, 3) := by decide +kernel
theorem dX9_base_16 : decode cX9_base 16 = .ok (.iconst 1, 1) := by decide +kernel
theorem dX9_base_17 : decode cX9_base 17 = .ok (.ireturn, 1) := by decide +kernel
theorem dX9_resize_0 : decode cX9_resize 0 = .ok (.iload_n 1, 1) := by decide +kernel
theorem dX9_resize_1 : decode cX9_resize 1 = .ok (.iconst 0, 1) := by decide +kernel
theorem dX9_resize_2 : decode cX9_resize 2 = .ok (.aload_n 0, 1) := by decide +kernel
theorem dX9_resize_3 : decode cX9_resize 3 = .ok (.getfield 105, 3) := by decide +kernel
theorem dX9_resize_6 : decode cX9_resize 6 = .ok (.iconst 1, 1) := by decide +kernel
theorem dX9_resize_7 : decode cX9_resize 7 = .ok (.isub, 1) := by decide +kernel
theorem dX9_resize_8 : decode cX9_resize 8 = .ok (.invokestatic 110, 3) := by decide +kernel
theorem dX9_resize_11 : decode cX9_resize 11 = .ok (.ifCond .eq 13, 3) := by decide +kernel
theorem dX9_resize_14 : decode cX9_resize 14 = .ok (.iload_n 2, 1) := by decide +kernel
theorem dX9_resize_15 : decode cX9_resize 15 = .ok (.iconst 0, 1) := by decide +kernel
theorem dX9_resize_16 : decode cX9_resize 16 = .ok (.ldc 109, 2) := by decide +kernel
theorem dX9_resize_18 : decode cX9_resize 18 = .ok (.invokestatic 110, 3) := by decide +kernel
theorem dX9_resize_21 : decode cX9_resize 21 = .ok (.ifCond .ne 5, 3) := by decide +kernel
theorem dX9_resize_24 : decode cX9_resize 24 = .ok (.iconst 0, 1) := by decide +kernel
theorem dX9_resize_25 : decode cX9_resize 25 = .ok (.ireturn, 1) := by decide +kernel
theorem dX9_resize_26 : decode cX9_resize 26 = .ok (.iconst 0, 1) := by decide +kernel
theorem dX9_resize_27 : decode cX9_resize 27 = .ok (.istore_n 3, 1) := by decide +kernel
theorem dX9_resize_28 : decode cX9_resize 28 = .ok (.iload_n 3, 1) := by decide +kernel
theorem dX9_resize_29 : decode cX9_resize 29 = .ok (.aload_n 0, 1) := by decide +kernel
theorem dX9_resize_30 : decode cX9_resize 30 = .ok (.getfield 121, 3) := by decide +kernel
theorem dX9_resize_33 : decode cX9_resize 33 = .ok (.if_icmp .ge 31, 3) := by decide +kernel
theorem dX9_resize_36 : decode cX9_resize 36 = .ok (.aload_n 0, 1) := by decide +kernel
theorem dX9_resize_37 : decode cX9_resize 37 = .ok (.getfield 20, 3) := by decide +kernel
theorem dX9_resize_40 : decode cX9_resize 40 = .ok (.iload_n 3, 1) := by decide +kernel
theorem dX9_resize_41 : decode cX9_resize 41 = .ok (.iaload, 1) := by decide +kernel
theorem dX9_resize_42 : decode cX9_resize 42 = .ok (.iload_n 1, 1) := by decide +kernel
theorem dX9_resize_43 : decode cX9_resize 43 = .ok (.if_icmp .ne 15, 3) := by decide +kernel
theorem dX9_resize_46 : decode cX9_resize 46 = .ok (.aload_n 0, 1) := by decide +kernel
theorem dX9_resize_47 : decode cX9_resize 47 = .ok (.getfield 23, 3) := by decide +kernel
theorem dX9_resize_50 : decode cX9_resize 50 = .ok (.iload_n 3, 1) := by decide +kernel
theorem dX9_resize_51 : decode cX9_resize 51 = .ok (.iaload, 1) := by decide +kernel
theorem dX9_resize_52 : decode cX9_resize 52 = .ok (.iload_n 2, 1) := by decide +kernel
theorem dX9_resize_53 : decode cX9_resize 53 = .ok (.if_icmp .le 5, 3) := by decide +kernel
theorem dX9_resize_56 : decode cX9_resize 56 = .ok (.iconst 0, 1) := by decide +kernel
theorem dX9_resize_57 : decode cX9_resize 57 = .ok (.ireturn, 1) := by decide +kernel
theorem dX9_resize_58 : decode cX9_resize 58 = .ok (.iinc 3 1, 3) := by decide +kernel
theorem dX9_resize_61 : decode cX9_resize 61 = .ok (.goto (-33), 3) := by decide +kernel
theorem dX9_resize_64 : decode cX9_resize 64 = .ok (.iconst 0, 1) := by decide +kernel
theorem dX9_resize_65 : decode cX9_resize 65 = .ok (.istore_n 3, 1) := by decide +kernel
theorem dX9_resize_66 : decode cX9_resize 66 = .ok (.iload_n 3, 1) := by decide +kernel
theorem dX9_resize_67 : decode cX9_resize 67 = .ok (.aload_n 0, 1) := by decide +kernel
theorem dX9_resize_68 : decode cX9_resize 68 = .ok (.getfield 124, 3) := by decide +kernel
theorem dX9_resize_71 : decode cX9_resize 71 = .ok (.if_icmp .ge 31, 3) := by decide +kernel
theorem dX9_resize_74 : decode cX9_resize 74 = .ok (.aload_n 0, 1) := by decide +kernel
theorem dX9_resize_75 : decode cX9_resize 75 = .ok (.getfield 26, 3) := by decide +kernel
theorem dX9_resize_78 : decode cX9_resize 78 = .ok (.iload_n 3, 1) := by decide +kernel
theorem dX9_resize_79 : decode cX9_resize 79 = .ok (.iaload, 1) := by decide +kernel
theorem dX9_resize_80 : decode cX9_resize 80 = .ok (.iload_n 1, 1) := by decide +kernel
theorem dX9_resize_81 : decode cX9_resize 81 = .ok (.if_icmp .ne 15, 3) := by decide +kernel
theorem dX9_resize_84 : decode cX9_resize 84 = .ok (.aload_n 0, 1) := by decide +kernel
theorem dX9_resize_85 : decode cX9_resize 85 = .ok (.getfield 29, 3) := by decide +kernel
theorem dX9_resize_88 : decode cX9_resize 88 = .ok (.iload_n 3, 1) := by decide +kernel
theorem dX9_resize_89 : decode cX9_resize 89 = .ok (.iaload, 1) := by decide +kernel
theorem dX9_resize_90 : decode cX9_resize 90 = .ok (.iload_n 2, 1) := by decide +kernel
theorem dX9_resize_91 : decode cX9_resize 91 = .ok (.if_icmp .lt 5, 3) := by decide +kernel
theorem dX9_resize_94 : decode cX9_resize 94 = .ok (.iconst 0, 1) := by decide +kernel
theorem dX9_resize_95 : decode cX9_resize 95 = .ok (.ireturn, 1) := by decide +kernel
theorem dX9_resize_96 : decode cX9_resize 96 = .ok (.iinc 3 1, 3) := by decide +kernel
theorem dX9_resize_99 : decode cX9_resize 99 = .ok (.goto (-33), 3) := by decide +kernel
theorem dX9_resize_102 : decode cX9_resize 102 = .ok (.aload_n 0, 1) := by decide +kernel
theorem dX9_resize_103 : decode cX9_resize 103 = .ok (.getfield 7, 3) := by decide +kernel
theorem dX9_resize_106 : decode cX9_resize 106 = .ok (.iload_n 1, 1) := by decide +kernel
theorem dX9_resize_107 : decode cX9_resize 107 = .ok (.iload_n 2, 1) := by decide +kernel
theorem dX9_resize_108 : decode cX9_resize 108 = .ok (.iastore, 1) := by decide +kernel
theorem dX9_resize_109 : decode cX9_resize 109 = .ok (.aload_n 0, 1) := by decide +kernel
theorem dX9_resize_110 : decode cX9_resize 110 = .ok (.iconst 1, 1) := by decide +kernel
theorem dX9_resize_111 : decode cX9_resize 111 = .ok (.putfield 117, 3) := by decide +kernel
theorem dX9_resize_114 : decode cX9_resize 114 = .ok (.iconst 1, 1) := by decide +kernel
theorem dX9_resize_115 : decode cX9_resize 115 = .ok (.ireturn, 1) := by decide +kernel
theorem dX9_retarget_0 : decode cX9_retarget 0 = .ok (.iload_n 1, 1) := by decide +kernel
theorem dX9_retarget_1 : decode cX9_retarget 1 = .ok (.iconst 0, 1) := by decide +kernel
theorem dX9_retarget_2 : decode cX9_retarget 2 = .ok (.aload_n 0, 1) := by decide +kernel
theorem dX9_retarget_3 : decode cX9_retarget 3 = .ok (.getfield 124, 3) := by decide +kernel
theorem dX9_retarget_6 : decode cX9_retarget 6 = .ok (.iconst 1, 1) := by decide +kernel
theorem dX9_retarget_7 : decode cX9_retarget 7 = .ok (.isub, 1) := by decide +kernel
theorem dX9_retarget_8 : decode cX9_retarget 8 = .ok (.invokestatic 110, 3) := by decide +kernel
theorem dX9_retarget_11 : decode cX9_retarget 11 = .ok (.ifCond .eq 17, 3) := by decide +kernel
theorem dX9_retarget_14 : decode cX9_retarget 14 = .ok (.iload_n 2, 1) := by decide +kernel
theorem dX9_retarget_15 : decode cX9_retarget 15 = .ok (.iconst 0, 1) := by decide +kernel
theorem dX9_retarget_16 : decode cX9_retarget 16 = .ok (.aload_n 0, 1) := by decide +kernel
theorem dX9_retarget_17 : decode cX9_retarget 17 = .ok (.getfield 121, 3) := by decide +kernel
theorem dX9_retarget_20 : decode cX9_retarget 20 = .ok (.iconst 1, 1) := by decide +kernel
theorem dX9_retarget_21 : decode cX9_retarget 21 = .ok (.isub, 1) := by decide +kernel
theorem dX9_retarget_22 : decode cX9_retarget 22 = .ok (.invokestatic 110, 3) := by decide +kernel
theorem dX9_retarget_25 : decode cX9_retarget 25 = .ok (.ifCond .ne 5, 3) := by decide +kernel
theorem dX9_retarget_28 : decode cX9_retarget 28 = .ok (.iconst 0, 1) := by decide +kernel
theorem dX9_retarget_29 : decode cX9_retarget 29 = .ok (.ireturn, 1) := by decide +kernel
theorem dX9_retarget_30 : decode cX9_retarget 30 = .ok (.aload_n 0, 1) := by decide +kernel
theorem dX9_retarget_31 : decode cX9_retarget 31 = .ok (.getfield 35, 3) := by decide +kernel
theorem dX9_retarget_34 : decode cX9_retarget 34 = .ok (.iload_n 1, 1) := by decide +kernel
theorem dX9_retarget_35 : decode cX9_retarget 35 = .ok (.iload_n 2, 1) := by decide +kernel
theorem dX9_retarget_36 : decode cX9_retarget 36 = .ok (.iastore, 1) := by decide +kernel
theorem dX9_retarget_37 : decode cX9_retarget 37 = .ok (.aload_n 0, 1) := by decide +kernel
theorem dX9_retarget_38 : decode cX9_retarget 38 = .ok (.iconst 1, 1) := by decide +kernel
theorem dX9_retarget_39 : decode cX9_retarget 39 = .ok (.putfield 117, 3) := by decide +kernel
theorem dX9_retarget_42 : decode cX9_retarget 42 = .ok (.iconst 1, 1) := by decide +kernel
theorem dX9_retarget_43 : decode cX9_retarget 43 = .ok (.ireturn, 1) := by decide +kernel
theorem dX9_upTo_0 : decode cX9_upTo 0 = .ok (.lconst 1, 1) := by decide +kernel
theorem dX9_upTo_1 : decode cX9_upTo 1 = .ok (.iload_n 2, 1) := by decide +kernel
theorem dX9_upTo_2 : decode cX9_upTo 2 = .ok (.lshl, 1) := by decide +kernel
theorem dX9_upTo_3 : decode cX9_upTo 3 = .ok (.lstore_n 3, 1) := by decide +kernel
theorem dX9_upTo_4 : decode cX9_upTo 4 = .ok (.lload_n 0, 1) := by decide +kernel
theorem dX9_upTo_5 : decode cX9_upTo 5 = .ok (.lload_n 3, 1) := by decide +kernel
theorem dX9_upTo_6 : decode cX9_upTo 6 = .ok (.ladd, 1) := by decide +kernel
theorem dX9_upTo_7 : decode cX9_upTo 7 = .ok (.lconst 1, 1) := by decide +kernel
theorem dX9_upTo_8 : decode cX9_upTo 8 = .ok (.lsub, 1) := by decide +kernel
theorem dX9_upTo_9 : decode cX9_upTo 9 = .ok (.lload_n 3, 1) := by decide +kernel
theorem dX9_upTo_10 : decode cX9_upTo 10 = .ok (.ldiv, 1) := by decide +kernel
theorem dX9_upTo_11 : decode cX9_upTo 11 = .ok (.lload_n 3, 1) := by decide +kernel
theorem dX9_upTo_12 : decode cX9_upTo 12 = .ok (.lmul, 1) := by decide +kernel
theorem dX9_upTo_13 : decode cX9_upTo 13 = .ok (.lreturn, 1) := by decide +kernel
theorem dX9_addresses_0 : decode cX9_addresses 0 = .ok (.aload_n 0, 1) := by decide +kernel
theorem dX9_addresses_1 : decode cX9_addresses 1 = .ok (.getfield 136, 3) := by decide +kernel
theorem dX9_addresses_4 : decode cX9_addresses 4 = .ok (.i2l, 1) := by decide +kernel
theorem dX9_addresses_5 : decode cX9_addresses 5 = .ok (.lstore_n 2, 1) := by decide +kernel
theorem dX9_addresses_6 : decode cX9_addresses 6 = .ok (.iconst 0, 1) := by decide +kernel
theorem dX9_addresses_7 : decode cX9_addresses 7 = .ok (.istore 4, 2) := by decide +kernel
theorem dX9_addresses_9 : decode cX9_addresses 9 = .ok (.iload 4, 2) := by decide +kernel
theorem dX9_addresses_11 : decode cX9_addresses 11 = .ok (.aload_n 0, 1) := by decide +kernel
theorem dX9_addresses_12 : decode cX9_addresses 12 = .ok (.getfield 105, 3) := by decide +kernel
theorem dX9_addresses_15 : decode cX9_addresses 15 = .ok (.if_icmp .ge 129, 3) := by decide +kernel
theorem dX9_addresses_18 : decode cX9_addresses 18 = .ok (.lload_n 2, 1) := by decide +kernel
theorem dX9_addresses_19 : decode cX9_addresses 19 = .ok (.aload_n 0, 1) := by decide +kernel
theorem dX9_addresses_20 : decode cX9_addresses 20 = .ok (.getfield 13, 3) := by decide +kernel
theorem dX9_addresses_23 : decode cX9_addresses 23 = .ok (.iload 4, 2) := by decide +kernel
theorem dX9_addresses_25 : decode cX9_addresses 25 = .ok (.iaload, 1) := by decide +kernel
theorem dX9_addresses_26 : decode cX9_addresses 26 = .ok (.invokestatic 139, 3) := by decide +kernel
theorem dX9_addresses_29 : decode cX9_addresses 29 = .ok (.lstore_n 2, 1) := by decide +kernel
theorem dX9_addresses_30 : decode cX9_addresses 30 = .ok (.aload_n 0, 1) := by decide +kernel
theorem dX9_addresses_31 : decode cX9_addresses 31 = .ok (.getfield 44, 3) := by decide +kernel
theorem dX9_addresses_34 : decode cX9_addresses 34 = .ok (.iload 4, 2) := by decide +kernel
theorem dX9_addresses_36 : decode cX9_addresses 36 = .ok (.lload_n 2, 1) := by decide +kernel
theorem dX9_addresses_37 : decode cX9_addresses 37 = .ok (.lastore, 1) := by decide +kernel
theorem dX9_addresses_38 : decode cX9_addresses 38 = .ok (.lload_n 2, 1) := by decide +kernel
theorem dX9_addresses_39 : decode cX9_addresses 39 = .ok (.aload_n 0, 1) := by decide +kernel
theorem dX9_addresses_40 : decode cX9_addresses 40 = .ok (.getfield 7, 3) := by decide +kernel
theorem dX9_addresses_43 : decode cX9_addresses 43 = .ok (.iload 4, 2) := by decide +kernel
theorem dX9_addresses_45 : decode cX9_addresses 45 = .ok (.iaload, 1) := by decide +kernel
theorem dX9_addresses_46 : decode cX9_addresses 46 = .ok (.i2l, 1) := by decide +kernel
theorem dX9_addresses_47 : decode cX9_addresses 47 = .ok (.ladd, 1) := by decide +kernel
theorem dX9_addresses_48 : decode cX9_addresses 48 = .ok (.lstore_n 2, 1) := by decide +kernel
theorem dX9_addresses_49 : decode cX9_addresses 49 = .ok (.aload_n 0, 1) := by decide +kernel
theorem dX9_addresses_50 : decode cX9_addresses 50 = .ok (.getfield 48, 3) := by decide +kernel
theorem dX9_addresses_53 : decode cX9_addresses 53 = .ok (.iload 4, 2) := by decide +kernel
theorem dX9_addresses_55 : decode cX9_addresses 55 = .ok (.lload_n 2, 1) := by decide +kernel
theorem dX9_addresses_56 : decode cX9_addresses 56 = .ok (.lastore, 1) := by decide +kernel
theorem dX9_addresses_57 : decode cX9_addresses 57 = .ok (.iconst 0, 1) := by decide +kernel
theorem dX9_addresses_58 : decode cX9_addresses 58 = .ok (.istore 5, 2) := by decide +kernel
theorem dX9_addresses_60 : decode cX9_addresses 60 = .ok (.iload 5, 2) := by decide +kernel
theorem dX9_addresses_62 : decode cX9_addresses 62 = .ok (.iload_n 1, 1) := by decide +kernel
theorem dX9_addresses_63 : decode cX9_addresses 63 = .ok (.if_icmp .ge 49, 3) := by decide +kernel
theorem dX9_addresses_66 : decode cX9_addresses 66 = .ok (.aload_n 0, 1) := by decide +kernel
theorem dX9_addresses_67 : decode cX9_addresses 67 = .ok (.getfield 84, 3) := by decide +kernel
theorem dX9_addresses_70 : decode cX9_addresses 70 = .ok (.iload 5, 2) := by decide +kernel
theorem dX9_addresses_72 : decode cX9_addresses 72 = .ok (.iaload, 1) := by decide +kernel
theorem dX9_addresses_73 : decode cX9_addresses 73 = .ok (.iload 4, 2) := by decide +kernel
theorem dX9_addresses_75 : decode cX9_addresses 75 = .ok (.if_icmp .eq 6, 3) := by decide +kernel
theorem dX9_addresses_78 : decode cX9_addresses 78 = .ok (.goto 28, 3) := by decide +kernel
theorem dX9_addresses_81 : decode cX9_addresses 81 = .ok (.lload_n 2, 1) := by decide +kernel
theorem dX9_addresses_82 : decode cX9_addresses 82 = .ok (.aload_n 0, 1) := by decide +kernel
theorem dX9_addresses_83 : decode cX9_addresses 83 = .ok (.getfield 130, 3) := by decide +kernel
theorem dX9_addresses_86 : decode cX9_addresses 86 = .ok (.invokestatic 139, 3) := by decide +kernel
theorem dX9_addresses_89 : decode cX9_addresses 89 = .ok (.lstore_n 2, 1) := by decide +kernel
theorem dX9_addresses_90 : decode cX9_addresses 90 = .ok (.aload_n 0, 1) := by decide +kernel
theorem dX9_addresses_91 : decode cX9_addresses 91 = .ok (.getfield 81, 3) := by decide +kernel
theorem dX9_addresses_94 : decode cX9_addresses 94 = .ok (.iload 5, 2) := by decide +kernel
theorem dX9_addresses_96 : decode cX9_addresses 96 = .ok (.lload_n 2, 1) := by decide +kernel
theorem dX9_addresses_97 : decode cX9_addresses 97 = .ok (.lastore, 1) := by decide +kernel
theorem dX9_addresses_98 : decode cX9_addresses 98 = .ok (.lload_n 2, 1) := by decide +kernel
theorem dX9_addresses_99 : decode cX9_addresses 99 = .ok (.aload_n 0, 1) := by decide +kernel
theorem dX9_addresses_100 : decode cX9_addresses 100 = .ok (.getfield 127, 3) := by decide +kernel
theorem dX9_addresses_103 : decode cX9_addresses 103 = .ok (.i2l, 1) := by decide +kernel
theorem dX9_addresses_104 : decode cX9_addresses 104 = .ok (.ladd, 1) := by decide +kernel
theorem dX9_addresses_105 : decode cX9_addresses 105 = .ok (.lstore_n 2, 1) := by decide +kernel
theorem dX9_addresses_106 : decode cX9_addresses 106 = .ok (.iinc 5 1, 3) := by decide +kernel
theorem dX9_addresses_109 : decode cX9_addresses 109 = .ok (.goto (-49), 3) := by decide +kernel
theorem dX9_addresses_112 : decode cX9_addresses 112 = .ok (.aload_n 0, 1) := by decide +kernel
theorem dX9_addresses_113 : decode cX9_addresses 113 = .ok (.getfield 54, 3) := by decide +kernel
theorem dX9_addresses_116 : decode cX9_addresses 116 = .ok (.iload 4, 2) := by decide +kernel
theorem dX9_addresses_118 : decode cX9_addresses 118 = .ok (.aload_n 0, 1) := by decide +kernel
theorem dX9_addresses_119 : decode cX9_addresses 119 = .ok (.getfield 127, 3) := by decide +kernel
theorem dX9_addresses_122 : decode cX9_addresses 122 = .ok (.ifCond .le 14, 3) := by decide +kernel
theorem dX9_addresses_125 : decode cX9_addresses 125 = .ok (.lload_n 2, 1) := by decide +kernel
theorem dX9_addresses_126 : decode cX9_addresses 126 = .ok (.aload_n 0, 1) := by decide +kernel
theorem dX9_addresses_127 : decode cX9_addresses 127 = .ok (.getfield 130, 3) := by decide +kernel
theorem dX9_addresses_130 : decode cX9_addresses 130 = .ok (.invokestatic 139, 3) := by decide +kernel
theorem dX9_addresses_133 : decode cX9_addresses 133 = .ok (.goto 4, 3) := by decide +kernel
theorem dX9_addresses_136 : decode cX9_addresses 136 = .ok (.lload_n 2, 1) := by decide +kernel
theorem dX9_addresses_137 : decode cX9_addresses 137 = .ok (.lastore, 1) := by decide +kernel
theorem dX9_addresses_138 : decode cX9_addresses 138 = .ok (.iinc 4 1, 3) := by decide +kernel
theorem dX9_addresses_141 : decode cX9_addresses 141 = .ok (.goto (-132), 3) := by decide +kernel
theorem dX9_addresses_144 : decode cX9_addresses 144 = .ok (.aload_n 0, 1) := by decide +kernel
theorem dX9_addresses_145 : decode cX9_addresses 145 = .ok (.lload_n 2, 1) := by decide +kernel
theorem dX9_addresses_146 : decode cX9_addresses 146 = .ok (.putfield 143, 3) := by decide +kernel
theorem dX9_addresses_149 : decode cX9_addresses 149 = .ok (.iconst 0, 1) := by decide +kernel
theorem dX9_addresses_150 : decode cX9_addresses 150 = .ok (.istore 4, 2) := by decide +kernel
theorem dX9_addresses_152 : decode cX9_addresses 152 = .ok (.iload 4, 2) := by decide +kernel
theorem dX9_addresses_154 : decode cX9_addresses 154 = .ok (.aload_n 0, 1) := by decide +kernel
theorem dX9_addresses_155 : decode cX9_addresses 155 = .ok (.getfield 121, 3) := by decide +kernel
theorem dX9_addresses_158 : decode cX9_addresses 158 = .ok (.if_icmp .ge 37, 3) := by decide +kernel
theorem dX9_addresses_161 : decode cX9_addresses 161 = .ok (.aload_n 0, 1) := by decide +kernel
theorem dX9_addresses_162 : decode cX9_addresses 162 = .ok (.getfield 57, 3) := by decide +kernel
theorem dX9_addresses_165 : decode cX9_addresses 165 = .ok (.iload 4, 2) := by decide +kernel
theorem dX9_addresses_167 : decode cX9_addresses 167 = .ok (.aload_n 0, 1) := by decide +kernel
theorem dX9_addresses_168 : decode cX9_addresses 168 = .ok (.getfield 44, 3) := by decide +kernel
theorem dX9_addresses_171 : decode cX9_addresses 171 = .ok (.aload_n 0, 1) := by decide +kernel
theorem dX9_addresses_172 : decode cX9_addresses 172 = .ok (.getfield 20, 3) := by decide +kernel
theorem dX9_addresses_175 : decode cX9_addresses 175 = .ok (.iload 4, 2) := by decide +kernel
theorem dX9_addresses_177 : decode cX9_addresses 177 = .ok (.iaload, 1) := by decide +kernel
theorem dX9_addresses_178 : decode cX9_addresses 178 = .ok (.laload, 1) := by decide +kernel
theorem dX9_addresses_179 : decode cX9_addresses 179 = .ok (.aload_n 0, 1) := by decide +kernel
theorem dX9_addresses_180 : decode cX9_addresses 180 = .ok (.getfield 23, 3) := by decide +kernel
theorem dX9_addresses_183 : decode cX9_addresses 183 = .ok (.iload 4, 2) := by decide +kernel
theorem dX9_addresses_185 : decode cX9_addresses 185 = .ok (.iaload, 1) := by decide +kernel
theorem dX9_addresses_186 : decode cX9_addresses 186 = .ok (.i2l, 1) := by decide +kernel
theorem dX9_addresses_187 : decode cX9_addresses 187 = .ok (.ladd, 1) := by decide +kernel
theorem dX9_addresses_188 : decode cX9_addresses 188 = .ok (.lastore, 1) := by decide +kernel
theorem dX9_addresses_189 : decode cX9_addresses 189 = .ok (.iinc 4 1, 3) := by decide +kernel
theorem dX9_addresses_192 : decode cX9_addresses 192 = .ok (.goto (-40), 3) := by decide +kernel
theorem dX9_addresses_195 : decode cX9_addresses 195 = .ok (.iconst 0, 1) := by decide +kernel
theorem dX9_addresses_196 : decode cX9_addresses 196 = .ok (.istore 4, 2) := by decide +kernel
theorem dX9_addresses_198 : decode cX9_addresses 198 = .ok (.iload 4, 2) := by decide +kernel
theorem dX9_addresses_200 : decode cX9_addresses 200 = .ok (.aload_n 0, 1) := by decide +kernel
theorem dX9_addresses_201 : decode cX9_addresses 201 = .ok (.getfield 124, 3) := by decide +kernel
theorem dX9_addresses_204 : decode cX9_addresses 204 = .ok (.if_icmp .ge 37, 3) := by decide +kernel
theorem dX9_addresses_207 : decode cX9_addresses 207 = .ok (.aload_n 0, 1) := by decide +kernel
theorem dX9_addresses_208 : decode cX9_addresses 208 = .ok (.getfield 60, 3) := by decide +kernel
theorem dX9_addresses_211 : decode cX9_addresses 211 = .ok (.iload 4, 2) := by decide +kernel
theorem dX9_addresses_213 : decode cX9_addresses 213 = .ok (.aload_n 0, 1) := by decide +kernel
theorem dX9_addresses_214 : decode cX9_addresses 214 = .ok (.getfield 44, 3) := by decide +kernel
theorem dX9_addresses_217 : decode cX9_addresses 217 = .ok (.aload_n 0, 1) := by decide +kernel
theorem dX9_addresses_218 : decode cX9_addresses 218 = .ok (.getfield 26, 3) := by decide +kernel
theorem dX9_addresses_221 : decode cX9_addresses 221 = .ok (.iload 4, 2) := by decide +kernel
theorem dX9_addresses_223 : decode cX9_addresses 223 = .ok (.iaload, 1) := by decide +kernel
theorem dX9_addresses_224 : decode cX9_addresses 224 = .ok (.laload, 1) := by decide +kernel
theorem dX9_addresses_225 : decode cX9_addresses 225 = .ok (.aload_n 0, 1) := by decide +kernel
theorem dX9_addresses_226 : decode cX9_addresses 226 = .ok (.getfield 29, 3) := by decide +kernel
theorem dX9_addresses_229 : decode cX9_addresses 229 = .ok (.iload 4, 2) := by decide +kernel
theorem dX9_addresses_231 : decode cX9_addresses 231 = .ok (.iaload, 1) := by decide +kernel
theorem dX9_addresses_232 : decode cX9_addresses 232 = .ok (.i2l, 1) := by decide +kernel
theorem dX9_addresses_233 : decode cX9_addresses 233 = .ok (.ladd, 1) := by decide +kernel
theorem dX9_addresses_234 : decode cX9_addresses 234 = .ok (.lastore, 1) := by decide +kernel
theorem dX9_addresses_235 : decode cX9_addresses 235 = .ok (.iinc 4 1, 3) := by decide +kernel
theorem dX9_addresses_238 : decode cX9_addresses 238 = .ok (.goto (-40), 3) := by decide +kernel
theorem dX9_addresses_241 : decode cX9_addresses 241 = .ok (.return_, 1) := by decide +kernel
theorem dX9_reaches_0 : decode cX9_reaches 0 = .ok (.lload 4, 2) := by decide +kernel
theorem dX9_reaches_2 : decode cX9_reaches 2 = .ok (.lload_n 2, 1) := by decide +kernel
theorem dX9_reaches_3 : decode cX9_reaches 3 = .ok (.lsub, 1) := by decide +kernel
theorem dX9_reaches_4 : decode cX9_reaches 4 = .ok (.lstore 6, 2) := by decide +kernel
theorem dX9_reaches_6 : decode cX9_reaches 6 = .ok (.lconst 1, 1) := by decide +kernel
theorem dX9_reaches_7 : decode cX9_reaches 7 = .ok (.aload_n 0, 1) := by decide +kernel
theorem dX9_reaches_8 : decode cX9_reaches 8 = .ok (.getfield 41, 3) := by decide +kernel
theorem dX9_reaches_11 : decode cX9_reaches 11 = .ok (.iload_n 1, 1) := by decide +kernel
theorem dX9_reaches_12 : decode cX9_reaches 12 = .ok (.iaload, 1) := by decide +kernel
theorem dX9_reaches_13 : decode cX9_reaches 13 = .ok (.iconst 1, 1) := by decide +kernel
theorem dX9_reaches_14 : decode cX9_reaches 14 = .ok (.isub, 1) := by decide +kernel
theorem dX9_reaches_15 : decode cX9_reaches 15 = .ok (.lshl, 1) := by decide +kernel
theorem dX9_reaches_16 : decode cX9_reaches 16 = .ok (.aload_n 0, 1) := by decide +kernel
theorem dX9_reaches_17 : decode cX9_reaches 17 = .ok (.getfield 38, 3) := by decide +kernel
theorem dX9_reaches_20 : decode cX9_reaches 20 = .ok (.iload_n 1, 1) := by decide +kernel
theorem dX9_reaches_21 : decode cX9_reaches 21 = .ok (.iaload, 1) := by decide +kernel
theorem dX9_reaches_22 : decode cX9_reaches 22 = .ok (.i2l, 1) := by decide +kernel
theorem dX9_reaches_23 : decode cX9_reaches 23 = .ok (.lmul, 1) := by decide +kernel
theorem dX9_reaches_24 : decode cX9_reaches 24 = .ok (.lstore 8, 2) := by decide +kernel
theorem dX9_reaches_26 : decode cX9_reaches 26 = .ok (.lload 6, 2) := by decide +kernel
theorem dX9_reaches_28 : decode cX9_reaches 28 = .ok (.aload_n 0, 1) := by decide +kernel
theorem dX9_reaches_29 : decode cX9_reaches 29 = .ok (.getfield 38, 3) := by decide +kernel
theorem dX9_reaches_32 : decode cX9_reaches 32 = .ok (.iload_n 1, 1) := by decide +kernel
theorem dX9_reaches_33 : decode cX9_reaches 33 = .ok (.iaload, 1) := by decide +kernel
theorem dX9_reaches_34 : decode cX9_reaches 34 = .ok (.i2l, 1) := by decide +kernel
theorem dX9_reaches_35 : decode cX9_reaches 35 = .ok (.lrem, 1) := by decide +kernel
theorem dX9_reaches_36 : decode cX9_reaches 36 = .ok (.lconst 0, 1) := by decide +kernel
theorem dX9_reaches_37 : decode cX9_reaches 37 = .ok (.lcmp, 1) := by decide +kernel
theorem dX9_reaches_38 : decode cX9_reaches 38 = .ok (.ifCond .ne 32, 3) := by decide +kernel
theorem dX9_reaches_41 : decode cX9_reaches 41 = .ok (.lload 6, 2) := by decide +kernel
theorem dX9_reaches_43 : decode cX9_reaches 43 = .ok (.lload 8, 2) := by decide +kernel
theorem dX9_reaches_45 : decode cX9_reaches 45 = .ok (.lneg, 1) := by decide +kernel
theorem dX9_reaches_46 : decode cX9_reaches 46 = .ok (.lcmp, 1) := by decide +kernel
theorem dX9_reaches_47 : decode cX9_reaches 47 = .ok (.ifCond .lt 23, 3) := by decide +kernel
theorem dX9_reaches_50 : decode cX9_reaches 50 = .ok (.lload 6, 2) := by decide +kernel
theorem dX9_reaches_52 : decode cX9_reaches 52 = .ok (.lload 8, 2) := by decide +kernel
theorem dX9_reaches_54 : decode cX9_reaches 54 = .ok (.aload_n 0, 1) := by decide +kernel
theorem dX9_reaches_55 : decode cX9_reaches 55 = .ok (.getfield 38, 3) := by decide +kernel
theorem dX9_reaches_58 : decode cX9_reaches 58 = .ok (.iload_n 1, 1) := by decide +kernel
theorem dX9_reaches_59 : decode cX9_reaches 59 = .ok (.iaload, 1) := by decide +kernel
theorem dX9_reaches_60 : decode cX9_reaches 60 = .ok (.i2l, 1) := by decide +kernel
theorem dX9_reaches_61 : decode cX9_reaches 61 = .ok (.lsub, 1) := by decide +kernel
theorem dX9_reaches_62 : decode cX9_reaches 62 = .ok (.lcmp, 1) := by decide +kernel
theorem dX9_reaches_63 : decode cX9_reaches 63 = .ok (.ifCond .gt 7, 3) := by decide +kernel
theorem dX9_reaches_66 : decode cX9_reaches 66 = .ok (.iconst 1, 1) := by decide +kernel
theorem dX9_reaches_67 : decode cX9_reaches 67 = .ok (.goto 4, 3) := by decide +kernel
theorem dX9_reaches_70 : decode cX9_reaches 70 = .ok (.iconst 0, 1) := by decide +kernel
theorem dX9_reaches_71 : decode cX9_reaches 71 = .ok (.ireturn, 1) := by decide +kernel
theorem dX9_thunkFor_0 : decode cX9_thunkFor 0 = .ok (.iconst (-1), 1) := by decide +kernel
theorem dX9_thunkFor_1 : decode cX9_thunkFor 1 = .ok (.istore_n 3, 1) := by decide +kernel
theorem dX9_thunkFor_2 : decode cX9_thunkFor 2 = .ok (.aload_n 0, 1) := by decide +kernel
theorem dX9_thunkFor_3 : decode cX9_thunkFor 3 = .ok (.getfield 35, 3) := by decide +kernel
theorem dX9_thunkFor_6 : decode cX9_thunkFor 6 = .ok (.iload_n 1, 1) := by decide +kernel
theorem dX9_thunkFor_7 : decode cX9_thunkFor 7 = .ok (.iaload, 1) := by decide +kernel
theorem dX9_thunkFor_8 : decode cX9_thunkFor 8 = .ok (.istore 4, 2) := by decide +kernel
theorem dX9_thunkFor_10 : decode cX9_thunkFor 10 = .ok (.iconst 0, 1) := by decide +kernel
theorem dX9_thunkFor_11 : decode cX9_thunkFor 11 = .ok (.istore 5, 2) := by decide +kernel
theorem dX9_thunkFor_13 : decode cX9_thunkFor 13 = .ok (.iload 5, 2) := by decide +kernel
theorem dX9_thunkFor_15 : decode cX9_thunkFor 15 = .ok (.iload_n 2, 1) := by decide +kernel
theorem dX9_thunkFor_16 : decode cX9_thunkFor 16 = .ok (.if_icmp .ge 108, 3) := by decide +kernel
theorem dX9_thunkFor_19 : decode cX9_thunkFor 19 = .ok (.aload_n 0, 1) := by decide +kernel
theorem dX9_thunkFor_20 : decode cX9_thunkFor 20 = .ok (.getfield 87, 3) := by decide +kernel
theorem dX9_thunkFor_23 : decode cX9_thunkFor 23 = .ok (.iload 5, 2) := by decide +kernel
theorem dX9_thunkFor_25 : decode cX9_thunkFor 25 = .ok (.iaload, 1) := by decide +kernel
theorem dX9_thunkFor_26 : decode cX9_thunkFor 26 = .ok (.iload 4, 2) := by decide +kernel
theorem dX9_thunkFor_28 : decode cX9_thunkFor 28 = .ok (.if_icmp .ne 90, 3) := by decide +kernel
theorem dX9_thunkFor_31 : decode cX9_thunkFor 31 = .ok (.aload_n 0, 1) := by decide +kernel
theorem dX9_thunkFor_32 : decode cX9_thunkFor 32 = .ok (.aload_n 0, 1) := by decide +kernel
theorem dX9_thunkFor_33 : decode cX9_thunkFor 33 = .ok (.getfield 32, 3) := by decide +kernel
theorem dX9_thunkFor_36 : decode cX9_thunkFor 36 = .ok (.iload_n 1, 1) := by decide +kernel
theorem dX9_thunkFor_37 : decode cX9_thunkFor 37 = .ok (.iaload, 1) := by decide +kernel
theorem dX9_thunkFor_38 : decode cX9_thunkFor 38 = .ok (.aload_n 0, 1) := by decide +kernel
theorem dX9_thunkFor_39 : decode cX9_thunkFor 39 = .ok (.getfield 60, 3) := by decide +kernel
theorem dX9_thunkFor_42 : decode cX9_thunkFor 42 = .ok (.iload_n 1, 1) := by decide +kernel
theorem dX9_thunkFor_43 : decode cX9_thunkFor 43 = .ok (.laload, 1) := by decide +kernel
theorem dX9_thunkFor_44 : decode cX9_thunkFor 44 = .ok (.aload_n 0, 1) := by decide +kernel
theorem dX9_thunkFor_45 : decode cX9_thunkFor 45 = .ok (.getfield 81, 3) := by decide +kernel
theorem dX9_thunkFor_48 : decode cX9_thunkFor 48 = .ok (.iload 5, 2) := by decide +kernel
theorem dX9_thunkFor_50 : decode cX9_thunkFor 50 = .ok (.laload, 1) := by decide +kernel
theorem dX9_thunkFor_51 : decode cX9_thunkFor 51 = .ok (.invokevirtual 147, 3) := by decide +kernel
theorem dX9_thunkFor_54 : decode cX9_thunkFor 54 = .ok (.ifCond .eq 64, 3) := by decide +kernel
theorem dX9_thunkFor_57 : decode cX9_thunkFor 57 = .ok (.aload_n 0, 1) := by decide +kernel
theorem dX9_thunkFor_58 : decode cX9_thunkFor 58 = .ok (.aload_n 0, 1) := by decide +kernel
theorem dX9_thunkFor_59 : decode cX9_thunkFor 59 = .ok (.getfield 133, 3) := by decide +kernel
theorem dX9_thunkFor_62 : decode cX9_thunkFor 62 = .ok (.aload_n 0, 1) := by decide +kernel
theorem dX9_thunkFor_63 : decode cX9_thunkFor 63 = .ok (.getfield 81, 3) := by decide +kernel
theorem dX9_thunkFor_66 : decode cX9_thunkFor 66 = .ok (.iload 5, 2) := by decide +kernel
theorem dX9_thunkFor_68 : decode cX9_thunkFor 68 = .ok (.laload, 1) := by decide +kernel
theorem dX9_thunkFor_69 : decode cX9_thunkFor 69 = .ok (.aload_n 0, 1) := by decide +kernel
theorem dX9_thunkFor_70 : decode cX9_thunkFor 70 = .ok (.getfield 57, 3) := by decide +kernel
theorem dX9_thunkFor_73 : decode cX9_thunkFor 73 = .ok (.iload 4, 2) := by decide +kernel
theorem dX9_thunkFor_75 : decode cX9_thunkFor 75 = .ok (.laload, 1) := by decide +kernel
theorem dX9_thunkFor_76 : decode cX9_thunkFor 76 = .ok (.invokevirtual 147, 3) := by decide +kernel
theorem dX9_thunkFor_79 : decode cX9_thunkFor 79 = .ok (.ifCond .ne 6, 3) := by decide +kernel
theorem dX9_thunkFor_82 : decode cX9_thunkFor 82 = .ok (.goto 36, 3) := by decide +kernel
theorem dX9_thunkFor_85 : decode cX9_thunkFor 85 = .ok (.iload_n 3, 1) := by decide +kernel
theorem dX9_thunkFor_86 : decode cX9_thunkFor 86 = .ok (.iconst (-1), 1) := by decide +kernel
theorem dX9_thunkFor_87 : decode cX9_thunkFor 87 = .ok (.if_icmp .eq 28, 3) := by decide +kernel
theorem dX9_thunkFor_90 : decode cX9_thunkFor 90 = .ok (.aload_n 0, 1) := by decide +kernel
theorem dX9_thunkFor_91 : decode cX9_thunkFor 91 = .ok (.getfield 60, 3) := by decide +kernel
theorem dX9_thunkFor_94 : decode cX9_thunkFor 94 = .ok (.iload_n 1, 1) := by decide +kernel
theorem dX9_thunkFor_95 : decode cX9_thunkFor 95 = .ok (.laload, 1) := by decide +kernel
theorem dX9_thunkFor_96 : decode cX9_thunkFor 96 = .ok (.aload_n 0, 1) := by decide +kernel
theorem dX9_thunkFor_97 : decode cX9_thunkFor 97 = .ok (.getfield 81, 3) := by decide +kernel
theorem dX9_thunkFor_100 : decode cX9_thunkFor 100 = .ok (.iload 5, 2) := by decide +kernel
theorem dX9_thunkFor_102 : decode cX9_thunkFor 102 = .ok (.laload, 1) := by decide +kernel
theorem dX9_thunkFor_103 : decode cX9_thunkFor 103 = .ok (.aload_n 0, 1) := by decide +kernel
theorem dX9_thunkFor_104 : decode cX9_thunkFor 104 = .ok (.getfield 81, 3) := by decide +kernel
theorem dX9_thunkFor_107 : decode cX9_thunkFor 107 = .ok (.iload_n 3, 1) := by decide +kernel
theorem dX9_thunkFor_108 : decode cX9_thunkFor 108 = .ok (.laload, 1) := by decide +kernel
theorem dX9_thunkFor_109 : decode cX9_thunkFor 109 = .ok (.invokestatic 151, 3) := by decide +kernel
theorem dX9_thunkFor_112 : decode cX9_thunkFor 112 = .ok (.ifCond .eq 6, 3) := by decide +kernel
theorem dX9_thunkFor_115 : decode cX9_thunkFor 115 = .ok (.iload 5, 2) := by decide +kernel
theorem dX9_thunkFor_117 : decode cX9_thunkFor 117 = .ok (.istore_n 3, 1) := by decide +kernel
theorem dX9_thunkFor_118 : decode cX9_thunkFor 118 = .ok (.iinc 5 1, 3) := by decide +kernel
theorem dX9_thunkFor_121 : decode cX9_thunkFor 121 = .ok (.goto (-108), 3) := by decide +kernel
theorem dX9_thunkFor_124 : decode cX9_thunkFor 124 = .ok (.iload_n 3, 1) := by decide +kernel
theorem dX9_thunkFor_125 : decode cX9_thunkFor 125 = .ok (.ireturn, 1) := by decide +kernel
theorem dX9_isNearer_0 : decode cX9_isNearer 0 = .ok (.lload_n 2, 1) := by decide +kernel
theorem dX9_isNearer_1 : decode cX9_isNearer 1 = .ok (.lload_n 0, 1) := by decide +kernel
theorem dX9_isNearer_2 : decode cX9_isNearer 2 = .ok (.lcmp, 1) := by decide +kernel
theorem dX9_isNearer_3 : decode cX9_isNearer 3 = .ok (.ifCond .ge 9, 3) := by decide +kernel
theorem dX9_isNearer_6 : decode cX9_isNearer 6 = .ok (.lload_n 0, 1) := by decide +kernel
theorem dX9_isNearer_7 : decode cX9_isNearer 7 = .ok (.lload_n 2, 1) := by decide +kernel
theorem dX9_isNearer_8 : decode cX9_isNearer 8 = .ok (.lsub, 1) := by decide +kernel
theorem dX9_isNearer_9 : decode cX9_isNearer 9 = .ok (.goto 6, 3) := by decide +kernel
theorem dX9_isNearer_12 : decode cX9_isNearer 12 = .ok (.lload_n 2, 1) := by decide +kernel
theorem dX9_isNearer_13 : decode cX9_isNearer 13 = .ok (.lload_n 0, 1) := by decide +kernel
theorem dX9_isNearer_14 : decode cX9_isNearer 14 = .ok (.lsub, 1) := by decide +kernel
theorem dX9_isNearer_15 : decode cX9_isNearer 15 = .ok (.lstore 6, 2) := by decide +kernel
theorem dX9_isNearer_17 : decode cX9_isNearer 17 = .ok (.lload 4, 2) := by decide +kernel
theorem dX9_isNearer_19 : decode cX9_isNearer 19 = .ok (.lload_n 0, 1) := by decide +kernel
theorem dX9_isNearer_20 : decode cX9_isNearer 20 = .ok (.lcmp, 1) := by decide +kernel
theorem dX9_isNearer_21 : decode cX9_isNearer 21 = .ok (.ifCond .ge 10, 3) := by decide +kernel
theorem dX9_isNearer_24 : decode cX9_isNearer 24 = .ok (.lload_n 0, 1) := by decide +kernel
theorem dX9_isNearer_25 : decode cX9_isNearer 25 = .ok (.lload 4, 2) := by decide +kernel
theorem dX9_isNearer_27 : decode cX9_isNearer 27 = .ok (.lsub, 1) := by decide +kernel
theorem dX9_isNearer_28 : decode cX9_isNearer 28 = .ok (.goto 7, 3) := by decide +kernel
theorem dX9_isNearer_31 : decode cX9_isNearer 31 = .ok (.lload 4, 2) := by decide +kernel
theorem dX9_isNearer_33 : decode cX9_isNearer 33 = .ok (.lload_n 0, 1) := by decide +kernel
theorem dX9_isNearer_34 : decode cX9_isNearer 34 = .ok (.lsub, 1) := by decide +kernel
theorem dX9_isNearer_35 : decode cX9_isNearer 35 = .ok (.lstore 8, 2) := by decide +kernel
theorem dX9_isNearer_37 : decode cX9_isNearer 37 = .ok (.lload 6, 2) := by decide +kernel
theorem dX9_isNearer_39 : decode cX9_isNearer 39 = .ok (.lload 8, 2) := by decide +kernel
theorem dX9_isNearer_41 : decode cX9_isNearer 41 = .ok (.lcmp, 1) := by decide +kernel
theorem dX9_isNearer_42 : decode cX9_isNearer 42 = .ok (.ifCond .lt 18, 3) := by decide +kernel
theorem dX9_isNearer_45 : decode cX9_isNearer 45 = .ok (.lload 6, 2) := by decide +kernel
theorem dX9_isNearer_47 : decode cX9_isNearer 47 = .ok (.lload 8, 2) := by decide +kernel
theorem dX9_isNearer_49 : decode cX9_isNearer 49 = .ok (.lcmp, 1) := by decide +kernel
theorem dX9_isNearer_50 : decode cX9_isNearer 50 = .ok (.ifCond .ne 14, 3) := by decide +kernel
theorem dX9_isNearer_53 : decode cX9_isNearer 53 = .ok (.lload_n 2, 1) := by decide +kernel
theorem dX9_isNearer_54 : decode cX9_isNearer 54 = .ok (.lload 4, 2) := by decide +kernel
theorem dX9_isNearer_56 : decode cX9_isNearer 56 = .ok (.lcmp, 1) := by decide +kernel
theorem dX9_isNearer_57 : decode cX9_isNearer 57 = .ok (.ifCond .ge 7, 3) := by decide +kernel
theorem dX9_isNearer_60 : decode cX9_isNearer 60 = .ok (.iconst 1, 1) := by decide +kernel
theorem dX9_isNearer_61 : decode cX9_isNearer 61 = .ok (.goto 4, 3) := by decide +kernel
theorem dX9_isNearer_64 : decode cX9_isNearer 64 = .ok (.iconst 0, 1) := by decide +kernel
theorem dX9_isNearer_65 : decode cX9_isNearer 65 = .ok (.ireturn, 1) := by decide +kernel
theorem dX9_isDirect_0 : decode cX9_isDirect 0 = .ok (.aload_n 0, 1) := by decide +kernel
theorem dX9_isDirect_1 : decode cX9_isDirect 1 = .ok (.aload_n 0, 1) := by decide +kernel
theorem dX9_isDirect_2 : decode cX9_isDirect 2 = .ok (.getfield 32, 3) := by decide +kernel
theorem dX9_isDirect_5 : decode cX9_isDirect 5 = .ok (.iload_n 1, 1) := by decide +kernel
theorem dX9_isDirect_6 : decode cX9_isDirect 6 = .ok (.iaload, 1) := by decide +kernel
theorem dX9_isDirect_7 : decode cX9_isDirect 7 = .ok (.aload_n 0, 1) := by decide +kernel
theorem dX9_isDirect_8 : decode cX9_isDirect 8 = .ok (.getfield 60, 3) := by decide +kernel
theorem dX9_isDirect_11 : decode cX9_isDirect 11 = .ok (.iload_n 1, 1) := by decide +kernel
theorem dX9_isDirect_12 : decode cX9_isDirect 12 = .ok (.laload, 1) := by decide +kernel
theorem dX9_isDirect_13 : decode cX9_isDirect 13 = .ok (.aload_n 0, 1) := by decide +kernel
theorem dX9_isDirect_14 : decode cX9_isDirect 14 = .ok (.getfield 57, 3) := by decide +kernel
theorem dX9_isDirect_17 : decode cX9_isDirect 17 = .ok (.aload_n 0, 1) := by decide +kernel
theorem dX9_isDirect_18 : decode cX9_isDirect 18 = .ok (.getfield 35, 3) := by decide +kernel
theorem dX9_isDirect_21 : decode cX9_isDirect 21 = .ok (.iload_n 1, 1) := by decide +kernel
theorem dX9_isDirect_22 : decode cX9_isDirect 22 = .ok (.iaload, 1) := by decide +kernel
theorem dX9_isDirect_23 : decode cX9_isDirect 23 = .ok (.laload, 1) := by decide +kernel
theorem dX9_isDirect_24 : decode cX9_isDirect 24 = .ok (.invokevirtual 147, 3) := by decide +kernel
theorem dX9_isDirect_27 : decode cX9_isDirect 27 = .ok (.ireturn, 1) := by decide +kernel
theorem dX9_hasThunk_0 : decode cX9_hasThunk 0 = .ok (.iconst 0, 1) := by decide +kernel
theorem dX9_hasThunk_1 : decode cX9_hasThunk 1 = .ok (.istore 5, 2) := by decide +kernel
theorem dX9_hasThunk_3 : decode cX9_hasThunk 3 = .ok (.iload_n 3, 1) := by decide +kernel
theorem dX9_hasThunk_4 : decode cX9_hasThunk 4 = .ok (.istore 6, 2) := by decide +kernel
theorem dX9_hasThunk_6 : decode cX9_hasThunk 6 = .ok (.iload 6, 2) := by decide +kernel
theorem dX9_hasThunk_8 : decode cX9_hasThunk 8 = .ok (.iload 4, 2) := by decide +kernel
theorem dX9_hasThunk_10 : decode cX9_hasThunk 10 = .ok (.if_icmp .ge 43, 3) := by decide +kernel
theorem dX9_hasThunk_13 : decode cX9_hasThunk 13 = .ok (.iload 5, 2) := by decide +kernel
theorem dX9_hasThunk_15 : decode cX9_hasThunk 15 = .ok (.ifCond .ne 25, 3) := by decide +kernel
theorem dX9_hasThunk_18 : decode cX9_hasThunk 18 = .ok (.aload_n 0, 1) := by decide +kernel
theorem dX9_hasThunk_19 : decode cX9_hasThunk 19 = .ok (.getfield 84, 3) := by decide +kernel
theorem dX9_hasThunk_22 : decode cX9_hasThunk 22 = .ok (.iload 6, 2) := by decide +kernel
theorem dX9_hasThunk_24 : decode cX9_hasThunk 24 = .ok (.iaload, 1) := by decide +kernel
theorem dX9_hasThunk_25 : decode cX9_hasThunk 25 = .ok (.iload_n 1, 1) := by decide +kernel
theorem dX9_hasThunk_26 : decode cX9_hasThunk 26 = .ok (.if_icmp .ne 18, 3) := by decide +kernel
theorem dX9_hasThunk_29 : decode cX9_hasThunk 29 = .ok (.aload_n 0, 1) := by decide +kernel
theorem dX9_hasThunk_30 : decode cX9_hasThunk 30 = .ok (.getfield 87, 3) := by decide +kernel
theorem dX9_hasThunk_33 : decode cX9_hasThunk 33 = .ok (.iload 6, 2) := by decide +kernel
theorem dX9_hasThunk_35 : decode cX9_hasThunk 35 = .ok (.iaload, 1) := by decide +kernel
theorem dX9_hasThunk_36 : decode cX9_hasThunk 36 = .ok (.iload_n 2, 1) := by decide +kernel
theorem dX9_hasThunk_37 : decode cX9_hasThunk 37 = .ok (.if_icmp .ne 7, 3) := by decide +kernel
theorem dX9_hasThunk_40 : decode cX9_hasThunk 40 = .ok (.iconst 1, 1) := by decide +kernel
theorem dX9_hasThunk_41 : decode cX9_hasThunk 41 = .ok (.goto 4, 3) := by decide +kernel
theorem dX9_hasThunk_44 : decode cX9_hasThunk 44 = .ok (.iconst 0, 1) := by decide +kernel
theorem dX9_hasThunk_45 : decode cX9_hasThunk 45 = .ok (.istore 5, 2) := by decide +kernel
theorem dX9_hasThunk_47 : decode cX9_hasThunk 47 = .ok (.iinc 6 1, 3) := by decide +kernel
theorem dX9_hasThunk_50 : decode cX9_hasThunk 50 = .ok (.goto (-44), 3) := by decide +kernel
theorem dX9_hasThunk_53 : decode cX9_hasThunk 53 = .ok (.iload 5, 2) := by decide +kernel
theorem dX9_hasThunk_55 : decode cX9_hasThunk 55 = .ok (.ireturn, 1) := by decide +kernel
theorem dX9_wants_0 : decode cX9_wants 0 = .ok (.iconst (-1), 1) := by decide +kernel
theorem dX9_wants_1 : decode cX9_wants 1 = .ok (.istore_n 3, 1) := by decide +kernel
theorem dX9_wants_2 : decode cX9_wants 2 = .ok (.aload_n 0, 1) := by decide +kernel
theorem dX9_wants_3 : decode cX9_wants 3 = .ok (.getfield 35, 3) := by decide +kernel
theorem dX9_wants_6 : decode cX9_wants 6 = .ok (.iload_n 1, 1) := by decide +kernel
theorem dX9_wants_7 : decode cX9_wants 7 = .ok (.iaload, 1) := by decide +kernel
theorem dX9_wants_8 : decode cX9_wants 8 = .ok (.istore 4, 2) := by decide +kernel
theorem dX9_wants_10 : decode cX9_wants 10 = .ok (.iconst 0, 1) := by decide +kernel
theorem dX9_wants_11 : decode cX9_wants 11 = .ok (.istore 5, 2) := by decide +kernel
theorem dX9_wants_13 : decode cX9_wants 13 = .ok (.iload 5, 2) := by decide +kernel
theorem dX9_wants_15 : decode cX9_wants 15 = .ok (.aload_n 0, 1) := by decide +kernel
theorem dX9_wants_16 : decode cX9_wants 16 = .ok (.getfield 105, 3) := by decide +kernel
theorem dX9_wants_19 : decode cX9_wants 19 = .ok (.if_icmp .ge 137, 3) := by decide +kernel
theorem dX9_wants_22 : decode cX9_wants 22 = .ok (.aload_n 0, 1) := by decide +kernel
theorem dX9_wants_23 : decode cX9_wants 23 = .ok (.getfield 16, 3) := by decide +kernel
theorem dX9_wants_26 : decode cX9_wants 26 = .ok (.iload 5, 2) := by decide +kernel
theorem dX9_wants_28 : decode cX9_wants 28 = .ok (.baload, 1) := by decide +kernel
theorem dX9_wants_29 : decode cX9_wants 29 = .ok (.ifCond .eq 121, 3) := by decide +kernel
theorem dX9_wants_32 : decode cX9_wants 32 = .ok (.aload_n 0, 1) := by decide +kernel
theorem dX9_wants_33 : decode cX9_wants 33 = .ok (.aload_n 0, 1) := by decide +kernel
theorem dX9_wants_34 : decode cX9_wants 34 = .ok (.getfield 32, 3) := by decide +kernel
theorem dX9_wants_37 : decode cX9_wants 37 = .ok (.iload_n 1, 1) := by decide +kernel
theorem dX9_wants_38 : decode cX9_wants 38 = .ok (.iaload, 1) := by decide +kernel
theorem dX9_wants_39 : decode cX9_wants 39 = .ok (.aload_n 0, 1) := by decide +kernel
theorem dX9_wants_40 : decode cX9_wants 40 = .ok (.getfield 60, 3) := by decide +kernel
theorem dX9_wants_43 : decode cX9_wants 43 = .ok (.iload_n 1, 1) := by decide +kernel
theorem dX9_wants_44 : decode cX9_wants 44 = .ok (.laload, 1) := by decide +kernel
theorem dX9_wants_45 : decode cX9_wants 45 = .ok (.aload_n 0, 1) := by decide +kernel
theorem dX9_wants_46 : decode cX9_wants 46 = .ok (.getfield 54, 3) := by decide +kernel
theorem dX9_wants_49 : decode cX9_wants 49 = .ok (.iload 5, 2) := by decide +kernel
theorem dX9_wants_51 : decode cX9_wants 51 = .ok (.laload, 1) := by decide +kernel
theorem dX9_wants_52 : decode cX9_wants 52 = .ok (.invokevirtual 147, 3) := by decide +kernel
theorem dX9_wants_55 : decode cX9_wants 55 = .ok (.ifCond .eq 95, 3) := by decide +kernel
theorem dX9_wants_58 : decode cX9_wants 58 = .ok (.aload_n 0, 1) := by decide +kernel
theorem dX9_wants_59 : decode cX9_wants 59 = .ok (.aload_n 0, 1) := by decide +kernel
theorem dX9_wants_60 : decode cX9_wants 60 = .ok (.getfield 133, 3) := by decide +kernel
theorem dX9_wants_63 : decode cX9_wants 63 = .ok (.aload_n 0, 1) := by decide +kernel
theorem dX9_wants_64 : decode cX9_wants 64 = .ok (.getfield 54, 3) := by decide +kernel
theorem dX9_wants_67 : decode cX9_wants 67 = .ok (.iload 5, 2) := by decide +kernel
theorem dX9_wants_69 : decode cX9_wants 69 = .ok (.laload, 1) := by decide +kernel
theorem dX9_wants_70 : decode cX9_wants 70 = .ok (.aload_n 0, 1) := by decide +kernel
theorem dX9_wants_71 : decode cX9_wants 71 = .ok (.getfield 57, 3) := by decide +kernel
theorem dX9_wants_74 : decode cX9_wants 74 = .ok (.iload 4, 2) := by decide +kernel
theorem dX9_wants_76 : decode cX9_wants 76 = .ok (.laload, 1) := by decide +kernel
theorem dX9_wants_77 : decode cX9_wants 77 = .ok (.invokevirtual 147, 3) := by decide +kernel
theorem dX9_wants_80 : decode cX9_wants 80 = .ok (.ifCond .eq 70, 3) := by decide +kernel
theorem dX9_wants_83 : decode cX9_wants 83 = .ok (.aload_n 0, 1) := by decide +kernel
theorem dX9_wants_84 : decode cX9_wants 84 = .ok (.iload 5, 2) := by decide +kernel
theorem dX9_wants_86 : decode cX9_wants 86 = .ok (.iload 4, 2) := by decide +kernel
theorem dX9_wants_88 : decode cX9_wants 88 = .ok (.iconst 0, 1) := by decide +kernel
theorem dX9_wants_89 : decode cX9_wants 89 = .ok (.iload_n 2, 1) := by decide +kernel
theorem dX9_wants_90 : decode cX9_wants 90 = .ok (.invokevirtual 155, 3) := by decide +kernel
theorem dX9_wants_93 : decode cX9_wants 93 = .ok (.ifCond .eq 6, 3) := by decide +kernel
theorem dX9_wants_96 : decode cX9_wants 96 = .ok (.goto 54, 3) := by decide +kernel
theorem dX9_wants_99 : decode cX9_wants 99 = .ok (.aload_n 0, 1) := by decide +kernel
theorem dX9_wants_100 : decode cX9_wants 100 = .ok (.iload 5, 2) := by decide +kernel
theorem dX9_wants_102 : decode cX9_wants 102 = .ok (.iload 4, 2) := by decide +kernel
theorem dX9_wants_104 : decode cX9_wants 104 = .ok (.iload_n 2, 1) := by decide +kernel
theorem dX9_wants_105 : decode cX9_wants 105 = .ok (.aload_n 0, 1) := by decide +kernel
theorem dX9_wants_106 : decode cX9_wants 106 = .ok (.getfield 159, 3) := by decide +kernel
theorem dX9_wants_109 : decode cX9_wants 109 = .ok (.invokevirtual 155, 3) := by decide +kernel
theorem dX9_wants_112 : decode cX9_wants 112 = .ok (.ifCond .eq 5, 3) := by decide +kernel
theorem dX9_wants_115 : decode cX9_wants 115 = .ok (.iconst (-1), 1) := by decide +kernel
theorem dX9_wants_116 : decode cX9_wants 116 = .ok (.ireturn, 1) := by decide +kernel
theorem dX9_wants_117 : decode cX9_wants 117 = .ok (.iload_n 3, 1) := by decide +kernel
theorem dX9_wants_118 : decode cX9_wants 118 = .ok (.iconst (-1), 1) := by decide +kernel
theorem dX9_wants_119 : decode cX9_wants 119 = .ok (.if_icmp .eq 28, 3) := by decide +kernel
theorem dX9_wants_122 : decode cX9_wants 122 = .ok (.aload_n 0, 1) := by decide +kernel
theorem dX9_wants_123 : decode cX9_wants 123 = .ok (.getfield 60, 3) := by decide +kernel
theorem dX9_wants_126 : decode cX9_wants 126 = .ok (.iload_n 1, 1) := by decide +kernel
theorem dX9_wants_127 : decode cX9_wants 127 = .ok (.laload, 1) := by decide +kernel
theorem dX9_wants_128 : decode cX9_wants 128 = .ok (.aload_n 0, 1) := by decide +kernel
theorem dX9_wants_129 : decode cX9_wants 129 = .ok (.getfield 54, 3) := by decide +kernel
theorem dX9_wants_132 : decode cX9_wants 132 = .ok (.iload 5, 2) := by decide +kernel
theorem dX9_wants_134 : decode cX9_wants 134 = .ok (.laload, 1) := by decide +kernel
theorem dX9_wants_135 : decode cX9_wants 135 = .ok (.aload_n 0, 1) := by decide +kernel
theorem dX9_wants_136 : decode cX9_wants 136 = .ok (.getfield 54, 3) := by decide +kernel
theorem dX9_wants_139 : decode cX9_wants 139 = .ok (.iload_n 3, 1) := by decide +kernel
theorem dX9_wants_140 : decode cX9_wants 140 = .ok (.laload, 1) := by decide +kernel
theorem dX9_wants_141 : decode cX9_wants 141 = .ok (.invokestatic 151, 3) := by decide +kernel
theorem dX9_wants_144 : decode cX9_wants 144 = .ok (.ifCond .eq 6, 3) := by decide +kernel
theorem dX9_wants_147 : decode cX9_wants 147 = .ok (.iload 5, 2) := by decide +kernel
theorem dX9_wants_149 : decode cX9_wants 149 = .ok (.istore_n 3, 1) := by decide +kernel
theorem dX9_wants_150 : decode cX9_wants 150 = .ok (.iinc 5 1, 3) := by decide +kernel
theorem dX9_wants_153 : decode cX9_wants 153 = .ok (.goto (-140), 3) := by decide +kernel
theorem dX9_wants_156 : decode cX9_wants 156 = .ok (.iload_n 3, 1) := by decide +kernel
theorem dX9_wants_157 : decode cX9_wants 157 = .ok (.ireturn, 1) := by decide +kernel
theorem dX9_lay_0 : decode cX9_lay 0 = .ok (.iconst 0, 1) := by decide +kernel
theorem dX9_lay_1 : decode cX9_lay 1 = .ok (.istore_n 1, 1) := by decide +kernel
theorem dX9_lay_2 : decode cX9_lay 2 = .ok (.iconst 0, 1) := by decide +kernel
theorem dX9_lay_3 : decode cX9_lay 3 = .ok (.istore_n 2, 1) := by decide +kernel
theorem dX9_lay_4 : decode cX9_lay 4 = .ok (.iconst 1, 1) := by decide +kernel
theorem dX9_lay_5 : decode cX9_lay 5 = .ok (.istore_n 3, 1) := by decide +kernel
theorem dX9_lay_6 : decode cX9_lay 6 = .ok (.iload_n 3, 1) := by decide +kernel
theorem dX9_lay_7 : decode cX9_lay 7 = .ok (.ifCond .eq 226, 3) := by decide +kernel
theorem dX9_lay_10 : decode cX9_lay 10 = .ok (.iinc 2 1, 3) := by decide +kernel
theorem dX9_lay_13 : decode cX9_lay 13 = .ok (.aload_n 0, 1) := by decide +kernel
theorem dX9_lay_14 : decode cX9_lay 14 = .ok (.iload_n 1, 1) := by decide +kernel
theorem dX9_lay_15 : decode cX9_lay 15 = .ok (.invokevirtual 162, 3) := by decide +kernel
theorem dX9_lay_18 : decode cX9_lay 18 = .ok (.aload_n 0, 1) := by decide +kernel
theorem dX9_lay_19 : decode cX9_lay 19 = .ok (.iload_n 1, 1) := by decide +kernel
theorem dX9_lay_20 : decode cX9_lay 20 = .ok (.putfield 159, 3) := by decide +kernel
theorem dX9_lay_23 : decode cX9_lay 23 = .ok (.iconst 0, 1) := by decide +kernel
theorem dX9_lay_24 : decode cX9_lay 24 = .ok (.istore 4, 2) := by decide +kernel
theorem dX9_lay_26 : decode cX9_lay 26 = .ok (.iload 4, 2) := by decide +kernel
theorem dX9_lay_28 : decode cX9_lay 28 = .ok (.aload_n 0, 1) := by decide +kernel
theorem dX9_lay_29 : decode cX9_lay 29 = .ok (.getfield 124, 3) := by decide +kernel
theorem dX9_lay_32 : decode cX9_lay 32 = .ok (.if_icmp .ge 179, 3) := by decide +kernel
theorem dX9_lay_35 : decode cX9_lay 35 = .ok (.aload_n 0, 1) := by decide +kernel
theorem dX9_lay_36 : decode cX9_lay 36 = .ok (.getfield 127, 3) := by decide +kernel
theorem dX9_lay_39 : decode cX9_lay 39 = .ok (.ifCond .eq 166, 3) := by decide +kernel
theorem dX9_lay_42 : decode cX9_lay 42 = .ok (.aload_n 0, 1) := by decide +kernel
theorem dX9_lay_43 : decode cX9_lay 43 = .ok (.iload 4, 2) := by decide +kernel
theorem dX9_lay_45 : decode cX9_lay 45 = .ok (.invokevirtual 166, 3) := by decide +kernel
theorem dX9_lay_48 : decode cX9_lay 48 = .ok (.ifCond .ne 157, 3) := by decide +kernel
theorem dX9_lay_51 : decode cX9_lay 51 = .ok (.aload_n 0, 1) := by decide +kernel
theorem dX9_lay_52 : decode cX9_lay 52 = .ok (.iload 4, 2) := by decide +kernel
theorem dX9_lay_54 : decode cX9_lay 54 = .ok (.iload_n 1, 1) := by decide +kernel
theorem dX9_lay_55 : decode cX9_lay 55 = .ok (.invokevirtual 170, 3) := by decide +kernel
theorem dX9_lay_58 : decode cX9_lay 58 = .ok (.iconst (-1), 1) := by decide +kernel
theorem dX9_lay_59 : decode cX9_lay 59 = .ok (.if_icmp .eq 6, 3) := by decide +kernel
theorem dX9_lay_62 : decode cX9_lay 62 = .ok (.goto 143, 3) := by decide +kernel
theorem dX9_lay_65 : decode cX9_lay 65 = .ok (.aload_n 0, 1) := by decide +kernel
theorem dX9_lay_66 : decode cX9_lay 66 = .ok (.iload 4, 2) := by decide +kernel
theorem dX9_lay_68 : decode cX9_lay 68 = .ok (.iload_n 1, 1) := by decide +kernel
theorem dX9_lay_69 : decode cX9_lay 69 = .ok (.invokevirtual 174, 3) := by decide +kernel
theorem dX9_lay_72 : decode cX9_lay 72 = .ok (.istore 5, 2) := by decide +kernel
theorem dX9_lay_74 : decode cX9_lay 74 = .ok (.iload 5, 2) := by decide +kernel
theorem dX9_lay_76 : decode cX9_lay 76 = .ok (.iconst (-1), 1) := by decide +kernel
theorem dX9_lay_77 : decode cX9_lay 77 = .ok (.if_icmp .ne 6, 3) := by decide +kernel
theorem dX9_lay_80 : decode cX9_lay 80 = .ok (.goto 125, 3) := by decide +kernel
theorem dX9_lay_83 : decode cX9_lay 83 = .ok (.aload_n 0, 1) := by decide +kernel
theorem dX9_lay_84 : decode cX9_lay 84 = .ok (.getfield 84, 3) := by decide +kernel
theorem dX9_lay_87 : decode cX9_lay 87 = .ok (.aload_n 0, 1) := by decide +kernel
theorem dX9_lay_88 : decode cX9_lay 88 = .ok (.getfield 159, 3) := by decide +kernel
theorem dX9_lay_91 : decode cX9_lay 91 = .ok (.iload 5, 2) := by decide +kernel
theorem dX9_lay_93 : decode cX9_lay 93 = .ok (.iastore, 1) := by decide +kernel
theorem dX9_lay_94 : decode cX9_lay 94 = .ok (.aload_n 0, 1) := by decide +kernel
theorem dX9_lay_95 : decode cX9_lay 95 = .ok (.getfield 87, 3) := by decide +kernel
theorem dX9_lay_98 : decode cX9_lay 98 = .ok (.aload_n 0, 1) := by decide +kernel
theorem dX9_lay_99 : decode cX9_lay 99 = .ok (.getfield 159, 3) := by decide +kernel
theorem dX9_lay_102 : decode cX9_lay 102 = .ok (.aload_n 0, 1) := by decide +kernel
theorem dX9_lay_103 : decode cX9_lay 103 = .ok (.getfield 35, 3) := by decide +kernel
theorem dX9_lay_106 : decode cX9_lay 106 = .ok (.iload 4, 2) := by decide +kernel
theorem dX9_lay_108 : decode cX9_lay 108 = .ok (.iaload, 1) := by decide +kernel
theorem dX9_lay_109 : decode cX9_lay 109 = .ok (.iastore, 1) := by decide +kernel
theorem dX9_lay_110 : decode cX9_lay 110 = .ok (.aload_n 0, 1) := by decide +kernel
theorem dX9_lay_111 : decode cX9_lay 111 = .ok (.getfield 90, 3) := by decide +kernel
theorem dX9_lay_114 : decode cX9_lay 114 = .ok (.aload_n 0, 1) := by decide +kernel
theorem dX9_lay_115 : decode cX9_lay 115 = .ok (.getfield 159, 3) := by decide +kernel
theorem dX9_lay_118 : decode cX9_lay 118 = .ok (.iload_n 2, 1) := by decide +kernel
theorem dX9_lay_119 : decode cX9_lay 119 = .ok (.iastore, 1) := by decide +kernel
theorem dX9_lay_120 : decode cX9_lay 120 = .ok (.aload_n 0, 1) := by decide +kernel
theorem dX9_lay_121 : decode cX9_lay 121 = .ok (.getfield 93, 3) := by decide +kernel
theorem dX9_lay_124 : decode cX9_lay 124 = .ok (.aload_n 0, 1) := by decide +kernel
theorem dX9_lay_125 : decode cX9_lay 125 = .ok (.getfield 159, 3) := by decide +kernel
theorem dX9_lay_128 : decode cX9_lay 128 = .ok (.iload 4, 2) := by decide +kernel
theorem dX9_lay_130 : decode cX9_lay 130 = .ok (.iastore, 1) := by decide +kernel
theorem dX9_lay_131 : decode cX9_lay 131 = .ok (.aload_n 0, 1) := by decide +kernel
theorem dX9_lay_132 : decode cX9_lay 132 = .ok (.getfield 96, 3) := by decide +kernel
theorem dX9_lay_135 : decode cX9_lay 135 = .ok (.aload_n 0, 1) := by decide +kernel
theorem dX9_lay_136 : decode cX9_lay 136 = .ok (.getfield 159, 3) := by decide +kernel
theorem dX9_lay_139 : decode cX9_lay 139 = .ok (.iconst 0, 1) := by decide +kernel
theorem dX9_lay_140 : decode cX9_lay 140 = .ok (.iastore, 1) := by decide +kernel
theorem dX9_lay_141 : decode cX9_lay 141 = .ok (.iconst 0, 1) := by decide +kernel
theorem dX9_lay_142 : decode cX9_lay 142 = .ok (.istore 6, 2) := by decide +kernel
theorem dX9_lay_144 : decode cX9_lay 144 = .ok (.iconst 0, 1) := by decide +kernel
theorem dX9_lay_145 : decode cX9_lay 145 = .ok (.istore 7, 2) := by decide +kernel
theorem dX9_lay_147 : decode cX9_lay 147 = .ok (.iload 7, 2) := by decide +kernel
theorem dX9_lay_149 : decode cX9_lay 149 = .ok (.aload_n 0, 1) := by decide +kernel
theorem dX9_lay_150 : decode cX9_lay 150 = .ok (.getfield 159, 3) := by decide +kernel
theorem dX9_lay_153 : decode cX9_lay 153 = .ok (.if_icmp .ge 31, 3) := by decide +kernel
theorem dX9_lay_156 : decode cX9_lay 156 = .ok (.iload 6, 2) := by decide +kernel
theorem dX9_lay_158 : decode cX9_lay 158 = .ok (.aload_n 0, 1) := by decide +kernel
theorem dX9_lay_159 : decode cX9_lay 159 = .ok (.getfield 84, 3) := by decide +kernel
theorem dX9_lay_162 : decode cX9_lay 162 = .ok (.iload 7, 2) := by decide +kernel
theorem dX9_lay_164 : decode cX9_lay 164 = .ok (.iaload, 1) := by decide +kernel
theorem dX9_lay_165 : decode cX9_lay 165 = .ok (.iload 5, 2) := by decide +kernel
theorem dX9_lay_167 : decode cX9_lay 167 = .ok (.if_icmp .ne 7, 3) := by decide +kernel
theorem dX9_lay_170 : decode cX9_lay 170 = .ok (.iconst 1, 1) := by decide +kernel
theorem dX9_lay_171 : decode cX9_lay 171 = .ok (.goto 4, 3) := by decide +kernel
theorem dX9_lay_174 : decode cX9_lay 174 = .ok (.iconst 0, 1) := by decide +kernel
theorem dX9_lay_175 : decode cX9_lay 175 = .ok (.iadd, 1) := by decide +kernel
theorem dX9_lay_176 : decode cX9_lay 176 = .ok (.istore 6, 2) := by decide +kernel
theorem dX9_lay_178 : decode cX9_lay 178 = .ok (.iinc 7 1, 3) := by decide +kernel
theorem dX9_lay_181 : decode cX9_lay 181 = .ok (.goto (-34), 3) := by decide +kernel
theorem dX9_lay_184 : decode cX9_lay 184 = .ok (.aload_n 0, 1) := by decide +kernel
theorem dX9_lay_185 : decode cX9_lay 185 = .ok (.getfield 99, 3) := by decide +kernel
theorem dX9_lay_188 : decode cX9_lay 188 = .ok (.aload_n 0, 1) := by decide +kernel
theorem dX9_lay_189 : decode cX9_lay 189 = .ok (.getfield 159, 3) := by decide +kernel
theorem dX9_lay_192 : decode cX9_lay 192 = .ok (.iload 6, 2) := by decide +kernel
theorem dX9_lay_194 : decode cX9_lay 194 = .ok (.iastore, 1) := by decide +kernel
theorem dX9_lay_195 : decode cX9_lay 195 = .ok (.aload_n 0, 1) := by decide +kernel
theorem dX9_lay_196 : decode cX9_lay 196 = .ok (.dup, 1) := by decide +kernel
theorem dX9_lay_197 : decode cX9_lay 197 = .ok (.getfield 159, 3) := by decide +kernel
theorem dX9_lay_200 : decode cX9_lay 200 = .ok (.iconst 1, 1) := by decide +kernel
theorem dX9_lay_201 : decode cX9_lay 201 = .ok (.iadd, 1) := by decide +kernel
theorem dX9_lay_202 : decode cX9_lay 202 = .ok (.putfield 159, 3) := by decide +kernel
theorem dX9_lay_205 : decode cX9_lay 205 = .ok (.iinc 4 1, 3) := by decide +kernel
theorem dX9_lay_208 : decode cX9_lay 208 = .ok (.goto (-182), 3) := by decide +kernel
theorem dX9_lay_211 : decode cX9_lay 211 = .ok (.aload_n 0, 1) := by decide +kernel
theorem dX9_lay_212 : decode cX9_lay 212 = .ok (.getfield 159, 3) := by decide +kernel
theorem dX9_lay_215 : decode cX9_lay 215 = .ok (.iload_n 1, 1) := by decide +kernel
theorem dX9_lay_216 : decode cX9_lay 216 = .ok (.if_icmp .le 7, 3) := by decide +kernel
theorem dX9_lay_219 : decode cX9_lay 219 = .ok (.iconst 1, 1) := by decide +kernel
theorem dX9_lay_220 : decode cX9_lay 220 = .ok (.goto 4, 3) := by decide +kernel
theorem dX9_lay_223 : decode cX9_lay 223 = .ok (.iconst 0, 1) := by decide +kernel
theorem dX9_lay_224 : decode cX9_lay 224 = .ok (.istore_n 3, 1) := by decide +kernel
theorem dX9_lay_225 : decode cX9_lay 225 = .ok (.aload_n 0, 1) := by decide +kernel
theorem dX9_lay_226 : decode cX9_lay 226 = .ok (.getfield 159, 3) := by decide +kernel
theorem dX9_lay_229 : decode cX9_lay 229 = .ok (.istore_n 1, 1) := by decide +kernel
theorem dX9_lay_230 : decode cX9_lay 230 = .ok (.goto (-224), 3) := by decide +kernel
theorem dX9_lay_233 : decode cX9_lay 233 = .ok (.aload_n 0, 1) := by decide +kernel
theorem dX9_lay_234 : decode cX9_lay 234 = .ok (.iload_n 2, 1) := by decide +kernel
theorem dX9_lay_235 : decode cX9_lay 235 = .ok (.putfield 177, 3) := by decide +kernel
theorem dX9_lay_238 : decode cX9_lay 238 = .ok (.aload_n 0, 1) := by decide +kernel
theorem dX9_lay_239 : decode cX9_lay 239 = .ok (.iload_n 1, 1) := by decide +kernel
theorem dX9_lay_240 : decode cX9_lay 240 = .ok (.putfield 180, 3) := by decide +kernel
theorem dX9_lay_243 : decode cX9_lay 243 = .ok (.aload_n 0, 1) := by decide +kernel
theorem dX9_lay_244 : decode cX9_lay 244 = .ok (.invokevirtual 183, 3) := by decide +kernel
theorem dX9_lay_247 : decode cX9_lay 247 = .ok (.ireturn, 1) := by decide +kernel
theorem dX9_keeps_0 : decode cX9_keeps 0 = .ok (.aload_n 0, 1) := by decide +kernel
theorem dX9_keeps_1 : decode cX9_keeps 1 = .ok (.iconst 1, 1) := by decide +kernel
theorem dX9_keeps_2 : decode cX9_keeps 2 = .ok (.putfield 187, 3) := by decide +kernel
theorem dX9_keeps_5 : decode cX9_keeps 5 = .ok (.aload_n 0, 1) := by decide +kernel
theorem dX9_keeps_6 : decode cX9_keeps 6 = .ok (.iconst 0, 1) := by decide +kernel
theorem dX9_keeps_7 : decode cX9_keeps 7 = .ok (.putfield 117, 3) := by decide +kernel
theorem dX9_keeps_10 : decode cX9_keeps 10 = .ok (.aload_n 0, 1) := by decide +kernel
theorem dX9_keeps_11 : decode cX9_keeps 11 = .ok (.aload_n 0, 1) := by decide +kernel
theorem dX9_keeps_12 : decode cX9_keeps 12 = .ok (.getfield 105, 3) := by decide +kernel
theorem dX9_keeps_15 : decode cX9_keeps 15 = .ok (.putfield 190, 3) := by decide +kernel
theorem dX9_keeps_18 : decode cX9_keeps 18 = .ok (.aload_n 0, 1) := by decide +kernel
theorem dX9_keeps_19 : decode cX9_keeps 19 = .ok (.aload_n 0, 1) := by decide +kernel
theorem dX9_keeps_20 : decode cX9_keeps 20 = .ok (.getfield 121, 3) := by decide +kernel
theorem dX9_keeps_23 : decode cX9_keeps 23 = .ok (.putfield 193, 3) := by decide +kernel
theorem dX9_keeps_26 : decode cX9_keeps 26 = .ok (.aload_n 0, 1) := by decide +kernel
theorem dX9_keeps_27 : decode cX9_keeps 27 = .ok (.aload_n 0, 1) := by decide +kernel
theorem dX9_keeps_28 : decode cX9_keeps 28 = .ok (.getfield 124, 3) := by decide +kernel
theorem dX9_keeps_31 : decode cX9_keeps 31 = .ok (.putfield 196, 3) := by decide +kernel
theorem dX9_keeps_34 : decode cX9_keeps 34 = .ok (.aload_n 0, 1) := by decide +kernel
theorem dX9_keeps_35 : decode cX9_keeps 35 = .ok (.aload_n 0, 1) := by decide +kernel
theorem dX9_keeps_36 : decode cX9_keeps 36 = .ok (.getfield 136, 3) := by decide +kernel
theorem dX9_keeps_39 : decode cX9_keeps 39 = .ok (.i2l, 1) := by decide +kernel
theorem dX9_keeps_40 : decode cX9_keeps 40 = .ok (.putfield 199, 3) := by decide +kernel
theorem dX9_keeps_43 : decode cX9_keeps 43 = .ok (.aload_n 0, 1) := by decide +kernel
theorem dX9_keeps_44 : decode cX9_keeps 44 = .ok (.aload_n 0, 1) := by decide +kernel
theorem dX9_keeps_45 : decode cX9_keeps 45 = .ok (.getfield 127, 3) := by decide +kernel
theorem dX9_keeps_48 : decode cX9_keeps 48 = .ok (.putfield 202, 3) := by decide +kernel
theorem dX9_keeps_51 : decode cX9_keeps 51 = .ok (.aload_n 0, 1) := by decide +kernel
theorem dX9_keeps_52 : decode cX9_keeps 52 = .ok (.aload_n 0, 1) := by decide +kernel
theorem dX9_keeps_53 : decode cX9_keeps 53 = .ok (.getfield 133, 3) := by decide +kernel
theorem dX9_keeps_56 : decode cX9_keeps 56 = .ok (.putfield 205, 3) := by decide +kernel
theorem dX9_keeps_59 : decode cX9_keeps 59 = .ok (.iconst 0, 1) := by decide +kernel
theorem dX9_keeps_60 : decode cX9_keeps 60 = .ok (.istore_n 1, 1) := by decide +kernel
theorem dX9_keeps_61 : decode cX9_keeps 61 = .ok (.iload_n 1, 1) := by decide +kernel
theorem dX9_keeps_62 : decode cX9_keeps 62 = .ok (.aload_n 0, 1) := by decide +kernel
theorem dX9_keeps_63 : decode cX9_keeps 63 = .ok (.getfield 105, 3) := by decide +kernel
theorem dX9_keeps_66 : decode cX9_keeps 66 = .ok (.if_icmp .ge 21, 3) := by decide +kernel
theorem dX9_keeps_69 : decode cX9_keeps 69 = .ok (.aload_n 0, 1) := by decide +kernel
theorem dX9_keeps_70 : decode cX9_keeps 70 = .ok (.getfield 51, 3) := by decide +kernel
theorem dX9_keeps_73 : decode cX9_keeps 73 = .ok (.iload_n 1, 1) := by decide +kernel
theorem dX9_keeps_74 : decode cX9_keeps 74 = .ok (.aload_n 0, 1) := by decide +kernel
theorem dX9_keeps_75 : decode cX9_keeps 75 = .ok (.getfield 16, 3) := by decide +kernel
theorem dX9_keeps_78 : decode cX9_keeps 78 = .ok (.iload_n 1, 1) := by decide +kernel
theorem dX9_keeps_79 : decode cX9_keeps 79 = .ok (.baload, 1) := by decide +kernel
theorem dX9_keeps_80 : decode cX9_keeps 80 = .ok (.bastore, 1) := by decide +kernel
theorem dX9_keeps_81 : decode cX9_keeps 81 = .ok (.iinc 1 1, 3) := by decide +kernel
theorem dX9_keeps_84 : decode cX9_keeps 84 = .ok (.goto (-23), 3) := by decide +kernel
theorem dX9_keeps_87 : decode cX9_keeps 87 = .ok (.iconst 0, 1) := by decide +kernel
theorem dX9_keeps_88 : decode cX9_keeps 88 = .ok (.istore_n 1, 1) := by decide +kernel
theorem dX9_keeps_89 : decode cX9_keeps 89 = .ok (.iload_n 1, 1) := by decide +kernel
theorem dX9_keeps_90 : decode cX9_keeps 90 = .ok (.bipush 8, 2) := by decide +kernel
theorem dX9_keeps_92 : decode cX9_keeps 92 = .ok (.if_icmp .ge 33, 3) := by decide +kernel
theorem dX9_keeps_95 : decode cX9_keeps 95 = .ok (.aload_n 0, 1) := by decide +kernel
theorem dX9_keeps_96 : decode cX9_keeps 96 = .ok (.getfield 75, 3) := by decide +kernel
theorem dX9_keeps_99 : decode cX9_keeps 99 = .ok (.iload_n 1, 1) := by decide +kernel
theorem dX9_keeps_100 : decode cX9_keeps 100 = .ok (.aload_n 0, 1) := by decide +kernel
theorem dX9_keeps_101 : decode cX9_keeps 101 = .ok (.getfield 38, 3) := by decide +kernel
theorem dX9_keeps_104 : decode cX9_keeps 104 = .ok (.iload_n 1, 1) := by decide +kernel
theorem dX9_keeps_105 : decode cX9_keeps 105 = .ok (.iaload, 1) := by decide +kernel
theorem dX9_keeps_106 : decode cX9_keeps 106 = .ok (.iastore, 1) := by decide +kernel
theorem dX9_keeps_107 : decode cX9_keeps 107 = .ok (.aload_n 0, 1) := by decide +kernel
theorem dX9_keeps_108 : decode cX9_keeps 108 = .ok (.getfield 78, 3) := by decide +kernel
theorem dX9_keeps_111 : decode cX9_keeps 111 = .ok (.iload_n 1, 1) := by decide +kernel
theorem dX9_keeps_112 : decode cX9_keeps 112 = .ok (.aload_n 0, 1) := by decide +kernel
theorem dX9_keeps_113 : decode cX9_keeps 113 = .ok (.getfield 41, 3) := by decide +kernel
theorem dX9_keeps_116 : decode cX9_keeps 116 = .ok (.iload_n 1, 1) := by decide +kernel
theorem dX9_keeps_117 : decode cX9_keeps 117 = .ok (.iaload, 1) := by decide +kernel
theorem dX9_keeps_118 : decode cX9_keeps 118 = .ok (.iastore, 1) := by decide +kernel
theorem dX9_keeps_119 : decode cX9_keeps 119 = .ok (.iinc 1 1, 3) := by decide +kernel
theorem dX9_keeps_122 : decode cX9_keeps 122 = .ok (.goto (-33), 3) := by decide +kernel
theorem dX9_keeps_125 : decode cX9_keeps 125 = .ok (.iconst 0, 1) := by decide +kernel
theorem dX9_keeps_126 : decode cX9_keeps 126 = .ok (.istore_n 1, 1) := by decide +kernel
theorem dX9_keeps_127 : decode cX9_keeps 127 = .ok (.iconst 0, 1) := by decide +kernel
theorem dX9_keeps_128 : decode cX9_keeps 128 = .ok (.istore_n 2, 1) := by decide +kernel
theorem dX9_keeps_129 : decode cX9_keeps 129 = .ok (.iload_n 2, 1) := by decide +kernel
theorem dX9_keeps_130 : decode cX9_keeps 130 = .ok (.aload_n 0, 1) := by decide +kernel
theorem dX9_keeps_131 : decode cX9_keeps 131 = .ok (.getfield 124, 3) := by decide +kernel
theorem dX9_keeps_134 : decode cX9_keeps 134 = .ok (.if_icmp .ge 136, 3) := by decide +kernel
theorem dX9_keeps_137 : decode cX9_keeps 137 = .ok (.aload_n 0, 1) := by decide +kernel
theorem dX9_keeps_138 : decode cX9_keeps 138 = .ok (.getfield 63, 3) := by decide +kernel
theorem dX9_keeps_141 : decode cX9_keeps 141 = .ok (.iload_n 2, 1) := by decide +kernel
theorem dX9_keeps_142 : decode cX9_keeps 142 = .ok (.aload_n 0, 1) := by decide +kernel
theorem dX9_keeps_143 : decode cX9_keeps 143 = .ok (.getfield 32, 3) := by decide +kernel
theorem dX9_keeps_146 : decode cX9_keeps 146 = .ok (.iload_n 2, 1) := by decide +kernel
theorem dX9_keeps_147 : decode cX9_keeps 147 = .ok (.iaload, 1) := by decide +kernel
theorem dX9_keeps_148 : decode cX9_keeps 148 = .ok (.iastore, 1) := by decide +kernel
theorem dX9_keeps_149 : decode cX9_keeps 149 = .ok (.aload_n 0, 1) := by decide +kernel
theorem dX9_keeps_150 : decode cX9_keeps 150 = .ok (.getfield 66, 3) := by decide +kernel
theorem dX9_keeps_153 : decode cX9_keeps 153 = .ok (.iload_n 2, 1) := by decide +kernel
theorem dX9_keeps_154 : decode cX9_keeps 154 = .ok (.aload_n 0, 1) := by decide +kernel
theorem dX9_keeps_155 : decode cX9_keeps 155 = .ok (.getfield 35, 3) := by decide +kernel
theorem dX9_keeps_158 : decode cX9_keeps 158 = .ok (.iload_n 2, 1) := by decide +kernel
theorem dX9_keeps_159 : decode cX9_keeps 159 = .ok (.iaload, 1) := by decide +kernel
theorem dX9_keeps_160 : decode cX9_keeps 160 = .ok (.iastore, 1) := by decide +kernel
theorem dX9_keeps_161 : decode cX9_keeps 161 = .ok (.aload_n 0, 1) := by decide +kernel
theorem dX9_keeps_162 : decode cX9_keeps 162 = .ok (.getfield 72, 3) := by decide +kernel
theorem dX9_keeps_165 : decode cX9_keeps 165 = .ok (.iload_n 2, 1) := by decide +kernel
theorem dX9_keeps_166 : decode cX9_keeps 166 = .ok (.aload_n 0, 1) := by decide +kernel
theorem dX9_keeps_167 : decode cX9_keeps 167 = .ok (.iload_n 2, 1) := by decide +kernel
theorem dX9_keeps_168 : decode cX9_keeps 168 = .ok (.invokevirtual 166, 3) := by decide +kernel
theorem dX9_keeps_171 : decode cX9_keeps 171 = .ok (.ifCond .eq 7, 3) := by decide +kernel
theorem dX9_keeps_174 : decode cX9_keeps 174 = .ok (.iconst (-1), 1) := by decide +kernel
theorem dX9_keeps_175 : decode cX9_keeps 175 = .ok (.goto 12, 3) := by decide +kernel
theorem dX9_keeps_178 : decode cX9_keeps 178 = .ok (.aload_n 0, 1) := by decide +kernel
theorem dX9_keeps_179 : decode cX9_keeps 179 = .ok (.iload_n 2, 1) := by decide +kernel
theorem dX9_keeps_180 : decode cX9_keeps 180 = .ok (.aload_n 0, 1) := by decide +kernel
theorem dX9_keeps_181 : decode cX9_keeps 181 = .ok (.getfield 180, 3) := by decide +kernel
theorem dX9_keeps_184 : decode cX9_keeps 184 = .ok (.invokevirtual 170, 3) := by decide +kernel
theorem dX9_keeps_187 : decode cX9_keeps 187 = .ok (.iastore, 1) := by decide +kernel
theorem dX9_keeps_188 : decode cX9_keeps 188 = .ok (.aload_n 0, 1) := by decide +kernel
theorem dX9_keeps_189 : decode cX9_keeps 189 = .ok (.getfield 69, 3) := by decide +kernel
theorem dX9_keeps_192 : decode cX9_keeps 192 = .ok (.iload_n 2, 1) := by decide +kernel
theorem dX9_keeps_193 : decode cX9_keeps 193 = .ok (.aload_n 0, 1) := by decide +kernel
theorem dX9_keeps_194 : decode cX9_keeps 194 = .ok (.iload_n 2, 1) := by decide +kernel
theorem dX9_keeps_195 : decode cX9_keeps 195 = .ok (.invokevirtual 166, 3) := by decide +kernel
theorem dX9_keeps_198 : decode cX9_keeps 198 = .ok (.ifCond .eq 7, 3) := by decide +kernel
theorem dX9_keeps_201 : decode cX9_keeps 201 = .ok (.iconst 0, 1) := by decide +kernel
theorem dX9_keeps_202 : decode cX9_keeps 202 = .ok (.goto 18, 3) := by decide +kernel
theorem dX9_keeps_205 : decode cX9_keeps 205 = .ok (.aload_n 0, 1) := by decide +kernel
theorem dX9_keeps_206 : decode cX9_keeps 206 = .ok (.getfield 72, 3) := by decide +kernel
theorem dX9_keeps_209 : decode cX9_keeps 209 = .ok (.iload_n 2, 1) := by decide +kernel
theorem dX9_keeps_210 : decode cX9_keeps 210 = .ok (.iaload, 1) := by decide +kernel
theorem dX9_keeps_211 : decode cX9_keeps 211 = .ok (.iconst (-1), 1) := by decide +kernel
theorem dX9_keeps_212 : decode cX9_keeps 212 = .ok (.if_icmp .ne 7, 3) := by decide +kernel
theorem dX9_keeps_215 : decode cX9_keeps 215 = .ok (.iconst 2, 1) := by decide +kernel
theorem dX9_keeps_216 : decode cX9_keeps 216 = .ok (.goto 4, 3) := by decide +kernel
theorem dX9_keeps_219 : decode cX9_keeps 219 = .ok (.iconst 1, 1) := by decide +kernel
theorem dX9_keeps_220 : decode cX9_keeps 220 = .ok (.iastore, 1) := by decide +kernel
theorem dX9_keeps_221 : decode cX9_keeps 221 = .ok (.aload_n 0, 1) := by decide +kernel
theorem dX9_keeps_222 : decode cX9_keeps 222 = .ok (.getfield 72, 3) := by decide +kernel
theorem dX9_keeps_225 : decode cX9_keeps 225 = .ok (.iload_n 2, 1) := by decide +kernel
theorem dX9_keeps_226 : decode cX9_keeps 226 = .ok (.iaload, 1) := by decide +kernel
theorem dX9_keeps_227 : decode cX9_keeps 227 = .ok (.iconst (-1), 1) := by decide +kernel
theorem dX9_keeps_228 : decode cX9_keeps 228 = .ok (.if_icmp .eq 18, 3) := by decide +kernel
theorem dX9_keeps_231 : decode cX9_keeps 231 = .ok (.aload_n 0, 1) := by decide +kernel
theorem dX9_keeps_232 : decode cX9_keeps 232 = .ok (.getfield 96, 3) := by decide +kernel
theorem dX9_keeps_235 : decode cX9_keeps 235 = .ok (.aload_n 0, 1) := by decide +kernel
theorem dX9_keeps_236 : decode cX9_keeps 236 = .ok (.getfield 72, 3) := by decide +kernel
theorem dX9_keeps_239 : decode cX9_keeps 239 = .ok (.iload_n 2, 1) := by decide +kernel
theorem dX9_keeps_240 : decode cX9_keeps 240 = .ok (.iaload, 1) := by decide +kernel
theorem dX9_keeps_241 : decode cX9_keeps 241 = .ok (.dup2, 1) := by decide +kernel
theorem dX9_keeps_242 : decode cX9_keeps 242 = .ok (.iaload, 1) := by decide +kernel
theorem dX9_keeps_243 : decode cX9_keeps 243 = .ok (.iconst 1, 1) := by decide +kernel
theorem dX9_keeps_244 : decode cX9_keeps 244 = .ok (.iadd, 1) := by decide +kernel
theorem dX9_keeps_245 : decode cX9_keeps 245 = .ok (.iastore, 1) := by decide +kernel
theorem dX9_keeps_246 : decode cX9_keeps 246 = .ok (.iload_n 1, 1) := by decide +kernel
theorem dX9_keeps_247 : decode cX9_keeps 247 = .ok (.aload_n 0, 1) := by decide +kernel
theorem dX9_keeps_248 : decode cX9_keeps 248 = .ok (.getfield 69, 3) := by decide +kernel
theorem dX9_keeps_251 : decode cX9_keeps 251 = .ok (.iload_n 2, 1) := by decide +kernel
theorem dX9_keeps_252 : decode cX9_keeps 252 = .ok (.iaload, 1) := by decide +kernel
theorem dX9_keeps_253 : decode cX9_keeps 253 = .ok (.iconst 2, 1) := by decide +kernel
theorem dX9_keeps_254 : decode cX9_keeps 254 = .ok (.if_icmp .ne 7, 3) := by decide +kernel
theorem dX9_keeps_257 : decode cX9_keeps 257 = .ok (.iconst 1, 1) := by decide +kernel
theorem dX9_keeps_258 : decode cX9_keeps 258 = .ok (.goto 4, 3) := by decide +kernel
theorem dX9_keeps_261 : decode cX9_keeps 261 = .ok (.iconst 0, 1) := by decide +kernel
theorem dX9_keeps_262 : decode cX9_keeps 262 = .ok (.iadd, 1) := by decide +kernel
theorem dX9_keeps_263 : decode cX9_keeps 263 = .ok (.istore_n 1, 1) := by decide +kernel
theorem dX9_keeps_264 : decode cX9_keeps 264 = .ok (.iinc 2 1, 3) := by decide +kernel
theorem dX9_keeps_267 : decode cX9_keeps 267 = .ok (.goto (-138), 3) := by decide +kernel
theorem dX9_keeps_270 : decode cX9_keeps 270 = .ok (.iload_n 1, 1) := by decide +kernel
theorem dX9_keeps_271 : decode cX9_keeps 271 = .ok (.ireturn, 1) := by decide +kernel
theorem dX9_ways_0 : decode cX9_ways 0 = .ok (.iconst 0, 1) := by decide +kernel
theorem dX9_ways_1 : decode cX9_ways 1 = .ok (.istore_n 2, 1) := by decide +kernel
theorem dX9_ways_2 : decode cX9_ways 2 = .ok (.iconst 0, 1) := by decide +kernel
theorem dX9_ways_3 : decode cX9_ways 3 = .ok (.istore_n 3, 1) := by decide +kernel
theorem dX9_ways_4 : decode cX9_ways 4 = .ok (.iload_n 3, 1) := by decide +kernel
theorem dX9_ways_5 : decode cX9_ways 5 = .ok (.aload_n 0, 1) := by decide +kernel
theorem dX9_ways_6 : decode cX9_ways 6 = .ok (.getfield 196, 3) := by decide +kernel
theorem dX9_ways_9 : decode cX9_ways 9 = .ok (.if_icmp .ge 27, 3) := by decide +kernel
theorem dX9_ways_12 : decode cX9_ways 12 = .ok (.iload_n 2, 1) := by decide +kernel
theorem dX9_ways_13 : decode cX9_ways 13 = .ok (.aload_n 0, 1) := by decide +kernel
theorem dX9_ways_14 : decode cX9_ways 14 = .ok (.getfield 69, 3) := by decide +kernel
theorem dX9_ways_17 : decode cX9_ways 17 = .ok (.iload_n 3, 1) := by decide +kernel
theorem dX9_ways_18 : decode cX9_ways 18 = .ok (.iaload, 1) := by decide +kernel
theorem dX9_ways_19 : decode cX9_ways 19 = .ok (.iload_n 1, 1) := by decide +kernel
theorem dX9_ways_20 : decode cX9_ways 20 = .ok (.if_icmp .ne 7, 3) := by decide +kernel
theorem dX9_ways_23 : decode cX9_ways 23 = .ok (.iconst 1, 1) := by decide +kernel
theorem dX9_ways_24 : decode cX9_ways 24 = .ok (.goto 4, 3) := by decide +kernel
theorem dX9_ways_27 : decode cX9_ways 27 = .ok (.iconst 0, 1) := by decide +kernel
theorem dX9_ways_28 : decode cX9_ways 28 = .ok (.iadd, 1) := by decide +kernel
theorem dX9_ways_29 : decode cX9_ways 29 = .ok (.istore_n 2, 1) := by decide +kernel
theorem dX9_ways_30 : decode cX9_ways 30 = .ok (.iinc 3 1, 3) := by decide +kernel
theorem dX9_ways_33 : decode cX9_ways 33 = .ok (.goto (-29), 3) := by decide +kernel
theorem dX9_ways_36 : decode cX9_ways 36 = .ok (.iload_n 2, 1) := by decide +kernel
theorem dX9_ways_37 : decode cX9_ways 37 = .ok (.ireturn, 1) := by decide +kernel
theorem dX9_idle_0 : decode cX9_idle 0 = .ok (.iconst 0, 1) := by decide +kernel
theorem dX9_idle_1 : decode cX9_idle 1 = .ok (.istore_n 1, 1) := by decide +kernel
theorem dX9_idle_2 : decode cX9_idle 2 = .ok (.iconst 0, 1) := by decide +kernel
theorem dX9_idle_3 : decode cX9_idle 3 = .ok (.istore_n 2, 1) := by decide +kernel
theorem dX9_idle_4 : decode cX9_idle 4 = .ok (.iload_n 2, 1) := by decide +kernel
theorem dX9_idle_5 : decode cX9_idle 5 = .ok (.aload_n 0, 1) := by decide +kernel
theorem dX9_idle_6 : decode cX9_idle 6 = .ok (.getfield 180, 3) := by decide +kernel
theorem dX9_idle_9 : decode cX9_idle 9 = .ok (.if_icmp .ge 26, 3) := by decide +kernel
theorem dX9_idle_12 : decode cX9_idle 12 = .ok (.iload_n 1, 1) := by decide +kernel
theorem dX9_idle_13 : decode cX9_idle 13 = .ok (.aload_n 0, 1) := by decide +kernel
theorem dX9_idle_14 : decode cX9_idle 14 = .ok (.getfield 96, 3) := by decide +kernel
theorem dX9_idle_17 : decode cX9_idle 17 = .ok (.iload_n 2, 1) := by decide +kernel
theorem dX9_idle_18 : decode cX9_idle 18 = .ok (.iaload, 1) := by decide +kernel
theorem dX9_idle_19 : decode cX9_idle 19 = .ok (.ifCond .ne 7, 3) := by decide +kernel
theorem dX9_idle_22 : decode cX9_idle 22 = .ok (.iconst 1, 1) := by decide +kernel
theorem dX9_idle_23 : decode cX9_idle 23 = .ok (.goto 4, 3) := by decide +kernel
theorem dX9_idle_26 : decode cX9_idle 26 = .ok (.iconst 0, 1) := by decide +kernel
theorem dX9_idle_27 : decode cX9_idle 27 = .ok (.iadd, 1) := by decide +kernel
theorem dX9_idle_28 : decode cX9_idle 28 = .ok (.istore_n 1, 1) := by decide +kernel
theorem dX9_idle_29 : decode cX9_idle 29 = .ok (.iinc 2 1, 3) := by decide +kernel
theorem dX9_idle_32 : decode cX9_idle 32 = .ok (.goto (-28), 3) := by decide +kernel
theorem dX9_idle_35 : decode cX9_idle 35 = .ok (.iload_n 1, 1) := by decide +kernel
theorem dX9_idle_36 : decode cX9_idle 36 = .ok (.ireturn, 1) := by decide +kernel
theorem dX9_between_0 : decode cX9_between 0 = .ok (.aload_n 0, 1) := by decide +kernel
theorem dX9_between_1 : decode cX9_between 1 = .ok (.getfield 143, 3) := by decide +kernel
theorem dX9_between_4 : decode cX9_between 4 = .ok (.aload_n 0, 1) := by decide +kernel
theorem dX9_between_5 : decode cX9_between 5 = .ok (.getfield 199, 3) := by decide +kernel
end
section
theorem dX9_between_8 : decode cX9_between 8 = .ok (.lsub, 1) := by decide +kernel
theorem dX9_between_9 : decode cX9_between 9 = .ok (.lstore_n 1, 1) := by decide +kernel
theorem dX9_between_10 : decode cX9_between 10 = .ok (.iconst 0, 1) := by decide +kernel
theorem dX9_between_11 : decode cX9_between 11 = .ok (.istore_n 3, 1) := by decide +kernel
theorem dX9_between_12 : decode cX9_between 12 = .ok (.iload_n 3, 1) := by decide +kernel
theorem dX9_between_13 : decode cX9_between 13 = .ok (.aload_n 0, 1) := by decide +kernel
theorem dX9_between_14 : decode cX9_between 14 = .ok (.getfield 190, 3) := by decide +kernel
theorem dX9_between_17 : decode cX9_between 17 = .ok (.if_icmp .ge 25, 3) := by decide +kernel
theorem dX9_between_20 : decode cX9_between 20 = .ok (.lload_n 1, 1) := by decide +kernel
theorem dX9_between_21 : decode cX9_between 21 = .ok (.aload_n 0, 1) := by decide +kernel
theorem dX9_between_22 : decode cX9_between 22 = .ok (.getfield 48, 3) := by decide +kernel
theorem dX9_between_25 : decode cX9_between 25 = .ok (.iload_n 3, 1) := by decide +kernel
theorem dX9_between_26 : decode cX9_between 26 = .ok (.laload, 1) := by decide +kernel
theorem dX9_between_27 : decode cX9_between 27 = .ok (.aload_n 0, 1) := by decide +kernel
theorem dX9_between_28 : decode cX9_between 28 = .ok (.getfield 44, 3) := by decide +kernel
theorem dX9_between_31 : decode cX9_between 31 = .ok (.iload_n 3, 1) := by decide +kernel
theorem dX9_between_32 : decode cX9_between 32 = .ok (.laload, 1) := by decide +kernel
theorem dX9_between_33 : decode cX9_between 33 = .ok (.lsub, 1) := by decide +kernel
theorem dX9_between_34 : decode cX9_between 34 = .ok (.lsub, 1) := by decide +kernel
theorem dX9_between_35 : decode cX9_between 35 = .ok (.lstore_n 1, 1) := by decide +kernel
theorem dX9_between_36 : decode cX9_between 36 = .ok (.iinc 3 1, 3) := by decide +kernel
theorem dX9_between_39 : decode cX9_between 39 = .ok (.goto (-27), 3) := by decide +kernel
theorem dX9_between_42 : decode cX9_between 42 = .ok (.lload_n 1, 1) := by decide +kernel
theorem dX9_between_43 : decode cX9_between 43 = .ok (.aload_n 0, 1) := by decide +kernel
theorem dX9_between_44 : decode cX9_between 44 = .ok (.getfield 180, 3) := by decide +kernel
theorem dX9_between_47 : decode cX9_between 47 = .ok (.i2l, 1) := by decide +kernel
theorem dX9_between_48 : decode cX9_between 48 = .ok (.aload_n 0, 1) := by decide +kernel
theorem dX9_between_49 : decode cX9_between 49 = .ok (.getfield 202, 3) := by decide +kernel
theorem dX9_between_52 : decode cX9_between 52 = .ok (.i2l, 1) := by decide +kernel
theorem dX9_between_53 : decode cX9_between 53 = .ok (.lmul, 1) := by decide +kernel
theorem dX9_between_54 : decode cX9_between 54 = .ok (.lsub, 1) := by decide +kernel
theorem dX9_between_55 : decode cX9_between 55 = .ok (.lreturn, 1) := by decide +kernel
theorem dX9_count_0 : decode cX9_count 0 = .ok (.iload_n 1, 1) := by decide +kernel
theorem dX9_count_1 : decode cX9_count 1 = .ok (.iconst 0, 1) := by decide +kernel
theorem dX9_count_2 : decode cX9_count 2 = .ok (.bipush 7, 2) := by decide +kernel
theorem dX9_count_4 : decode cX9_count 4 = .ok (.invokestatic 110, 3) := by decide +kernel
theorem dX9_count_7 : decode cX9_count 7 = .ok (.ifCond .eq 24, 3) := by decide +kernel
theorem dX9_count_10 : decode cX9_count 10 = .ok (.aload_n 0, 1) := by decide +kernel
theorem dX9_count_11 : decode cX9_count 11 = .ok (.getfield 187, 3) := by decide +kernel
theorem dX9_count_14 : decode cX9_count 14 = .ok (.ifCond .eq 15, 3) := by decide +kernel
theorem dX9_count_17 : decode cX9_count 17 = .ok (.iload_n 1, 1) := by decide +kernel
theorem dX9_count_18 : decode cX9_count 18 = .ok (.iconst 5, 1) := by decide +kernel
theorem dX9_count_19 : decode cX9_count 19 = .ok (.if_icmp .le 12, 3) := by decide +kernel
theorem dX9_count_22 : decode cX9_count 22 = .ok (.aload_n 0, 1) := by decide +kernel
theorem dX9_count_23 : decode cX9_count 23 = .ok (.getfield 190, 3) := by decide +kernel
theorem dX9_count_26 : decode cX9_count 26 = .ok (.ifCond .ne 5, 3) := by decide +kernel
theorem dX9_count_29 : decode cX9_count 29 = .ok (.iconst 0, 1) := by decide +kernel
theorem dX9_count_30 : decode cX9_count 30 = .ok (.ireturn, 1) := by decide +kernel
theorem dX9_count_31 : decode cX9_count 31 = .ok (.iload_n 1, 1) := by decide +kernel
theorem dX9_count_32 : decode cX9_count 32 = .ok (.tableswitch 159 0 14 #[76, 81, 86, 92, 98, 104, 109, 115, 159, 159, 126, 131, 136, 141, 146], 76) := by decide +kernel
theorem dX9_count_108 : decode cX9_count 108 = .ok (.aload_n 0, 1) := by decide +kernel
theorem dX9_count_109 : decode cX9_count 109 = .ok (.getfield 177, 3) := by decide +kernel
theorem dX9_count_112 : decode cX9_count 112 = .ok (.ireturn, 1) := by decide +kernel
theorem dX9_count_113 : decode cX9_count 113 = .ok (.aload_n 0, 1) := by decide +kernel
theorem dX9_count_114 : decode cX9_count 114 = .ok (.getfield 180, 3) := by decide +kernel
theorem dX9_count_117 : decode cX9_count 117 = .ok (.ireturn, 1) := by decide +kernel
theorem dX9_count_118 : decode cX9_count 118 = .ok (.aload_n 0, 1) := by decide +kernel
theorem dX9_count_119 : decode cX9_count 119 = .ok (.iconst 0, 1) := by decide +kernel
theorem dX9_count_120 : decode cX9_count 120 = .ok (.invokevirtual 208, 3) := by decide +kernel
theorem dX9_count_123 : decode cX9_count 123 = .ok (.ireturn, 1) := by decide +kernel
theorem dX9_count_124 : decode cX9_count 124 = .ok (.aload_n 0, 1) := by decide +kernel
theorem dX9_count_125 : decode cX9_count 125 = .ok (.iconst 1, 1) := by decide +kernel
theorem dX9_count_126 : decode cX9_count 126 = .ok (.invokevirtual 208, 3) := by decide +kernel
theorem dX9_count_129 : decode cX9_count 129 = .ok (.ireturn, 1) := by decide +kernel
theorem dX9_count_130 : decode cX9_count 130 = .ok (.aload_n 0, 1) := by decide +kernel
theorem dX9_count_131 : decode cX9_count 131 = .ok (.iconst 2, 1) := by decide +kernel
theorem dX9_count_132 : decode cX9_count 132 = .ok (.invokevirtual 208, 3) := by decide +kernel
theorem dX9_count_135 : decode cX9_count 135 = .ok (.ireturn, 1) := by decide +kernel
theorem dX9_count_136 : decode cX9_count 136 = .ok (.aload_n 0, 1) := by decide +kernel
theorem dX9_count_137 : decode cX9_count 137 = .ok (.invokevirtual 212, 3) := by decide +kernel
theorem dX9_count_140 : decode cX9_count 140 = .ok (.ireturn, 1) := by decide +kernel
theorem dX9_count_141 : decode cX9_count 141 = .ok (.aload_n 0, 1) := by decide +kernel
theorem dX9_count_142 : decode cX9_count 142 = .ok (.invokevirtual 215, 3) := by decide +kernel
theorem dX9_count_145 : decode cX9_count 145 = .ok (.l2i, 1) := by decide +kernel
theorem dX9_count_146 : decode cX9_count 146 = .ok (.ireturn, 1) := by decide +kernel
theorem dX9_count_147 : decode cX9_count 147 = .ok (.aload_n 0, 1) := by decide +kernel
theorem dX9_count_148 : decode cX9_count 148 = .ok (.getfield 143, 3) := by decide +kernel
theorem dX9_count_151 : decode cX9_count 151 = .ok (.aload_n 0, 1) := by decide +kernel
theorem dX9_count_152 : decode cX9_count 152 = .ok (.getfield 199, 3) := by decide +kernel
theorem dX9_count_155 : decode cX9_count 155 = .ok (.lsub, 1) := by decide +kernel
theorem dX9_count_156 : decode cX9_count 156 = .ok (.l2i, 1) := by decide +kernel
theorem dX9_count_157 : decode cX9_count 157 = .ok (.ireturn, 1) := by decide +kernel
theorem dX9_count_158 : decode cX9_count 158 = .ok (.aload_n 0, 1) := by decide +kernel
theorem dX9_count_159 : decode cX9_count 159 = .ok (.getfield 105, 3) := by decide +kernel
theorem dX9_count_162 : decode cX9_count 162 = .ok (.ireturn, 1) := by decide +kernel
theorem dX9_count_163 : decode cX9_count 163 = .ok (.aload_n 0, 1) := by decide +kernel
theorem dX9_count_164 : decode cX9_count 164 = .ok (.getfield 121, 3) := by decide +kernel
theorem dX9_count_167 : decode cX9_count 167 = .ok (.ireturn, 1) := by decide +kernel
theorem dX9_count_168 : decode cX9_count 168 = .ok (.aload_n 0, 1) := by decide +kernel
theorem dX9_count_169 : decode cX9_count 169 = .ok (.getfield 124, 3) := by decide +kernel
theorem dX9_count_172 : decode cX9_count 172 = .ok (.ireturn, 1) := by decide +kernel
theorem dX9_count_173 : decode cX9_count 173 = .ok (.aload_n 0, 1) := by decide +kernel
theorem dX9_count_174 : decode cX9_count 174 = .ok (.getfield 114, 3) := by decide +kernel
theorem dX9_count_177 : decode cX9_count 177 = .ok (.ireturn, 1) := by decide +kernel
theorem dX9_count_178 : decode cX9_count 178 = .ok (.aload_n 0, 1) := by decide +kernel
theorem dX9_count_179 : decode cX9_count 179 = .ok (.getfield 117, 3) := by decide +kernel
theorem dX9_count_182 : decode cX9_count 182 = .ok (.ifCond .eq 7, 3) := by decide +kernel
theorem dX9_count_185 : decode cX9_count 185 = .ok (.iconst 1, 1) := by decide +kernel
theorem dX9_count_186 : decode cX9_count 186 = .ok (.goto 4, 3) := by decide +kernel
theorem dX9_count_189 : decode cX9_count 189 = .ok (.iconst 0, 1) := by decide +kernel
theorem dX9_count_190 : decode cX9_count 190 = .ok (.ireturn, 1) := by decide +kernel
theorem dX9_count_191 : decode cX9_count 191 = .ok (.iconst (-1), 1) := by decide +kernel
theorem dX9_count_192 : decode cX9_count 192 = .ok (.ireturn, 1) := by decide +kernel
theorem dX9_address_0 : decode cX9_address 0 = .ok (.aload_n 0, 1) := by decide +kernel
theorem dX9_address_1 : decode cX9_address 1 = .ok (.getfield 187, 3) := by decide +kernel
theorem dX9_address_4 : decode cX9_address 4 = .ok (.ifCond .eq 7, 3) := by decide +kernel
theorem dX9_address_7 : decode cX9_address 7 = .ok (.iload_n 2, 1) := by decide +kernel
theorem dX9_address_8 : decode cX9_address 8 = .ok (.ifCond .ge 7, 3) := by decide +kernel
theorem dX9_address_11 : decode cX9_address 11 = .ok (.ldc2_w 219, 3) := by decide +kernel
theorem dX9_address_14 : decode cX9_address 14 = .ok (.lreturn, 1) := by decide +kernel
theorem dX9_address_15 : decode cX9_address 15 = .ok (.iload_n 1, 1) := by decide +kernel
theorem dX9_address_16 : decode cX9_address 16 = .ok (.tableswitch 150 0 4 #[36, 57, 78, 99, 120], 36) := by decide +kernel
theorem dX9_address_52 : decode cX9_address 52 = .ok (.iload_n 2, 1) := by decide +kernel
theorem dX9_address_53 : decode cX9_address 53 = .ok (.aload_n 0, 1) := by decide +kernel
theorem dX9_address_54 : decode cX9_address 54 = .ok (.getfield 190, 3) := by decide +kernel
theorem dX9_address_57 : decode cX9_address 57 = .ok (.if_icmp .ge 12, 3) := by decide +kernel
theorem dX9_address_60 : decode cX9_address 60 = .ok (.aload_n 0, 1) := by decide +kernel
theorem dX9_address_61 : decode cX9_address 61 = .ok (.getfield 44, 3) := by decide +kernel
theorem dX9_address_64 : decode cX9_address 64 = .ok (.iload_n 2, 1) := by decide +kernel
theorem dX9_address_65 : decode cX9_address 65 = .ok (.laload, 1) := by decide +kernel
theorem dX9_address_66 : decode cX9_address 66 = .ok (.goto 6, 3) := by decide +kernel
theorem dX9_address_69 : decode cX9_address 69 = .ok (.ldc2_w 219, 3) := by decide +kernel
theorem dX9_address_72 : decode cX9_address 72 = .ok (.lreturn, 1) := by decide +kernel
theorem dX9_address_73 : decode cX9_address 73 = .ok (.iload_n 2, 1) := by decide +kernel
theorem dX9_address_74 : decode cX9_address 74 = .ok (.aload_n 0, 1) := by decide +kernel
theorem dX9_address_75 : decode cX9_address 75 = .ok (.getfield 193, 3) := by decide +kernel
theorem dX9_address_78 : decode cX9_address 78 = .ok (.if_icmp .ge 12, 3) := by decide +kernel
theorem dX9_address_81 : decode cX9_address 81 = .ok (.aload_n 0, 1) := by decide +kernel
theorem dX9_address_82 : decode cX9_address 82 = .ok (.getfield 57, 3) := by decide +kernel
theorem dX9_address_85 : decode cX9_address 85 = .ok (.iload_n 2, 1) := by decide +kernel
theorem dX9_address_86 : decode cX9_address 86 = .ok (.laload, 1) := by decide +kernel
theorem dX9_address_87 : decode cX9_address 87 = .ok (.goto 6, 3) := by decide +kernel
theorem dX9_address_90 : decode cX9_address 90 = .ok (.ldc2_w 219, 3) := by decide +kernel
theorem dX9_address_93 : decode cX9_address 93 = .ok (.lreturn, 1) := by decide +kernel
theorem dX9_address_94 : decode cX9_address 94 = .ok (.iload_n 2, 1) := by decide +kernel
theorem dX9_address_95 : decode cX9_address 95 = .ok (.aload_n 0, 1) := by decide +kernel
theorem dX9_address_96 : decode cX9_address 96 = .ok (.getfield 196, 3) := by decide +kernel
theorem dX9_address_99 : decode cX9_address 99 = .ok (.if_icmp .ge 12, 3) := by decide +kernel
theorem dX9_address_102 : decode cX9_address 102 = .ok (.aload_n 0, 1) := by decide +kernel
theorem dX9_address_103 : decode cX9_address 103 = .ok (.getfield 60, 3) := by decide +kernel
theorem dX9_address_106 : decode cX9_address 106 = .ok (.iload_n 2, 1) := by decide +kernel
theorem dX9_address_107 : decode cX9_address 107 = .ok (.laload, 1) := by decide +kernel
theorem dX9_address_108 : decode cX9_address 108 = .ok (.goto 6, 3) := by decide +kernel
theorem dX9_address_111 : decode cX9_address 111 = .ok (.ldc2_w 219, 3) := by decide +kernel
theorem dX9_address_114 : decode cX9_address 114 = .ok (.lreturn, 1) := by decide +kernel
theorem dX9_address_115 : decode cX9_address 115 = .ok (.iload_n 2, 1) := by decide +kernel
theorem dX9_address_116 : decode cX9_address 116 = .ok (.aload_n 0, 1) := by decide +kernel
theorem dX9_address_117 : decode cX9_address 117 = .ok (.getfield 180, 3) := by decide +kernel
theorem dX9_address_120 : decode cX9_address 120 = .ok (.if_icmp .ge 12, 3) := by decide +kernel
theorem dX9_address_123 : decode cX9_address 123 = .ok (.aload_n 0, 1) := by decide +kernel
theorem dX9_address_124 : decode cX9_address 124 = .ok (.getfield 81, 3) := by decide +kernel
theorem dX9_address_127 : decode cX9_address 127 = .ok (.iload_n 2, 1) := by decide +kernel
theorem dX9_address_128 : decode cX9_address 128 = .ok (.laload, 1) := by decide +kernel
theorem dX9_address_129 : decode cX9_address 129 = .ok (.goto 6, 3) := by decide +kernel
theorem dX9_address_132 : decode cX9_address 132 = .ok (.ldc2_w 219, 3) := by decide +kernel
theorem dX9_address_135 : decode cX9_address 135 = .ok (.lreturn, 1) := by decide +kernel
theorem dX9_address_136 : decode cX9_address 136 = .ok (.iload_n 2, 1) := by decide +kernel
theorem dX9_address_137 : decode cX9_address 137 = .ok (.aload_n 0, 1) := by decide +kernel
theorem dX9_address_138 : decode cX9_address 138 = .ok (.getfield 190, 3) := by decide +kernel
theorem dX9_address_141 : decode cX9_address 141 = .ok (.if_icmp .ge 21, 3) := by decide +kernel
theorem dX9_address_144 : decode cX9_address 144 = .ok (.aload_n 0, 1) := by decide +kernel
theorem dX9_address_145 : decode cX9_address 145 = .ok (.getfield 51, 3) := by decide +kernel
theorem dX9_address_148 : decode cX9_address 148 = .ok (.iload_n 2, 1) := by decide +kernel
theorem dX9_address_149 : decode cX9_address 149 = .ok (.baload, 1) := by decide +kernel
theorem dX9_address_150 : decode cX9_address 150 = .ok (.ifCond .eq 12, 3) := by decide +kernel
theorem dX9_address_153 : decode cX9_address 153 = .ok (.aload_n 0, 1) := by decide +kernel
theorem dX9_address_154 : decode cX9_address 154 = .ok (.getfield 54, 3) := by decide +kernel
theorem dX9_address_157 : decode cX9_address 157 = .ok (.iload_n 2, 1) := by decide +kernel
theorem dX9_address_158 : decode cX9_address 158 = .ok (.laload, 1) := by decide +kernel
theorem dX9_address_159 : decode cX9_address 159 = .ok (.goto 6, 3) := by decide +kernel
theorem dX9_address_162 : decode cX9_address 162 = .ok (.ldc2_w 219, 3) := by decide +kernel
theorem dX9_address_165 : decode cX9_address 165 = .ok (.lreturn, 1) := by decide +kernel
theorem dX9_address_166 : decode cX9_address 166 = .ok (.ldc2_w 219, 3) := by decide +kernel
theorem dX9_address_169 : decode cX9_address 169 = .ok (.lreturn, 1) := by decide +kernel
theorem dX9_route_0 : decode cX9_route 0 = .ok (.aload_n 0, 1) := by decide +kernel
theorem dX9_route_1 : decode cX9_route 1 = .ok (.getfield 187, 3) := by decide +kernel
theorem dX9_route_4 : decode cX9_route 4 = .ok (.ifCond .eq 17, 3) := by decide +kernel
theorem dX9_route_7 : decode cX9_route 7 = .ok (.iload_n 1, 1) := by decide +kernel
theorem dX9_route_8 : decode cX9_route 8 = .ok (.iconst 0, 1) := by decide +kernel
theorem dX9_route_9 : decode cX9_route 9 = .ok (.aload_n 0, 1) := by decide +kernel
theorem dX9_route_10 : decode cX9_route 10 = .ok (.getfield 196, 3) := by decide +kernel
theorem dX9_route_13 : decode cX9_route 13 = .ok (.iconst 1, 1) := by decide +kernel
theorem dX9_route_14 : decode cX9_route 14 = .ok (.isub, 1) := by decide +kernel
theorem dX9_route_15 : decode cX9_route 15 = .ok (.invokestatic 110, 3) := by decide +kernel
theorem dX9_route_18 : decode cX9_route 18 = .ok (.ifCond .ne 5, 3) := by decide +kernel
theorem dX9_route_21 : decode cX9_route 21 = .ok (.iconst (-1), 1) := by decide +kernel
theorem dX9_route_22 : decode cX9_route 22 = .ok (.ireturn, 1) := by decide +kernel
theorem dX9_route_23 : decode cX9_route 23 = .ok (.iload_n 2, 1) := by decide +kernel
theorem dX9_route_24 : decode cX9_route 24 = .ok (.ifCond .ne 12, 3) := by decide +kernel
theorem dX9_route_27 : decode cX9_route 27 = .ok (.aload_n 0, 1) := by decide +kernel
theorem dX9_route_28 : decode cX9_route 28 = .ok (.getfield 69, 3) := by decide +kernel
theorem dX9_route_31 : decode cX9_route 31 = .ok (.iload_n 1, 1) := by decide +kernel
theorem dX9_route_32 : decode cX9_route 32 = .ok (.iaload, 1) := by decide +kernel
theorem dX9_route_33 : decode cX9_route 33 = .ok (.goto 18, 3) := by decide +kernel
theorem dX9_route_36 : decode cX9_route 36 = .ok (.iload_n 2, 1) := by decide +kernel
theorem dX9_route_37 : decode cX9_route 37 = .ok (.iconst 1, 1) := by decide +kernel
theorem dX9_route_38 : decode cX9_route 38 = .ok (.if_icmp .ne 12, 3) := by decide +kernel
theorem dX9_route_41 : decode cX9_route 41 = .ok (.aload_n 0, 1) := by decide +kernel
theorem dX9_route_42 : decode cX9_route 42 = .ok (.getfield 72, 3) := by decide +kernel
theorem dX9_route_45 : decode cX9_route 45 = .ok (.iload_n 1, 1) := by decide +kernel
theorem dX9_route_46 : decode cX9_route 46 = .ok (.iaload, 1) := by decide +kernel
theorem dX9_route_47 : decode cX9_route 47 = .ok (.goto 4, 3) := by decide +kernel
theorem dX9_route_50 : decode cX9_route 50 = .ok (.iconst (-1), 1) := by decide +kernel
theorem dX9_route_51 : decode cX9_route 51 = .ok (.ireturn, 1) := by decide +kernel
theorem dX9_thunk_0 : decode cX9_thunk 0 = .ok (.aload_n 0, 1) := by decide +kernel
theorem dX9_thunk_1 : decode cX9_thunk 1 = .ok (.getfield 187, 3) := by decide +kernel
theorem dX9_thunk_4 : decode cX9_thunk 4 = .ok (.ifCond .eq 17, 3) := by decide +kernel
theorem dX9_thunk_7 : decode cX9_thunk 7 = .ok (.iload_n 1, 1) := by decide +kernel
theorem dX9_thunk_8 : decode cX9_thunk 8 = .ok (.iconst 0, 1) := by decide +kernel
theorem dX9_thunk_9 : decode cX9_thunk 9 = .ok (.aload_n 0, 1) := by decide +kernel
theorem dX9_thunk_10 : decode cX9_thunk 10 = .ok (.getfield 180, 3) := by decide +kernel
theorem dX9_thunk_13 : decode cX9_thunk 13 = .ok (.iconst 1, 1) := by decide +kernel
theorem dX9_thunk_14 : decode cX9_thunk 14 = .ok (.isub, 1) := by decide +kernel
theorem dX9_thunk_15 : decode cX9_thunk 15 = .ok (.invokestatic 110, 3) := by decide +kernel
theorem dX9_thunk_18 : decode cX9_thunk 18 = .ok (.ifCond .ne 5, 3) := by decide +kernel
theorem dX9_thunk_21 : decode cX9_thunk 21 = .ok (.iconst (-1), 1) := by decide +kernel
theorem dX9_thunk_22 : decode cX9_thunk 22 = .ok (.ireturn, 1) := by decide +kernel
theorem dX9_thunk_23 : decode cX9_thunk 23 = .ok (.iload_n 2, 1) := by decide +kernel
theorem dX9_thunk_24 : decode cX9_thunk 24 = .ok (.tableswitch 82 0 5 #[40, 47, 54, 61, 68, 75], 40) := by decide +kernel
theorem dX9_thunk_64 : decode cX9_thunk 64 = .ok (.aload_n 0, 1) := by decide +kernel
theorem dX9_thunk_65 : decode cX9_thunk 65 = .ok (.getfield 84, 3) := by decide +kernel
theorem dX9_thunk_68 : decode cX9_thunk 68 = .ok (.iload_n 1, 1) := by decide +kernel
theorem dX9_thunk_69 : decode cX9_thunk 69 = .ok (.iaload, 1) := by decide +kernel
theorem dX9_thunk_70 : decode cX9_thunk 70 = .ok (.ireturn, 1) := by decide +kernel
theorem dX9_thunk_71 : decode cX9_thunk 71 = .ok (.aload_n 0, 1) := by decide +kernel
theorem dX9_thunk_72 : decode cX9_thunk 72 = .ok (.getfield 87, 3) := by decide +kernel
theorem dX9_thunk_75 : decode cX9_thunk 75 = .ok (.iload_n 1, 1) := by decide +kernel
theorem dX9_thunk_76 : decode cX9_thunk 76 = .ok (.iaload, 1) := by decide +kernel
theorem dX9_thunk_77 : decode cX9_thunk 77 = .ok (.ireturn, 1) := by decide +kernel
theorem dX9_thunk_78 : decode cX9_thunk 78 = .ok (.aload_n 0, 1) := by decide +kernel
theorem dX9_thunk_79 : decode cX9_thunk 79 = .ok (.getfield 90, 3) := by decide +kernel
theorem dX9_thunk_82 : decode cX9_thunk 82 = .ok (.iload_n 1, 1) := by decide +kernel
theorem dX9_thunk_83 : decode cX9_thunk 83 = .ok (.iaload, 1) := by decide +kernel
theorem dX9_thunk_84 : decode cX9_thunk 84 = .ok (.ireturn, 1) := by decide +kernel
theorem dX9_thunk_85 : decode cX9_thunk 85 = .ok (.aload_n 0, 1) := by decide +kernel
theorem dX9_thunk_86 : decode cX9_thunk 86 = .ok (.getfield 93, 3) := by decide +kernel
theorem dX9_thunk_89 : decode cX9_thunk 89 = .ok (.iload_n 1, 1) := by decide +kernel
theorem dX9_thunk_90 : decode cX9_thunk 90 = .ok (.iaload, 1) := by decide +kernel
theorem dX9_thunk_91 : decode cX9_thunk 91 = .ok (.ireturn, 1) := by decide +kernel
theorem dX9_thunk_92 : decode cX9_thunk 92 = .ok (.aload_n 0, 1) := by decide +kernel
theorem dX9_thunk_93 : decode cX9_thunk 93 = .ok (.getfield 96, 3) := by decide +kernel
theorem dX9_thunk_96 : decode cX9_thunk 96 = .ok (.iload_n 1, 1) := by decide +kernel
theorem dX9_thunk_97 : decode cX9_thunk 97 = .ok (.iaload, 1) := by decide +kernel
theorem dX9_thunk_98 : decode cX9_thunk 98 = .ok (.ireturn, 1) := by decide +kernel
theorem dX9_thunk_99 : decode cX9_thunk 99 = .ok (.aload_n 0, 1) := by decide +kernel
theorem dX9_thunk_100 : decode cX9_thunk 100 = .ok (.getfield 99, 3) := by decide +kernel
theorem dX9_thunk_103 : decode cX9_thunk 103 = .ok (.iload_n 1, 1) := by decide +kernel
theorem dX9_thunk_104 : decode cX9_thunk 104 = .ok (.iaload, 1) := by decide +kernel
theorem dX9_thunk_105 : decode cX9_thunk 105 = .ok (.ireturn, 1) := by decide +kernel
theorem dX9_thunk_106 : decode cX9_thunk 106 = .ok (.iconst (-1), 1) := by decide +kernel
theorem dX9_thunk_107 : decode cX9_thunk 107 = .ok (.ireturn, 1) := by decide +kernel
theorem dX9_laidReaches_0 : decode cX9_laidReaches 0 = .ok (.lload 4, 2) := by decide +kernel
theorem dX9_laidReaches_2 : decode cX9_laidReaches 2 = .ok (.lload_n 2, 1) := by decide +kernel
theorem dX9_laidReaches_3 : decode cX9_laidReaches 3 = .ok (.lsub, 1) := by decide +kernel
theorem dX9_laidReaches_4 : decode cX9_laidReaches 4 = .ok (.lstore 6, 2) := by decide +kernel
theorem dX9_laidReaches_6 : decode cX9_laidReaches 6 = .ok (.lconst 1, 1) := by decide +kernel
theorem dX9_laidReaches_7 : decode cX9_laidReaches 7 = .ok (.aload_n 0, 1) := by decide +kernel
theorem dX9_laidReaches_8 : decode cX9_laidReaches 8 = .ok (.getfield 78, 3) := by decide +kernel
theorem dX9_laidReaches_11 : decode cX9_laidReaches 11 = .ok (.iload_n 1, 1) := by decide +kernel
theorem dX9_laidReaches_12 : decode cX9_laidReaches 12 = .ok (.iaload, 1) := by decide +kernel
theorem dX9_laidReaches_13 : decode cX9_laidReaches 13 = .ok (.iconst 1, 1) := by decide +kernel
theorem dX9_laidReaches_14 : decode cX9_laidReaches 14 = .ok (.isub, 1) := by decide +kernel
theorem dX9_laidReaches_15 : decode cX9_laidReaches 15 = .ok (.lshl, 1) := by decide +kernel
theorem dX9_laidReaches_16 : decode cX9_laidReaches 16 = .ok (.aload_n 0, 1) := by decide +kernel
theorem dX9_laidReaches_17 : decode cX9_laidReaches 17 = .ok (.getfield 75, 3) := by decide +kernel
theorem dX9_laidReaches_20 : decode cX9_laidReaches 20 = .ok (.iload_n 1, 1) := by decide +kernel
theorem dX9_laidReaches_21 : decode cX9_laidReaches 21 = .ok (.iaload, 1) := by decide +kernel
theorem dX9_laidReaches_22 : decode cX9_laidReaches 22 = .ok (.i2l, 1) := by decide +kernel
theorem dX9_laidReaches_23 : decode cX9_laidReaches 23 = .ok (.lmul, 1) := by decide +kernel
theorem dX9_laidReaches_24 : decode cX9_laidReaches 24 = .ok (.lstore 8, 2) := by decide +kernel
theorem dX9_laidReaches_26 : decode cX9_laidReaches 26 = .ok (.lload 6, 2) := by decide +kernel
theorem dX9_laidReaches_28 : decode cX9_laidReaches 28 = .ok (.aload_n 0, 1) := by decide +kernel
theorem dX9_laidReaches_29 : decode cX9_laidReaches 29 = .ok (.getfield 75, 3) := by decide +kernel
theorem dX9_laidReaches_32 : decode cX9_laidReaches 32 = .ok (.iload_n 1, 1) := by decide +kernel
theorem dX9_laidReaches_33 : decode cX9_laidReaches 33 = .ok (.iaload, 1) := by decide +kernel
theorem dX9_laidReaches_34 : decode cX9_laidReaches 34 = .ok (.i2l, 1) := by decide +kernel
theorem dX9_laidReaches_35 : decode cX9_laidReaches 35 = .ok (.lrem, 1) := by decide +kernel
theorem dX9_laidReaches_36 : decode cX9_laidReaches 36 = .ok (.lconst 0, 1) := by decide +kernel
theorem dX9_laidReaches_37 : decode cX9_laidReaches 37 = .ok (.lcmp, 1) := by decide +kernel
theorem dX9_laidReaches_38 : decode cX9_laidReaches 38 = .ok (.ifCond .ne 32, 3) := by decide +kernel
theorem dX9_laidReaches_41 : decode cX9_laidReaches 41 = .ok (.lload 6, 2) := by decide +kernel
theorem dX9_laidReaches_43 : decode cX9_laidReaches 43 = .ok (.lload 8, 2) := by decide +kernel
theorem dX9_laidReaches_45 : decode cX9_laidReaches 45 = .ok (.lneg, 1) := by decide +kernel
theorem dX9_laidReaches_46 : decode cX9_laidReaches 46 = .ok (.lcmp, 1) := by decide +kernel
theorem dX9_laidReaches_47 : decode cX9_laidReaches 47 = .ok (.ifCond .lt 23, 3) := by decide +kernel
theorem dX9_laidReaches_50 : decode cX9_laidReaches 50 = .ok (.lload 6, 2) := by decide +kernel
theorem dX9_laidReaches_52 : decode cX9_laidReaches 52 = .ok (.lload 8, 2) := by decide +kernel
theorem dX9_laidReaches_54 : decode cX9_laidReaches 54 = .ok (.aload_n 0, 1) := by decide +kernel
theorem dX9_laidReaches_55 : decode cX9_laidReaches 55 = .ok (.getfield 75, 3) := by decide +kernel
theorem dX9_laidReaches_58 : decode cX9_laidReaches 58 = .ok (.iload_n 1, 1) := by decide +kernel
theorem dX9_laidReaches_59 : decode cX9_laidReaches 59 = .ok (.iaload, 1) := by decide +kernel
theorem dX9_laidReaches_60 : decode cX9_laidReaches 60 = .ok (.i2l, 1) := by decide +kernel
theorem dX9_laidReaches_61 : decode cX9_laidReaches 61 = .ok (.lsub, 1) := by decide +kernel
theorem dX9_laidReaches_62 : decode cX9_laidReaches 62 = .ok (.lcmp, 1) := by decide +kernel
theorem dX9_laidReaches_63 : decode cX9_laidReaches 63 = .ok (.ifCond .gt 7, 3) := by decide +kernel
theorem dX9_laidReaches_66 : decode cX9_laidReaches 66 = .ok (.iconst 1, 1) := by decide +kernel
theorem dX9_laidReaches_67 : decode cX9_laidReaches 67 = .ok (.goto 4, 3) := by decide +kernel
theorem dX9_laidReaches_70 : decode cX9_laidReaches 70 = .ok (.iconst 0, 1) := by decide +kernel
theorem dX9_laidReaches_71 : decode cX9_laidReaches 71 = .ok (.ireturn, 1) := by decide +kernel
theorem dX9_way_0 : decode cX9_way 0 = .ok (.lload 4, 2) := by decide +kernel
theorem dX9_way_2 : decode cX9_way 2 = .ok (.lload_n 2, 1) := by decide +kernel
theorem dX9_way_3 : decode cX9_way 3 = .ok (.lsub, 1) := by decide +kernel
theorem dX9_way_4 : decode cX9_way 4 = .ok (.aload_n 0, 1) := by decide +kernel
theorem dX9_way_5 : decode cX9_way 5 = .ok (.getfield 75, 3) := by decide +kernel
theorem dX9_way_8 : decode cX9_way 8 = .ok (.iload_n 1, 1) := by decide +kernel
theorem dX9_way_9 : decode cX9_way 9 = .ok (.iaload, 1) := by decide +kernel
theorem dX9_way_10 : decode cX9_way 10 = .ok (.i2l, 1) := by decide +kernel
theorem dX9_way_11 : decode cX9_way 11 = .ok (.ldiv, 1) := by decide +kernel
theorem dX9_way_12 : decode cX9_way 12 = .ok (.lconst 1, 1) := by decide +kernel
theorem dX9_way_13 : decode cX9_way 13 = .ok (.aload_n 0, 1) := by decide +kernel
theorem dX9_way_14 : decode cX9_way 14 = .ok (.getfield 78, 3) := by decide +kernel
theorem dX9_way_17 : decode cX9_way 17 = .ok (.iload_n 1, 1) := by decide +kernel
theorem dX9_way_18 : decode cX9_way 18 = .ok (.iaload, 1) := by decide +kernel
theorem dX9_way_19 : decode cX9_way 19 = .ok (.lshl, 1) := by decide +kernel
theorem dX9_way_20 : decode cX9_way 20 = .ok (.lconst 1, 1) := by decide +kernel
theorem dX9_way_21 : decode cX9_way 21 = .ok (.lsub, 1) := by decide +kernel
theorem dX9_way_22 : decode cX9_way 22 = .ok (.land, 1) := by decide +kernel
theorem dX9_way_23 : decode cX9_way 23 = .ok (.l2i, 1) := by decide +kernel
theorem dX9_way_24 : decode cX9_way 24 = .ok (.ireturn, 1) := by decide +kernel
theorem dX9_encoded_0 : decode cX9_encoded 0 = .ok (.aload_n 0, 1) := by decide +kernel
theorem dX9_encoded_1 : decode cX9_encoded 1 = .ok (.getfield 187, 3) := by decide +kernel
theorem dX9_encoded_4 : decode cX9_encoded 4 = .ok (.ifCond .ne 5, 3) := by decide +kernel
theorem dX9_encoded_7 : decode cX9_encoded 7 = .ok (.iconst (-1), 1) := by decide +kernel
theorem dX9_encoded_8 : decode cX9_encoded 8 = .ok (.ireturn, 1) := by decide +kernel
theorem dX9_encoded_9 : decode cX9_encoded 9 = .ok (.iload_n 1, 1) := by decide +kernel
theorem dX9_encoded_10 : decode cX9_encoded 10 = .ok (.ifCond .ne 80, 3) := by decide +kernel
theorem dX9_encoded_13 : decode cX9_encoded 13 = .ok (.iload_n 2, 1) := by decide +kernel
theorem dX9_encoded_14 : decode cX9_encoded 14 = .ok (.iconst 0, 1) := by decide +kernel
theorem dX9_encoded_15 : decode cX9_encoded 15 = .ok (.aload_n 0, 1) := by decide +kernel
theorem dX9_encoded_16 : decode cX9_encoded 16 = .ok (.getfield 196, 3) := by decide +kernel
theorem dX9_encoded_19 : decode cX9_encoded 19 = .ok (.iconst 1, 1) := by decide +kernel
theorem dX9_encoded_20 : decode cX9_encoded 20 = .ok (.isub, 1) := by decide +kernel
theorem dX9_encoded_21 : decode cX9_encoded 21 = .ok (.invokestatic 110, 3) := by decide +kernel
theorem dX9_encoded_24 : decode cX9_encoded 24 = .ok (.ifCond .eq 66, 3) := by decide +kernel
theorem dX9_encoded_27 : decode cX9_encoded 27 = .ok (.aload_n 0, 1) := by decide +kernel
theorem dX9_encoded_28 : decode cX9_encoded 28 = .ok (.getfield 69, 3) := by decide +kernel
theorem dX9_encoded_31 : decode cX9_encoded 31 = .ok (.iload_n 2, 1) := by decide +kernel
theorem dX9_encoded_32 : decode cX9_encoded 32 = .ok (.iaload, 1) := by decide +kernel
theorem dX9_encoded_33 : decode cX9_encoded 33 = .ok (.iconst 2, 1) := by decide +kernel
theorem dX9_encoded_34 : decode cX9_encoded 34 = .ok (.if_icmp .ne 5, 3) := by decide +kernel
theorem dX9_encoded_37 : decode cX9_encoded 37 = .ok (.iconst (-1), 1) := by decide +kernel
theorem dX9_encoded_38 : decode cX9_encoded 38 = .ok (.ireturn, 1) := by decide +kernel
theorem dX9_encoded_39 : decode cX9_encoded 39 = .ok (.aload_n 0, 1) := by decide +kernel
theorem dX9_encoded_40 : decode cX9_encoded 40 = .ok (.aload_n 0, 1) := by decide +kernel
theorem dX9_encoded_41 : decode cX9_encoded 41 = .ok (.getfield 63, 3) := by decide +kernel
theorem dX9_encoded_44 : decode cX9_encoded 44 = .ok (.iload_n 2, 1) := by decide +kernel
theorem dX9_encoded_45 : decode cX9_encoded 45 = .ok (.iaload, 1) := by decide +kernel
theorem dX9_encoded_46 : decode cX9_encoded 46 = .ok (.aload_n 0, 1) := by decide +kernel
theorem dX9_encoded_47 : decode cX9_encoded 47 = .ok (.getfield 60, 3) := by decide +kernel
theorem dX9_encoded_50 : decode cX9_encoded 50 = .ok (.iload_n 2, 1) := by decide +kernel
theorem dX9_encoded_51 : decode cX9_encoded 51 = .ok (.laload, 1) := by decide +kernel
theorem dX9_encoded_52 : decode cX9_encoded 52 = .ok (.aload_n 0, 1) := by decide +kernel
theorem dX9_encoded_53 : decode cX9_encoded 53 = .ok (.getfield 69, 3) := by decide +kernel
theorem dX9_encoded_56 : decode cX9_encoded 56 = .ok (.iload_n 2, 1) := by decide +kernel
theorem dX9_encoded_57 : decode cX9_encoded 57 = .ok (.iaload, 1) := by decide +kernel
theorem dX9_encoded_58 : decode cX9_encoded 58 = .ok (.ifCond .ne 17, 3) := by decide +kernel
theorem dX9_encoded_61 : decode cX9_encoded 61 = .ok (.aload_n 0, 1) := by decide +kernel
theorem dX9_encoded_62 : decode cX9_encoded 62 = .ok (.getfield 57, 3) := by decide +kernel
theorem dX9_encoded_65 : decode cX9_encoded 65 = .ok (.aload_n 0, 1) := by decide +kernel
theorem dX9_encoded_66 : decode cX9_encoded 66 = .ok (.getfield 66, 3) := by decide +kernel
theorem dX9_encoded_69 : decode cX9_encoded 69 = .ok (.iload_n 2, 1) := by decide +kernel
theorem dX9_encoded_70 : decode cX9_encoded 70 = .ok (.iaload, 1) := by decide +kernel
theorem dX9_encoded_71 : decode cX9_encoded 71 = .ok (.laload, 1) := by decide +kernel
theorem dX9_encoded_72 : decode cX9_encoded 72 = .ok (.goto 14, 3) := by decide +kernel
theorem dX9_encoded_75 : decode cX9_encoded 75 = .ok (.aload_n 0, 1) := by decide +kernel
theorem dX9_encoded_76 : decode cX9_encoded 76 = .ok (.getfield 81, 3) := by decide +kernel
theorem dX9_encoded_79 : decode cX9_encoded 79 = .ok (.aload_n 0, 1) := by decide +kernel
theorem dX9_encoded_80 : decode cX9_encoded 80 = .ok (.getfield 72, 3) := by decide +kernel
theorem dX9_encoded_83 : decode cX9_encoded 83 = .ok (.iload_n 2, 1) := by decide +kernel
theorem dX9_encoded_84 : decode cX9_encoded 84 = .ok (.iaload, 1) := by decide +kernel
theorem dX9_encoded_85 : decode cX9_encoded 85 = .ok (.laload, 1) := by decide +kernel
theorem dX9_encoded_86 : decode cX9_encoded 86 = .ok (.invokevirtual 221, 3) := by decide +kernel
theorem dX9_encoded_89 : decode cX9_encoded 89 = .ok (.ireturn, 1) := by decide +kernel
theorem dX9_encoded_90 : decode cX9_encoded 90 = .ok (.iload_n 1, 1) := by decide +kernel
theorem dX9_encoded_91 : decode cX9_encoded 91 = .ok (.iconst 1, 1) := by decide +kernel
theorem dX9_encoded_92 : decode cX9_encoded 92 = .ok (.if_icmp .ne 45, 3) := by decide +kernel
theorem dX9_encoded_95 : decode cX9_encoded 95 = .ok (.iload_n 2, 1) := by decide +kernel
theorem dX9_encoded_96 : decode cX9_encoded 96 = .ok (.iconst 0, 1) := by decide +kernel
theorem dX9_encoded_97 : decode cX9_encoded 97 = .ok (.aload_n 0, 1) := by decide +kernel
theorem dX9_encoded_98 : decode cX9_encoded 98 = .ok (.getfield 180, 3) := by decide +kernel
theorem dX9_encoded_101 : decode cX9_encoded 101 = .ok (.iconst 1, 1) := by decide +kernel
theorem dX9_encoded_102 : decode cX9_encoded 102 = .ok (.isub, 1) := by decide +kernel
theorem dX9_encoded_103 : decode cX9_encoded 103 = .ok (.invokestatic 110, 3) := by decide +kernel
theorem dX9_encoded_106 : decode cX9_encoded 106 = .ok (.ifCond .eq 31, 3) := by decide +kernel
theorem dX9_encoded_109 : decode cX9_encoded 109 = .ok (.aload_n 0, 1) := by decide +kernel
theorem dX9_encoded_110 : decode cX9_encoded 110 = .ok (.aload_n 0, 1) := by decide +kernel
theorem dX9_encoded_111 : decode cX9_encoded 111 = .ok (.getfield 205, 3) := by decide +kernel
theorem dX9_encoded_114 : decode cX9_encoded 114 = .ok (.aload_n 0, 1) := by decide +kernel
theorem dX9_encoded_115 : decode cX9_encoded 115 = .ok (.getfield 81, 3) := by decide +kernel
theorem dX9_encoded_118 : decode cX9_encoded 118 = .ok (.iload_n 2, 1) := by decide +kernel
theorem dX9_encoded_119 : decode cX9_encoded 119 = .ok (.laload, 1) := by decide +kernel
theorem dX9_encoded_120 : decode cX9_encoded 120 = .ok (.aload_n 0, 1) := by decide +kernel
theorem dX9_encoded_121 : decode cX9_encoded 121 = .ok (.getfield 57, 3) := by decide +kernel
theorem dX9_encoded_124 : decode cX9_encoded 124 = .ok (.aload_n 0, 1) := by decide +kernel
theorem dX9_encoded_125 : decode cX9_encoded 125 = .ok (.getfield 87, 3) := by decide +kernel
theorem dX9_encoded_128 : decode cX9_encoded 128 = .ok (.iload_n 2, 1) := by decide +kernel
theorem dX9_encoded_129 : decode cX9_encoded 129 = .ok (.iaload, 1) := by decide +kernel
theorem dX9_encoded_130 : decode cX9_encoded 130 = .ok (.laload, 1) := by decide +kernel
theorem dX9_encoded_131 : decode cX9_encoded 131 = .ok (.invokevirtual 225, 3) := by decide +kernel
theorem dX9_encoded_134 : decode cX9_encoded 134 = .ok (.ifCond .ne 5, 3) := by decide +kernel
theorem dX9_encoded_137 : decode cX9_encoded 137 = .ok (.iconst (-1), 1) := by decide +kernel
theorem dX9_encoded_138 : decode cX9_encoded 138 = .ok (.ireturn, 1) := by decide +kernel
theorem dX9_encoded_139 : decode cX9_encoded 139 = .ok (.aload_n 0, 1) := by decide +kernel
theorem dX9_encoded_140 : decode cX9_encoded 140 = .ok (.aload_n 0, 1) := by decide +kernel
theorem dX9_encoded_141 : decode cX9_encoded 141 = .ok (.getfield 205, 3) := by decide +kernel
theorem dX9_encoded_144 : decode cX9_encoded 144 = .ok (.aload_n 0, 1) := by decide +kernel
theorem dX9_encoded_145 : decode cX9_encoded 145 = .ok (.getfield 81, 3) := by decide +kernel
theorem dX9_encoded_148 : decode cX9_encoded 148 = .ok (.iload_n 2, 1) := by decide +kernel
theorem dX9_encoded_149 : decode cX9_encoded 149 = .ok (.laload, 1) := by decide +kernel
theorem dX9_encoded_150 : decode cX9_encoded 150 = .ok (.aload_n 0, 1) := by decide +kernel
theorem dX9_encoded_151 : decode cX9_encoded 151 = .ok (.getfield 57, 3) := by decide +kernel
theorem dX9_encoded_154 : decode cX9_encoded 154 = .ok (.aload_n 0, 1) := by decide +kernel
theorem dX9_encoded_155 : decode cX9_encoded 155 = .ok (.getfield 87, 3) := by decide +kernel
theorem dX9_encoded_158 : decode cX9_encoded 158 = .ok (.iload_n 2, 1) := by decide +kernel
theorem dX9_encoded_159 : decode cX9_encoded 159 = .ok (.iaload, 1) := by decide +kernel
theorem dX9_encoded_160 : decode cX9_encoded 160 = .ok (.laload, 1) := by decide +kernel
theorem dX9_encoded_161 : decode cX9_encoded 161 = .ok (.invokevirtual 221, 3) := by decide +kernel
theorem dX9_encoded_164 : decode cX9_encoded 164 = .ok (.ireturn, 1) := by decide +kernel
theorem dX9_at_0 : decode cX9_at 0 = .ok (.aload_n 0, 1) := by decide +kernel
theorem dX9_at_1 : decode cX9_at 1 = .ok (.getfield 187, 3) := by decide +kernel
theorem dX9_at_4 : decode cX9_at 4 = .ok (.ifCond .eq 28, 3) := by decide +kernel
theorem dX9_at_7 : decode cX9_at 7 = .ok (.aload_n 0, 1) := by decide +kernel
theorem dX9_at_8 : decode cX9_at 8 = .ok (.getfield 190, 3) := by decide +kernel
theorem dX9_at_11 : decode cX9_at 11 = .ok (.ifCond .eq 21, 3) := by decide +kernel
theorem dX9_at_14 : decode cX9_at 14 = .ok (.lload_n 1, 1) := by decide +kernel
theorem dX9_at_15 : decode cX9_at 15 = .ok (.aload_n 0, 1) := by decide +kernel
theorem dX9_at_16 : decode cX9_at 16 = .ok (.getfield 199, 3) := by decide +kernel
theorem dX9_at_19 : decode cX9_at 19 = .ok (.lcmp, 1) := by decide +kernel
theorem dX9_at_20 : decode cX9_at 20 = .ok (.ifCond .lt 12, 3) := by decide +kernel
theorem dX9_at_23 : decode cX9_at 23 = .ok (.lload_n 1, 1) := by decide +kernel
theorem dX9_at_24 : decode cX9_at 24 = .ok (.aload_n 0, 1) := by decide +kernel
theorem dX9_at_25 : decode cX9_at 25 = .ok (.getfield 143, 3) := by decide +kernel
theorem dX9_at_28 : decode cX9_at 28 = .ok (.lcmp, 1) := by decide +kernel
theorem dX9_at_29 : decode cX9_at 29 = .ok (.ifCond .lt 5, 3) := by decide +kernel
theorem dX9_at_32 : decode cX9_at 32 = .ok (.iconst (-1), 1) := by decide +kernel
theorem dX9_at_33 : decode cX9_at 33 = .ok (.ireturn, 1) := by decide +kernel
theorem dX9_at_34 : decode cX9_at 34 = .ok (.iconst 0, 1) := by decide +kernel
theorem dX9_at_35 : decode cX9_at 35 = .ok (.istore_n 3, 1) := by decide +kernel
theorem dX9_at_36 : decode cX9_at 36 = .ok (.iload_n 3, 1) := by decide +kernel
theorem dX9_at_37 : decode cX9_at 37 = .ok (.aload_n 0, 1) := by decide +kernel
theorem dX9_at_38 : decode cX9_at 38 = .ok (.getfield 190, 3) := by decide +kernel
theorem dX9_at_41 : decode cX9_at 41 = .ok (.if_icmp .ge 37, 3) := by decide +kernel
theorem dX9_at_44 : decode cX9_at 44 = .ok (.lload_n 1, 1) := by decide +kernel
theorem dX9_at_45 : decode cX9_at 45 = .ok (.aload_n 0, 1) := by decide +kernel
theorem dX9_at_46 : decode cX9_at 46 = .ok (.getfield 44, 3) := by decide +kernel
theorem dX9_at_49 : decode cX9_at 49 = .ok (.iload_n 3, 1) := by decide +kernel
theorem dX9_at_50 : decode cX9_at 50 = .ok (.laload, 1) := by decide +kernel
theorem dX9_at_51 : decode cX9_at 51 = .ok (.lcmp, 1) := by decide +kernel
theorem dX9_at_52 : decode cX9_at 52 = .ok (.ifCond .lt 20, 3) := by decide +kernel
theorem dX9_at_55 : decode cX9_at 55 = .ok (.lload_n 1, 1) := by decide +kernel
theorem dX9_at_56 : decode cX9_at 56 = .ok (.aload_n 0, 1) := by decide +kernel
theorem dX9_at_57 : decode cX9_at 57 = .ok (.getfield 48, 3) := by decide +kernel
theorem dX9_at_60 : decode cX9_at 60 = .ok (.iload_n 3, 1) := by decide +kernel
theorem dX9_at_61 : decode cX9_at 61 = .ok (.laload, 1) := by decide +kernel
theorem dX9_at_62 : decode cX9_at 62 = .ok (.lcmp, 1) := by decide +kernel
theorem dX9_at_63 : decode cX9_at 63 = .ok (.ifCond .ge 9, 3) := by decide +kernel
theorem dX9_at_66 : decode cX9_at 66 = .ok (.sipush 1000, 3) := by decide +kernel
theorem dX9_at_69 : decode cX9_at 69 = .ok (.iload_n 3, 1) := by decide +kernel
theorem dX9_at_70 : decode cX9_at 70 = .ok (.iadd, 1) := by decide +kernel
theorem dX9_at_71 : decode cX9_at 71 = .ok (.ireturn, 1) := by decide +kernel
theorem dX9_at_72 : decode cX9_at 72 = .ok (.iinc 3 1, 3) := by decide +kernel
theorem dX9_at_75 : decode cX9_at 75 = .ok (.goto (-39), 3) := by decide +kernel
theorem dX9_at_78 : decode cX9_at 78 = .ok (.iconst 0, 1) := by decide +kernel
theorem dX9_at_79 : decode cX9_at 79 = .ok (.istore_n 3, 1) := by decide +kernel
theorem dX9_at_80 : decode cX9_at 80 = .ok (.iload_n 3, 1) := by decide +kernel
theorem dX9_at_81 : decode cX9_at 81 = .ok (.aload_n 0, 1) := by decide +kernel
theorem dX9_at_82 : decode cX9_at 82 = .ok (.getfield 180, 3) := by decide +kernel
theorem dX9_at_85 : decode cX9_at 85 = .ok (.if_icmp .ge 43, 3) := by decide +kernel
theorem dX9_at_88 : decode cX9_at 88 = .ok (.lload_n 1, 1) := by decide +kernel
theorem dX9_at_89 : decode cX9_at 89 = .ok (.aload_n 0, 1) := by decide +kernel
theorem dX9_at_90 : decode cX9_at 90 = .ok (.getfield 81, 3) := by decide +kernel
theorem dX9_at_93 : decode cX9_at 93 = .ok (.iload_n 3, 1) := by decide +kernel
theorem dX9_at_94 : decode cX9_at 94 = .ok (.laload, 1) := by decide +kernel
theorem dX9_at_95 : decode cX9_at 95 = .ok (.lcmp, 1) := by decide +kernel
theorem dX9_at_96 : decode cX9_at 96 = .ok (.ifCond .lt 26, 3) := by decide +kernel
theorem dX9_at_99 : decode cX9_at 99 = .ok (.lload_n 1, 1) := by decide +kernel
theorem dX9_at_100 : decode cX9_at 100 = .ok (.aload_n 0, 1) := by decide +kernel
theorem dX9_at_101 : decode cX9_at 101 = .ok (.getfield 81, 3) := by decide +kernel
theorem dX9_at_104 : decode cX9_at 104 = .ok (.iload_n 3, 1) := by decide +kernel
theorem dX9_at_105 : decode cX9_at 105 = .ok (.laload, 1) := by decide +kernel
theorem dX9_at_106 : decode cX9_at 106 = .ok (.aload_n 0, 1) := by decide +kernel
theorem dX9_at_107 : decode cX9_at 107 = .ok (.getfield 202, 3) := by decide +kernel
theorem dX9_at_110 : decode cX9_at 110 = .ok (.i2l, 1) := by decide +kernel
theorem dX9_at_111 : decode cX9_at 111 = .ok (.ladd, 1) := by decide +kernel
theorem dX9_at_112 : decode cX9_at 112 = .ok (.lcmp, 1) := by decide +kernel
theorem dX9_at_113 : decode cX9_at 113 = .ok (.ifCond .ge 9, 3) := by decide +kernel
theorem dX9_at_116 : decode cX9_at 116 = .ok (.sipush 2000, 3) := by decide +kernel
theorem dX9_at_119 : decode cX9_at 119 = .ok (.iload_n 3, 1) := by decide +kernel
theorem dX9_at_120 : decode cX9_at 120 = .ok (.iadd, 1) := by decide +kernel
theorem dX9_at_121 : decode cX9_at 121 = .ok (.ireturn, 1) := by decide +kernel
theorem dX9_at_122 : decode cX9_at 122 = .ok (.iinc 3 1, 3) := by decide +kernel
theorem dX9_at_125 : decode cX9_at 125 = .ok (.goto (-45), 3) := by decide +kernel
theorem dX9_at_128 : decode cX9_at 128 = .ok (.iconst 0, 1) := by decide +kernel
theorem dX9_at_129 : decode cX9_at 129 = .ok (.ireturn, 1) := by decide +kernel
theorem dX9_goes_0 : decode cX9_goes 0 = .ok (.iload 4, 2) := by decide +kernel
theorem dX9_goes_2 : decode cX9_goes 2 = .ok (.i2l, 1) := by decide +kernel
theorem dX9_goes_3 : decode cX9_goes 3 = .ok (.lstore 5, 2) := by decide +kernel
theorem dX9_goes_5 : decode cX9_goes 5 = .ok (.lload 5, 2) := by decide +kernel
theorem dX9_goes_7 : decode cX9_goes 7 = .ok (.aload_n 0, 1) := by decide +kernel
theorem dX9_goes_8 : decode cX9_goes 8 = .ok (.getfield 78, 3) := by decide +kernel
theorem dX9_goes_11 : decode cX9_goes 11 = .ok (.iload_n 1, 1) := by decide +kernel
theorem dX9_goes_12 : decode cX9_goes 12 = .ok (.iaload, 1) := by decide +kernel
theorem dX9_goes_13 : decode cX9_goes 13 = .ok (.iconst 1, 1) := by decide +kernel
theorem dX9_goes_14 : decode cX9_goes 14 = .ok (.isub, 1) := by decide +kernel
theorem dX9_goes_15 : decode cX9_goes 15 = .ok (.lshr, 1) := by decide +kernel
theorem dX9_goes_16 : decode cX9_goes 16 = .ok (.lconst 1, 1) := by decide +kernel
theorem dX9_goes_17 : decode cX9_goes 17 = .ok (.land, 1) := by decide +kernel
theorem dX9_goes_18 : decode cX9_goes 18 = .ok (.lconst 1, 1) := by decide +kernel
theorem dX9_goes_19 : decode cX9_goes 19 = .ok (.lcmp, 1) := by decide +kernel
theorem dX9_goes_20 : decode cX9_goes 20 = .ok (.ifCond .ne 16, 3) := by decide +kernel
theorem dX9_goes_23 : decode cX9_goes 23 = .ok (.lload 5, 2) := by decide +kernel
theorem dX9_goes_25 : decode cX9_goes 25 = .ok (.lconst 1, 1) := by decide +kernel
theorem dX9_goes_26 : decode cX9_goes 26 = .ok (.aload_n 0, 1) := by decide +kernel
theorem dX9_goes_27 : decode cX9_goes 27 = .ok (.getfield 78, 3) := by decide +kernel
theorem dX9_goes_30 : decode cX9_goes 30 = .ok (.iload_n 1, 1) := by decide +kernel
theorem dX9_goes_31 : decode cX9_goes 31 = .ok (.iaload, 1) := by decide +kernel
theorem dX9_goes_32 : decode cX9_goes 32 = .ok (.lshl, 1) := by decide +kernel
theorem dX9_goes_33 : decode cX9_goes 33 = .ok (.lsub, 1) := by decide +kernel
theorem dX9_goes_34 : decode cX9_goes 34 = .ok (.lstore 5, 2) := by decide +kernel
theorem dX9_goes_36 : decode cX9_goes 36 = .ok (.lload_n 2, 1) := by decide +kernel
theorem dX9_goes_37 : decode cX9_goes 37 = .ok (.lload 5, 2) := by decide +kernel
theorem dX9_goes_39 : decode cX9_goes 39 = .ok (.aload_n 0, 1) := by decide +kernel
theorem dX9_goes_40 : decode cX9_goes 40 = .ok (.getfield 75, 3) := by decide +kernel
theorem dX9_goes_43 : decode cX9_goes 43 = .ok (.iload_n 1, 1) := by decide +kernel
theorem dX9_goes_44 : decode cX9_goes 44 = .ok (.iaload, 1) := by decide +kernel
theorem dX9_goes_45 : decode cX9_goes 45 = .ok (.i2l, 1) := by decide +kernel
theorem dX9_goes_46 : decode cX9_goes 46 = .ok (.lmul, 1) := by decide +kernel
theorem dX9_goes_47 : decode cX9_goes 47 = .ok (.ladd, 1) := by decide +kernel
theorem dX9_goes_48 : decode cX9_goes 48 = .ok (.lreturn, 1) := by decide +kernel
theorem dX9_walk_0 : decode cX9_walk 0 = .ok (.aload_n 0, 1) := by decide +kernel
theorem dX9_walk_1 : decode cX9_walk 1 = .ok (.iconst 0, 1) := by decide +kernel
theorem dX9_walk_2 : decode cX9_walk 2 = .ok (.iload_n 1, 1) := by decide +kernel
theorem dX9_walk_3 : decode cX9_walk 3 = .ok (.invokevirtual 228, 3) := by decide +kernel
theorem dX9_walk_6 : decode cX9_walk 6 = .ok (.istore_n 2, 1) := by decide +kernel
theorem dX9_walk_7 : decode cX9_walk 7 = .ok (.iload_n 2, 1) := by decide +kernel
theorem dX9_walk_8 : decode cX9_walk 8 = .ok (.iconst (-1), 1) := by decide +kernel
theorem dX9_walk_9 : decode cX9_walk 9 = .ok (.if_icmp .ne 7, 3) := by decide +kernel
theorem dX9_walk_12 : decode cX9_walk 12 = .ok (.ldc2_w 219, 3) := by decide +kernel
theorem dX9_walk_15 : decode cX9_walk 15 = .ok (.lreturn, 1) := by decide +kernel
theorem dX9_walk_16 : decode cX9_walk 16 = .ok (.aload_n 0, 1) := by decide +kernel
theorem dX9_walk_17 : decode cX9_walk 17 = .ok (.aload_n 0, 1) := by decide +kernel
theorem dX9_walk_18 : decode cX9_walk 18 = .ok (.getfield 63, 3) := by decide +kernel
theorem dX9_walk_21 : decode cX9_walk 21 = .ok (.iload_n 1, 1) := by decide +kernel
theorem dX9_walk_22 : decode cX9_walk 22 = .ok (.iaload, 1) := by decide +kernel
theorem dX9_walk_23 : decode cX9_walk 23 = .ok (.aload_n 0, 1) := by decide +kernel
theorem dX9_walk_24 : decode cX9_walk 24 = .ok (.getfield 60, 3) := by decide +kernel
theorem dX9_walk_27 : decode cX9_walk 27 = .ok (.iload_n 1, 1) := by decide +kernel
theorem dX9_walk_28 : decode cX9_walk 28 = .ok (.laload, 1) := by decide +kernel
theorem dX9_walk_29 : decode cX9_walk 29 = .ok (.iload_n 2, 1) := by decide +kernel
theorem dX9_walk_30 : decode cX9_walk 30 = .ok (.invokevirtual 231, 3) := by decide +kernel
theorem dX9_walk_33 : decode cX9_walk 33 = .ok (.lstore_n 3, 1) := by decide +kernel
theorem dX9_walk_34 : decode cX9_walk 34 = .ok (.aload_n 0, 1) := by decide +kernel
theorem dX9_walk_35 : decode cX9_walk 35 = .ok (.getfield 69, 3) := by decide +kernel
theorem dX9_walk_38 : decode cX9_walk 38 = .ok (.iload_n 1, 1) := by decide +kernel
theorem dX9_walk_39 : decode cX9_walk 39 = .ok (.iaload, 1) := by decide +kernel
theorem dX9_walk_40 : decode cX9_walk 40 = .ok (.ifCond .ne 7, 3) := by decide +kernel
theorem dX9_walk_43 : decode cX9_walk 43 = .ok (.lload_n 3, 1) := by decide +kernel
theorem dX9_walk_44 : decode cX9_walk 44 = .ok (.goto 23, 3) := by decide +kernel
theorem dX9_walk_47 : decode cX9_walk 47 = .ok (.aload_n 0, 1) := by decide +kernel
theorem dX9_walk_48 : decode cX9_walk 48 = .ok (.aload_n 0, 1) := by decide +kernel
theorem dX9_walk_49 : decode cX9_walk 49 = .ok (.getfield 205, 3) := by decide +kernel
theorem dX9_walk_52 : decode cX9_walk 52 = .ok (.lload_n 3, 1) := by decide +kernel
theorem dX9_walk_53 : decode cX9_walk 53 = .ok (.aload_n 0, 1) := by decide +kernel
theorem dX9_walk_54 : decode cX9_walk 54 = .ok (.iconst 1, 1) := by decide +kernel
theorem dX9_walk_55 : decode cX9_walk 55 = .ok (.aload_n 0, 1) := by decide +kernel
theorem dX9_walk_56 : decode cX9_walk 56 = .ok (.getfield 72, 3) := by decide +kernel
theorem dX9_walk_59 : decode cX9_walk 59 = .ok (.iload_n 1, 1) := by decide +kernel
theorem dX9_walk_60 : decode cX9_walk 60 = .ok (.iaload, 1) := by decide +kernel
theorem dX9_walk_61 : decode cX9_walk 61 = .ok (.invokevirtual 228, 3) := by decide +kernel
theorem dX9_walk_64 : decode cX9_walk 64 = .ok (.invokevirtual 231, 3) := by decide +kernel
theorem dX9_walk_67 : decode cX9_walk 67 = .ok (.lreturn, 1) := by decide +kernel
theorem dX9_far_0 : decode cX9_far 0 = .ok (.aload_n 0, 1) := by decide +kernel
theorem dX9_far_1 : decode cX9_far 1 = .ok (.getfield 136, 3) := by decide +kernel
theorem dX9_far_4 : decode cX9_far 4 = .ok (.i2l, 1) := by decide +kernel
theorem dX9_far_5 : decode cX9_far 5 = .ok (.lstore_n 1, 1) := by decide +kernel
theorem dX9_far_6 : decode cX9_far 6 = .ok (.iconst 0, 1) := by decide +kernel
theorem dX9_far_7 : decode cX9_far 7 = .ok (.istore_n 3, 1) := by decide +kernel
theorem dX9_far_8 : decode cX9_far 8 = .ok (.iload_n 3, 1) := by decide +kernel
theorem dX9_far_9 : decode cX9_far 9 = .ok (.aload_n 0, 1) := by decide +kernel
theorem dX9_far_10 : decode cX9_far 10 = .ok (.getfield 105, 3) := by decide +kernel
theorem dX9_far_13 : decode cX9_far 13 = .ok (.if_icmp .ge 37, 3) := by decide +kernel
theorem dX9_far_16 : decode cX9_far 16 = .ok (.lload_n 1, 1) := by decide +kernel
theorem dX9_far_17 : decode cX9_far 17 = .ok (.aload_n 0, 1) := by decide +kernel
theorem dX9_far_18 : decode cX9_far 18 = .ok (.getfield 13, 3) := by decide +kernel
theorem dX9_far_21 : decode cX9_far 21 = .ok (.iload_n 3, 1) := by decide +kernel
theorem dX9_far_22 : decode cX9_far 22 = .ok (.iaload, 1) := by decide +kernel
theorem dX9_far_23 : decode cX9_far 23 = .ok (.invokestatic 139, 3) := by decide +kernel
theorem dX9_far_26 : decode cX9_far 26 = .ok (.lstore_n 1, 1) := by decide +kernel
theorem dX9_far_27 : decode cX9_far 27 = .ok (.aload_n 0, 1) := by decide +kernel
theorem dX9_far_28 : decode cX9_far 28 = .ok (.getfield 102, 3) := by decide +kernel
theorem dX9_far_31 : decode cX9_far 31 = .ok (.iload_n 3, 1) := by decide +kernel
theorem dX9_far_32 : decode cX9_far 32 = .ok (.lload_n 1, 1) := by decide +kernel
theorem dX9_far_33 : decode cX9_far 33 = .ok (.lastore, 1) := by decide +kernel
theorem dX9_far_34 : decode cX9_far 34 = .ok (.lload_n 1, 1) := by decide +kernel
theorem dX9_far_35 : decode cX9_far 35 = .ok (.aload_n 0, 1) := by decide +kernel
theorem dX9_far_36 : decode cX9_far 36 = .ok (.getfield 7, 3) := by decide +kernel
theorem dX9_far_39 : decode cX9_far 39 = .ok (.iload_n 3, 1) := by decide +kernel
theorem dX9_far_40 : decode cX9_far 40 = .ok (.iaload, 1) := by decide +kernel
theorem dX9_far_41 : decode cX9_far 41 = .ok (.i2l, 1) := by decide +kernel
theorem dX9_far_42 : decode cX9_far 42 = .ok (.ladd, 1) := by decide +kernel
theorem dX9_far_43 : decode cX9_far 43 = .ok (.lstore_n 1, 1) := by decide +kernel
theorem dX9_far_44 : decode cX9_far 44 = .ok (.iinc 3 1, 3) := by decide +kernel
theorem dX9_far_47 : decode cX9_far 47 = .ok (.goto (-39), 3) := by decide +kernel
theorem dX9_far_50 : decode cX9_far 50 = .ok (.iconst 0, 1) := by decide +kernel
theorem dX9_far_51 : decode cX9_far 51 = .ok (.istore_n 3, 1) := by decide +kernel
theorem dX9_far_52 : decode cX9_far 52 = .ok (.iconst 0, 1) := by decide +kernel
theorem dX9_far_53 : decode cX9_far 53 = .ok (.istore 4, 2) := by decide +kernel
theorem dX9_far_55 : decode cX9_far 55 = .ok (.iload 4, 2) := by decide +kernel
theorem dX9_far_57 : decode cX9_far 57 = .ok (.aload_n 0, 1) := by decide +kernel
theorem dX9_far_58 : decode cX9_far 58 = .ok (.getfield 124, 3) := by decide +kernel
theorem dX9_far_61 : decode cX9_far 61 = .ok (.if_icmp .ge 82, 3) := by decide +kernel
theorem dX9_far_64 : decode cX9_far 64 = .ok (.aload_n 0, 1) := by decide +kernel
theorem dX9_far_65 : decode cX9_far 65 = .ok (.getfield 35, 3) := by decide +kernel
theorem dX9_far_68 : decode cX9_far 68 = .ok (.iload 4, 2) := by decide +kernel
theorem dX9_far_70 : decode cX9_far 70 = .ok (.iaload, 1) := by decide +kernel
theorem dX9_far_71 : decode cX9_far 71 = .ok (.istore 5, 2) := by decide +kernel
theorem dX9_far_73 : decode cX9_far 73 = .ok (.iload_n 3, 1) := by decide +kernel
theorem dX9_far_74 : decode cX9_far 74 = .ok (.aload_n 0, 1) := by decide +kernel
theorem dX9_far_75 : decode cX9_far 75 = .ok (.aload_n 0, 1) := by decide +kernel
theorem dX9_far_76 : decode cX9_far 76 = .ok (.getfield 32, 3) := by decide +kernel
theorem dX9_far_79 : decode cX9_far 79 = .ok (.iload 4, 2) := by decide +kernel
theorem dX9_far_81 : decode cX9_far 81 = .ok (.iaload, 1) := by decide +kernel
theorem dX9_far_82 : decode cX9_far 82 = .ok (.aload_n 0, 1) := by decide +kernel
theorem dX9_far_83 : decode cX9_far 83 = .ok (.getfield 102, 3) := by decide +kernel
theorem dX9_far_86 : decode cX9_far 86 = .ok (.aload_n 0, 1) := by decide +kernel
theorem dX9_far_87 : decode cX9_far 87 = .ok (.getfield 26, 3) := by decide +kernel
theorem dX9_far_90 : decode cX9_far 90 = .ok (.iload 4, 2) := by decide +kernel
theorem dX9_far_92 : decode cX9_far 92 = .ok (.iaload, 1) := by decide +kernel
theorem dX9_far_93 : decode cX9_far 93 = .ok (.laload, 1) := by decide +kernel
theorem dX9_far_94 : decode cX9_far 94 = .ok (.aload_n 0, 1) := by decide +kernel
theorem dX9_far_95 : decode cX9_far 95 = .ok (.getfield 29, 3) := by decide +kernel
theorem dX9_far_98 : decode cX9_far 98 = .ok (.iload 4, 2) := by decide +kernel
theorem dX9_far_100 : decode cX9_far 100 = .ok (.iaload, 1) := by decide +kernel
theorem dX9_far_101 : decode cX9_far 101 = .ok (.i2l, 1) := by decide +kernel
theorem dX9_far_102 : decode cX9_far 102 = .ok (.ladd, 1) := by decide +kernel
theorem dX9_far_103 : decode cX9_far 103 = .ok (.aload_n 0, 1) := by decide +kernel
theorem dX9_far_104 : decode cX9_far 104 = .ok (.getfield 102, 3) := by decide +kernel
theorem dX9_far_107 : decode cX9_far 107 = .ok (.aload_n 0, 1) := by decide +kernel
theorem dX9_far_108 : decode cX9_far 108 = .ok (.getfield 20, 3) := by decide +kernel
theorem dX9_far_111 : decode cX9_far 111 = .ok (.iload 5, 2) := by decide +kernel
theorem dX9_far_113 : decode cX9_far 113 = .ok (.iaload, 1) := by decide +kernel
theorem dX9_far_114 : decode cX9_far 114 = .ok (.laload, 1) := by decide +kernel
theorem dX9_far_115 : decode cX9_far 115 = .ok (.aload_n 0, 1) := by decide +kernel
theorem dX9_far_116 : decode cX9_far 116 = .ok (.getfield 23, 3) := by decide +kernel
theorem dX9_far_119 : decode cX9_far 119 = .ok (.iload 5, 2) := by decide +kernel
theorem dX9_far_121 : decode cX9_far 121 = .ok (.iaload, 1) := by decide +kernel
theorem dX9_far_122 : decode cX9_far 122 = .ok (.i2l, 1) := by decide +kernel
theorem dX9_far_123 : decode cX9_far 123 = .ok (.ladd, 1) := by decide +kernel
theorem dX9_far_124 : decode cX9_far 124 = .ok (.invokevirtual 147, 3) := by decide +kernel
theorem dX9_far_127 : decode cX9_far 127 = .ok (.ifCond .eq 7, 3) := by decide +kernel
theorem dX9_far_130 : decode cX9_far 130 = .ok (.iconst 0, 1) := by decide +kernel
theorem dX9_far_131 : decode cX9_far 131 = .ok (.goto 4, 3) := by decide +kernel
theorem dX9_far_134 : decode cX9_far 134 = .ok (.iconst 1, 1) := by decide +kernel
theorem dX9_far_135 : decode cX9_far 135 = .ok (.iadd, 1) := by decide +kernel
theorem dX9_far_136 : decode cX9_far 136 = .ok (.istore_n 3, 1) := by decide +kernel
theorem dX9_far_137 : decode cX9_far 137 = .ok (.iinc 4 1, 3) := by decide +kernel
theorem dX9_far_140 : decode cX9_far 140 = .ok (.goto (-85), 3) := by decide +kernel
theorem dX9_far_143 : decode cX9_far 143 = .ok (.iload_n 3, 1) := by decide +kernel
theorem dX9_far_144 : decode cX9_far 144 = .ok (.ireturn, 1) := by decide +kernel
theorem dJ9_abs_067f4_0 : decode cJ9_abs_067f4 0 = .ok (.lload_n 0, 1) := by decide +kernel
theorem dJ9_abs_067f4_1 : decode cJ9_abs_067f4 1 = .ok (.lconst 0, 1) := by decide +kernel
theorem dJ9_abs_067f4_2 : decode cJ9_abs_067f4 2 = .ok (.lcmp, 1) := by decide +kernel
theorem dJ9_abs_067f4_3 : decode cJ9_abs_067f4 3 = .ok (.ifCond .ge 8, 3) := by decide +kernel
theorem dJ9_abs_067f4_6 : decode cJ9_abs_067f4 6 = .ok (.lload_n 0, 1) := by decide +kernel
theorem dJ9_abs_067f4_7 : decode cJ9_abs_067f4 7 = .ok (.lneg, 1) := by decide +kernel
theorem dJ9_abs_067f4_8 : decode cJ9_abs_067f4 8 = .ok (.goto 4, 3) := by decide +kernel
theorem dJ9_abs_067f4_11 : decode cJ9_abs_067f4 11 = .ok (.lload_n 0, 1) := by decide +kernel
theorem dJ9_abs_067f4_12 : decode cJ9_abs_067f4 12 = .ok (.lreturn, 1) := by decide +kernel
theorem dJ9_max_7cf53_0 : decode cJ9_max_7cf53 0 = .ok (.iload_n 0, 1) := by decide +kernel
theorem dJ9_max_7cf53_1 : decode cJ9_max_7cf53 1 = .ok (.iload_n 1, 1) := by decide +kernel
theorem dJ9_max_7cf53_2 : decode cJ9_max_7cf53 2 = .ok (.if_icmp .lt 7, 3) := by decide +kernel
theorem dJ9_max_7cf53_5 : decode cJ9_max_7cf53 5 = .ok (.iload_n 0, 1) := by decide +kernel
theorem dJ9_max_7cf53_6 : decode cJ9_max_7cf53 6 = .ok (.goto 4, 3) := by decide +kernel
theorem dJ9_max_7cf53_9 : decode cJ9_max_7cf53 9 = .ok (.iload_n 1, 1) := by decide +kernel
theorem dJ9_max_7cf53_10 : decode cJ9_max_7cf53 10 = .ok (.ireturn, 1) := by decide +kernel
theorem dJ9_min_7cf53_0 : decode cJ9_min_7cf53 0 = .ok (.iload_n 0, 1) := by decide +kernel
theorem dJ9_min_7cf53_1 : decode cJ9_min_7cf53 1 = .ok (.iload_n 1, 1) := by decide +kernel
theorem dJ9_min_7cf53_2 : decode cJ9_min_7cf53 2 = .ok (.if_icmp .gt 7, 3) := by decide +kernel
theorem dJ9_min_7cf53_5 : decode cJ9_min_7cf53 5 = .ok (.iload_n 0, 1) := by decide +kernel
theorem dJ9_min_7cf53_6 : decode cJ9_min_7cf53 6 = .ok (.goto 4, 3) := by decide +kernel
theorem dJ9_min_7cf53_9 : decode cJ9_min_7cf53 9 = .ok (.iload_n 1, 1) := by decide +kernel
theorem dJ9_min_7cf53_10 : decode cJ9_min_7cf53 10 = .ok (.ireturn, 1) := by decide +kernel
theorem dJ7_fill_53178_0 : decode cJ7_fill_53178 0 = .ok (.iconst 0, 1) := by decide +kernel
theorem dJ7_fill_53178_1 : decode cJ7_fill_53178 1 = .ok (.istore_n 2, 1) := by decide +kernel
theorem dJ7_fill_53178_2 : decode cJ7_fill_53178 2 = .ok (.aload_n 0, 1) := by decide +kernel
theorem dJ7_fill_53178_3 : decode cJ7_fill_53178 3 = .ok (.arraylength, 1) := by decide +kernel
theorem dJ7_fill_53178_4 : decode cJ7_fill_53178 4 = .ok (.istore_n 3, 1) := by decide +kernel
theorem dJ7_fill_53178_5 : decode cJ7_fill_53178 5 = .ok (.iload_n 2, 1) := by decide +kernel
theorem dJ7_fill_53178_6 : decode cJ7_fill_53178 6 = .ok (.iload_n 3, 1) := by decide +kernel
theorem dJ7_fill_53178_7 : decode cJ7_fill_53178 7 = .ok (.if_icmp .ge 13, 3) := by decide +kernel
theorem dJ7_fill_53178_10 : decode cJ7_fill_53178 10 = .ok (.aload_n 0, 1) := by decide +kernel
theorem dJ7_fill_53178_11 : decode cJ7_fill_53178 11 = .ok (.iload_n 2, 1) := by decide +kernel
theorem dJ7_fill_53178_12 : decode cJ7_fill_53178 12 = .ok (.iload_n 1, 1) := by decide +kernel
theorem dJ7_fill_53178_13 : decode cJ7_fill_53178 13 = .ok (.iastore, 1) := by decide +kernel
theorem dJ7_fill_53178_14 : decode cJ7_fill_53178 14 = .ok (.iinc 2 1, 3) := by decide +kernel
theorem dJ7_fill_53178_17 : decode cJ7_fill_53178 17 = .ok (.goto (-12), 3) := by decide +kernel
theorem dJ7_fill_53178_20 : decode cJ7_fill_53178 20 = .ok (.return_, 1) := by decide +kernel
theorem dJ7_copyOf_59c91_0 : decode cJ7_copyOf_59c91 0 = .ok (.iload_n 1, 1) := by decide +kernel
theorem dJ7_copyOf_59c91_1 : decode cJ7_copyOf_59c91 1 = .ok (.aload_n 0, 1) := by decide +kernel
theorem dJ7_copyOf_59c91_2 : decode cJ7_copyOf_59c91 2 = .ok (.arraylength, 1) := by decide +kernel
theorem dJ7_copyOf_59c91_3 : decode cJ7_copyOf_59c91 3 = .ok (.if_icmp .ne 11, 3) := by decide +kernel
theorem dJ7_copyOf_59c91_6 : decode cJ7_copyOf_59c91 6 = .ok (.aload_n 0, 1) := by decide +kernel
theorem dJ7_copyOf_59c91_7 : decode cJ7_copyOf_59c91 7 = .ok (.invokevirtual 316, 3) := by decide +kernel
theorem dJ7_copyOf_59c91_10 : decode cJ7_copyOf_59c91 10 = .ok (.checkcast 317, 3) := by decide +kernel
theorem dJ7_copyOf_59c91_13 : decode cJ7_copyOf_59c91 13 = .ok (.areturn, 1) := by decide +kernel
theorem dJ7_copyOf_59c91_14 : decode cJ7_copyOf_59c91 14 = .ok (.iload_n 1, 1) := by decide +kernel
theorem dJ7_copyOf_59c91_15 : decode cJ7_copyOf_59c91 15 = .ok (.newarray .int, 2) := by decide +kernel
theorem dJ7_copyOf_59c91_17 : decode cJ7_copyOf_59c91 17 = .ok (.astore_n 2, 1) := by decide +kernel
theorem dJ7_copyOf_59c91_18 : decode cJ7_copyOf_59c91 18 = .ok (.aload_n 0, 1) := by decide +kernel
theorem dJ7_copyOf_59c91_19 : decode cJ7_copyOf_59c91 19 = .ok (.iconst 0, 1) := by decide +kernel
theorem dJ7_copyOf_59c91_20 : decode cJ7_copyOf_59c91 20 = .ok (.aload_n 2, 1) := by decide +kernel
theorem dJ7_copyOf_59c91_21 : decode cJ7_copyOf_59c91 21 = .ok (.iconst 0, 1) := by decide +kernel
theorem dJ7_copyOf_59c91_22 : decode cJ7_copyOf_59c91 22 = .ok (.aload_n 0, 1) := by decide +kernel
theorem dJ7_copyOf_59c91_23 : decode cJ7_copyOf_59c91 23 = .ok (.arraylength, 1) := by decide +kernel
theorem dJ7_copyOf_59c91_24 : decode cJ7_copyOf_59c91 24 = .ok (.iload_n 1, 1) := by decide +kernel
theorem dJ7_copyOf_59c91_25 : decode cJ7_copyOf_59c91 25 = .ok (.invokestatic 304, 3) := by decide +kernel
theorem dJ7_copyOf_59c91_28 : decode cJ7_copyOf_59c91 28 = .ok (.invokestatic 150, 3) := by decide +kernel
theorem dJ7_copyOf_59c91_31 : decode cJ7_copyOf_59c91 31 = .ok (.aload_n 2, 1) := by decide +kernel
theorem dJ7_copyOf_59c91_32 : decode cJ7_copyOf_59c91 32 = .ok (.areturn, 1) := by decide +kernel
theorem dJ7_copyOf_c38d5_0 : decode cJ7_copyOf_c38d5 0 = .ok (.iload_n 1, 1) := by decide +kernel
theorem dJ7_copyOf_c38d5_1 : decode cJ7_copyOf_c38d5 1 = .ok (.aload_n 0, 1) := by decide +kernel
theorem dJ7_copyOf_c38d5_2 : decode cJ7_copyOf_c38d5 2 = .ok (.arraylength, 1) := by decide +kernel
theorem dJ7_copyOf_c38d5_3 : decode cJ7_copyOf_c38d5 3 = .ok (.if_icmp .ne 11, 3) := by decide +kernel
theorem dJ7_copyOf_c38d5_6 : decode cJ7_copyOf_c38d5 6 = .ok (.aload_n 0, 1) := by decide +kernel
theorem dJ7_copyOf_c38d5_7 : decode cJ7_copyOf_c38d5 7 = .ok (.invokevirtual 319, 3) := by decide +kernel
theorem dJ7_copyOf_c38d5_10 : decode cJ7_copyOf_c38d5 10 = .ok (.checkcast 320, 3) := by decide +kernel
theorem dJ7_copyOf_c38d5_13 : decode cJ7_copyOf_c38d5 13 = .ok (.areturn, 1) := by decide +kernel
theorem dJ7_copyOf_c38d5_14 : decode cJ7_copyOf_c38d5 14 = .ok (.iload_n 1, 1) := by decide +kernel
theorem dJ7_copyOf_c38d5_15 : decode cJ7_copyOf_c38d5 15 = .ok (.newarray .long, 2) := by decide +kernel
theorem dJ7_copyOf_c38d5_17 : decode cJ7_copyOf_c38d5 17 = .ok (.astore_n 2, 1) := by decide +kernel
theorem dJ7_copyOf_c38d5_18 : decode cJ7_copyOf_c38d5 18 = .ok (.aload_n 0, 1) := by decide +kernel
theorem dJ7_copyOf_c38d5_19 : decode cJ7_copyOf_c38d5 19 = .ok (.iconst 0, 1) := by decide +kernel
theorem dJ7_copyOf_c38d5_20 : decode cJ7_copyOf_c38d5 20 = .ok (.aload_n 2, 1) := by decide +kernel
theorem dJ7_copyOf_c38d5_21 : decode cJ7_copyOf_c38d5 21 = .ok (.iconst 0, 1) := by decide +kernel
theorem dJ7_copyOf_c38d5_22 : decode cJ7_copyOf_c38d5 22 = .ok (.aload_n 0, 1) := by decide +kernel
theorem dJ7_copyOf_c38d5_23 : decode cJ7_copyOf_c38d5 23 = .ok (.arraylength, 1) := by decide +kernel
theorem dJ7_copyOf_c38d5_24 : decode cJ7_copyOf_c38d5 24 = .ok (.iload_n 1, 1) := by decide +kernel
theorem dJ7_copyOf_c38d5_25 : decode cJ7_copyOf_c38d5 25 = .ok (.invokestatic 304, 3) := by decide +kernel
theorem dJ7_copyOf_c38d5_28 : decode cJ7_copyOf_c38d5 28 = .ok (.invokestatic 150, 3) := by decide +kernel
theorem dJ7_copyOf_c38d5_31 : decode cJ7_copyOf_c38d5 31 = .ok (.aload_n 2, 1) := by decide +kernel
theorem dJ7_copyOf_c38d5_32 : decode cJ7_copyOf_c38d5 32 = .ok (.areturn, 1) := by decide +kernel
theorem dL_law_0 : decode cL_law 0 = .ok (.new 7, 3) := by decide +kernel
theorem dL_law_3 : decode cL_law 3 = .ok (.dup, 1) := by decide +kernel
theorem dL_law_4 : decode cL_law 4 = .ok (.invokespecial 9, 3) := by decide +kernel
theorem dL_law_7 : decode cL_law 7 = .ok (.astore_n 1, 1) := by decide +kernel
theorem dL_law_8 : decode cL_law 8 = .ok (.new 10, 3) := by decide +kernel
theorem dL_law_11 : decode cL_law 11 = .ok (.dup, 1) := by decide +kernel
theorem dL_law_12 : decode cL_law 12 = .ok (.invokespecial 12, 3) := by decide +kernel
theorem dL_law_15 : decode cL_law 15 = .ok (.astore_n 2, 1) := by decide +kernel
theorem dL_law_16 : decode cL_law 16 = .ok (.iconst 0, 1) := by decide +kernel
theorem dL_law_17 : decode cL_law 17 = .ok (.istore_n 3, 1) := by decide +kernel
theorem dL_law_18 : decode cL_law 18 = .ok (.iload_n 3, 1) := by decide +kernel
theorem dL_law_19 : decode cL_law 19 = .ok (.aload_n 0, 1) := by decide +kernel
theorem dL_law_20 : decode cL_law 20 = .ok (.arraylength, 1) := by decide +kernel
theorem dL_law_21 : decode cL_law 21 = .ok (.iconst 5, 1) := by decide +kernel
theorem dL_law_22 : decode cL_law 22 = .ok (.isub, 1) := by decide +kernel
theorem dL_law_23 : decode cL_law 23 = .ok (.if_icmp .gt 678, 3) := by decide +kernel
theorem dL_law_26 : decode cL_law 26 = .ok (.aload_n 0, 1) := by decide +kernel
theorem dL_law_27 : decode cL_law 27 = .ok (.iload_n 3, 1) := by decide +kernel
theorem dL_law_28 : decode cL_law 28 = .ok (.iaload, 1) := by decide +kernel
theorem dL_law_29 : decode cL_law 29 = .ok (.bipush 31, 2) := by decide +kernel
theorem dL_law_31 : decode cL_law 31 = .ok (.iand, 1) := by decide +kernel
theorem dL_law_32 : decode cL_law 32 = .ok (.tableswitch 663 0 16 #[84, 143, 176, 219, 272, 315, 338, 371, 404, 417, 440, 474, 507, 540, 573, 626, 650], 84) := by decide +kernel
theorem dL_law_116 : decode cL_law 116 = .ok (.aload_n 1, 1) := by decide +kernel
theorem dL_law_117 : decode cL_law 117 = .ok (.aload_n 0, 1) := by decide +kernel
theorem dL_law_118 : decode cL_law 118 = .ok (.iload_n 3, 1) := by decide +kernel
theorem dL_law_119 : decode cL_law 119 = .ok (.iconst 1, 1) := by decide +kernel
theorem dL_law_120 : decode cL_law 120 = .ok (.iadd, 1) := by decide +kernel
theorem dL_law_121 : decode cL_law 121 = .ok (.iaload, 1) := by decide +kernel
theorem dL_law_122 : decode cL_law 122 = .ok (.aload_n 0, 1) := by decide +kernel
theorem dL_law_123 : decode cL_law 123 = .ok (.iload_n 3, 1) := by decide +kernel
theorem dL_law_124 : decode cL_law 124 = .ok (.iconst 2, 1) := by decide +kernel
theorem dL_law_125 : decode cL_law 125 = .ok (.iadd, 1) := by decide +kernel
theorem dL_law_126 : decode cL_law 126 = .ok (.iaload, 1) := by decide +kernel
theorem dL_law_127 : decode cL_law 127 = .ok (.aload_n 0, 1) := by decide +kernel
theorem dL_law_128 : decode cL_law 128 = .ok (.iload_n 3, 1) := by decide +kernel
theorem dL_law_129 : decode cL_law 129 = .ok (.iconst 3, 1) := by decide +kernel
theorem dL_law_130 : decode cL_law 130 = .ok (.iadd, 1) := by decide +kernel
theorem dL_law_131 : decode cL_law 131 = .ok (.iaload, 1) := by decide +kernel
theorem dL_law_132 : decode cL_law 132 = .ok (.ifCond .eq 7, 3) := by decide +kernel
theorem dL_law_135 : decode cL_law 135 = .ok (.iconst 1, 1) := by decide +kernel
theorem dL_law_136 : decode cL_law 136 = .ok (.goto 4, 3) := by decide +kernel
theorem dL_law_139 : decode cL_law 139 = .ok (.iconst 0, 1) := by decide +kernel
theorem dL_law_140 : decode cL_law 140 = .ok (.invokevirtual 13, 3) := by decide +kernel
theorem dL_law_143 : decode cL_law 143 = .ok (.aload_n 2, 1) := by decide +kernel
theorem dL_law_144 : decode cL_law 144 = .ok (.aload_n 0, 1) := by decide +kernel
theorem dL_law_145 : decode cL_law 145 = .ok (.iload_n 3, 1) := by decide +kernel
theorem dL_law_146 : decode cL_law 146 = .ok (.iconst 1, 1) := by decide +kernel
theorem dL_law_147 : decode cL_law 147 = .ok (.iadd, 1) := by decide +kernel
theorem dL_law_148 : decode cL_law 148 = .ok (.iaload, 1) := by decide +kernel
theorem dL_law_149 : decode cL_law 149 = .ok (.aload_n 0, 1) := by decide +kernel
theorem dL_law_150 : decode cL_law 150 = .ok (.iload_n 3, 1) := by decide +kernel
theorem dL_law_151 : decode cL_law 151 = .ok (.iconst 2, 1) := by decide +kernel
theorem dL_law_152 : decode cL_law 152 = .ok (.iadd, 1) := by decide +kernel
theorem dL_law_153 : decode cL_law 153 = .ok (.iaload, 1) := by decide +kernel
theorem dL_law_154 : decode cL_law 154 = .ok (.aload_n 0, 1) := by decide +kernel
theorem dL_law_155 : decode cL_law 155 = .ok (.iload_n 3, 1) := by decide +kernel
theorem dL_law_156 : decode cL_law 156 = .ok (.iconst 3, 1) := by decide +kernel
theorem dL_law_157 : decode cL_law 157 = .ok (.iadd, 1) := by decide +kernel
theorem dL_law_158 : decode cL_law 158 = .ok (.iaload, 1) := by decide +kernel
theorem dL_law_159 : decode cL_law 159 = .ok (.ifCond .eq 7, 3) := by decide +kernel
theorem dL_law_162 : decode cL_law 162 = .ok (.iconst 1, 1) := by decide +kernel
theorem dL_law_163 : decode cL_law 163 = .ok (.goto 4, 3) := by decide +kernel
theorem dL_law_166 : decode cL_law 166 = .ok (.iconst 0, 1) := by decide +kernel
theorem dL_law_167 : decode cL_law 167 = .ok (.invokevirtual 17, 3) := by decide +kernel
theorem dL_law_170 : decode cL_law 170 = .ok (.if_icmp .eq 525, 3) := by decide +kernel
theorem dL_law_173 : decode cL_law 173 = .ok (.iconst 0, 1) := by decide +kernel
theorem dL_law_174 : decode cL_law 174 = .ok (.ireturn, 1) := by decide +kernel
theorem dL_law_175 : decode cL_law 175 = .ok (.aload_n 1, 1) := by decide +kernel
theorem dL_law_176 : decode cL_law 176 = .ok (.aload_n 0, 1) := by decide +kernel
theorem dL_law_177 : decode cL_law 177 = .ok (.iload_n 3, 1) := by decide +kernel
theorem dL_law_178 : decode cL_law 178 = .ok (.iconst 1, 1) := by decide +kernel
theorem dL_law_179 : decode cL_law 179 = .ok (.iadd, 1) := by decide +kernel
theorem dL_law_180 : decode cL_law 180 = .ok (.iaload, 1) := by decide +kernel
theorem dL_law_181 : decode cL_law 181 = .ok (.aload_n 0, 1) := by decide +kernel
theorem dL_law_182 : decode cL_law 182 = .ok (.iload_n 3, 1) := by decide +kernel
theorem dL_law_183 : decode cL_law 183 = .ok (.iconst 2, 1) := by decide +kernel
theorem dL_law_184 : decode cL_law 184 = .ok (.iadd, 1) := by decide +kernel
theorem dL_law_185 : decode cL_law 185 = .ok (.iaload, 1) := by decide +kernel
theorem dL_law_186 : decode cL_law 186 = .ok (.invokevirtual 18, 3) := by decide +kernel
theorem dL_law_189 : decode cL_law 189 = .ok (.aload_n 2, 1) := by decide +kernel
theorem dL_law_190 : decode cL_law 190 = .ok (.aload_n 0, 1) := by decide +kernel
theorem dL_law_191 : decode cL_law 191 = .ok (.iload_n 3, 1) := by decide +kernel
theorem dL_law_192 : decode cL_law 192 = .ok (.iconst 1, 1) := by decide +kernel
theorem dL_law_193 : decode cL_law 193 = .ok (.iadd, 1) := by decide +kernel
theorem dL_law_194 : decode cL_law 194 = .ok (.iaload, 1) := by decide +kernel
theorem dL_law_195 : decode cL_law 195 = .ok (.aload_n 0, 1) := by decide +kernel
theorem dL_law_196 : decode cL_law 196 = .ok (.iload_n 3, 1) := by decide +kernel
theorem dL_law_197 : decode cL_law 197 = .ok (.iconst 2, 1) := by decide +kernel
theorem dL_law_198 : decode cL_law 198 = .ok (.iadd, 1) := by decide +kernel
theorem dL_law_199 : decode cL_law 199 = .ok (.iaload, 1) := by decide +kernel
theorem dL_law_200 : decode cL_law 200 = .ok (.invokevirtual 22, 3) := by decide +kernel
theorem dL_law_203 : decode cL_law 203 = .ok (.if_icmp .eq 492, 3) := by decide +kernel
theorem dL_law_206 : decode cL_law 206 = .ok (.iconst 0, 1) := by decide +kernel
theorem dL_law_207 : decode cL_law 207 = .ok (.ireturn, 1) := by decide +kernel
theorem dL_law_208 : decode cL_law 208 = .ok (.aload_n 1, 1) := by decide +kernel
theorem dL_law_209 : decode cL_law 209 = .ok (.aload_n 0, 1) := by decide +kernel
theorem dL_law_210 : decode cL_law 210 = .ok (.iload_n 3, 1) := by decide +kernel
theorem dL_law_211 : decode cL_law 211 = .ok (.iconst 1, 1) := by decide +kernel
theorem dL_law_212 : decode cL_law 212 = .ok (.iadd, 1) := by decide +kernel
theorem dL_law_213 : decode cL_law 213 = .ok (.iaload, 1) := by decide +kernel
theorem dL_law_214 : decode cL_law 214 = .ok (.aload_n 0, 1) := by decide +kernel
theorem dL_law_215 : decode cL_law 215 = .ok (.iload_n 3, 1) := by decide +kernel
theorem dL_law_216 : decode cL_law 216 = .ok (.iconst 2, 1) := by decide +kernel
theorem dL_law_217 : decode cL_law 217 = .ok (.iadd, 1) := by decide +kernel
theorem dL_law_218 : decode cL_law 218 = .ok (.iaload, 1) := by decide +kernel
theorem dL_law_219 : decode cL_law 219 = .ok (.aload_n 0, 1) := by decide +kernel
theorem dL_law_220 : decode cL_law 220 = .ok (.iload_n 3, 1) := by decide +kernel
theorem dL_law_221 : decode cL_law 221 = .ok (.iconst 3, 1) := by decide +kernel
theorem dL_law_222 : decode cL_law 222 = .ok (.iadd, 1) := by decide +kernel
theorem dL_law_223 : decode cL_law 223 = .ok (.iaload, 1) := by decide +kernel
theorem dL_law_224 : decode cL_law 224 = .ok (.invokevirtual 23, 3) := by decide +kernel
theorem dL_law_227 : decode cL_law 227 = .ok (.aload_n 2, 1) := by decide +kernel
theorem dL_law_228 : decode cL_law 228 = .ok (.aload_n 0, 1) := by decide +kernel
theorem dL_law_229 : decode cL_law 229 = .ok (.iload_n 3, 1) := by decide +kernel
theorem dL_law_230 : decode cL_law 230 = .ok (.iconst 1, 1) := by decide +kernel
theorem dL_law_231 : decode cL_law 231 = .ok (.iadd, 1) := by decide +kernel
theorem dL_law_232 : decode cL_law 232 = .ok (.iaload, 1) := by decide +kernel
theorem dL_law_233 : decode cL_law 233 = .ok (.aload_n 0, 1) := by decide +kernel
theorem dL_law_234 : decode cL_law 234 = .ok (.iload_n 3, 1) := by decide +kernel
theorem dL_law_235 : decode cL_law 235 = .ok (.iconst 2, 1) := by decide +kernel
theorem dL_law_236 : decode cL_law 236 = .ok (.iadd, 1) := by decide +kernel
theorem dL_law_237 : decode cL_law 237 = .ok (.iaload, 1) := by decide +kernel
theorem dL_law_238 : decode cL_law 238 = .ok (.aload_n 0, 1) := by decide +kernel
theorem dL_law_239 : decode cL_law 239 = .ok (.iload_n 3, 1) := by decide +kernel
theorem dL_law_240 : decode cL_law 240 = .ok (.iconst 3, 1) := by decide +kernel
theorem dL_law_241 : decode cL_law 241 = .ok (.iadd, 1) := by decide +kernel
theorem dL_law_242 : decode cL_law 242 = .ok (.iaload, 1) := by decide +kernel
theorem dL_law_243 : decode cL_law 243 = .ok (.invokevirtual 27, 3) := by decide +kernel
theorem dL_law_246 : decode cL_law 246 = .ok (.if_icmp .eq 449, 3) := by decide +kernel
theorem dL_law_249 : decode cL_law 249 = .ok (.iconst 0, 1) := by decide +kernel
theorem dL_law_250 : decode cL_law 250 = .ok (.ireturn, 1) := by decide +kernel
theorem dL_law_251 : decode cL_law 251 = .ok (.aload_n 1, 1) := by decide +kernel
theorem dL_law_252 : decode cL_law 252 = .ok (.aload_n 0, 1) := by decide +kernel
theorem dL_law_253 : decode cL_law 253 = .ok (.iload_n 3, 1) := by decide +kernel
theorem dL_law_254 : decode cL_law 254 = .ok (.iconst 1, 1) := by decide +kernel
theorem dL_law_255 : decode cL_law 255 = .ok (.iadd, 1) := by decide +kernel
theorem dL_law_256 : decode cL_law 256 = .ok (.iaload, 1) := by decide +kernel
theorem dL_law_257 : decode cL_law 257 = .ok (.aload_n 0, 1) := by decide +kernel
theorem dL_law_258 : decode cL_law 258 = .ok (.iload_n 3, 1) := by decide +kernel
theorem dL_law_259 : decode cL_law 259 = .ok (.iconst 2, 1) := by decide +kernel
theorem dL_law_260 : decode cL_law 260 = .ok (.iadd, 1) := by decide +kernel
theorem dL_law_261 : decode cL_law 261 = .ok (.iaload, 1) := by decide +kernel
theorem dL_law_262 : decode cL_law 262 = .ok (.aload_n 0, 1) := by decide +kernel
theorem dL_law_263 : decode cL_law 263 = .ok (.iload_n 3, 1) := by decide +kernel
theorem dL_law_264 : decode cL_law 264 = .ok (.iconst 3, 1) := by decide +kernel
theorem dL_law_265 : decode cL_law 265 = .ok (.iadd, 1) := by decide +kernel
theorem dL_law_266 : decode cL_law 266 = .ok (.iaload, 1) := by decide +kernel
theorem dL_law_267 : decode cL_law 267 = .ok (.aload_n 0, 1) := by decide +kernel
theorem dL_law_268 : decode cL_law 268 = .ok (.iload_n 3, 1) := by decide +kernel
theorem dL_law_269 : decode cL_law 269 = .ok (.iconst 4, 1) := by decide +kernel
theorem dL_law_270 : decode cL_law 270 = .ok (.iadd, 1) := by decide +kernel
theorem dL_law_271 : decode cL_law 271 = .ok (.iaload, 1) := by decide +kernel
theorem dL_law_272 : decode cL_law 272 = .ok (.invokevirtual 28, 3) := by decide +kernel
theorem dL_law_275 : decode cL_law 275 = .ok (.aload_n 2, 1) := by decide +kernel
theorem dL_law_276 : decode cL_law 276 = .ok (.aload_n 0, 1) := by decide +kernel
theorem dL_law_277 : decode cL_law 277 = .ok (.iload_n 3, 1) := by decide +kernel
theorem dL_law_278 : decode cL_law 278 = .ok (.iconst 1, 1) := by decide +kernel
theorem dL_law_279 : decode cL_law 279 = .ok (.iadd, 1) := by decide +kernel
theorem dL_law_280 : decode cL_law 280 = .ok (.iaload, 1) := by decide +kernel
theorem dL_law_281 : decode cL_law 281 = .ok (.aload_n 0, 1) := by decide +kernel
theorem dL_law_282 : decode cL_law 282 = .ok (.iload_n 3, 1) := by decide +kernel
theorem dL_law_283 : decode cL_law 283 = .ok (.iconst 2, 1) := by decide +kernel
theorem dL_law_284 : decode cL_law 284 = .ok (.iadd, 1) := by decide +kernel
theorem dL_law_285 : decode cL_law 285 = .ok (.iaload, 1) := by decide +kernel
theorem dL_law_286 : decode cL_law 286 = .ok (.aload_n 0, 1) := by decide +kernel
theorem dL_law_287 : decode cL_law 287 = .ok (.iload_n 3, 1) := by decide +kernel
theorem dL_law_288 : decode cL_law 288 = .ok (.iconst 3, 1) := by decide +kernel
theorem dL_law_289 : decode cL_law 289 = .ok (.iadd, 1) := by decide +kernel
theorem dL_law_290 : decode cL_law 290 = .ok (.iaload, 1) := by decide +kernel
theorem dL_law_291 : decode cL_law 291 = .ok (.aload_n 0, 1) := by decide +kernel
theorem dL_law_292 : decode cL_law 292 = .ok (.iload_n 3, 1) := by decide +kernel
theorem dL_law_293 : decode cL_law 293 = .ok (.iconst 4, 1) := by decide +kernel
theorem dL_law_294 : decode cL_law 294 = .ok (.iadd, 1) := by decide +kernel
theorem dL_law_295 : decode cL_law 295 = .ok (.iaload, 1) := by decide +kernel
theorem dL_law_296 : decode cL_law 296 = .ok (.invokevirtual 32, 3) := by decide +kernel
theorem dL_law_299 : decode cL_law 299 = .ok (.if_icmp .eq 396, 3) := by decide +kernel
theorem dL_law_302 : decode cL_law 302 = .ok (.iconst 0, 1) := by decide +kernel
theorem dL_law_303 : decode cL_law 303 = .ok (.ireturn, 1) := by decide +kernel
theorem dL_law_304 : decode cL_law 304 = .ok (.aload_n 1, 1) := by decide +kernel
theorem dL_law_305 : decode cL_law 305 = .ok (.aload_n 0, 1) := by decide +kernel
theorem dL_law_306 : decode cL_law 306 = .ok (.iload_n 3, 1) := by decide +kernel
theorem dL_law_307 : decode cL_law 307 = .ok (.iconst 1, 1) := by decide +kernel
theorem dL_law_308 : decode cL_law 308 = .ok (.iadd, 1) := by decide +kernel
theorem dL_law_309 : decode cL_law 309 = .ok (.iaload, 1) := by decide +kernel
theorem dL_law_310 : decode cL_law 310 = .ok (.aload_n 0, 1) := by decide +kernel
theorem dL_law_311 : decode cL_law 311 = .ok (.iload_n 3, 1) := by decide +kernel
theorem dL_law_312 : decode cL_law 312 = .ok (.iconst 2, 1) := by decide +kernel
theorem dL_law_313 : decode cL_law 313 = .ok (.iadd, 1) := by decide +kernel
theorem dL_law_314 : decode cL_law 314 = .ok (.iaload, 1) := by decide +kernel
theorem dL_law_315 : decode cL_law 315 = .ok (.aload_n 0, 1) := by decide +kernel
theorem dL_law_316 : decode cL_law 316 = .ok (.iload_n 3, 1) := by decide +kernel
theorem dL_law_317 : decode cL_law 317 = .ok (.iconst 3, 1) := by decide +kernel
theorem dL_law_318 : decode cL_law 318 = .ok (.iadd, 1) := by decide +kernel
theorem dL_law_319 : decode cL_law 319 = .ok (.iaload, 1) := by decide +kernel
theorem dL_law_320 : decode cL_law 320 = .ok (.invokevirtual 33, 3) := by decide +kernel
theorem dL_law_323 : decode cL_law 323 = .ok (.aload_n 2, 1) := by decide +kernel
theorem dL_law_324 : decode cL_law 324 = .ok (.aload_n 0, 1) := by decide +kernel
theorem dL_law_325 : decode cL_law 325 = .ok (.iload_n 3, 1) := by decide +kernel
theorem dL_law_326 : decode cL_law 326 = .ok (.iconst 1, 1) := by decide +kernel
theorem dL_law_327 : decode cL_law 327 = .ok (.iadd, 1) := by decide +kernel
theorem dL_law_328 : decode cL_law 328 = .ok (.iaload, 1) := by decide +kernel
theorem dL_law_329 : decode cL_law 329 = .ok (.aload_n 0, 1) := by decide +kernel
theorem dL_law_330 : decode cL_law 330 = .ok (.iload_n 3, 1) := by decide +kernel
theorem dL_law_331 : decode cL_law 331 = .ok (.iconst 2, 1) := by decide +kernel
theorem dL_law_332 : decode cL_law 332 = .ok (.iadd, 1) := by decide +kernel
theorem dL_law_333 : decode cL_law 333 = .ok (.iaload, 1) := by decide +kernel
theorem dL_law_334 : decode cL_law 334 = .ok (.aload_n 0, 1) := by decide +kernel
theorem dL_law_335 : decode cL_law 335 = .ok (.iload_n 3, 1) := by decide +kernel
theorem dL_law_336 : decode cL_law 336 = .ok (.iconst 3, 1) := by decide +kernel
theorem dL_law_337 : decode cL_law 337 = .ok (.iadd, 1) := by decide +kernel
theorem dL_law_338 : decode cL_law 338 = .ok (.iaload, 1) := by decide +kernel
theorem dL_law_339 : decode cL_law 339 = .ok (.invokevirtual 36, 3) := by decide +kernel
theorem dL_law_342 : decode cL_law 342 = .ok (.if_icmp .eq 353, 3) := by decide +kernel
theorem dL_law_345 : decode cL_law 345 = .ok (.iconst 0, 1) := by decide +kernel
theorem dL_law_346 : decode cL_law 346 = .ok (.ireturn, 1) := by decide +kernel
theorem dL_law_347 : decode cL_law 347 = .ok (.aload_n 1, 1) := by decide +kernel
theorem dL_law_348 : decode cL_law 348 = .ok (.aload_n 0, 1) := by decide +kernel
theorem dL_law_349 : decode cL_law 349 = .ok (.iload_n 3, 1) := by decide +kernel
theorem dL_law_350 : decode cL_law 350 = .ok (.iconst 1, 1) := by decide +kernel
theorem dL_law_351 : decode cL_law 351 = .ok (.iadd, 1) := by decide +kernel
theorem dL_law_352 : decode cL_law 352 = .ok (.iaload, 1) := by decide +kernel
theorem dL_law_353 : decode cL_law 353 = .ok (.invokevirtual 37, 3) := by decide +kernel
theorem dL_law_356 : decode cL_law 356 = .ok (.aload_n 2, 1) := by decide +kernel
theorem dL_law_357 : decode cL_law 357 = .ok (.aload_n 0, 1) := by decide +kernel
theorem dL_law_358 : decode cL_law 358 = .ok (.iload_n 3, 1) := by decide +kernel
theorem dL_law_359 : decode cL_law 359 = .ok (.iconst 1, 1) := by decide +kernel
theorem dL_law_360 : decode cL_law 360 = .ok (.iadd, 1) := by decide +kernel
theorem dL_law_361 : decode cL_law 361 = .ok (.iaload, 1) := by decide +kernel
theorem dL_law_362 : decode cL_law 362 = .ok (.invokevirtual 41, 3) := by decide +kernel
theorem dL_law_365 : decode cL_law 365 = .ok (.if_icmp .eq 330, 3) := by decide +kernel
theorem dL_law_368 : decode cL_law 368 = .ok (.iconst 0, 1) := by decide +kernel
theorem dL_law_369 : decode cL_law 369 = .ok (.ireturn, 1) := by decide +kernel
theorem dL_law_370 : decode cL_law 370 = .ok (.aload_n 1, 1) := by decide +kernel
theorem dL_law_371 : decode cL_law 371 = .ok (.aload_n 0, 1) := by decide +kernel
theorem dL_law_372 : decode cL_law 372 = .ok (.iload_n 3, 1) := by decide +kernel
theorem dL_law_373 : decode cL_law 373 = .ok (.iconst 1, 1) := by decide +kernel
theorem dL_law_374 : decode cL_law 374 = .ok (.iadd, 1) := by decide +kernel
theorem dL_law_375 : decode cL_law 375 = .ok (.iaload, 1) := by decide +kernel
theorem dL_law_376 : decode cL_law 376 = .ok (.aload_n 0, 1) := by decide +kernel
theorem dL_law_377 : decode cL_law 377 = .ok (.iload_n 3, 1) := by decide +kernel
theorem dL_law_378 : decode cL_law 378 = .ok (.iconst 2, 1) := by decide +kernel
theorem dL_law_379 : decode cL_law 379 = .ok (.iadd, 1) := by decide +kernel
theorem dL_law_380 : decode cL_law 380 = .ok (.iaload, 1) := by decide +kernel
theorem dL_law_381 : decode cL_law 381 = .ok (.invokevirtual 42, 3) := by decide +kernel
theorem dL_law_384 : decode cL_law 384 = .ok (.aload_n 2, 1) := by decide +kernel
theorem dL_law_385 : decode cL_law 385 = .ok (.aload_n 0, 1) := by decide +kernel
theorem dL_law_386 : decode cL_law 386 = .ok (.iload_n 3, 1) := by decide +kernel
theorem dL_law_387 : decode cL_law 387 = .ok (.iconst 1, 1) := by decide +kernel
theorem dL_law_388 : decode cL_law 388 = .ok (.iadd, 1) := by decide +kernel
theorem dL_law_389 : decode cL_law 389 = .ok (.iaload, 1) := by decide +kernel
theorem dL_law_390 : decode cL_law 390 = .ok (.aload_n 0, 1) := by decide +kernel
theorem dL_law_391 : decode cL_law 391 = .ok (.iload_n 3, 1) := by decide +kernel
theorem dL_law_392 : decode cL_law 392 = .ok (.iconst 2, 1) := by decide +kernel
theorem dL_law_393 : decode cL_law 393 = .ok (.iadd, 1) := by decide +kernel
theorem dL_law_394 : decode cL_law 394 = .ok (.iaload, 1) := by decide +kernel
theorem dL_law_395 : decode cL_law 395 = .ok (.invokevirtual 46, 3) := by decide +kernel
theorem dL_law_398 : decode cL_law 398 = .ok (.if_icmp .eq 297, 3) := by decide +kernel
theorem dL_law_401 : decode cL_law 401 = .ok (.iconst 0, 1) := by decide +kernel
theorem dL_law_402 : decode cL_law 402 = .ok (.ireturn, 1) := by decide +kernel
theorem dL_law_403 : decode cL_law 403 = .ok (.aload_n 1, 1) := by decide +kernel
theorem dL_law_404 : decode cL_law 404 = .ok (.aload_n 0, 1) := by decide +kernel
theorem dL_law_405 : decode cL_law 405 = .ok (.iload_n 3, 1) := by decide +kernel
theorem dL_law_406 : decode cL_law 406 = .ok (.iconst 1, 1) := by decide +kernel
theorem dL_law_407 : decode cL_law 407 = .ok (.iadd, 1) := by decide +kernel
theorem dL_law_408 : decode cL_law 408 = .ok (.iaload, 1) := by decide +kernel
theorem dL_law_409 : decode cL_law 409 = .ok (.aload_n 0, 1) := by decide +kernel
theorem dL_law_410 : decode cL_law 410 = .ok (.iload_n 3, 1) := by decide +kernel
theorem dL_law_411 : decode cL_law 411 = .ok (.iconst 2, 1) := by decide +kernel
theorem dL_law_412 : decode cL_law 412 = .ok (.iadd, 1) := by decide +kernel
theorem dL_law_413 : decode cL_law 413 = .ok (.iaload, 1) := by decide +kernel
theorem dL_law_414 : decode cL_law 414 = .ok (.invokevirtual 47, 3) := by decide +kernel
theorem dL_law_417 : decode cL_law 417 = .ok (.aload_n 2, 1) := by decide +kernel
theorem dL_law_418 : decode cL_law 418 = .ok (.aload_n 0, 1) := by decide +kernel
theorem dL_law_419 : decode cL_law 419 = .ok (.iload_n 3, 1) := by decide +kernel
theorem dL_law_420 : decode cL_law 420 = .ok (.iconst 1, 1) := by decide +kernel
theorem dL_law_421 : decode cL_law 421 = .ok (.iadd, 1) := by decide +kernel
theorem dL_law_422 : decode cL_law 422 = .ok (.iaload, 1) := by decide +kernel
theorem dL_law_423 : decode cL_law 423 = .ok (.aload_n 0, 1) := by decide +kernel
theorem dL_law_424 : decode cL_law 424 = .ok (.iload_n 3, 1) := by decide +kernel
theorem dL_law_425 : decode cL_law 425 = .ok (.iconst 2, 1) := by decide +kernel
theorem dL_law_426 : decode cL_law 426 = .ok (.iadd, 1) := by decide +kernel
theorem dL_law_427 : decode cL_law 427 = .ok (.iaload, 1) := by decide +kernel
theorem dL_law_428 : decode cL_law 428 = .ok (.invokevirtual 50, 3) := by decide +kernel
theorem dL_law_431 : decode cL_law 431 = .ok (.if_icmp .eq 264, 3) := by decide +kernel
theorem dL_law_434 : decode cL_law 434 = .ok (.iconst 0, 1) := by decide +kernel
theorem dL_law_435 : decode cL_law 435 = .ok (.ireturn, 1) := by decide +kernel
theorem dL_law_436 : decode cL_law 436 = .ok (.aload_n 1, 1) := by decide +kernel
theorem dL_law_437 : decode cL_law 437 = .ok (.invokevirtual 51, 3) := by decide +kernel
theorem dL_law_440 : decode cL_law 440 = .ok (.aload_n 2, 1) := by decide +kernel
theorem dL_law_441 : decode cL_law 441 = .ok (.invokevirtual 55, 3) := by decide +kernel
theorem dL_law_444 : decode cL_law 444 = .ok (.if_icmp .eq 251, 3) := by decide +kernel
theorem dL_law_447 : decode cL_law 447 = .ok (.iconst 0, 1) := by decide +kernel
theorem dL_law_448 : decode cL_law 448 = .ok (.ireturn, 1) := by decide +kernel
theorem dL_law_449 : decode cL_law 449 = .ok (.aload_n 1, 1) := by decide +kernel
theorem dL_law_450 : decode cL_law 450 = .ok (.aload_n 0, 1) := by decide +kernel
theorem dL_law_451 : decode cL_law 451 = .ok (.iload_n 3, 1) := by decide +kernel
theorem dL_law_452 : decode cL_law 452 = .ok (.iconst 1, 1) := by decide +kernel
theorem dL_law_453 : decode cL_law 453 = .ok (.iadd, 1) := by decide +kernel
theorem dL_law_454 : decode cL_law 454 = .ok (.iaload, 1) := by decide +kernel
theorem dL_law_455 : decode cL_law 455 = .ok (.invokevirtual 56, 3) := by decide +kernel
theorem dL_law_458 : decode cL_law 458 = .ok (.aload_n 2, 1) := by decide +kernel
theorem dL_law_459 : decode cL_law 459 = .ok (.aload_n 0, 1) := by decide +kernel
theorem dL_law_460 : decode cL_law 460 = .ok (.iload_n 3, 1) := by decide +kernel
theorem dL_law_461 : decode cL_law 461 = .ok (.iconst 1, 1) := by decide +kernel
theorem dL_law_462 : decode cL_law 462 = .ok (.iadd, 1) := by decide +kernel
theorem dL_law_463 : decode cL_law 463 = .ok (.iaload, 1) := by decide +kernel
theorem dL_law_464 : decode cL_law 464 = .ok (.invokevirtual 60, 3) := by decide +kernel
theorem dL_law_467 : decode cL_law 467 = .ok (.if_icmp .eq 228, 3) := by decide +kernel
theorem dL_law_470 : decode cL_law 470 = .ok (.iconst 0, 1) := by decide +kernel
theorem dL_law_471 : decode cL_law 471 = .ok (.ireturn, 1) := by decide +kernel
theorem dL_law_472 : decode cL_law 472 = .ok (.aload_n 1, 1) := by decide +kernel
theorem dL_law_473 : decode cL_law 473 = .ok (.aload_n 0, 1) := by decide +kernel
theorem dL_law_474 : decode cL_law 474 = .ok (.iload_n 3, 1) := by decide +kernel
theorem dL_law_475 : decode cL_law 475 = .ok (.iconst 1, 1) := by decide +kernel
theorem dL_law_476 : decode cL_law 476 = .ok (.iadd, 1) := by decide +kernel
theorem dL_law_477 : decode cL_law 477 = .ok (.iaload, 1) := by decide +kernel
theorem dL_law_478 : decode cL_law 478 = .ok (.aload_n 0, 1) := by decide +kernel
theorem dL_law_479 : decode cL_law 479 = .ok (.iload_n 3, 1) := by decide +kernel
theorem dL_law_480 : decode cL_law 480 = .ok (.iconst 2, 1) := by decide +kernel
theorem dL_law_481 : decode cL_law 481 = .ok (.iadd, 1) := by decide +kernel
theorem dL_law_482 : decode cL_law 482 = .ok (.iaload, 1) := by decide +kernel
theorem dL_law_483 : decode cL_law 483 = .ok (.invokevirtual 61, 3) := by decide +kernel
theorem dL_law_486 : decode cL_law 486 = .ok (.aload_n 2, 1) := by decide +kernel
theorem dL_law_487 : decode cL_law 487 = .ok (.aload_n 0, 1) := by decide +kernel
theorem dL_law_488 : decode cL_law 488 = .ok (.iload_n 3, 1) := by decide +kernel
theorem dL_law_489 : decode cL_law 489 = .ok (.iconst 1, 1) := by decide +kernel
theorem dL_law_490 : decode cL_law 490 = .ok (.iadd, 1) := by decide +kernel
theorem dL_law_491 : decode cL_law 491 = .ok (.iaload, 1) := by decide +kernel
theorem dL_law_492 : decode cL_law 492 = .ok (.aload_n 0, 1) := by decide +kernel
theorem dL_law_493 : decode cL_law 493 = .ok (.iload_n 3, 1) := by decide +kernel
theorem dL_law_494 : decode cL_law 494 = .ok (.iconst 2, 1) := by decide +kernel
theorem dL_law_495 : decode cL_law 495 = .ok (.iadd, 1) := by decide +kernel
theorem dL_law_496 : decode cL_law 496 = .ok (.iaload, 1) := by decide +kernel
theorem dL_law_497 : decode cL_law 497 = .ok (.invokevirtual 65, 3) := by decide +kernel
theorem dL_law_500 : decode cL_law 500 = .ok (.lcmp, 1) := by decide +kernel
theorem dL_law_501 : decode cL_law 501 = .ok (.ifCond .eq 194, 3) := by decide +kernel
theorem dL_law_504 : decode cL_law 504 = .ok (.iconst 0, 1) := by decide +kernel
theorem dL_law_505 : decode cL_law 505 = .ok (.ireturn, 1) := by decide +kernel
theorem dL_law_506 : decode cL_law 506 = .ok (.aload_n 1, 1) := by decide +kernel
theorem dL_law_507 : decode cL_law 507 = .ok (.aload_n 0, 1) := by decide +kernel
theorem dL_law_508 : decode cL_law 508 = .ok (.iload_n 3, 1) := by decide +kernel
theorem dL_law_509 : decode cL_law 509 = .ok (.iconst 1, 1) := by decide +kernel
theorem dL_law_510 : decode cL_law 510 = .ok (.iadd, 1) := by decide +kernel
theorem dL_law_511 : decode cL_law 511 = .ok (.iaload, 1) := by decide +kernel
theorem dL_law_512 : decode cL_law 512 = .ok (.aload_n 0, 1) := by decide +kernel
theorem dL_law_513 : decode cL_law 513 = .ok (.iload_n 3, 1) := by decide +kernel
theorem dL_law_514 : decode cL_law 514 = .ok (.iconst 2, 1) := by decide +kernel
theorem dL_law_515 : decode cL_law 515 = .ok (.iadd, 1) := by decide +kernel
theorem dL_law_516 : decode cL_law 516 = .ok (.iaload, 1) := by decide +kernel
theorem dL_law_517 : decode cL_law 517 = .ok (.invokevirtual 66, 3) := by decide +kernel
theorem dL_law_520 : decode cL_law 520 = .ok (.aload_n 2, 1) := by decide +kernel
theorem dL_law_521 : decode cL_law 521 = .ok (.aload_n 0, 1) := by decide +kernel
theorem dL_law_522 : decode cL_law 522 = .ok (.iload_n 3, 1) := by decide +kernel
theorem dL_law_523 : decode cL_law 523 = .ok (.iconst 1, 1) := by decide +kernel
theorem dL_law_524 : decode cL_law 524 = .ok (.iadd, 1) := by decide +kernel
theorem dL_law_525 : decode cL_law 525 = .ok (.iaload, 1) := by decide +kernel
theorem dL_law_526 : decode cL_law 526 = .ok (.aload_n 0, 1) := by decide +kernel
theorem dL_law_527 : decode cL_law 527 = .ok (.iload_n 3, 1) := by decide +kernel
theorem dL_law_528 : decode cL_law 528 = .ok (.iconst 2, 1) := by decide +kernel
theorem dL_law_529 : decode cL_law 529 = .ok (.iadd, 1) := by decide +kernel
theorem dL_law_530 : decode cL_law 530 = .ok (.iaload, 1) := by decide +kernel
theorem dL_law_531 : decode cL_law 531 = .ok (.invokevirtual 69, 3) := by decide +kernel
theorem dL_law_534 : decode cL_law 534 = .ok (.if_icmp .eq 161, 3) := by decide +kernel
theorem dL_law_537 : decode cL_law 537 = .ok (.iconst 0, 1) := by decide +kernel
theorem dL_law_538 : decode cL_law 538 = .ok (.ireturn, 1) := by decide +kernel
theorem dL_law_539 : decode cL_law 539 = .ok (.aload_n 1, 1) := by decide +kernel
theorem dL_law_540 : decode cL_law 540 = .ok (.aload_n 0, 1) := by decide +kernel
theorem dL_law_541 : decode cL_law 541 = .ok (.iload_n 3, 1) := by decide +kernel
theorem dL_law_542 : decode cL_law 542 = .ok (.iconst 1, 1) := by decide +kernel
theorem dL_law_543 : decode cL_law 543 = .ok (.iadd, 1) := by decide +kernel
theorem dL_law_544 : decode cL_law 544 = .ok (.iaload, 1) := by decide +kernel
theorem dL_law_545 : decode cL_law 545 = .ok (.aload_n 0, 1) := by decide +kernel
theorem dL_law_546 : decode cL_law 546 = .ok (.iload_n 3, 1) := by decide +kernel
theorem dL_law_547 : decode cL_law 547 = .ok (.iconst 2, 1) := by decide +kernel
theorem dL_law_548 : decode cL_law 548 = .ok (.iadd, 1) := by decide +kernel
theorem dL_law_549 : decode cL_law 549 = .ok (.iaload, 1) := by decide +kernel
theorem dL_law_550 : decode cL_law 550 = .ok (.invokevirtual 70, 3) := by decide +kernel
theorem dL_law_553 : decode cL_law 553 = .ok (.aload_n 2, 1) := by decide +kernel
theorem dL_law_554 : decode cL_law 554 = .ok (.aload_n 0, 1) := by decide +kernel
theorem dL_law_555 : decode cL_law 555 = .ok (.iload_n 3, 1) := by decide +kernel
theorem dL_law_556 : decode cL_law 556 = .ok (.iconst 1, 1) := by decide +kernel
theorem dL_law_557 : decode cL_law 557 = .ok (.iadd, 1) := by decide +kernel
theorem dL_law_558 : decode cL_law 558 = .ok (.iaload, 1) := by decide +kernel
theorem dL_law_559 : decode cL_law 559 = .ok (.aload_n 0, 1) := by decide +kernel
theorem dL_law_560 : decode cL_law 560 = .ok (.iload_n 3, 1) := by decide +kernel
theorem dL_law_561 : decode cL_law 561 = .ok (.iconst 2, 1) := by decide +kernel
theorem dL_law_562 : decode cL_law 562 = .ok (.iadd, 1) := by decide +kernel
theorem dL_law_563 : decode cL_law 563 = .ok (.iaload, 1) := by decide +kernel
theorem dL_law_564 : decode cL_law 564 = .ok (.invokevirtual 73, 3) := by decide +kernel
theorem dL_law_567 : decode cL_law 567 = .ok (.if_icmp .eq 128, 3) := by decide +kernel
theorem dL_law_570 : decode cL_law 570 = .ok (.iconst 0, 1) := by decide +kernel
theorem dL_law_571 : decode cL_law 571 = .ok (.ireturn, 1) := by decide +kernel
theorem dL_law_572 : decode cL_law 572 = .ok (.aload_n 1, 1) := by decide +kernel
theorem dL_law_573 : decode cL_law 573 = .ok (.aload_n 0, 1) := by decide +kernel
theorem dL_law_574 : decode cL_law 574 = .ok (.iload_n 3, 1) := by decide +kernel
theorem dL_law_575 : decode cL_law 575 = .ok (.iconst 1, 1) := by decide +kernel
theorem dL_law_576 : decode cL_law 576 = .ok (.iadd, 1) := by decide +kernel
theorem dL_law_577 : decode cL_law 577 = .ok (.iaload, 1) := by decide +kernel
theorem dL_law_578 : decode cL_law 578 = .ok (.aload_n 0, 1) := by decide +kernel
theorem dL_law_579 : decode cL_law 579 = .ok (.iload_n 3, 1) := by decide +kernel
theorem dL_law_580 : decode cL_law 580 = .ok (.iconst 2, 1) := by decide +kernel
theorem dL_law_581 : decode cL_law 581 = .ok (.iadd, 1) := by decide +kernel
theorem dL_law_582 : decode cL_law 582 = .ok (.iaload, 1) := by decide +kernel
theorem dL_law_583 : decode cL_law 583 = .ok (.invokevirtual 74, 3) := by decide +kernel
theorem dL_law_586 : decode cL_law 586 = .ok (.aload_n 2, 1) := by decide +kernel
theorem dL_law_587 : decode cL_law 587 = .ok (.aload_n 0, 1) := by decide +kernel
theorem dL_law_588 : decode cL_law 588 = .ok (.iload_n 3, 1) := by decide +kernel
theorem dL_law_589 : decode cL_law 589 = .ok (.iconst 1, 1) := by decide +kernel
theorem dL_law_590 : decode cL_law 590 = .ok (.iadd, 1) := by decide +kernel
theorem dL_law_591 : decode cL_law 591 = .ok (.iaload, 1) := by decide +kernel
theorem dL_law_592 : decode cL_law 592 = .ok (.aload_n 0, 1) := by decide +kernel
theorem dL_law_593 : decode cL_law 593 = .ok (.iload_n 3, 1) := by decide +kernel
theorem dL_law_594 : decode cL_law 594 = .ok (.iconst 2, 1) := by decide +kernel
theorem dL_law_595 : decode cL_law 595 = .ok (.iadd, 1) := by decide +kernel
theorem dL_law_596 : decode cL_law 596 = .ok (.iaload, 1) := by decide +kernel
theorem dL_law_597 : decode cL_law 597 = .ok (.invokevirtual 77, 3) := by decide +kernel
theorem dL_law_600 : decode cL_law 600 = .ok (.if_icmp .eq 95, 3) := by decide +kernel
theorem dL_law_603 : decode cL_law 603 = .ok (.iconst 0, 1) := by decide +kernel
theorem dL_law_604 : decode cL_law 604 = .ok (.ireturn, 1) := by decide +kernel
theorem dL_law_605 : decode cL_law 605 = .ok (.aload_n 1, 1) := by decide +kernel
theorem dL_law_606 : decode cL_law 606 = .ok (.aload_n 0, 1) := by decide +kernel
theorem dL_law_607 : decode cL_law 607 = .ok (.iload_n 3, 1) := by decide +kernel
theorem dL_law_608 : decode cL_law 608 = .ok (.iconst 1, 1) := by decide +kernel
theorem dL_law_609 : decode cL_law 609 = .ok (.iadd, 1) := by decide +kernel
theorem dL_law_610 : decode cL_law 610 = .ok (.iaload, 1) := by decide +kernel
theorem dL_law_611 : decode cL_law 611 = .ok (.i2l, 1) := by decide +kernel
theorem dL_law_612 : decode cL_law 612 = .ok (.bipush 32, 2) := by decide +kernel
theorem dL_law_614 : decode cL_law 614 = .ok (.lshl, 1) := by decide +kernel
theorem dL_law_615 : decode cL_law 615 = .ok (.aload_n 0, 1) := by decide +kernel
theorem dL_law_616 : decode cL_law 616 = .ok (.iload_n 3, 1) := by decide +kernel
theorem dL_law_617 : decode cL_law 617 = .ok (.iconst 2, 1) := by decide +kernel
theorem dL_law_618 : decode cL_law 618 = .ok (.iadd, 1) := by decide +kernel
theorem dL_law_619 : decode cL_law 619 = .ok (.iaload, 1) := by decide +kernel
theorem dL_law_620 : decode cL_law 620 = .ok (.i2l, 1) := by decide +kernel
theorem dL_law_621 : decode cL_law 621 = .ok (.ldc2_w 78, 3) := by decide +kernel
theorem dL_law_624 : decode cL_law 624 = .ok (.land, 1) := by decide +kernel
theorem dL_law_625 : decode cL_law 625 = .ok (.lor, 1) := by decide +kernel
theorem dL_law_626 : decode cL_law 626 = .ok (.invokevirtual 80, 3) := by decide +kernel
theorem dL_law_629 : decode cL_law 629 = .ok (.aload_n 2, 1) := by decide +kernel
theorem dL_law_630 : decode cL_law 630 = .ok (.aload_n 0, 1) := by decide +kernel
theorem dL_law_631 : decode cL_law 631 = .ok (.iload_n 3, 1) := by decide +kernel
theorem dL_law_632 : decode cL_law 632 = .ok (.iconst 1, 1) := by decide +kernel
theorem dL_law_633 : decode cL_law 633 = .ok (.iadd, 1) := by decide +kernel
theorem dL_law_634 : decode cL_law 634 = .ok (.iaload, 1) := by decide +kernel
theorem dL_law_635 : decode cL_law 635 = .ok (.i2l, 1) := by decide +kernel
theorem dL_law_636 : decode cL_law 636 = .ok (.bipush 32, 2) := by decide +kernel
theorem dL_law_638 : decode cL_law 638 = .ok (.lshl, 1) := by decide +kernel
theorem dL_law_639 : decode cL_law 639 = .ok (.aload_n 0, 1) := by decide +kernel
theorem dL_law_640 : decode cL_law 640 = .ok (.iload_n 3, 1) := by decide +kernel
theorem dL_law_641 : decode cL_law 641 = .ok (.iconst 2, 1) := by decide +kernel
theorem dL_law_642 : decode cL_law 642 = .ok (.iadd, 1) := by decide +kernel
theorem dL_law_643 : decode cL_law 643 = .ok (.iaload, 1) := by decide +kernel
theorem dL_law_644 : decode cL_law 644 = .ok (.i2l, 1) := by decide +kernel
theorem dL_law_645 : decode cL_law 645 = .ok (.ldc2_w 78, 3) := by decide +kernel
theorem dL_law_648 : decode cL_law 648 = .ok (.land, 1) := by decide +kernel
theorem dL_law_649 : decode cL_law 649 = .ok (.lor, 1) := by decide +kernel
theorem dL_law_650 : decode cL_law 650 = .ok (.invokevirtual 84, 3) := by decide +kernel
theorem dL_law_653 : decode cL_law 653 = .ok (.if_icmp .eq 42, 3) := by decide +kernel
theorem dL_law_656 : decode cL_law 656 = .ok (.iconst 0, 1) := by decide +kernel
theorem dL_law_657 : decode cL_law 657 = .ok (.ireturn, 1) := by decide +kernel
theorem dL_law_658 : decode cL_law 658 = .ok (.aload_n 1, 1) := by decide +kernel
theorem dL_law_659 : decode cL_law 659 = .ok (.aload_n 0, 1) := by decide +kernel
theorem dL_law_660 : decode cL_law 660 = .ok (.iload_n 3, 1) := by decide +kernel
theorem dL_law_661 : decode cL_law 661 = .ok (.iconst 1, 1) := by decide +kernel
theorem dL_law_662 : decode cL_law 662 = .ok (.iadd, 1) := by decide +kernel
theorem dL_law_663 : decode cL_law 663 = .ok (.iaload, 1) := by decide +kernel
theorem dL_law_664 : decode cL_law 664 = .ok (.invokevirtual 85, 3) := by decide +kernel
theorem dL_law_667 : decode cL_law 667 = .ok (.aload_n 2, 1) := by decide +kernel
theorem dL_law_668 : decode cL_law 668 = .ok (.aload_n 0, 1) := by decide +kernel
theorem dL_law_669 : decode cL_law 669 = .ok (.iload_n 3, 1) := by decide +kernel
theorem dL_law_670 : decode cL_law 670 = .ok (.iconst 1, 1) := by decide +kernel
theorem dL_law_671 : decode cL_law 671 = .ok (.iadd, 1) := by decide +kernel
theorem dL_law_672 : decode cL_law 672 = .ok (.iaload, 1) := by decide +kernel
theorem dL_law_673 : decode cL_law 673 = .ok (.invokevirtual 89, 3) := by decide +kernel
theorem dL_law_676 : decode cL_law 676 = .ok (.lcmp, 1) := by decide +kernel
theorem dL_law_677 : decode cL_law 677 = .ok (.ifCond .eq 18, 3) := by decide +kernel
theorem dL_law_680 : decode cL_law 680 = .ok (.iconst 0, 1) := by decide +kernel
theorem dL_law_681 : decode cL_law 681 = .ok (.ireturn, 1) := by decide +kernel
theorem dL_law_682 : decode cL_law 682 = .ok (.aload_n 1, 1) := by decide +kernel
theorem dL_law_683 : decode cL_law 683 = .ok (.invokevirtual 90, 3) := by decide +kernel
theorem dL_law_686 : decode cL_law 686 = .ok (.aload_n 2, 1) := by decide +kernel
theorem dL_law_687 : decode cL_law 687 = .ok (.invokevirtual 93, 3) := by decide +kernel
theorem dL_law_690 : decode cL_law 690 = .ok (.if_icmp .eq 5, 3) := by decide +kernel
theorem dL_law_693 : decode cL_law 693 = .ok (.iconst 0, 1) := by decide +kernel
theorem dL_law_694 : decode cL_law 694 = .ok (.ireturn, 1) := by decide +kernel
theorem dL_law_695 : decode cL_law 695 = .ok (.iinc 3 5, 3) := by decide +kernel
theorem dL_law_698 : decode cL_law 698 = .ok (.goto (-680), 3) := by decide +kernel
theorem dL_law_701 : decode cL_law 701 = .ok (.iconst 1, 1) := by decide +kernel
theorem dL_law_702 : decode cL_law 702 = .ok (.ireturn, 1) := by decide +kernel
end
section
def kk_nest (w : Cond) : Bool := match w with
  | .fieldLinkNest _ _ _ _ _ _ => true
  | .methodLinkNest _ _ _ _ => true
  | .castable _ _ => true
  | _ => false
/-- the words of the tables that stay over calls -/
def kk_w (w : Cond) : Bool := goodWord w || kk_nest w
def lw_E : List Cond := lw_tbl.filter kk_w
theorem jnX0 : ∀ w ∈ wsX00, w ∈ lw_E := fun w h => List.mem_filter.mpr ⟨inX0 w h, List.all_eq_true.mp (show (wsX00).all kk_w = true by decide +kernel) w h⟩
theorem jnX1 : ∀ w ∈ wsX10, w ∈ lw_E := fun w h => List.mem_filter.mpr ⟨inX1 w h, List.all_eq_true.mp (show (wsX10).all kk_w = true by decide +kernel) w h⟩
theorem jnX2 : ∀ w ∈ wsX20, w ∈ lw_E := fun w h => List.mem_filter.mpr ⟨inX2 w h, List.all_eq_true.mp (show (wsX20).all kk_w = true by decide +kernel) w h⟩
theorem jnX3 : ∀ w ∈ wsX30, w ∈ lw_E := fun w h => List.mem_filter.mpr ⟨inX3 w h, List.all_eq_true.mp (show (wsX30).all kk_w = true by decide +kernel) w h⟩
theorem jnX4 : ∀ w ∈ wsX40, w ∈ lw_E := fun w h => List.mem_filter.mpr ⟨inX4 w h, List.all_eq_true.mp (show (wsX40).all kk_w = true by decide +kernel) w h⟩
theorem jnX5 : ∀ w ∈ wsX50, w ∈ lw_E := fun w h => List.mem_filter.mpr ⟨inX5 w h, List.all_eq_true.mp (show (wsX50).all kk_w = true by decide +kernel) w h⟩
theorem jnX6 : ∀ w ∈ wsX60, w ∈ lw_E := fun w h => List.mem_filter.mpr ⟨inX6 w h, List.all_eq_true.mp (show (wsX60).all kk_w = true by decide +kernel) w h⟩
theorem jnX7 : ∀ w ∈ wsX70, w ∈ lw_E := fun w h => List.mem_filter.mpr ⟨inX7 w h, List.all_eq_true.mp (show (wsX70).all kk_w = true by decide +kernel) w h⟩
theorem jnX8 : ∀ w ∈ wsX80, w ∈ lw_E := fun w h => List.mem_filter.mpr ⟨inX8 w h, List.all_eq_true.mp (show (wsX80).all kk_w = true by decide +kernel) w h⟩
theorem jnX9 : ∀ w ∈ wsX90, w ∈ lw_E := fun w h => List.mem_filter.mpr ⟨inX9 w h, List.all_eq_true.mp (show (wsX90).all kk_w = true by decide +kernel) w h⟩
set_option maxRecDepth 20000 in
theorem ini_L : (Cond.initialized RL) ∈ lw_E := List.mem_filter.mpr ⟨List.mem_of_getElem? (i := 66) (by decide +kernel), rfl⟩
set_option maxRecDepth 20000 in
theorem ini_X8 : (Cond.initialized RX8) ∈ lw_E := List.mem_filter.mpr ⟨List.mem_of_getElem? (i := 67) (by decide +kernel), rfl⟩
set_option maxRecDepth 20000 in
theorem ini_X7 : (Cond.initialized RX7) ∈ lw_E := List.mem_filter.mpr ⟨List.mem_of_getElem? (i := 68) (by decide +kernel), rfl⟩
set_option maxRecDepth 20000 in
theorem ini_X5 : (Cond.initialized RX5) ∈ lw_E := List.mem_filter.mpr ⟨List.mem_of_getElem? (i := 69) (by decide +kernel), rfl⟩
set_option maxRecDepth 20000 in
theorem ini_X3 : (Cond.initialized RX3) ∈ lw_E := List.mem_filter.mpr ⟨List.mem_of_getElem? (i := 70) (by decide +kernel), rfl⟩
set_option maxRecDepth 20000 in
theorem ini_X2 : (Cond.initialized RX2) ∈ lw_E := List.mem_filter.mpr ⟨List.mem_of_getElem? (i := 71) (by decide +kernel), rfl⟩
set_option maxRecDepth 20000 in
theorem ini_X1 : (Cond.initialized RX1) ∈ lw_E := List.mem_filter.mpr ⟨List.mem_of_getElem? (i := 72) (by decide +kernel), rfl⟩
set_option maxRecDepth 20000 in
theorem ini_X4 : (Cond.initialized RX4) ∈ lw_E := List.mem_filter.mpr ⟨List.mem_of_getElem? (i := 73) (by decide +kernel), rfl⟩
set_option maxRecDepth 20000 in
theorem ini_X0 : (Cond.initialized RX0) ∈ lw_E := List.mem_filter.mpr ⟨List.mem_of_getElem? (i := 74) (by decide +kernel), rfl⟩
set_option maxRecDepth 20000 in
theorem ini_X6 : (Cond.initialized RX6) ∈ lw_E := List.mem_filter.mpr ⟨List.mem_of_getElem? (i := 75) (by decide +kernel), rfl⟩
set_option maxRecDepth 20000 in
theorem ini_X9 : (Cond.initialized RX9) ∈ lw_E := List.mem_filter.mpr ⟨List.mem_of_getElem? (i := 76) (by decide +kernel), rfl⟩
set_option maxRecDepth 20000 in
theorem ini_J9 : (Cond.initialized RJ9) ∈ lw_E := List.mem_filter.mpr ⟨List.mem_of_getElem? (i := 77) (by decide +kernel), rfl⟩
set_option maxRecDepth 20000 in
theorem ini_J10 : (Cond.initialized RJ10) ∈ lw_E := List.mem_filter.mpr ⟨List.mem_of_getElem? (i := 78) (by decide +kernel), rfl⟩
set_option maxRecDepth 20000 in
theorem ini_J7 : (Cond.initialized RJ7) ∈ lw_E := List.mem_filter.mpr ⟨List.mem_of_getElem? (i := 79) (by decide +kernel), rfl⟩
set_option maxRecDepth 20000 in
theorem cl_L_7 : (Cond.classLink RL 7 RX8) ∈ lw_E := List.mem_filter.mpr ⟨List.mem_of_getElem? (i := 80) (by decide +kernel), rfl⟩
set_option maxRecDepth 20000 in
theorem ins_X8 : (Cond.instantiable RX8 5) ∈ lw_E := List.mem_filter.mpr ⟨List.mem_of_getElem? (i := 81) (by decide +kernel), rfl⟩
set_option maxRecDepth 20000 in
theorem ml_L_9 : (Cond.methodLink RL 9 yX8_init) ∈ lw_E := List.mem_filter.mpr ⟨List.mem_of_getElem? (i := 82) (by decide +kernel), rfl⟩
set_option maxRecDepth 20000 in
theorem im_X8_init : (Cond.instanceMethod yX8_init) ∈ lw_E := List.mem_filter.mpr ⟨List.mem_of_getElem? (i := 83) (by decide +kernel), rfl⟩
set_option maxRecDepth 20000 in
theorem cd_X8_init : (Cond.code yX8_init cX8_init 1 none) ∈ lw_E := List.mem_filter.mpr ⟨List.mem_of_getElem? (i := 84) (by decide +kernel), rfl⟩
set_option maxRecDepth 20000 in
theorem cl_X8_9 : (Cond.classLink RX8 9 RX7) ∈ lw_E := List.mem_filter.mpr ⟨List.mem_of_getElem? (i := 88) (by decide +kernel), rfl⟩
set_option maxRecDepth 20000 in
theorem ins_X7 : (Cond.instantiable RX7 8) ∈ lw_E := List.mem_filter.mpr ⟨List.mem_of_getElem? (i := 89) (by decide +kernel), rfl⟩
set_option maxRecDepth 20000 in
theorem mn_X8_11 : (Cond.methodLinkNest RX8 11 yX7_init "VeneerYard") ∈ lw_E := List.mem_filter.mpr ⟨List.mem_of_getElem? (i := 90) (by decide +kernel), rfl⟩
set_option maxRecDepth 20000 in
theorem im_X7_init : (Cond.instanceMethod yX7_init) ∈ lw_E := List.mem_filter.mpr ⟨List.mem_of_getElem? (i := 91) (by decide +kernel), rfl⟩
set_option maxRecDepth 20000 in
theorem cd_X7_init : (Cond.code yX7_init cX7_init 1 none) ∈ lw_E := List.mem_filter.mpr ⟨List.mem_of_getElem? (i := 92) (by decide +kernel), rfl⟩
set_option maxRecDepth 20000 in
theorem cl_X7_9 : (Cond.classLink RX7 9 RX5) ∈ lw_E := List.mem_filter.mpr ⟨List.mem_of_getElem? (i := 94) (by decide +kernel), rfl⟩
set_option maxRecDepth 20000 in
theorem ins_X5 : (Cond.instantiable RX5 5) ∈ lw_E := List.mem_filter.mpr ⟨List.mem_of_getElem? (i := 95) (by decide +kernel), rfl⟩
set_option maxRecDepth 20000 in
theorem mn_X7_11 : (Cond.methodLinkNest RX7 11 yX5_init "VeneerYard") ∈ lw_E := List.mem_filter.mpr ⟨List.mem_of_getElem? (i := 96) (by decide +kernel), rfl⟩
set_option maxRecDepth 20000 in
theorem im_X5_init : (Cond.instanceMethod yX5_init) ∈ lw_E := List.mem_filter.mpr ⟨List.mem_of_getElem? (i := 97) (by decide +kernel), rfl⟩
set_option maxRecDepth 20000 in
theorem cd_X5_init : (Cond.code yX5_init cX5_init 1 none) ∈ lw_E := List.mem_filter.mpr ⟨List.mem_of_getElem? (i := 98) (by decide +kernel), rfl⟩
set_option maxRecDepth 20000 in
theorem fl_X5_9 : (Cond.fieldLink RX5 9 "VeneerYard$Sections" "count" "I") ∈ lw_E := List.mem_filter.mpr ⟨List.mem_of_getElem? (i := 100) (by decide +kernel), rfl⟩
set_option maxRecDepth 20000 in
theorem fn_X0_39 : (Cond.fieldLinkNest RX0 39 "VeneerYard$Sections" "count" "I" "VeneerYard") ∈ lw_E := List.mem_filter.mpr ⟨List.mem_of_getElem? (i := 101) (by decide +kernel), rfl⟩
set_option maxRecDepth 20000 in
theorem fn_X4_119 : (Cond.fieldLinkNest RX4 119 "VeneerYard$Sections" "count" "I" "VeneerYard") ∈ lw_E := List.mem_filter.mpr ⟨List.mem_of_getElem? (i := 102) (by decide +kernel), rfl⟩
set_option maxRecDepth 20000 in
theorem fn_X8_143 : (Cond.fieldLinkNest RX8 143 "VeneerYard$Sections" "count" "I" "VeneerYard") ∈ lw_E := List.mem_filter.mpr ⟨List.mem_of_getElem? (i := 103) (by decide +kernel), rfl⟩
set_option maxRecDepth 20000 in
theorem fl_X5_15 : (Cond.fieldLink RX5 15 "VeneerYard$Sections" "pools" "I") ∈ lw_E := List.mem_filter.mpr ⟨List.mem_of_getElem? (i := 104) (by decide +kernel), rfl⟩
set_option maxRecDepth 20000 in
theorem fn_X8_148 : (Cond.fieldLinkNest RX8 148 "VeneerYard$Sections" "pools" "I" "VeneerYard") ∈ lw_E := List.mem_filter.mpr ⟨List.mem_of_getElem? (i := 105) (by decide +kernel), rfl⟩
set_option maxRecDepth 20000 in
theorem fl_X5_18 : (Cond.fieldLink RX5 18 "VeneerYard$Sections" "size" "[I") ∈ lw_E := List.mem_filter.mpr ⟨List.mem_of_getElem? (i := 106) (by decide +kernel), rfl⟩
set_option maxRecDepth 20000 in
theorem fn_X0_52 : (Cond.fieldLinkNest RX0 52 "VeneerYard$Sections" "size" "[I" "VeneerYard") ∈ lw_E := List.mem_filter.mpr ⟨List.mem_of_getElem? (i := 107) (by decide +kernel), rfl⟩
set_option maxRecDepth 20000 in
theorem fn_X8_56 : (Cond.fieldLinkNest RX8 56 "VeneerYard$Sections" "size" "[I" "VeneerYard") ∈ lw_E := List.mem_filter.mpr ⟨List.mem_of_getElem? (i := 108) (by decide +kernel), rfl⟩
set_option maxRecDepth 20000 in
theorem fn_X7_65 : (Cond.fieldLinkNest RX7 65 "VeneerYard$Sections" "size" "[I" "VeneerYard") ∈ lw_E := List.mem_filter.mpr ⟨List.mem_of_getElem? (i := 109) (by decide +kernel), rfl⟩
set_option maxRecDepth 20000 in
theorem fn_X4_223 : (Cond.fieldLinkNest RX4 223 "VeneerYard$Sections" "size" "[I" "VeneerYard") ∈ lw_E := List.mem_filter.mpr ⟨List.mem_of_getElem? (i := 110) (by decide +kernel), rfl⟩
set_option maxRecDepth 20000 in
theorem fl_X5_22 : (Cond.fieldLink RX5 22 "VeneerYard$Sections" "align" "[I") ∈ lw_E := List.mem_filter.mpr ⟨List.mem_of_getElem? (i := 111) (by decide +kernel), rfl⟩
set_option maxRecDepth 20000 in
theorem fn_X0_44 : (Cond.fieldLinkNest RX0 44 "VeneerYard$Sections" "align" "[I" "VeneerYard") ∈ lw_E := List.mem_filter.mpr ⟨List.mem_of_getElem? (i := 112) (by decide +kernel), rfl⟩
set_option maxRecDepth 20000 in
theorem fl_X5_25 : (Cond.fieldLink RX5 25 "VeneerYard$Sections" "pool" "[Z") ∈ lw_E := List.mem_filter.mpr ⟨List.mem_of_getElem? (i := 113) (by decide +kernel), rfl⟩
set_option maxRecDepth 20000 in
theorem fn_X4_143 : (Cond.fieldLinkNest RX4 143 "VeneerYard$Sections" "pool" "[Z" "VeneerYard") ∈ lw_E := List.mem_filter.mpr ⟨List.mem_of_getElem? (i := 114) (by decide +kernel), rfl⟩
set_option maxRecDepth 20000 in
theorem ac_int : (Cond.arrayClass .int) ∈ lw_E := List.mem_filter.mpr ⟨List.mem_of_getElem? (i := 126) (by decide +kernel), rfl⟩
set_option maxRecDepth 20000 in
theorem ac_boolean : (Cond.arrayClass .boolean) ∈ lw_E := List.mem_filter.mpr ⟨List.mem_of_getElem? (i := 127) (by decide +kernel), rfl⟩
set_option maxRecDepth 20000 in
theorem cl_X7_18 : (Cond.classLink RX7 18 RX3) ∈ lw_E := List.mem_filter.mpr ⟨List.mem_of_getElem? (i := 128) (by decide +kernel), rfl⟩
set_option maxRecDepth 20000 in
theorem ins_X3 : (Cond.instantiable RX3 3) ∈ lw_E := List.mem_filter.mpr ⟨List.mem_of_getElem? (i := 129) (by decide +kernel), rfl⟩
set_option maxRecDepth 20000 in
theorem mn_X7_20 : (Cond.methodLinkNest RX7 20 yX3_init "VeneerYard") ∈ lw_E := List.mem_filter.mpr ⟨List.mem_of_getElem? (i := 130) (by decide +kernel), rfl⟩
set_option maxRecDepth 20000 in
theorem im_X3_init : (Cond.instanceMethod yX3_init) ∈ lw_E := List.mem_filter.mpr ⟨List.mem_of_getElem? (i := 131) (by decide +kernel), rfl⟩
set_option maxRecDepth 20000 in
theorem cd_X3_init : (Cond.code yX3_init cX3_init 1 none) ∈ lw_E := List.mem_filter.mpr ⟨List.mem_of_getElem? (i := 132) (by decide +kernel), rfl⟩
set_option maxRecDepth 20000 in
theorem fl_X3_9 : (Cond.fieldLink RX3 9 "VeneerYard$Labels" "count" "I") ∈ lw_E := List.mem_filter.mpr ⟨List.mem_of_getElem? (i := 134) (by decide +kernel), rfl⟩
set_option maxRecDepth 20000 in
theorem fn_X8_146 : (Cond.fieldLinkNest RX8 146 "VeneerYard$Labels" "count" "I" "VeneerYard") ∈ lw_E := List.mem_filter.mpr ⟨List.mem_of_getElem? (i := 135) (by decide +kernel), rfl⟩
set_option maxRecDepth 20000 in
theorem fl_X3_15 : (Cond.fieldLink RX3 15 "VeneerYard$Labels" "section" "[I") ∈ lw_E := List.mem_filter.mpr ⟨List.mem_of_getElem? (i := 136) (by decide +kernel), rfl⟩
set_option maxRecDepth 20000 in
theorem fn_X4_197 : (Cond.fieldLinkNest RX4 197 "VeneerYard$Labels" "section" "[I" "VeneerYard") ∈ lw_E := List.mem_filter.mpr ⟨List.mem_of_getElem? (i := 137) (by decide +kernel), rfl⟩
set_option maxRecDepth 20000 in
theorem fn_X8_222 : (Cond.fieldLinkNest RX8 222 "VeneerYard$Labels" "section" "[I" "VeneerYard") ∈ lw_E := List.mem_filter.mpr ⟨List.mem_of_getElem? (i := 138) (by decide +kernel), rfl⟩
set_option maxRecDepth 20000 in
theorem fl_X3_19 : (Cond.fieldLink RX3 19 "VeneerYard$Labels" "offset" "[I") ∈ lw_E := List.mem_filter.mpr ⟨List.mem_of_getElem? (i := 139) (by decide +kernel), rfl⟩
set_option maxRecDepth 20000 in
theorem fn_X4_201 : (Cond.fieldLinkNest RX4 201 "VeneerYard$Labels" "offset" "[I" "VeneerYard") ∈ lw_E := List.mem_filter.mpr ⟨List.mem_of_getElem? (i := 140) (by decide +kernel), rfl⟩
set_option maxRecDepth 20000 in
theorem fn_X8_223 : (Cond.fieldLinkNest RX8 223 "VeneerYard$Labels" "offset" "[I" "VeneerYard") ∈ lw_E := List.mem_filter.mpr ⟨List.mem_of_getElem? (i := 141) (by decide +kernel), rfl⟩
set_option maxRecDepth 20000 in
theorem cl_X7_25 : (Cond.classLink RX7 25 RX2) ∈ lw_E := List.mem_filter.mpr ⟨List.mem_of_getElem? (i := 149) (by decide +kernel), rfl⟩
set_option maxRecDepth 20000 in
theorem ins_X2 : (Cond.instantiable RX2 2) ∈ lw_E := List.mem_filter.mpr ⟨List.mem_of_getElem? (i := 150) (by decide +kernel), rfl⟩
set_option maxRecDepth 20000 in
theorem mn_X7_27 : (Cond.methodLinkNest RX7 27 yX2_init "VeneerYard") ∈ lw_E := List.mem_filter.mpr ⟨List.mem_of_getElem? (i := 151) (by decide +kernel), rfl⟩
set_option maxRecDepth 20000 in
theorem im_X2_init : (Cond.instanceMethod yX2_init) ∈ lw_E := List.mem_filter.mpr ⟨List.mem_of_getElem? (i := 152) (by decide +kernel), rfl⟩
set_option maxRecDepth 20000 in
theorem cd_X2_init : (Cond.code yX2_init cX2_init 1 none) ∈ lw_E := List.mem_filter.mpr ⟨List.mem_of_getElem? (i := 153) (by decide +kernel), rfl⟩
set_option maxRecDepth 20000 in
theorem fl_X2_9 : (Cond.fieldLink RX2 9 "VeneerYard$Kinds" "shift" "[I") ∈ lw_E := List.mem_filter.mpr ⟨List.mem_of_getElem? (i := 155) (by decide +kernel), rfl⟩
set_option maxRecDepth 20000 in
theorem fl_X2_15 : (Cond.fieldLink RX2 15 "VeneerYard$Kinds" "bits" "[I") ∈ lw_E := List.mem_filter.mpr ⟨List.mem_of_getElem? (i := 156) (by decide +kernel), rfl⟩
set_option maxRecDepth 20000 in
theorem cl_X7_32 : (Cond.classLink RX7 32 RX1) ∈ lw_E := List.mem_filter.mpr ⟨List.mem_of_getElem? (i := 162) (by decide +kernel), rfl⟩
set_option maxRecDepth 20000 in
theorem ins_X1 : (Cond.instantiable RX1 5) ∈ lw_E := List.mem_filter.mpr ⟨List.mem_of_getElem? (i := 163) (by decide +kernel), rfl⟩
set_option maxRecDepth 20000 in
theorem mn_X7_34 : (Cond.methodLinkNest RX7 34 yX1_init "VeneerYard") ∈ lw_E := List.mem_filter.mpr ⟨List.mem_of_getElem? (i := 164) (by decide +kernel), rfl⟩
set_option maxRecDepth 20000 in
theorem im_X1_init : (Cond.instanceMethod yX1_init) ∈ lw_E := List.mem_filter.mpr ⟨List.mem_of_getElem? (i := 165) (by decide +kernel), rfl⟩
set_option maxRecDepth 20000 in
theorem cd_X1_init : (Cond.code yX1_init cX1_init 1 none) ∈ lw_E := List.mem_filter.mpr ⟨List.mem_of_getElem? (i := 166) (by decide +kernel), rfl⟩
set_option maxRecDepth 20000 in
theorem fl_X1_9 : (Cond.fieldLink RX1 9 "VeneerYard$Branches" "count" "I") ∈ lw_E := List.mem_filter.mpr ⟨List.mem_of_getElem? (i := 168) (by decide +kernel), rfl⟩
set_option maxRecDepth 20000 in
theorem fn_X4_89 : (Cond.fieldLinkNest RX4 89 "VeneerYard$Branches" "count" "I" "VeneerYard") ∈ lw_E := List.mem_filter.mpr ⟨List.mem_of_getElem? (i := 169) (by decide +kernel), rfl⟩
set_option maxRecDepth 20000 in
theorem fn_X8_147 : (Cond.fieldLinkNest RX8 147 "VeneerYard$Branches" "count" "I" "VeneerYard") ∈ lw_E := List.mem_filter.mpr ⟨List.mem_of_getElem? (i := 170) (by decide +kernel), rfl⟩
set_option maxRecDepth 20000 in
theorem fl_X1_15 : (Cond.fieldLink RX1 15 "VeneerYard$Branches" "section" "[I") ∈ lw_E := List.mem_filter.mpr ⟨List.mem_of_getElem? (i := 171) (by decide +kernel), rfl⟩
set_option maxRecDepth 20000 in
theorem fn_X4_204 : (Cond.fieldLinkNest RX4 204 "VeneerYard$Branches" "section" "[I" "VeneerYard") ∈ lw_E := List.mem_filter.mpr ⟨List.mem_of_getElem? (i := 172) (by decide +kernel), rfl⟩
set_option maxRecDepth 20000 in
theorem fn_X8_217 : (Cond.fieldLinkNest RX8 217 "VeneerYard$Branches" "section" "[I" "VeneerYard") ∈ lw_E := List.mem_filter.mpr ⟨List.mem_of_getElem? (i := 173) (by decide +kernel), rfl⟩
set_option maxRecDepth 20000 in
theorem fl_X1_19 : (Cond.fieldLink RX1 19 "VeneerYard$Branches" "offset" "[I") ∈ lw_E := List.mem_filter.mpr ⟨List.mem_of_getElem? (i := 174) (by decide +kernel), rfl⟩
set_option maxRecDepth 20000 in
theorem fn_X4_205 : (Cond.fieldLinkNest RX4 205 "VeneerYard$Branches" "offset" "[I" "VeneerYard") ∈ lw_E := List.mem_filter.mpr ⟨List.mem_of_getElem? (i := 175) (by decide +kernel), rfl⟩
set_option maxRecDepth 20000 in
theorem fn_X8_219 : (Cond.fieldLinkNest RX8 219 "VeneerYard$Branches" "offset" "[I" "VeneerYard") ∈ lw_E := List.mem_filter.mpr ⟨List.mem_of_getElem? (i := 176) (by decide +kernel), rfl⟩
set_option maxRecDepth 20000 in
theorem fl_X1_22 : (Cond.fieldLink RX1 22 "VeneerYard$Branches" "kind" "[I") ∈ lw_E := List.mem_filter.mpr ⟨List.mem_of_getElem? (i := 177) (by decide +kernel), rfl⟩
set_option maxRecDepth 20000 in
theorem fn_X4_154 : (Cond.fieldLinkNest RX4 154 "VeneerYard$Branches" "kind" "[I" "VeneerYard") ∈ lw_E := List.mem_filter.mpr ⟨List.mem_of_getElem? (i := 178) (by decide +kernel), rfl⟩
set_option maxRecDepth 20000 in
theorem fn_X8_224 : (Cond.fieldLinkNest RX8 224 "VeneerYard$Branches" "kind" "[I" "VeneerYard") ∈ lw_E := List.mem_filter.mpr ⟨List.mem_of_getElem? (i := 179) (by decide +kernel), rfl⟩
set_option maxRecDepth 20000 in
theorem fl_X1_25 : (Cond.fieldLink RX1 25 "VeneerYard$Branches" "label" "[I") ∈ lw_E := List.mem_filter.mpr ⟨List.mem_of_getElem? (i := 180) (by decide +kernel), rfl⟩
set_option maxRecDepth 20000 in
theorem fn_X4_108 : (Cond.fieldLinkNest RX4 108 "VeneerYard$Branches" "label" "[I" "VeneerYard") ∈ lw_E := List.mem_filter.mpr ⟨List.mem_of_getElem? (i := 181) (by decide +kernel), rfl⟩
set_option maxRecDepth 20000 in
theorem fn_X8_105 : (Cond.fieldLinkNest RX8 105 "VeneerYard$Branches" "label" "[I" "VeneerYard") ∈ lw_E := List.mem_filter.mpr ⟨List.mem_of_getElem? (i := 182) (by decide +kernel), rfl⟩
set_option maxRecDepth 20000 in
theorem fl_X7_12 : (Cond.fieldLink RX7 12 "VeneerYard$Told" "sections" "LVeneerYard$Sections;") ∈ lw_E := List.mem_filter.mpr ⟨List.mem_of_getElem? (i := 194) (by decide +kernel), rfl⟩
set_option maxRecDepth 20000 in
theorem fn_X8_38 : (Cond.fieldLinkNest RX8 38 "VeneerYard$Told" "sections" "LVeneerYard$Sections;" "VeneerYard") ∈ lw_E := List.mem_filter.mpr ⟨List.mem_of_getElem? (i := 195) (by decide +kernel), rfl⟩
set_option maxRecDepth 20000 in
theorem fn_X0_35 : (Cond.fieldLinkNest RX0 35 "VeneerYard$Told" "sections" "LVeneerYard$Sections;" "VeneerYard") ∈ lw_E := List.mem_filter.mpr ⟨List.mem_of_getElem? (i := 196) (by decide +kernel), rfl⟩
set_option maxRecDepth 20000 in
theorem fn_X4_115 : (Cond.fieldLinkNest RX4 115 "VeneerYard$Told" "sections" "LVeneerYard$Sections;" "VeneerYard") ∈ lw_E := List.mem_filter.mpr ⟨List.mem_of_getElem? (i := 197) (by decide +kernel), rfl⟩
set_option maxRecDepth 20000 in
theorem fl_X7_21 : (Cond.fieldLink RX7 21 "VeneerYard$Told" "labels" "LVeneerYard$Labels;") ∈ lw_E := List.mem_filter.mpr ⟨List.mem_of_getElem? (i := 198) (by decide +kernel), rfl⟩
set_option maxRecDepth 20000 in
theorem fn_X8_59 : (Cond.fieldLinkNest RX8 59 "VeneerYard$Told" "labels" "LVeneerYard$Labels;" "VeneerYard") ∈ lw_E := List.mem_filter.mpr ⟨List.mem_of_getElem? (i := 199) (by decide +kernel), rfl⟩
set_option maxRecDepth 20000 in
theorem fn_X4_193 : (Cond.fieldLinkNest RX4 193 "VeneerYard$Told" "labels" "LVeneerYard$Labels;" "VeneerYard") ∈ lw_E := List.mem_filter.mpr ⟨List.mem_of_getElem? (i := 200) (by decide +kernel), rfl⟩
set_option maxRecDepth 20000 in
theorem fl_X7_28 : (Cond.fieldLink RX7 28 "VeneerYard$Told" "kinds" "LVeneerYard$Kinds;") ∈ lw_E := List.mem_filter.mpr ⟨List.mem_of_getElem? (i := 201) (by decide +kernel), rfl⟩
set_option maxRecDepth 20000 in
theorem fn_X8_68 : (Cond.fieldLinkNest RX8 68 "VeneerYard$Told" "kinds" "LVeneerYard$Kinds;" "VeneerYard") ∈ lw_E := List.mem_filter.mpr ⟨List.mem_of_getElem? (i := 202) (by decide +kernel), rfl⟩
set_option maxRecDepth 20000 in
theorem fn_X4_150 : (Cond.fieldLinkNest RX4 150 "VeneerYard$Told" "kinds" "LVeneerYard$Kinds;" "VeneerYard") ∈ lw_E := List.mem_filter.mpr ⟨List.mem_of_getElem? (i := 203) (by decide +kernel), rfl⟩
set_option maxRecDepth 20000 in
theorem fl_X7_35 : (Cond.fieldLink RX7 35 "VeneerYard$Told" "branches" "LVeneerYard$Branches;") ∈ lw_E := List.mem_filter.mpr ⟨List.mem_of_getElem? (i := 204) (by decide +kernel), rfl⟩
set_option maxRecDepth 20000 in
theorem fn_X4_85 : (Cond.fieldLinkNest RX4 85 "VeneerYard$Told" "branches" "LVeneerYard$Branches;" "VeneerYard") ∈ lw_E := List.mem_filter.mpr ⟨List.mem_of_getElem? (i := 205) (by decide +kernel), rfl⟩
set_option maxRecDepth 20000 in
theorem fn_X8_84 : (Cond.fieldLinkNest RX8 84 "VeneerYard$Told" "branches" "LVeneerYard$Branches;" "VeneerYard") ∈ lw_E := List.mem_filter.mpr ⟨List.mem_of_getElem? (i := 206) (by decide +kernel), rfl⟩
set_option maxRecDepth 20000 in
theorem fl_X7_39 : (Cond.fieldLink RX7 39 "VeneerYard$Told" "start" "I") ∈ lw_E := List.mem_filter.mpr ⟨List.mem_of_getElem? (i := 207) (by decide +kernel), rfl⟩
set_option maxRecDepth 20000 in
theorem fn_X0_25 : (Cond.fieldLinkNest RX0 25 "VeneerYard$Told" "start" "I" "VeneerYard") ∈ lw_E := List.mem_filter.mpr ⟨List.mem_of_getElem? (i := 208) (by decide +kernel), rfl⟩
set_option maxRecDepth 20000 in
theorem fn_X8_96 : (Cond.fieldLinkNest RX8 96 "VeneerYard$Told" "start" "I" "VeneerYard") ∈ lw_E := List.mem_filter.mpr ⟨List.mem_of_getElem? (i := 209) (by decide +kernel), rfl⟩
set_option maxRecDepth 20000 in
theorem fn_X4_210 : (Cond.fieldLinkNest RX4 210 "VeneerYard$Told" "start" "I" "VeneerYard") ∈ lw_E := List.mem_filter.mpr ⟨List.mem_of_getElem? (i := 210) (by decide +kernel), rfl⟩
set_option maxRecDepth 20000 in
theorem fl_X7_43 : (Cond.fieldLink RX7 43 "VeneerYard$Told" "thunkSize" "I") ∈ lw_E := List.mem_filter.mpr ⟨List.mem_of_getElem? (i := 211) (by decide +kernel), rfl⟩
set_option maxRecDepth 20000 in
theorem fn_X0_58 : (Cond.fieldLinkNest RX0 58 "VeneerYard$Told" "thunkSize" "I" "VeneerYard") ∈ lw_E := List.mem_filter.mpr ⟨List.mem_of_getElem? (i := 212) (by decide +kernel), rfl⟩
set_option maxRecDepth 20000 in
theorem fn_X4_220 : (Cond.fieldLinkNest RX4 220 "VeneerYard$Told" "thunkSize" "I" "VeneerYard") ∈ lw_E := List.mem_filter.mpr ⟨List.mem_of_getElem? (i := 213) (by decide +kernel), rfl⟩
set_option maxRecDepth 20000 in
theorem fl_X7_46 : (Cond.fieldLink RX7 46 "VeneerYard$Told" "thunkAlign" "I") ∈ lw_E := List.mem_filter.mpr ⟨List.mem_of_getElem? (i := 214) (by decide +kernel), rfl⟩
set_option maxRecDepth 20000 in
theorem fn_X0_55 : (Cond.fieldLinkNest RX0 55 "VeneerYard$Told" "thunkAlign" "I" "VeneerYard") ∈ lw_E := List.mem_filter.mpr ⟨List.mem_of_getElem? (i := 215) (by decide +kernel), rfl⟩
set_option maxRecDepth 20000 in
theorem fl_X7_49 : (Cond.fieldLink RX7 49 "VeneerYard$Told" "thunkKind" "I") ∈ lw_E := List.mem_filter.mpr ⟨List.mem_of_getElem? (i := 216) (by decide +kernel), rfl⟩
set_option maxRecDepth 20000 in
theorem fn_X4_163 : (Cond.fieldLinkNest RX4 163 "VeneerYard$Told" "thunkKind" "I" "VeneerYard") ∈ lw_E := List.mem_filter.mpr ⟨List.mem_of_getElem? (i := 217) (by decide +kernel), rfl⟩
set_option maxRecDepth 20000 in
theorem cl_X8_16 : (Cond.classLink RX8 16 RX4) ∈ lw_E := List.mem_filter.mpr ⟨List.mem_of_getElem? (i := 235) (by decide +kernel), rfl⟩
set_option maxRecDepth 20000 in
theorem ins_X4 : (Cond.instantiable RX4 9) ∈ lw_E := List.mem_filter.mpr ⟨List.mem_of_getElem? (i := 236) (by decide +kernel), rfl⟩
set_option maxRecDepth 20000 in
theorem mn_X8_18 : (Cond.methodLinkNest RX8 18 yX4_init "VeneerYard") ∈ lw_E := List.mem_filter.mpr ⟨List.mem_of_getElem? (i := 237) (by decide +kernel), rfl⟩
set_option maxRecDepth 20000 in
theorem im_X4_init : (Cond.instanceMethod yX4_init) ∈ lw_E := List.mem_filter.mpr ⟨List.mem_of_getElem? (i := 238) (by decide +kernel), rfl⟩
set_option maxRecDepth 20000 in
theorem cd_X4_init : (Cond.code yX4_init cX4_init 1 none) ∈ lw_E := List.mem_filter.mpr ⟨List.mem_of_getElem? (i := 239) (by decide +kernel), rfl⟩
set_option maxRecDepth 20000 in
theorem cl_X4_9 : (Cond.classLink RX4 9 RX7) ∈ lw_E := List.mem_filter.mpr ⟨List.mem_of_getElem? (i := 241) (by decide +kernel), rfl⟩
set_option maxRecDepth 20000 in
theorem mn_X4_11 : (Cond.methodLinkNest RX4 11 yX7_init "VeneerYard") ∈ lw_E := List.mem_filter.mpr ⟨List.mem_of_getElem? (i := 242) (by decide +kernel), rfl⟩
set_option maxRecDepth 20000 in
theorem cl_X4_18 : (Cond.classLink RX4 18 RX0) ∈ lw_E := List.mem_filter.mpr ⟨List.mem_of_getElem? (i := 243) (by decide +kernel), rfl⟩
set_option maxRecDepth 20000 in
theorem ins_X0 : (Cond.instantiable RX0 4) ∈ lw_E := List.mem_filter.mpr ⟨List.mem_of_getElem? (i := 244) (by decide +kernel), rfl⟩
set_option maxRecDepth 20000 in
theorem mn_X4_20 : (Cond.methodLinkNest RX4 20 yX0_init "VeneerYard") ∈ lw_E := List.mem_filter.mpr ⟨List.mem_of_getElem? (i := 245) (by decide +kernel), rfl⟩
set_option maxRecDepth 20000 in
theorem im_X0_init : (Cond.instanceMethod yX0_init) ∈ lw_E := List.mem_filter.mpr ⟨List.mem_of_getElem? (i := 246) (by decide +kernel), rfl⟩
set_option maxRecDepth 20000 in
theorem cd_X0_init : (Cond.code yX0_init cX0_init 1 none) ∈ lw_E := List.mem_filter.mpr ⟨List.mem_of_getElem? (i := 247) (by decide +kernel), rfl⟩
set_option maxRecDepth 20000 in
theorem fl_X0_9 : (Cond.fieldLink RX0 9 "VeneerYard$Addresses" "section" "[J") ∈ lw_E := List.mem_filter.mpr ⟨List.mem_of_getElem? (i := 249) (by decide +kernel), rfl⟩
set_option maxRecDepth 20000 in
theorem fn_X4_190 : (Cond.fieldLinkNest RX4 190 "VeneerYard$Addresses" "section" "[J" "VeneerYard") ∈ lw_E := List.mem_filter.mpr ⟨List.mem_of_getElem? (i := 250) (by decide +kernel), rfl⟩
set_option maxRecDepth 20000 in
theorem fn_X8_155 : (Cond.fieldLinkNest RX8 155 "VeneerYard$Addresses" "section" "[J" "VeneerYard") ∈ lw_E := List.mem_filter.mpr ⟨List.mem_of_getElem? (i := 251) (by decide +kernel), rfl⟩
set_option maxRecDepth 20000 in
theorem fl_X0_15 : (Cond.fieldLink RX0 15 "VeneerYard$Addresses" "poolStart" "[J") ∈ lw_E := List.mem_filter.mpr ⟨List.mem_of_getElem? (i := 252) (by decide +kernel), rfl⟩
set_option maxRecDepth 20000 in
theorem fn_X6_76 : (Cond.fieldLinkNest RX6 76 "VeneerYard$Addresses" "poolStart" "[J" "VeneerYard") ∈ lw_E := List.mem_filter.mpr ⟨List.mem_of_getElem? (i := 253) (by decide +kernel), rfl⟩
set_option maxRecDepth 20000 in
theorem fl_X0_18 : (Cond.fieldLink RX0 18 "VeneerYard$Addresses" "poolEnd" "[J") ∈ lw_E := List.mem_filter.mpr ⟨List.mem_of_getElem? (i := 254) (by decide +kernel), rfl⟩
set_option maxRecDepth 20000 in
theorem fn_X4_129 : (Cond.fieldLinkNest RX4 129 "VeneerYard$Addresses" "poolEnd" "[J" "VeneerYard") ∈ lw_E := List.mem_filter.mpr ⟨List.mem_of_getElem? (i := 255) (by decide +kernel), rfl⟩
set_option maxRecDepth 20000 in
theorem fn_X8_175 : (Cond.fieldLinkNest RX8 175 "VeneerYard$Addresses" "poolEnd" "[J" "VeneerYard") ∈ lw_E := List.mem_filter.mpr ⟨List.mem_of_getElem? (i := 256) (by decide +kernel), rfl⟩
set_option maxRecDepth 20000 in
theorem fl_X0_21 : (Cond.fieldLink RX0 21 "VeneerYard$Addresses" "end" "J") ∈ lw_E := List.mem_filter.mpr ⟨List.mem_of_getElem? (i := 257) (by decide +kernel), rfl⟩
set_option maxRecDepth 20000 in
theorem fn_X4_206 : (Cond.fieldLinkNest RX4 206 "VeneerYard$Addresses" "end" "J" "VeneerYard") ∈ lw_E := List.mem_filter.mpr ⟨List.mem_of_getElem? (i := 258) (by decide +kernel), rfl⟩
set_option maxRecDepth 20000 in
theorem ac_long : (Cond.arrayClass .long) ∈ lw_E := List.mem_filter.mpr ⟨List.mem_of_getElem? (i := 268) (by decide +kernel), rfl⟩
set_option maxRecDepth 20000 in
theorem cl_X4_25 : (Cond.classLink RX4 25 RX6) ∈ lw_E := List.mem_filter.mpr ⟨List.mem_of_getElem? (i := 269) (by decide +kernel), rfl⟩
set_option maxRecDepth 20000 in
theorem ins_X6 : (Cond.instantiable RX6 11) ∈ lw_E := List.mem_filter.mpr ⟨List.mem_of_getElem? (i := 270) (by decide +kernel), rfl⟩
set_option maxRecDepth 20000 in
theorem mn_X4_27 : (Cond.methodLinkNest RX4 27 yX6_init "VeneerYard") ∈ lw_E := List.mem_filter.mpr ⟨List.mem_of_getElem? (i := 271) (by decide +kernel), rfl⟩
set_option maxRecDepth 20000 in
theorem im_X6_init : (Cond.instanceMethod yX6_init) ∈ lw_E := List.mem_filter.mpr ⟨List.mem_of_getElem? (i := 272) (by decide +kernel), rfl⟩
set_option maxRecDepth 20000 in
theorem cd_X6_init : (Cond.code yX6_init cX6_init 1 none) ∈ lw_E := List.mem_filter.mpr ⟨List.mem_of_getElem? (i := 273) (by decide +kernel), rfl⟩
set_option maxRecDepth 20000 in
theorem fl_X6_9 : (Cond.fieldLink RX6 9 "VeneerYard$Thunks" "made" "I") ∈ lw_E := List.mem_filter.mpr ⟨List.mem_of_getElem? (i := 275) (by decide +kernel), rfl⟩
set_option maxRecDepth 20000 in
theorem fn_X8_122 : (Cond.fieldLinkNest RX8 122 "VeneerYard$Thunks" "made" "I" "VeneerYard") ∈ lw_E := List.mem_filter.mpr ⟨List.mem_of_getElem? (i := 276) (by decide +kernel), rfl⟩
set_option maxRecDepth 20000 in
theorem fn_X4_217 : (Cond.fieldLinkNest RX4 217 "VeneerYard$Thunks" "made" "I" "VeneerYard") ∈ lw_E := List.mem_filter.mpr ⟨List.mem_of_getElem? (i := 277) (by decide +kernel), rfl⟩
set_option maxRecDepth 20000 in
theorem fl_X6_15 : (Cond.fieldLink RX6 15 "VeneerYard$Thunks" "wanted" "I") ∈ lw_E := List.mem_filter.mpr ⟨List.mem_of_getElem? (i := 278) (by decide +kernel), rfl⟩
set_option maxRecDepth 20000 in
theorem fl_X6_18 : (Cond.fieldLink RX6 18 "VeneerYard$Thunks" "pool" "[I") ∈ lw_E := List.mem_filter.mpr ⟨List.mem_of_getElem? (i := 279) (by decide +kernel), rfl⟩
set_option maxRecDepth 20000 in
theorem fn_X8_184 : (Cond.fieldLinkNest RX8 184 "VeneerYard$Thunks" "pool" "[I" "VeneerYard") ∈ lw_E := List.mem_filter.mpr ⟨List.mem_of_getElem? (i := 280) (by decide +kernel), rfl⟩
set_option maxRecDepth 20000 in
theorem fl_X6_22 : (Cond.fieldLink RX6 22 "VeneerYard$Thunks" "label" "[I") ∈ lw_E := List.mem_filter.mpr ⟨List.mem_of_getElem? (i := 281) (by decide +kernel), rfl⟩
set_option maxRecDepth 20000 in
theorem fn_X4_182 : (Cond.fieldLinkNest RX4 182 "VeneerYard$Thunks" "label" "[I" "VeneerYard") ∈ lw_E := List.mem_filter.mpr ⟨List.mem_of_getElem? (i := 282) (by decide +kernel), rfl⟩
set_option maxRecDepth 20000 in
theorem fn_X8_187 : (Cond.fieldLinkNest RX8 187 "VeneerYard$Thunks" "label" "[I" "VeneerYard") ∈ lw_E := List.mem_filter.mpr ⟨List.mem_of_getElem? (i := 283) (by decide +kernel), rfl⟩
set_option maxRecDepth 20000 in
theorem fl_X6_25 : (Cond.fieldLink RX6 25 "VeneerYard$Thunks" "round" "[I") ∈ lw_E := List.mem_filter.mpr ⟨List.mem_of_getElem? (i := 284) (by decide +kernel), rfl⟩
set_option maxRecDepth 20000 in
theorem fn_X8_188 : (Cond.fieldLinkNest RX8 188 "VeneerYard$Thunks" "round" "[I" "VeneerYard") ∈ lw_E := List.mem_filter.mpr ⟨List.mem_of_getElem? (i := 285) (by decide +kernel), rfl⟩
set_option maxRecDepth 20000 in
theorem fl_X6_28 : (Cond.fieldLink RX6 28 "VeneerYard$Thunks" "wanter" "[I") ∈ lw_E := List.mem_filter.mpr ⟨List.mem_of_getElem? (i := 286) (by decide +kernel), rfl⟩
set_option maxRecDepth 20000 in
theorem fn_X8_191 : (Cond.fieldLinkNest RX8 191 "VeneerYard$Thunks" "wanter" "[I" "VeneerYard") ∈ lw_E := List.mem_filter.mpr ⟨List.mem_of_getElem? (i := 287) (by decide +kernel), rfl⟩
set_option maxRecDepth 20000 in
theorem fl_X6_31 : (Cond.fieldLink RX6 31 "VeneerYard$Thunks" "users" "[I") ∈ lw_E := List.mem_filter.mpr ⟨List.mem_of_getElem? (i := 288) (by decide +kernel), rfl⟩
set_option maxRecDepth 20000 in
theorem fn_X4_187 : (Cond.fieldLinkNest RX4 187 "VeneerYard$Thunks" "users" "[I" "VeneerYard") ∈ lw_E := List.mem_filter.mpr ⟨List.mem_of_getElem? (i := 289) (by decide +kernel), rfl⟩
set_option maxRecDepth 20000 in
theorem fn_X8_194 : (Cond.fieldLinkNest RX8 194 "VeneerYard$Thunks" "users" "[I" "VeneerYard") ∈ lw_E := List.mem_filter.mpr ⟨List.mem_of_getElem? (i := 290) (by decide +kernel), rfl⟩
set_option maxRecDepth 20000 in
theorem fl_X6_34 : (Cond.fieldLink RX6 34 "VeneerYard$Thunks" "rank" "[I") ∈ lw_E := List.mem_filter.mpr ⟨List.mem_of_getElem? (i := 291) (by decide +kernel), rfl⟩
set_option maxRecDepth 20000 in
theorem fn_X8_197 : (Cond.fieldLinkNest RX8 197 "VeneerYard$Thunks" "rank" "[I" "VeneerYard") ∈ lw_E := List.mem_filter.mpr ⟨List.mem_of_getElem? (i := 292) (by decide +kernel), rfl⟩
set_option maxRecDepth 20000 in
theorem fl_X6_37 : (Cond.fieldLink RX6 37 "VeneerYard$Thunks" "place" "[J") ∈ lw_E := List.mem_filter.mpr ⟨List.mem_of_getElem? (i := 293) (by decide +kernel), rfl⟩
set_option maxRecDepth 20000 in
theorem fn_X4_179 : (Cond.fieldLinkNest RX4 179 "VeneerYard$Thunks" "place" "[J" "VeneerYard") ∈ lw_E := List.mem_filter.mpr ⟨List.mem_of_getElem? (i := 294) (by decide +kernel), rfl⟩
set_option maxRecDepth 20000 in
theorem fn_X8_169 : (Cond.fieldLinkNest RX8 169 "VeneerYard$Thunks" "place" "[J" "VeneerYard") ∈ lw_E := List.mem_filter.mpr ⟨List.mem_of_getElem? (i := 295) (by decide +kernel), rfl⟩
set_option maxRecDepth 20000 in
theorem fl_X6_41 : (Cond.fieldLink RX6 41 "VeneerYard$Thunks" "inPool" "[I") ∈ lw_E := List.mem_filter.mpr ⟨List.mem_of_getElem? (i := 296) (by decide +kernel), rfl⟩
set_option maxRecDepth 20000 in
theorem fn_X4_59 : (Cond.fieldLinkNest RX4 59 "VeneerYard$Thunks" "inPool" "[I" "VeneerYard") ∈ lw_E := List.mem_filter.mpr ⟨List.mem_of_getElem? (i := 297) (by decide +kernel), rfl⟩
set_option maxRecDepth 20000 in
theorem fl_X6_44 : (Cond.fieldLink RX6 44 "VeneerYard$Thunks" "numbers" "[I") ∈ lw_E := List.mem_filter.mpr ⟨List.mem_of_getElem? (i := 298) (by decide +kernel), rfl⟩
set_option maxRecDepth 20000 in
theorem fl_X4_12 : (Cond.fieldLink RX4 12 "VeneerYard$Layout" "told" "LVeneerYard$Told;") ∈ lw_E := List.mem_filter.mpr ⟨List.mem_of_getElem? (i := 322) (by decide +kernel), rfl⟩
set_option maxRecDepth 20000 in
theorem fn_X8_151 : (Cond.fieldLinkNest RX8 151 "VeneerYard$Layout" "told" "LVeneerYard$Told;" "VeneerYard") ∈ lw_E := List.mem_filter.mpr ⟨List.mem_of_getElem? (i := 323) (by decide +kernel), rfl⟩
set_option maxRecDepth 20000 in
theorem fl_X4_21 : (Cond.fieldLink RX4 21 "VeneerYard$Layout" "addresses" "LVeneerYard$Addresses;") ∈ lw_E := List.mem_filter.mpr ⟨List.mem_of_getElem? (i := 324) (by decide +kernel), rfl⟩
set_option maxRecDepth 20000 in
theorem fn_X8_152 : (Cond.fieldLinkNest RX8 152 "VeneerYard$Layout" "addresses" "LVeneerYard$Addresses;" "VeneerYard") ∈ lw_E := List.mem_filter.mpr ⟨List.mem_of_getElem? (i := 325) (by decide +kernel), rfl⟩
set_option maxRecDepth 20000 in
theorem fl_X4_28 : (Cond.fieldLink RX4 28 "VeneerYard$Layout" "thunks" "LVeneerYard$Thunks;") ∈ lw_E := List.mem_filter.mpr ⟨List.mem_of_getElem? (i := 326) (by decide +kernel), rfl⟩
set_option maxRecDepth 20000 in
theorem fn_X8_118 : (Cond.fieldLinkNest RX8 118 "VeneerYard$Layout" "thunks" "LVeneerYard$Thunks;" "VeneerYard") ∈ lw_E := List.mem_filter.mpr ⟨List.mem_of_getElem? (i := 327) (by decide +kernel), rfl⟩
set_option maxRecDepth 20000 in
theorem fl_X4_32 : (Cond.fieldLink RX4 32 "VeneerYard$Layout" "way" "[I") ∈ lw_E := List.mem_filter.mpr ⟨List.mem_of_getElem? (i := 328) (by decide +kernel), rfl⟩
set_option maxRecDepth 20000 in
theorem fn_X8_178 : (Cond.fieldLinkNest RX8 178 "VeneerYard$Layout" "way" "[I" "VeneerYard") ∈ lw_E := List.mem_filter.mpr ⟨List.mem_of_getElem? (i := 329) (by decide +kernel), rfl⟩
set_option maxRecDepth 20000 in
theorem fl_X4_36 : (Cond.fieldLink RX4 36 "VeneerYard$Layout" "byThunk" "[I") ∈ lw_E := List.mem_filter.mpr ⟨List.mem_of_getElem? (i := 330) (by decide +kernel), rfl⟩
set_option maxRecDepth 20000 in
theorem fn_X8_181 : (Cond.fieldLinkNest RX8 181 "VeneerYard$Layout" "byThunk" "[I" "VeneerYard") ∈ lw_E := List.mem_filter.mpr ⟨List.mem_of_getElem? (i := 331) (by decide +kernel), rfl⟩
set_option maxRecDepth 20000 in
theorem fl_X4_39 : (Cond.fieldLink RX4 39 "VeneerYard$Layout" "rounds" "I") ∈ lw_E := List.mem_filter.mpr ⟨List.mem_of_getElem? (i := 332) (by decide +kernel), rfl⟩
set_option maxRecDepth 20000 in
theorem fn_X8_115 : (Cond.fieldLinkNest RX8 115 "VeneerYard$Layout" "rounds" "I" "VeneerYard") ∈ lw_E := List.mem_filter.mpr ⟨List.mem_of_getElem? (i := 333) (by decide +kernel), rfl⟩
set_option maxRecDepth 20000 in
theorem fl_X4_43 : (Cond.fieldLink RX4 43 "VeneerYard$Layout" "direct" "I") ∈ lw_E := List.mem_filter.mpr ⟨List.mem_of_getElem? (i := 334) (by decide +kernel), rfl⟩
set_option maxRecDepth 20000 in
theorem fn_X8_127 : (Cond.fieldLinkNest RX8 127 "VeneerYard$Layout" "direct" "I" "VeneerYard") ∈ lw_E := List.mem_filter.mpr ⟨List.mem_of_getElem? (i := 335) (by decide +kernel), rfl⟩
set_option maxRecDepth 20000 in
theorem fl_X4_46 : (Cond.fieldLink RX4 46 "VeneerYard$Layout" "throughThunks" "I") ∈ lw_E := List.mem_filter.mpr ⟨List.mem_of_getElem? (i := 336) (by decide +kernel), rfl⟩
set_option maxRecDepth 20000 in
theorem fn_X8_130 : (Cond.fieldLinkNest RX8 130 "VeneerYard$Layout" "throughThunks" "I" "VeneerYard") ∈ lw_E := List.mem_filter.mpr ⟨List.mem_of_getElem? (i := 337) (by decide +kernel), rfl⟩
set_option maxRecDepth 20000 in
theorem fl_X4_49 : (Cond.fieldLink RX4 49 "VeneerYard$Layout" "refused" "I") ∈ lw_E := List.mem_filter.mpr ⟨List.mem_of_getElem? (i := 338) (by decide +kernel), rfl⟩
set_option maxRecDepth 20000 in
theorem fn_X8_112 : (Cond.fieldLinkNest RX8 112 "VeneerYard$Layout" "refused" "I" "VeneerYard") ∈ lw_E := List.mem_filter.mpr ⟨List.mem_of_getElem? (i := 339) (by decide +kernel), rfl⟩
set_option maxRecDepth 20000 in
theorem cl_X8_23 : (Cond.classLink RX8 23 RX0) ∈ lw_E := List.mem_filter.mpr ⟨List.mem_of_getElem? (i := 359) (by decide +kernel), rfl⟩
set_option maxRecDepth 20000 in
theorem mn_X8_25 : (Cond.methodLinkNest RX8 25 yX0_init "VeneerYard") ∈ lw_E := List.mem_filter.mpr ⟨List.mem_of_getElem? (i := 360) (by decide +kernel), rfl⟩
set_option maxRecDepth 20000 in
theorem fl_X8_12 : (Cond.fieldLink RX8 12 "VeneerYard" "told" "LVeneerYard$Told;") ∈ lw_E := List.mem_filter.mpr ⟨List.mem_of_getElem? (i := 361) (by decide +kernel), rfl⟩
set_option maxRecDepth 20000 in
theorem fl_X8_19 : (Cond.fieldLink RX8 19 "VeneerYard" "laid" "LVeneerYard$Layout;") ∈ lw_E := List.mem_filter.mpr ⟨List.mem_of_getElem? (i := 362) (by decide +kernel), rfl⟩
set_option maxRecDepth 20000 in
theorem fl_X8_26 : (Cond.fieldLink RX8 26 "VeneerYard" "plain" "LVeneerYard$Addresses;") ∈ lw_E := List.mem_filter.mpr ⟨List.mem_of_getElem? (i := 363) (by decide +kernel), rfl⟩
set_option maxRecDepth 20000 in
theorem fl_X8_30 : (Cond.fieldLink RX8 30 "VeneerYard" "noThunks" "[I") ∈ lw_E := List.mem_filter.mpr ⟨List.mem_of_getElem? (i := 364) (by decide +kernel), rfl⟩
set_option maxRecDepth 20000 in
theorem fl_X8_34 : (Cond.fieldLink RX8 34 "VeneerYard" "toldSinceLay" "Z") ∈ lw_E := List.mem_filter.mpr ⟨List.mem_of_getElem? (i := 365) (by decide +kernel), rfl⟩
set_option maxRecDepth 20000 in
theorem ml_L_13 : (Cond.methodLink RL 13 yX8_section) ∈ lw_E := List.mem_filter.mpr ⟨List.mem_of_getElem? (i := 377) (by decide +kernel), rfl⟩
set_option maxRecDepth 20000 in
theorem im_X8_section : (Cond.instanceMethod yX8_section) ∈ lw_E := List.mem_filter.mpr ⟨List.mem_of_getElem? (i := 378) (by decide +kernel), rfl⟩
set_option maxRecDepth 20000 in
theorem se_X8_section : (Cond.selects RX8 yX8_section yX8_section) ∈ lw_E := List.mem_filter.mpr ⟨List.mem_of_getElem? (i := 379) (by decide +kernel), rfl⟩
set_option maxRecDepth 20000 in
theorem cd_X8_section : (Cond.code yX8_section cX8_section 4 (some .int)) ∈ lw_E := List.mem_filter.mpr ⟨List.mem_of_getElem? (i := 380) (by decide +kernel), rfl⟩
set_option maxRecDepth 20000 in
theorem mn_X8_42 : (Cond.methodLinkNest RX8 42 yX5_append "VeneerYard") ∈ lw_E := List.mem_filter.mpr ⟨List.mem_of_getElem? (i := 381) (by decide +kernel), rfl⟩
set_option maxRecDepth 20000 in
theorem im_X5_append : (Cond.instanceMethod yX5_append) ∈ lw_E := List.mem_filter.mpr ⟨List.mem_of_getElem? (i := 383) (by decide +kernel), rfl⟩
set_option maxRecDepth 20000 in
theorem cd_X5_append : (Cond.code yX5_append cX5_append 5 (some .int)) ∈ lw_E := List.mem_filter.mpr ⟨List.mem_of_getElem? (i := 384) (by decide +kernel), rfl⟩
set_option maxRecDepth 20000 in
theorem ml_X5_34 : (Cond.methodLink RX5 34 yX5_isSize) ∈ lw_E := List.mem_filter.mpr ⟨List.mem_of_getElem? (i := 385) (by decide +kernel), rfl⟩
set_option maxRecDepth 20000 in
theorem sc_X5_isSize : (Cond.static yX5_isSize) ∈ lw_E := List.mem_filter.mpr ⟨List.mem_of_getElem? (i := 386) (by decide +kernel), rfl⟩
set_option maxRecDepth 20000 in
theorem cd_X5_isSize : (Cond.code yX5_isSize cX5_isSize 1 (some .boolean)) ∈ lw_E := List.mem_filter.mpr ⟨List.mem_of_getElem? (i := 387) (by decide +kernel), rfl⟩
set_option maxRecDepth 20000 in
theorem kc_X5_33 : (Cond.constant RX5 33 (1000000)) ∈ lw_E := List.mem_filter.mpr ⟨List.mem_of_getElem? (i := 388) (by decide +kernel), rfl⟩
set_option maxRecDepth 20000 in
theorem ml_X8_48 : (Cond.methodLink RX8 48 yX8_notedNumber) ∈ lw_E := List.mem_filter.mpr ⟨List.mem_of_getElem? (i := 389) (by decide +kernel), rfl⟩
set_option maxRecDepth 20000 in
theorem im_X8_notedNumber : (Cond.instanceMethod yX8_notedNumber) ∈ lw_E := List.mem_filter.mpr ⟨List.mem_of_getElem? (i := 391) (by decide +kernel), rfl⟩
set_option maxRecDepth 20000 in
theorem cd_X8_notedNumber : (Cond.code yX8_notedNumber cX8_notedNumber 2 (some .int)) ∈ lw_E := List.mem_filter.mpr ⟨List.mem_of_getElem? (i := 392) (by decide +kernel), rfl⟩
set_option maxRecDepth 20000 in
theorem ml_X8_78 : (Cond.methodLink RX8 78 yX8_noted) ∈ lw_E := List.mem_filter.mpr ⟨List.mem_of_getElem? (i := 393) (by decide +kernel), rfl⟩
set_option maxRecDepth 20000 in
theorem im_X8_noted : (Cond.instanceMethod yX8_noted) ∈ lw_E := List.mem_filter.mpr ⟨List.mem_of_getElem? (i := 395) (by decide +kernel), rfl⟩
set_option maxRecDepth 20000 in
theorem cd_X8_noted : (Cond.code yX8_noted cX8_noted 2 (some .boolean)) ∈ lw_E := List.mem_filter.mpr ⟨List.mem_of_getElem? (i := 396) (by decide +kernel), rfl⟩
set_option maxRecDepth 20000 in
theorem ml_L_18 : (Cond.methodLink RL 18 yX8_label) ∈ lw_E := List.mem_filter.mpr ⟨List.mem_of_getElem? (i := 397) (by decide +kernel), rfl⟩
set_option maxRecDepth 20000 in
theorem im_X8_label : (Cond.instanceMethod yX8_label) ∈ lw_E := List.mem_filter.mpr ⟨List.mem_of_getElem? (i := 398) (by decide +kernel), rfl⟩
set_option maxRecDepth 20000 in
theorem se_X8_label : (Cond.selects RX8 yX8_label yX8_label) ∈ lw_E := List.mem_filter.mpr ⟨List.mem_of_getElem? (i := 399) (by decide +kernel), rfl⟩
set_option maxRecDepth 20000 in
theorem cd_X8_label : (Cond.code yX8_label cX8_label 3 (some .int)) ∈ lw_E := List.mem_filter.mpr ⟨List.mem_of_getElem? (i := 400) (by decide +kernel), rfl⟩
set_option maxRecDepth 20000 in
theorem mn_X8_52 : (Cond.methodLinkNest RX8 52 yX5_has "VeneerYard") ∈ lw_E := List.mem_filter.mpr ⟨List.mem_of_getElem? (i := 401) (by decide +kernel), rfl⟩
set_option maxRecDepth 20000 in
theorem im_X5_has : (Cond.instanceMethod yX5_has) ∈ lw_E := List.mem_filter.mpr ⟨List.mem_of_getElem? (i := 403) (by decide +kernel), rfl⟩
set_option maxRecDepth 20000 in
theorem cd_X5_has : (Cond.code yX5_has cX5_has 2 (some .boolean)) ∈ lw_E := List.mem_filter.mpr ⟨List.mem_of_getElem? (i := 404) (by decide +kernel), rfl⟩
set_option maxRecDepth 20000 in
theorem mn_X8_63 : (Cond.methodLinkNest RX8 63 yX3_append "VeneerYard") ∈ lw_E := List.mem_filter.mpr ⟨List.mem_of_getElem? (i := 405) (by decide +kernel), rfl⟩
set_option maxRecDepth 20000 in
theorem im_X3_append : (Cond.instanceMethod yX3_append) ∈ lw_E := List.mem_filter.mpr ⟨List.mem_of_getElem? (i := 407) (by decide +kernel), rfl⟩
set_option maxRecDepth 20000 in
theorem cd_X3_append : (Cond.code yX3_append cX3_append 4 (some .int)) ∈ lw_E := List.mem_filter.mpr ⟨List.mem_of_getElem? (i := 408) (by decide +kernel), rfl⟩
set_option maxRecDepth 20000 in
theorem ml_L_23 : (Cond.methodLink RL 23 yX8_kind) ∈ lw_E := List.mem_filter.mpr ⟨List.mem_of_getElem? (i := 409) (by decide +kernel), rfl⟩
set_option maxRecDepth 20000 in
theorem im_X8_kind : (Cond.instanceMethod yX8_kind) ∈ lw_E := List.mem_filter.mpr ⟨List.mem_of_getElem? (i := 410) (by decide +kernel), rfl⟩
set_option maxRecDepth 20000 in
theorem se_X8_kind : (Cond.selects RX8 yX8_kind yX8_kind) ∈ lw_E := List.mem_filter.mpr ⟨List.mem_of_getElem? (i := 411) (by decide +kernel), rfl⟩
set_option maxRecDepth 20000 in
theorem cd_X8_kind : (Cond.code yX8_kind cX8_kind 4 (some .boolean)) ∈ lw_E := List.mem_filter.mpr ⟨List.mem_of_getElem? (i := 412) (by decide +kernel), rfl⟩
set_option maxRecDepth 20000 in
theorem mn_X8_72 : (Cond.methodLinkNest RX8 72 yX2_tell "VeneerYard") ∈ lw_E := List.mem_filter.mpr ⟨List.mem_of_getElem? (i := 413) (by decide +kernel), rfl⟩
set_option maxRecDepth 20000 in
theorem im_X2_tell : (Cond.instanceMethod yX2_tell) ∈ lw_E := List.mem_filter.mpr ⟨List.mem_of_getElem? (i := 415) (by decide +kernel), rfl⟩
set_option maxRecDepth 20000 in
theorem cd_X2_tell : (Cond.code yX2_tell cX2_tell 5 (some .boolean)) ∈ lw_E := List.mem_filter.mpr ⟨List.mem_of_getElem? (i := 416) (by decide +kernel), rfl⟩
set_option maxRecDepth 20000 in
theorem ml_X2_18 : (Cond.methodLink RX2 18 yX2_powerOf) ∈ lw_E := List.mem_filter.mpr ⟨List.mem_of_getElem? (i := 417) (by decide +kernel), rfl⟩
set_option maxRecDepth 20000 in
theorem sc_X2_powerOf : (Cond.static yX2_powerOf) ∈ lw_E := List.mem_filter.mpr ⟨List.mem_of_getElem? (i := 418) (by decide +kernel), rfl⟩
set_option maxRecDepth 20000 in
theorem cd_X2_powerOf : (Cond.code yX2_powerOf cX2_powerOf 1 (some .int)) ∈ lw_E := List.mem_filter.mpr ⟨List.mem_of_getElem? (i := 419) (by decide +kernel), rfl⟩
set_option maxRecDepth 20000 in
theorem ml_L_28 : (Cond.methodLink RL 28 yX8_branch) ∈ lw_E := List.mem_filter.mpr ⟨List.mem_of_getElem? (i := 420) (by decide +kernel), rfl⟩
set_option maxRecDepth 20000 in
theorem im_X8_branch : (Cond.instanceMethod yX8_branch) ∈ lw_E := List.mem_filter.mpr ⟨List.mem_of_getElem? (i := 421) (by decide +kernel), rfl⟩
set_option maxRecDepth 20000 in
theorem se_X8_branch : (Cond.selects RX8 yX8_branch yX8_branch) ∈ lw_E := List.mem_filter.mpr ⟨List.mem_of_getElem? (i := 422) (by decide +kernel), rfl⟩
set_option maxRecDepth 20000 in
theorem cd_X8_branch : (Cond.code yX8_branch cX8_branch 5 (some .int)) ∈ lw_E := List.mem_filter.mpr ⟨List.mem_of_getElem? (i := 423) (by decide +kernel), rfl⟩
set_option maxRecDepth 20000 in
theorem mn_X8_82 : (Cond.methodLinkNest RX8 82 yX2_has "VeneerYard") ∈ lw_E := List.mem_filter.mpr ⟨List.mem_of_getElem? (i := 424) (by decide +kernel), rfl⟩
set_option maxRecDepth 20000 in
theorem im_X2_has : (Cond.instanceMethod yX2_has) ∈ lw_E := List.mem_filter.mpr ⟨List.mem_of_getElem? (i := 426) (by decide +kernel), rfl⟩
set_option maxRecDepth 20000 in
theorem cd_X2_has : (Cond.code yX2_has cX2_has 2 (some .boolean)) ∈ lw_E := List.mem_filter.mpr ⟨List.mem_of_getElem? (i := 427) (by decide +kernel), rfl⟩
set_option maxRecDepth 20000 in
theorem mn_X8_83 : (Cond.methodLinkNest RX8 83 yX3_has "VeneerYard") ∈ lw_E := List.mem_filter.mpr ⟨List.mem_of_getElem? (i := 428) (by decide +kernel), rfl⟩
set_option maxRecDepth 20000 in
theorem im_X3_has : (Cond.instanceMethod yX3_has) ∈ lw_E := List.mem_filter.mpr ⟨List.mem_of_getElem? (i := 430) (by decide +kernel), rfl⟩
set_option maxRecDepth 20000 in
theorem cd_X3_has : (Cond.code yX3_has cX3_has 2 (some .boolean)) ∈ lw_E := List.mem_filter.mpr ⟨List.mem_of_getElem? (i := 431) (by decide +kernel), rfl⟩
set_option maxRecDepth 20000 in
theorem mn_X8_88 : (Cond.methodLinkNest RX8 88 yX1_append "VeneerYard") ∈ lw_E := List.mem_filter.mpr ⟨List.mem_of_getElem? (i := 432) (by decide +kernel), rfl⟩
set_option maxRecDepth 20000 in
theorem im_X1_append : (Cond.instanceMethod yX1_append) ∈ lw_E := List.mem_filter.mpr ⟨List.mem_of_getElem? (i := 434) (by decide +kernel), rfl⟩
set_option maxRecDepth 20000 in
theorem cd_X1_append : (Cond.code yX1_append cX1_append 6 (some .int)) ∈ lw_E := List.mem_filter.mpr ⟨List.mem_of_getElem? (i := 435) (by decide +kernel), rfl⟩
set_option maxRecDepth 20000 in
theorem ml_L_33 : (Cond.methodLink RL 33 yX8_thunks) ∈ lw_E := List.mem_filter.mpr ⟨List.mem_of_getElem? (i := 436) (by decide +kernel), rfl⟩
set_option maxRecDepth 20000 in
theorem im_X8_thunks : (Cond.instanceMethod yX8_thunks) ∈ lw_E := List.mem_filter.mpr ⟨List.mem_of_getElem? (i := 437) (by decide +kernel), rfl⟩
set_option maxRecDepth 20000 in
theorem se_X8_thunks : (Cond.selects RX8 yX8_thunks yX8_thunks) ∈ lw_E := List.mem_filter.mpr ⟨List.mem_of_getElem? (i := 438) (by decide +kernel), rfl⟩
set_option maxRecDepth 20000 in
theorem cd_X8_thunks : (Cond.code yX8_thunks cX8_thunks 4 (some .boolean)) ∈ lw_E := List.mem_filter.mpr ⟨List.mem_of_getElem? (i := 439) (by decide +kernel), rfl⟩
set_option maxRecDepth 20000 in
theorem mn_X8_93 : (Cond.methodLinkNest RX8 93 yX7_tellThunks "VeneerYard") ∈ lw_E := List.mem_filter.mpr ⟨List.mem_of_getElem? (i := 440) (by decide +kernel), rfl⟩
set_option maxRecDepth 20000 in
theorem im_X7_tellThunks : (Cond.instanceMethod yX7_tellThunks) ∈ lw_E := List.mem_filter.mpr ⟨List.mem_of_getElem? (i := 442) (by decide +kernel), rfl⟩
set_option maxRecDepth 20000 in
theorem cd_X7_tellThunks : (Cond.code yX7_tellThunks cX7_tellThunks 4 (some .boolean)) ∈ lw_E := List.mem_filter.mpr ⟨List.mem_of_getElem? (i := 443) (by decide +kernel), rfl⟩
set_option maxRecDepth 20000 in
theorem mn_X7_52 : (Cond.methodLinkNest RX7 52 yX2_has "VeneerYard") ∈ lw_E := List.mem_filter.mpr ⟨List.mem_of_getElem? (i := 444) (by decide +kernel), rfl⟩
set_option maxRecDepth 20000 in
theorem ml_L_37 : (Cond.methodLink RL 37 yX8_base) ∈ lw_E := List.mem_filter.mpr ⟨List.mem_of_getElem? (i := 445) (by decide +kernel), rfl⟩
set_option maxRecDepth 20000 in
theorem im_X8_base : (Cond.instanceMethod yX8_base) ∈ lw_E := List.mem_filter.mpr ⟨List.mem_of_getElem? (i := 446) (by decide +kernel), rfl⟩
set_option maxRecDepth 20000 in
theorem se_X8_base : (Cond.selects RX8 yX8_base yX8_base) ∈ lw_E := List.mem_filter.mpr ⟨List.mem_of_getElem? (i := 447) (by decide +kernel), rfl⟩
set_option maxRecDepth 20000 in
theorem cd_X8_base : (Cond.code yX8_base cX8_base 2 (some .boolean)) ∈ lw_E := List.mem_filter.mpr ⟨List.mem_of_getElem? (i := 448) (by decide +kernel), rfl⟩
set_option maxRecDepth 20000 in
theorem ml_L_42 : (Cond.methodLink RL 42 yX8_resize) ∈ lw_E := List.mem_filter.mpr ⟨List.mem_of_getElem? (i := 449) (by decide +kernel), rfl⟩
set_option maxRecDepth 20000 in
theorem im_X8_resize : (Cond.instanceMethod yX8_resize) ∈ lw_E := List.mem_filter.mpr ⟨List.mem_of_getElem? (i := 450) (by decide +kernel), rfl⟩
set_option maxRecDepth 20000 in
theorem se_X8_resize : (Cond.selects RX8 yX8_resize yX8_resize) ∈ lw_E := List.mem_filter.mpr ⟨List.mem_of_getElem? (i := 451) (by decide +kernel), rfl⟩
set_option maxRecDepth 20000 in
theorem cd_X8_resize : (Cond.code yX8_resize cX8_resize 3 (some .boolean)) ∈ lw_E := List.mem_filter.mpr ⟨List.mem_of_getElem? (i := 452) (by decide +kernel), rfl⟩
set_option maxRecDepth 20000 in
theorem mn_X8_100 : (Cond.methodLinkNest RX8 100 yX7_changeSize "VeneerYard") ∈ lw_E := List.mem_filter.mpr ⟨List.mem_of_getElem? (i := 453) (by decide +kernel), rfl⟩
set_option maxRecDepth 20000 in
theorem im_X7_changeSize : (Cond.instanceMethod yX7_changeSize) ∈ lw_E := List.mem_filter.mpr ⟨List.mem_of_getElem? (i := 455) (by decide +kernel), rfl⟩
set_option maxRecDepth 20000 in
theorem cd_X7_changeSize : (Cond.code yX7_changeSize cX7_changeSize 3 (some .boolean)) ∈ lw_E := List.mem_filter.mpr ⟨List.mem_of_getElem? (i := 456) (by decide +kernel), rfl⟩
set_option maxRecDepth 20000 in
theorem mn_X7_56 : (Cond.methodLinkNest RX7 56 yX5_has "VeneerYard") ∈ lw_E := List.mem_filter.mpr ⟨List.mem_of_getElem? (i := 457) (by decide +kernel), rfl⟩
set_option maxRecDepth 20000 in
theorem mn_X7_57 : (Cond.methodLinkNest RX7 57 yX5_isSize "VeneerYard") ∈ lw_E := List.mem_filter.mpr ⟨List.mem_of_getElem? (i := 458) (by decide +kernel), rfl⟩
set_option maxRecDepth 20000 in
theorem mn_X7_60 : (Cond.methodLinkNest RX7 60 yX3_highestIn "VeneerYard") ∈ lw_E := List.mem_filter.mpr ⟨List.mem_of_getElem? (i := 459) (by decide +kernel), rfl⟩
set_option maxRecDepth 20000 in
theorem im_X3_highestIn : (Cond.instanceMethod yX3_highestIn) ∈ lw_E := List.mem_filter.mpr ⟨List.mem_of_getElem? (i := 461) (by decide +kernel), rfl⟩
set_option maxRecDepth 20000 in
theorem cd_X3_highestIn : (Cond.code yX3_highestIn cX3_highestIn 4 (some .int)) ∈ lw_E := List.mem_filter.mpr ⟨List.mem_of_getElem? (i := 462) (by decide +kernel), rfl⟩
set_option maxRecDepth 20000 in
theorem ml_X3_22 : (Cond.methodLink RX3 22 yJ9_max_7cf53) ∈ lw_E := List.mem_filter.mpr ⟨List.mem_of_getElem? (i := 463) (by decide +kernel), rfl⟩
set_option maxRecDepth 20000 in
theorem sc_J9_max_7cf53 : (Cond.static yJ9_max_7cf53) ∈ lw_E := List.mem_filter.mpr ⟨List.mem_of_getElem? (i := 464) (by decide +kernel), rfl⟩
set_option maxRecDepth 20000 in
theorem cd_J9_max_7cf53 : (Cond.code yJ9_max_7cf53 cJ9_max_7cf53 2 (some .int)) ∈ lw_E := List.mem_filter.mpr ⟨List.mem_of_getElem? (i := 465) (by decide +kernel), rfl⟩
set_option maxRecDepth 20000 in
theorem mn_X7_64 : (Cond.methodLinkNest RX7 64 yX1_highestIn "VeneerYard") ∈ lw_E := List.mem_filter.mpr ⟨List.mem_of_getElem? (i := 466) (by decide +kernel), rfl⟩
set_option maxRecDepth 20000 in
theorem im_X1_highestIn : (Cond.instanceMethod yX1_highestIn) ∈ lw_E := List.mem_filter.mpr ⟨List.mem_of_getElem? (i := 468) (by decide +kernel), rfl⟩
set_option maxRecDepth 20000 in
theorem cd_X1_highestIn : (Cond.code yX1_highestIn cX1_highestIn 4 (some .int)) ∈ lw_E := List.mem_filter.mpr ⟨List.mem_of_getElem? (i := 469) (by decide +kernel), rfl⟩
set_option maxRecDepth 20000 in
theorem ml_X1_28 : (Cond.methodLink RX1 28 yJ9_max_7cf53) ∈ lw_E := List.mem_filter.mpr ⟨List.mem_of_getElem? (i := 470) (by decide +kernel), rfl⟩
set_option maxRecDepth 20000 in
theorem ml_L_47 : (Cond.methodLink RL 47 yX8_retarget) ∈ lw_E := List.mem_filter.mpr ⟨List.mem_of_getElem? (i := 471) (by decide +kernel), rfl⟩
set_option maxRecDepth 20000 in
theorem im_X8_retarget : (Cond.instanceMethod yX8_retarget) ∈ lw_E := List.mem_filter.mpr ⟨List.mem_of_getElem? (i := 472) (by decide +kernel), rfl⟩
set_option maxRecDepth 20000 in
theorem se_X8_retarget : (Cond.selects RX8 yX8_retarget yX8_retarget) ∈ lw_E := List.mem_filter.mpr ⟨List.mem_of_getElem? (i := 473) (by decide +kernel), rfl⟩
set_option maxRecDepth 20000 in
theorem cd_X8_retarget : (Cond.code yX8_retarget cX8_retarget 3 (some .boolean)) ∈ lw_E := List.mem_filter.mpr ⟨List.mem_of_getElem? (i := 474) (by decide +kernel), rfl⟩
set_option maxRecDepth 20000 in
theorem mn_X8_104 : (Cond.methodLinkNest RX8 104 yX1_has "VeneerYard") ∈ lw_E := List.mem_filter.mpr ⟨List.mem_of_getElem? (i := 475) (by decide +kernel), rfl⟩
set_option maxRecDepth 20000 in
theorem im_X1_has : (Cond.instanceMethod yX1_has) ∈ lw_E := List.mem_filter.mpr ⟨List.mem_of_getElem? (i := 477) (by decide +kernel), rfl⟩
set_option maxRecDepth 20000 in
theorem cd_X1_has : (Cond.code yX1_has cX1_has 2 (some .boolean)) ∈ lw_E := List.mem_filter.mpr ⟨List.mem_of_getElem? (i := 478) (by decide +kernel), rfl⟩
set_option maxRecDepth 20000 in
theorem ml_L_51 : (Cond.methodLink RL 51 yX8_lay) ∈ lw_E := List.mem_filter.mpr ⟨List.mem_of_getElem? (i := 479) (by decide +kernel), rfl⟩
set_option maxRecDepth 20000 in
theorem im_X8_lay : (Cond.instanceMethod yX8_lay) ∈ lw_E := List.mem_filter.mpr ⟨List.mem_of_getElem? (i := 480) (by decide +kernel), rfl⟩
set_option maxRecDepth 20000 in
theorem se_X8_lay : (Cond.selects RX8 yX8_lay yX8_lay) ∈ lw_E := List.mem_filter.mpr ⟨List.mem_of_getElem? (i := 481) (by decide +kernel), rfl⟩
set_option maxRecDepth 20000 in
theorem cd_X8_lay : (Cond.code yX8_lay cX8_lay 1 (some .int)) ∈ lw_E := List.mem_filter.mpr ⟨List.mem_of_getElem? (i := 482) (by decide +kernel), rfl⟩
set_option maxRecDepth 20000 in
theorem mn_X8_108 : (Cond.methodLinkNest RX8 108 yX4_layOut "VeneerYard") ∈ lw_E := List.mem_filter.mpr ⟨List.mem_of_getElem? (i := 483) (by decide +kernel), rfl⟩
set_option maxRecDepth 20000 in
theorem im_X4_layOut : (Cond.instanceMethod yX4_layOut) ∈ lw_E := List.mem_filter.mpr ⟨List.mem_of_getElem? (i := 485) (by decide +kernel), rfl⟩
set_option maxRecDepth 20000 in
theorem cd_X4_layOut : (Cond.code yX4_layOut cX4_layOut 3 none) ∈ lw_E := List.mem_filter.mpr ⟨List.mem_of_getElem? (i := 486) (by decide +kernel), rfl⟩
set_option maxRecDepth 20000 in
theorem mn_X4_52 : (Cond.methodLinkNest RX4 52 yX7_copyFrom "VeneerYard") ∈ lw_E := List.mem_filter.mpr ⟨List.mem_of_getElem? (i := 487) (by decide +kernel), rfl⟩
set_option maxRecDepth 20000 in
theorem im_X7_copyFrom : (Cond.instanceMethod yX7_copyFrom) ∈ lw_E := List.mem_filter.mpr ⟨List.mem_of_getElem? (i := 489) (by decide +kernel), rfl⟩
set_option maxRecDepth 20000 in
theorem cd_X7_copyFrom : (Cond.code yX7_copyFrom cX7_copyFrom 2 none) ∈ lw_E := List.mem_filter.mpr ⟨List.mem_of_getElem? (i := 490) (by decide +kernel), rfl⟩
set_option maxRecDepth 20000 in
theorem mn_X7_73 : (Cond.methodLinkNest RX7 73 yX5_copyFrom "VeneerYard") ∈ lw_E := List.mem_filter.mpr ⟨List.mem_of_getElem? (i := 491) (by decide +kernel), rfl⟩
set_option maxRecDepth 20000 in
theorem im_X5_copyFrom : (Cond.instanceMethod yX5_copyFrom) ∈ lw_E := List.mem_filter.mpr ⟨List.mem_of_getElem? (i := 493) (by decide +kernel), rfl⟩
set_option maxRecDepth 20000 in
theorem cd_X5_copyFrom : (Cond.code yX5_copyFrom cX5_copyFrom 3 none) ∈ lw_E := List.mem_filter.mpr ⟨List.mem_of_getElem? (i := 494) (by decide +kernel), rfl⟩
set_option maxRecDepth 20000 in
theorem mn_X7_77 : (Cond.methodLinkNest RX7 77 yX3_copyFrom "VeneerYard") ∈ lw_E := List.mem_filter.mpr ⟨List.mem_of_getElem? (i := 495) (by decide +kernel), rfl⟩
set_option maxRecDepth 20000 in
theorem im_X3_copyFrom : (Cond.instanceMethod yX3_copyFrom) ∈ lw_E := List.mem_filter.mpr ⟨List.mem_of_getElem? (i := 497) (by decide +kernel), rfl⟩
set_option maxRecDepth 20000 in
theorem cd_X3_copyFrom : (Cond.code yX3_copyFrom cX3_copyFrom 2 none) ∈ lw_E := List.mem_filter.mpr ⟨List.mem_of_getElem? (i := 498) (by decide +kernel), rfl⟩
set_option maxRecDepth 20000 in
theorem ml_X3_28 : (Cond.methodLink RX3 28 arraycopyName) ∈ lw_E := List.mem_filter.mpr ⟨List.mem_of_getElem? (i := 499) (by decide +kernel), rfl⟩
set_option maxRecDepth 20000 in
theorem sc_J10_arraycopy : (Cond.static arraycopyName) ∈ lw_E := List.mem_filter.mpr ⟨List.mem_of_getElem? (i := 500) (by decide +kernel), rfl⟩
set_option maxRecDepth 20000 in
theorem nt_J10_arraycopy : (Cond.native arraycopyName) ∈ lw_E := List.mem_filter.mpr ⟨List.mem_of_getElem? (i := 501) (by decide +kernel), rfl⟩
set_option maxRecDepth 20000 in
theorem mn_X7_80 : (Cond.methodLinkNest RX7 80 yX2_copyFrom "VeneerYard") ∈ lw_E := List.mem_filter.mpr ⟨List.mem_of_getElem? (i := 502) (by decide +kernel), rfl⟩
set_option maxRecDepth 20000 in
theorem im_X2_copyFrom : (Cond.instanceMethod yX2_copyFrom) ∈ lw_E := List.mem_filter.mpr ⟨List.mem_of_getElem? (i := 504) (by decide +kernel), rfl⟩
set_option maxRecDepth 20000 in
theorem cd_X2_copyFrom : (Cond.code yX2_copyFrom cX2_copyFrom 2 none) ∈ lw_E := List.mem_filter.mpr ⟨List.mem_of_getElem? (i := 505) (by decide +kernel), rfl⟩
set_option maxRecDepth 20000 in
theorem ml_X2_34 : (Cond.methodLink RX2 34 arraycopyName) ∈ lw_E := List.mem_filter.mpr ⟨List.mem_of_getElem? (i := 506) (by decide +kernel), rfl⟩
set_option maxRecDepth 20000 in
theorem mn_X7_83 : (Cond.methodLinkNest RX7 83 yX1_copyFrom "VeneerYard") ∈ lw_E := List.mem_filter.mpr ⟨List.mem_of_getElem? (i := 507) (by decide +kernel), rfl⟩
set_option maxRecDepth 20000 in
theorem im_X1_copyFrom : (Cond.instanceMethod yX1_copyFrom) ∈ lw_E := List.mem_filter.mpr ⟨List.mem_of_getElem? (i := 509) (by decide +kernel), rfl⟩
set_option maxRecDepth 20000 in
theorem cd_X1_copyFrom : (Cond.code yX1_copyFrom cX1_copyFrom 2 none) ∈ lw_E := List.mem_filter.mpr ⟨List.mem_of_getElem? (i := 510) (by decide +kernel), rfl⟩
set_option maxRecDepth 20000 in
theorem ml_X1_34 : (Cond.methodLink RX1 34 arraycopyName) ∈ lw_E := List.mem_filter.mpr ⟨List.mem_of_getElem? (i := 511) (by decide +kernel), rfl⟩
set_option maxRecDepth 20000 in
theorem mn_X4_56 : (Cond.methodLinkNest RX4 56 yX6_clear "VeneerYard") ∈ lw_E := List.mem_filter.mpr ⟨List.mem_of_getElem? (i := 512) (by decide +kernel), rfl⟩
set_option maxRecDepth 20000 in
theorem im_X6_clear : (Cond.instanceMethod yX6_clear) ∈ lw_E := List.mem_filter.mpr ⟨List.mem_of_getElem? (i := 514) (by decide +kernel), rfl⟩
set_option maxRecDepth 20000 in
theorem cd_X6_clear : (Cond.code yX6_clear cX6_clear 1 none) ∈ lw_E := List.mem_filter.mpr ⟨List.mem_of_getElem? (i := 515) (by decide +kernel), rfl⟩
set_option maxRecDepth 20000 in
theorem ml_X6_47 : (Cond.methodLink RX6 47 yJ7_fill_53178) ∈ lw_E := List.mem_filter.mpr ⟨List.mem_of_getElem? (i := 516) (by decide +kernel), rfl⟩
set_option maxRecDepth 20000 in
theorem sc_J7_fill_53178 : (Cond.static yJ7_fill_53178) ∈ lw_E := List.mem_filter.mpr ⟨List.mem_of_getElem? (i := 517) (by decide +kernel), rfl⟩
set_option maxRecDepth 20000 in
theorem cd_J7_fill_53178 : (Cond.code yJ7_fill_53178 cJ7_fill_53178 4 none) ∈ lw_E := List.mem_filter.mpr ⟨List.mem_of_getElem? (i := 518) (by decide +kernel), rfl⟩
set_option maxRecDepth 20000 in
theorem mn_X4_62 : (Cond.methodLinkNest RX4 62 yX0_find "VeneerYard") ∈ lw_E := List.mem_filter.mpr ⟨List.mem_of_getElem? (i := 519) (by decide +kernel), rfl⟩
set_option maxRecDepth 20000 in
theorem im_X0_find : (Cond.instanceMethod yX0_find) ∈ lw_E := List.mem_filter.mpr ⟨List.mem_of_getElem? (i := 521) (by decide +kernel), rfl⟩
set_option maxRecDepth 20000 in
theorem cd_X0_find : (Cond.code yX0_find cX0_find 8 none) ∈ lw_E := List.mem_filter.mpr ⟨List.mem_of_getElem? (i := 522) (by decide +kernel), rfl⟩
set_option maxRecDepth 20000 in
theorem mn_X0_31 : (Cond.methodLinkNest RX0 31 yX7_thunkStride "VeneerYard") ∈ lw_E := List.mem_filter.mpr ⟨List.mem_of_getElem? (i := 523) (by decide +kernel), rfl⟩
set_option maxRecDepth 20000 in
theorem im_X7_thunkStride : (Cond.instanceMethod yX7_thunkStride) ∈ lw_E := List.mem_filter.mpr ⟨List.mem_of_getElem? (i := 525) (by decide +kernel), rfl⟩
set_option maxRecDepth 20000 in
theorem cd_X7_thunkStride : (Cond.code yX7_thunkStride cX7_thunkStride 1 (some .long)) ∈ lw_E := List.mem_filter.mpr ⟨List.mem_of_getElem? (i := 526) (by decide +kernel), rfl⟩
set_option maxRecDepth 20000 in
theorem mn_X7_69 : (Cond.methodLinkNest RX7 69 yX8_alignUp "VeneerYard") ∈ lw_E := List.mem_filter.mpr ⟨List.mem_of_getElem? (i := 527) (by decide +kernel), rfl⟩
set_option maxRecDepth 20000 in
theorem sc_X8_alignUp : (Cond.static yX8_alignUp) ∈ lw_E := List.mem_filter.mpr ⟨List.mem_of_getElem? (i := 528) (by decide +kernel), rfl⟩
set_option maxRecDepth 20000 in
theorem cd_X8_alignUp : (Cond.code yX8_alignUp cX8_alignUp 4 (some .long)) ∈ lw_E := List.mem_filter.mpr ⟨List.mem_of_getElem? (i := 529) (by decide +kernel), rfl⟩
set_option maxRecDepth 20000 in
theorem mn_X0_48 : (Cond.methodLinkNest RX0 48 yX8_alignUp "VeneerYard") ∈ lw_E := List.mem_filter.mpr ⟨List.mem_of_getElem? (i := 530) (by decide +kernel), rfl⟩
set_option maxRecDepth 20000 in
theorem mn_X4_66 : (Cond.methodLinkNest RX4 66 yX7_thunkStride "VeneerYard") ∈ lw_E := List.mem_filter.mpr ⟨List.mem_of_getElem? (i := 531) (by decide +kernel), rfl⟩
set_option maxRecDepth 20000 in
theorem mn_X4_70 : (Cond.methodLinkNest RX4 70 yX6_findPlaces "VeneerYard") ∈ lw_E := List.mem_filter.mpr ⟨List.mem_of_getElem? (i := 532) (by decide +kernel), rfl⟩
set_option maxRecDepth 20000 in
theorem im_X6_findPlaces : (Cond.instanceMethod yX6_findPlaces) ∈ lw_E := List.mem_filter.mpr ⟨List.mem_of_getElem? (i := 534) (by decide +kernel), rfl⟩
set_option maxRecDepth 20000 in
theorem cd_X6_findPlaces : (Cond.code yX6_findPlaces cX6_findPlaces 5 none) ∈ lw_E := List.mem_filter.mpr ⟨List.mem_of_getElem? (i := 535) (by decide +kernel), rfl⟩
set_option maxRecDepth 20000 in
theorem ml_X4_74 : (Cond.methodLink RX4 74 yX4_anyWanted) ∈ lw_E := List.mem_filter.mpr ⟨List.mem_of_getElem? (i := 536) (by decide +kernel), rfl⟩
set_option maxRecDepth 20000 in
theorem im_X4_anyWanted : (Cond.instanceMethod yX4_anyWanted) ∈ lw_E := List.mem_filter.mpr ⟨List.mem_of_getElem? (i := 538) (by decide +kernel), rfl⟩
set_option maxRecDepth 20000 in
theorem cd_X4_anyWanted : (Cond.code yX4_anyWanted cX4_anyWanted 3 (some .boolean)) ∈ lw_E := List.mem_filter.mpr ⟨List.mem_of_getElem? (i := 539) (by decide +kernel), rfl⟩
set_option maxRecDepth 20000 in
theorem mn_X4_81 : (Cond.methodLinkNest RX4 81 yX7_hasThunks "VeneerYard") ∈ lw_E := List.mem_filter.mpr ⟨List.mem_of_getElem? (i := 540) (by decide +kernel), rfl⟩
set_option maxRecDepth 20000 in
theorem im_X7_hasThunks : (Cond.instanceMethod yX7_hasThunks) ∈ lw_E := List.mem_filter.mpr ⟨List.mem_of_getElem? (i := 542) (by decide +kernel), rfl⟩
set_option maxRecDepth 20000 in
theorem cd_X7_hasThunks : (Cond.code yX7_hasThunks cX7_hasThunks 1 (some .boolean)) ∈ lw_E := List.mem_filter.mpr ⟨List.mem_of_getElem? (i := 543) (by decide +kernel), rfl⟩
set_option maxRecDepth 20000 in
theorem ml_X4_94 : (Cond.methodLink RX4 94 yX4_isDirect) ∈ lw_E := List.mem_filter.mpr ⟨List.mem_of_getElem? (i := 544) (by decide +kernel), rfl⟩
set_option maxRecDepth 20000 in
theorem im_X4_isDirect : (Cond.instanceMethod yX4_isDirect) ∈ lw_E := List.mem_filter.mpr ⟨List.mem_of_getElem? (i := 546) (by decide +kernel), rfl⟩
set_option maxRecDepth 20000 in
theorem cd_X4_isDirect : (Cond.code yX4_isDirect cX4_isDirect 4 (some .boolean)) ∈ lw_E := List.mem_filter.mpr ⟨List.mem_of_getElem? (i := 547) (by decide +kernel), rfl⟩
set_option maxRecDepth 20000 in
theorem ml_X4_166 : (Cond.methodLink RX4 166 yX4_labelAddress) ∈ lw_E := List.mem_filter.mpr ⟨List.mem_of_getElem? (i := 548) (by decide +kernel), rfl⟩
set_option maxRecDepth 20000 in
theorem im_X4_labelAddress : (Cond.instanceMethod yX4_labelAddress) ∈ lw_E := List.mem_filter.mpr ⟨List.mem_of_getElem? (i := 550) (by decide +kernel), rfl⟩
set_option maxRecDepth 20000 in
theorem cd_X4_labelAddress : (Cond.code yX4_labelAddress cX4_labelAddress 2 (some .long)) ∈ lw_E := List.mem_filter.mpr ⟨List.mem_of_getElem? (i := 551) (by decide +kernel), rfl⟩
set_option maxRecDepth 20000 in
theorem ml_X4_111 : (Cond.methodLink RX4 111 yX4_branchAddress) ∈ lw_E := List.mem_filter.mpr ⟨List.mem_of_getElem? (i := 552) (by decide +kernel), rfl⟩
set_option maxRecDepth 20000 in
theorem im_X4_branchAddress : (Cond.instanceMethod yX4_branchAddress) ∈ lw_E := List.mem_filter.mpr ⟨List.mem_of_getElem? (i := 554) (by decide +kernel), rfl⟩
set_option maxRecDepth 20000 in
theorem cd_X4_branchAddress : (Cond.code yX4_branchAddress cX4_branchAddress 2 (some .long)) ∈ lw_E := List.mem_filter.mpr ⟨List.mem_of_getElem? (i := 555) (by decide +kernel), rfl⟩
set_option maxRecDepth 20000 in
theorem mn_X4_157 : (Cond.methodLinkNest RX4 157 yX2_reaches "VeneerYard") ∈ lw_E := List.mem_filter.mpr ⟨List.mem_of_getElem? (i := 556) (by decide +kernel), rfl⟩
set_option maxRecDepth 20000 in
theorem im_X2_reaches : (Cond.instanceMethod yX2_reaches) ∈ lw_E := List.mem_filter.mpr ⟨List.mem_of_getElem? (i := 558) (by decide +kernel), rfl⟩
set_option maxRecDepth 20000 in
theorem cd_X2_reaches : (Cond.code yX2_reaches cX2_reaches 12 (some .boolean)) ∈ lw_E := List.mem_filter.mpr ⟨List.mem_of_getElem? (i := 559) (by decide +kernel), rfl⟩
set_option maxRecDepth 20000 in
theorem ml_X2_22 : (Cond.methodLink RX2 22 yX2_has) ∈ lw_E := List.mem_filter.mpr ⟨List.mem_of_getElem? (i := 560) (by decide +kernel), rfl⟩
set_option maxRecDepth 20000 in
theorem ml_X4_97 : (Cond.methodLink RX4 97 yX4_nearestThunk) ∈ lw_E := List.mem_filter.mpr ⟨List.mem_of_getElem? (i := 561) (by decide +kernel), rfl⟩
set_option maxRecDepth 20000 in
theorem im_X4_nearestThunk : (Cond.instanceMethod yX4_nearestThunk) ∈ lw_E := List.mem_filter.mpr ⟨List.mem_of_getElem? (i := 563) (by decide +kernel), rfl⟩
set_option maxRecDepth 20000 in
theorem cd_X4_nearestThunk : (Cond.code yX4_nearestThunk cX4_nearestThunk 12 (some .int)) ∈ lw_E := List.mem_filter.mpr ⟨List.mem_of_getElem? (i := 564) (by decide +kernel), rfl⟩
set_option maxRecDepth 20000 in
theorem mn_X4_169 : (Cond.methodLinkNest RX4 169 yX6_numberOf "VeneerYard") ∈ lw_E := List.mem_filter.mpr ⟨List.mem_of_getElem? (i := 565) (by decide +kernel), rfl⟩
set_option maxRecDepth 20000 in
theorem im_X6_numberOf : (Cond.instanceMethod yX6_numberOf) ∈ lw_E := List.mem_filter.mpr ⟨List.mem_of_getElem? (i := 567) (by decide +kernel), rfl⟩
set_option maxRecDepth 20000 in
theorem cd_X6_numberOf : (Cond.code yX6_numberOf cX6_numberOf 3 (some .int)) ∈ lw_E := List.mem_filter.mpr ⟨List.mem_of_getElem? (i := 568) (by decide +kernel), rfl⟩
set_option maxRecDepth 20000 in
theorem mn_X4_173 : (Cond.methodLinkNest RX4 173 yX6_has "VeneerYard") ∈ lw_E := List.mem_filter.mpr ⟨List.mem_of_getElem? (i := 569) (by decide +kernel), rfl⟩
set_option maxRecDepth 20000 in
theorem im_X6_has : (Cond.instanceMethod yX6_has) ∈ lw_E := List.mem_filter.mpr ⟨List.mem_of_getElem? (i := 571) (by decide +kernel), rfl⟩
set_option maxRecDepth 20000 in
theorem cd_X6_has : (Cond.code yX6_has cX6_has 2 (some .boolean)) ∈ lw_E := List.mem_filter.mpr ⟨List.mem_of_getElem? (i := 572) (by decide +kernel), rfl⟩
set_option maxRecDepth 20000 in
theorem ml_X4_176 : (Cond.methodLink RX4 176 yX4_doesHelp) ∈ lw_E := List.mem_filter.mpr ⟨List.mem_of_getElem? (i := 573) (by decide +kernel), rfl⟩
set_option maxRecDepth 20000 in
theorem im_X4_doesHelp : (Cond.instanceMethod yX4_doesHelp) ∈ lw_E := List.mem_filter.mpr ⟨List.mem_of_getElem? (i := 575) (by decide +kernel), rfl⟩
set_option maxRecDepth 20000 in
theorem cd_X4_doesHelp : (Cond.code yX4_doesHelp cX4_doesHelp 5 (some .boolean)) ∈ lw_E := List.mem_filter.mpr ⟨List.mem_of_getElem? (i := 576) (by decide +kernel), rfl⟩
set_option maxRecDepth 20000 in
theorem ml_X4_133 : (Cond.methodLink RX4 133 yJ9_abs_067f4) ∈ lw_E := List.mem_filter.mpr ⟨List.mem_of_getElem? (i := 577) (by decide +kernel), rfl⟩
set_option maxRecDepth 20000 in
theorem sc_J9_abs_067f4 : (Cond.static yJ9_abs_067f4) ∈ lw_E := List.mem_filter.mpr ⟨List.mem_of_getElem? (i := 578) (by decide +kernel), rfl⟩
set_option maxRecDepth 20000 in
theorem cd_J9_abs_067f4 : (Cond.code yJ9_abs_067f4 cJ9_abs_067f4 2 (some .long)) ∈ lw_E := List.mem_filter.mpr ⟨List.mem_of_getElem? (i := 579) (by decide +kernel), rfl⟩
set_option maxRecDepth 20000 in
theorem ml_X4_101 : (Cond.methodLink RX4 101 yX4_wantThunk) ∈ lw_E := List.mem_filter.mpr ⟨List.mem_of_getElem? (i := 580) (by decide +kernel), rfl⟩
set_option maxRecDepth 20000 in
theorem im_X4_wantThunk : (Cond.instanceMethod yX4_wantThunk) ∈ lw_E := List.mem_filter.mpr ⟨List.mem_of_getElem? (i := 582) (by decide +kernel), rfl⟩
set_option maxRecDepth 20000 in
theorem cd_X4_wantThunk : (Cond.code yX4_wantThunk cX4_wantThunk 12 none) ∈ lw_E := List.mem_filter.mpr ⟨List.mem_of_getElem? (i := 583) (by decide +kernel), rfl⟩
set_option maxRecDepth 20000 in
theorem ml_X4_122 : (Cond.methodLink RX4 122 yX4_couldHelp) ∈ lw_E := List.mem_filter.mpr ⟨List.mem_of_getElem? (i := 584) (by decide +kernel), rfl⟩
set_option maxRecDepth 20000 in
theorem im_X4_couldHelp : (Cond.instanceMethod yX4_couldHelp) ∈ lw_E := List.mem_filter.mpr ⟨List.mem_of_getElem? (i := 586) (by decide +kernel), rfl⟩
set_option maxRecDepth 20000 in
theorem cd_X4_couldHelp : (Cond.code yX4_couldHelp cX4_couldHelp 6 (some .boolean)) ∈ lw_E := List.mem_filter.mpr ⟨List.mem_of_getElem? (i := 587) (by decide +kernel), rfl⟩
set_option maxRecDepth 20000 in
theorem mn_X4_147 : (Cond.methodLinkNest RX4 147 yX6_isMade "VeneerYard") ∈ lw_E := List.mem_filter.mpr ⟨List.mem_of_getElem? (i := 588) (by decide +kernel), rfl⟩
set_option maxRecDepth 20000 in
theorem im_X6_isMade : (Cond.instanceMethod yX6_isMade) ∈ lw_E := List.mem_filter.mpr ⟨List.mem_of_getElem? (i := 590) (by decide +kernel), rfl⟩
set_option maxRecDepth 20000 in
theorem cd_X6_isMade : (Cond.code yX6_isMade cX6_isMade 3 (some .boolean)) ∈ lw_E := List.mem_filter.mpr ⟨List.mem_of_getElem? (i := 591) (by decide +kernel), rfl⟩
set_option maxRecDepth 20000 in
theorem ml_X6_53 : (Cond.methodLink RX6 53 yX6_numberOf) ∈ lw_E := List.mem_filter.mpr ⟨List.mem_of_getElem? (i := 592) (by decide +kernel), rfl⟩
set_option maxRecDepth 20000 in
theorem ml_X6_57 : (Cond.methodLink RX6 57 yX6_has) ∈ lw_E := List.mem_filter.mpr ⟨List.mem_of_getElem? (i := 593) (by decide +kernel), rfl⟩
set_option maxRecDepth 20000 in
theorem mn_X4_126 : (Cond.methodLinkNest RX4 126 yX6_isWanted "VeneerYard") ∈ lw_E := List.mem_filter.mpr ⟨List.mem_of_getElem? (i := 594) (by decide +kernel), rfl⟩
set_option maxRecDepth 20000 in
theorem im_X6_isWanted : (Cond.instanceMethod yX6_isWanted) ∈ lw_E := List.mem_filter.mpr ⟨List.mem_of_getElem? (i := 596) (by decide +kernel), rfl⟩
set_option maxRecDepth 20000 in
theorem cd_X6_isWanted : (Cond.code yX6_isWanted cX6_isWanted 3 (some .boolean)) ∈ lw_E := List.mem_filter.mpr ⟨List.mem_of_getElem? (i := 597) (by decide +kernel), rfl⟩
set_option maxRecDepth 20000 in
theorem mn_X4_139 : (Cond.methodLinkNest RX4 139 yX6_want "VeneerYard") ∈ lw_E := List.mem_filter.mpr ⟨List.mem_of_getElem? (i := 598) (by decide +kernel), rfl⟩
set_option maxRecDepth 20000 in
theorem im_X6_want : (Cond.instanceMethod yX6_want) ∈ lw_E := List.mem_filter.mpr ⟨List.mem_of_getElem? (i := 600) (by decide +kernel), rfl⟩
set_option maxRecDepth 20000 in
theorem cd_X6_want : (Cond.code yX6_want cX6_want 6 none) ∈ lw_E := List.mem_filter.mpr ⟨List.mem_of_getElem? (i := 601) (by decide +kernel), rfl⟩
set_option maxRecDepth 20000 in
theorem ml_X6_61 : (Cond.methodLink RX6 61 yX6_grow) ∈ lw_E := List.mem_filter.mpr ⟨List.mem_of_getElem? (i := 602) (by decide +kernel), rfl⟩
set_option maxRecDepth 20000 in
theorem im_X6_grow : (Cond.instanceMethod yX6_grow) ∈ lw_E := List.mem_filter.mpr ⟨List.mem_of_getElem? (i := 604) (by decide +kernel), rfl⟩
set_option maxRecDepth 20000 in
theorem cd_X6_grow : (Cond.code yX6_grow cX6_grow 2 none) ∈ lw_E := List.mem_filter.mpr ⟨List.mem_of_getElem? (i := 605) (by decide +kernel), rfl⟩
set_option maxRecDepth 20000 in
theorem ml_X6_64 : (Cond.methodLink RX6 64 yJ9_min_7cf53) ∈ lw_E := List.mem_filter.mpr ⟨List.mem_of_getElem? (i := 606) (by decide +kernel), rfl⟩
set_option maxRecDepth 20000 in
theorem sc_J9_min_7cf53 : (Cond.static yJ9_min_7cf53) ∈ lw_E := List.mem_filter.mpr ⟨List.mem_of_getElem? (i := 607) (by decide +kernel), rfl⟩
set_option maxRecDepth 20000 in
theorem cd_J9_min_7cf53 : (Cond.code yJ9_min_7cf53 cJ9_min_7cf53 2 (some .int)) ∈ lw_E := List.mem_filter.mpr ⟨List.mem_of_getElem? (i := 608) (by decide +kernel), rfl⟩
set_option maxRecDepth 20000 in
theorem ml_X6_69 : (Cond.methodLink RX6 69 yJ7_copyOf_59c91) ∈ lw_E := List.mem_filter.mpr ⟨List.mem_of_getElem? (i := 609) (by decide +kernel), rfl⟩
set_option maxRecDepth 20000 in
theorem sc_J7_copyOf_59c91 : (Cond.static yJ7_copyOf_59c91) ∈ lw_E := List.mem_filter.mpr ⟨List.mem_of_getElem? (i := 610) (by decide +kernel), rfl⟩
set_option maxRecDepth 20000 in
theorem cd_J7_copyOf_59c91 : (Cond.code yJ7_copyOf_59c91 cJ7_copyOf_59c91 3 (some (.array .int))) ∈ lw_E := List.mem_filter.mpr ⟨List.mem_of_getElem? (i := 611) (by decide +kernel), rfl⟩
set_option maxRecDepth 20000 in
theorem cl_J7_317 : (Cond.classLink RJ7 317 "[I") ∈ lw_E := List.mem_filter.mpr ⟨List.mem_of_getElem? (i := 618) (by decide +kernel), rfl⟩
set_option maxRecDepth 20000 in
theorem ml_J7_304 : (Cond.methodLink RJ7 304 yJ9_min_7cf53) ∈ lw_E := List.mem_filter.mpr ⟨List.mem_of_getElem? (i := 619) (by decide +kernel), rfl⟩
set_option maxRecDepth 20000 in
theorem ml_J7_150 : (Cond.methodLink RJ7 150 arraycopyName) ∈ lw_E := List.mem_filter.mpr ⟨List.mem_of_getElem? (i := 620) (by decide +kernel), rfl⟩
set_option maxRecDepth 20000 in
theorem ml_X6_73 : (Cond.methodLink RX6 73 yJ7_copyOf_c38d5) ∈ lw_E := List.mem_filter.mpr ⟨List.mem_of_getElem? (i := 621) (by decide +kernel), rfl⟩
set_option maxRecDepth 20000 in
theorem sc_J7_copyOf_c38d5 : (Cond.static yJ7_copyOf_c38d5) ∈ lw_E := List.mem_filter.mpr ⟨List.mem_of_getElem? (i := 622) (by decide +kernel), rfl⟩
set_option maxRecDepth 20000 in
theorem cd_J7_copyOf_c38d5 : (Cond.code yJ7_copyOf_c38d5 cJ7_copyOf_c38d5 3 (some (.array .long))) ∈ lw_E := List.mem_filter.mpr ⟨List.mem_of_getElem? (i := 623) (by decide +kernel), rfl⟩
set_option maxRecDepth 20000 in
theorem cl_J7_320 : (Cond.classLink RJ7 320 "[J") ∈ lw_E := List.mem_filter.mpr ⟨List.mem_of_getElem? (i := 628) (by decide +kernel), rfl⟩
set_option maxRecDepth 20000 in
theorem mn_X4_105 : (Cond.methodLinkNest RX4 105 yX6_makeWanted "VeneerYard") ∈ lw_E := List.mem_filter.mpr ⟨List.mem_of_getElem? (i := 629) (by decide +kernel), rfl⟩
set_option maxRecDepth 20000 in
theorem im_X6_makeWanted : (Cond.instanceMethod yX6_makeWanted) ∈ lw_E := List.mem_filter.mpr ⟨List.mem_of_getElem? (i := 631) (by decide +kernel), rfl⟩
set_option maxRecDepth 20000 in
theorem cd_X6_makeWanted : (Cond.code yX6_makeWanted cX6_makeWanted 2 (some .boolean)) ∈ lw_E := List.mem_filter.mpr ⟨List.mem_of_getElem? (i := 632) (by decide +kernel), rfl⟩
set_option maxRecDepth 20000 in
theorem ml_X4_78 : (Cond.methodLink RX4 78 yX4_routeAll) ∈ lw_E := List.mem_filter.mpr ⟨List.mem_of_getElem? (i := 633) (by decide +kernel), rfl⟩
set_option maxRecDepth 20000 in
theorem im_X4_routeAll : (Cond.instanceMethod yX4_routeAll) ∈ lw_E := List.mem_filter.mpr ⟨List.mem_of_getElem? (i := 635) (by decide +kernel), rfl⟩
set_option maxRecDepth 20000 in
theorem cd_X4_routeAll : (Cond.code yX4_routeAll cX4_routeAll 2 none) ∈ lw_E := List.mem_filter.mpr ⟨List.mem_of_getElem? (i := 636) (by decide +kernel), rfl⟩
set_option maxRecDepth 20000 in
theorem ml_X4_183 : (Cond.methodLink RX4 183 yX4_routeByThunk) ∈ lw_E := List.mem_filter.mpr ⟨List.mem_of_getElem? (i := 637) (by decide +kernel), rfl⟩
set_option maxRecDepth 20000 in
theorem im_X4_routeByThunk : (Cond.instanceMethod yX4_routeByThunk) ∈ lw_E := List.mem_filter.mpr ⟨List.mem_of_getElem? (i := 639) (by decide +kernel), rfl⟩
set_option maxRecDepth 20000 in
theorem cd_X4_routeByThunk : (Cond.code yX4_routeByThunk cX4_routeByThunk 3 none) ∈ lw_E := List.mem_filter.mpr ⟨List.mem_of_getElem? (i := 640) (by decide +kernel), rfl⟩
set_option maxRecDepth 20000 in
theorem ml_L_56 : (Cond.methodLink RL 56 yX8_count) ∈ lw_E := List.mem_filter.mpr ⟨List.mem_of_getElem? (i := 641) (by decide +kernel), rfl⟩
set_option maxRecDepth 20000 in
theorem im_X8_count : (Cond.instanceMethod yX8_count) ∈ lw_E := List.mem_filter.mpr ⟨List.mem_of_getElem? (i := 642) (by decide +kernel), rfl⟩
set_option maxRecDepth 20000 in
theorem se_X8_count : (Cond.selects RX8 yX8_count yX8_count) ∈ lw_E := List.mem_filter.mpr ⟨List.mem_of_getElem? (i := 643) (by decide +kernel), rfl⟩
set_option maxRecDepth 20000 in
theorem cd_X8_count : (Cond.code yX8_count cX8_count 2 (some .int)) ∈ lw_E := List.mem_filter.mpr ⟨List.mem_of_getElem? (i := 644) (by decide +kernel), rfl⟩
set_option maxRecDepth 20000 in
theorem mn_X8_133 : (Cond.methodLinkNest RX8 133 yX6_unused "VeneerYard") ∈ lw_E := List.mem_filter.mpr ⟨List.mem_of_getElem? (i := 645) (by decide +kernel), rfl⟩
set_option maxRecDepth 20000 in
theorem im_X6_unused : (Cond.instanceMethod yX6_unused) ∈ lw_E := List.mem_filter.mpr ⟨List.mem_of_getElem? (i := 647) (by decide +kernel), rfl⟩
set_option maxRecDepth 20000 in
theorem cd_X6_unused : (Cond.code yX6_unused cX6_unused 3 (some .int)) ∈ lw_E := List.mem_filter.mpr ⟨List.mem_of_getElem? (i := 648) (by decide +kernel), rfl⟩
set_option maxRecDepth 20000 in
theorem mn_X8_137 : (Cond.methodLinkNest RX8 137 yX4_bytesBetween "VeneerYard") ∈ lw_E := List.mem_filter.mpr ⟨List.mem_of_getElem? (i := 649) (by decide +kernel), rfl⟩
set_option maxRecDepth 20000 in
theorem im_X4_bytesBetween : (Cond.instanceMethod yX4_bytesBetween) ∈ lw_E := List.mem_filter.mpr ⟨List.mem_of_getElem? (i := 651) (by decide +kernel), rfl⟩
set_option maxRecDepth 20000 in
theorem cd_X4_bytesBetween : (Cond.code yX4_bytesBetween cX4_bytesBetween 3 (some .int)) ∈ lw_E := List.mem_filter.mpr ⟨List.mem_of_getElem? (i := 652) (by decide +kernel), rfl⟩
set_option maxRecDepth 20000 in
theorem ml_X4_213 : (Cond.methodLink RX4 213 yX4_bytesInAll) ∈ lw_E := List.mem_filter.mpr ⟨List.mem_of_getElem? (i := 653) (by decide +kernel), rfl⟩
set_option maxRecDepth 20000 in
theorem im_X4_bytesInAll : (Cond.instanceMethod yX4_bytesInAll) ∈ lw_E := List.mem_filter.mpr ⟨List.mem_of_getElem? (i := 655) (by decide +kernel), rfl⟩
set_option maxRecDepth 20000 in
theorem cd_X4_bytesInAll : (Cond.code yX4_bytesInAll cX4_bytesInAll 1 (some .int)) ∈ lw_E := List.mem_filter.mpr ⟨List.mem_of_getElem? (i := 656) (by decide +kernel), rfl⟩
set_option maxRecDepth 20000 in
theorem mn_X8_140 : (Cond.methodLinkNest RX8 140 yX4_bytesInAll "VeneerYard") ∈ lw_E := List.mem_filter.mpr ⟨List.mem_of_getElem? (i := 657) (by decide +kernel), rfl⟩
set_option maxRecDepth 20000 in
theorem ml_L_61 : (Cond.methodLink RL 61 yX8_address) ∈ lw_E := List.mem_filter.mpr ⟨List.mem_of_getElem? (i := 658) (by decide +kernel), rfl⟩
set_option maxRecDepth 20000 in
theorem im_X8_address : (Cond.instanceMethod yX8_address) ∈ lw_E := List.mem_filter.mpr ⟨List.mem_of_getElem? (i := 659) (by decide +kernel), rfl⟩
set_option maxRecDepth 20000 in
theorem se_X8_address : (Cond.selects RX8 yX8_address yX8_address) ∈ lw_E := List.mem_filter.mpr ⟨List.mem_of_getElem? (i := 660) (by decide +kernel), rfl⟩
set_option maxRecDepth 20000 in
theorem cd_X8_address : (Cond.code yX8_address cX8_address 3 (some .long)) ∈ lw_E := List.mem_filter.mpr ⟨List.mem_of_getElem? (i := 661) (by decide +kernel), rfl⟩
set_option maxRecDepth 20000 in
theorem kc_X8_159 : (Cond.constantLong RX8 159 (-9223372036854775808)) ∈ lw_E := List.mem_filter.mpr ⟨List.mem_of_getElem? (i := 662) (by decide +kernel), rfl⟩
set_option maxRecDepth 20000 in
theorem mn_X8_161 : (Cond.methodLinkNest RX8 161 yX4_labelAddress "VeneerYard") ∈ lw_E := List.mem_filter.mpr ⟨List.mem_of_getElem? (i := 663) (by decide +kernel), rfl⟩
set_option maxRecDepth 20000 in
theorem mn_X8_165 : (Cond.methodLinkNest RX8 165 yX4_branchAddress "VeneerYard") ∈ lw_E := List.mem_filter.mpr ⟨List.mem_of_getElem? (i := 664) (by decide +kernel), rfl⟩
set_option maxRecDepth 20000 in
theorem mn_X8_168 : (Cond.methodLinkNest RX8 168 yX6_has "VeneerYard") ∈ lw_E := List.mem_filter.mpr ⟨List.mem_of_getElem? (i := 665) (by decide +kernel), rfl⟩
set_option maxRecDepth 20000 in
theorem mn_X8_172 : (Cond.methodLinkNest RX8 172 yX5_hasPool "VeneerYard") ∈ lw_E := List.mem_filter.mpr ⟨List.mem_of_getElem? (i := 666) (by decide +kernel), rfl⟩
set_option maxRecDepth 20000 in
theorem im_X5_hasPool : (Cond.instanceMethod yX5_hasPool) ∈ lw_E := List.mem_filter.mpr ⟨List.mem_of_getElem? (i := 668) (by decide +kernel), rfl⟩
set_option maxRecDepth 20000 in
theorem cd_X5_hasPool : (Cond.code yX5_hasPool cX5_hasPool 2 (some .boolean)) ∈ lw_E := List.mem_filter.mpr ⟨List.mem_of_getElem? (i := 669) (by decide +kernel), rfl⟩
set_option maxRecDepth 20000 in
theorem ml_X5_29 : (Cond.methodLink RX5 29 yX5_has) ∈ lw_E := List.mem_filter.mpr ⟨List.mem_of_getElem? (i := 670) (by decide +kernel), rfl⟩
set_option maxRecDepth 20000 in
theorem ml_L_66 : (Cond.methodLink RL 66 yX8_route) ∈ lw_E := List.mem_filter.mpr ⟨List.mem_of_getElem? (i := 671) (by decide +kernel), rfl⟩
set_option maxRecDepth 20000 in
theorem im_X8_route : (Cond.instanceMethod yX8_route) ∈ lw_E := List.mem_filter.mpr ⟨List.mem_of_getElem? (i := 672) (by decide +kernel), rfl⟩
set_option maxRecDepth 20000 in
theorem se_X8_route : (Cond.selects RX8 yX8_route yX8_route) ∈ lw_E := List.mem_filter.mpr ⟨List.mem_of_getElem? (i := 673) (by decide +kernel), rfl⟩
set_option maxRecDepth 20000 in
theorem cd_X8_route : (Cond.code yX8_route cX8_route 3 (some .int)) ∈ lw_E := List.mem_filter.mpr ⟨List.mem_of_getElem? (i := 674) (by decide +kernel), rfl⟩
set_option maxRecDepth 20000 in
theorem ml_L_70 : (Cond.methodLink RL 70 yX8_thunk) ∈ lw_E := List.mem_filter.mpr ⟨List.mem_of_getElem? (i := 675) (by decide +kernel), rfl⟩
set_option maxRecDepth 20000 in
theorem im_X8_thunk : (Cond.instanceMethod yX8_thunk) ∈ lw_E := List.mem_filter.mpr ⟨List.mem_of_getElem? (i := 676) (by decide +kernel), rfl⟩
set_option maxRecDepth 20000 in
theorem se_X8_thunk : (Cond.selects RX8 yX8_thunk yX8_thunk) ∈ lw_E := List.mem_filter.mpr ⟨List.mem_of_getElem? (i := 677) (by decide +kernel), rfl⟩
set_option maxRecDepth 20000 in
theorem cd_X8_thunk : (Cond.code yX8_thunk cX8_thunk 3 (some .int)) ∈ lw_E := List.mem_filter.mpr ⟨List.mem_of_getElem? (i := 678) (by decide +kernel), rfl⟩
set_option maxRecDepth 20000 in
theorem ml_L_74 : (Cond.methodLink RL 74 yX8_encoded) ∈ lw_E := List.mem_filter.mpr ⟨List.mem_of_getElem? (i := 679) (by decide +kernel), rfl⟩
set_option maxRecDepth 20000 in
theorem im_X8_encoded : (Cond.instanceMethod yX8_encoded) ∈ lw_E := List.mem_filter.mpr ⟨List.mem_of_getElem? (i := 680) (by decide +kernel), rfl⟩
set_option maxRecDepth 20000 in
theorem se_X8_encoded : (Cond.selects RX8 yX8_encoded yX8_encoded) ∈ lw_E := List.mem_filter.mpr ⟨List.mem_of_getElem? (i := 681) (by decide +kernel), rfl⟩
set_option maxRecDepth 20000 in
theorem cd_X8_encoded : (Cond.code yX8_encoded cX8_encoded 3 (some .int)) ∈ lw_E := List.mem_filter.mpr ⟨List.mem_of_getElem? (i := 682) (by decide +kernel), rfl⟩
set_option maxRecDepth 20000 in
theorem mn_X8_200 : (Cond.methodLinkNest RX8 200 yX4_branchCode "VeneerYard") ∈ lw_E := List.mem_filter.mpr ⟨List.mem_of_getElem? (i := 683) (by decide +kernel), rfl⟩
set_option maxRecDepth 20000 in
theorem im_X4_branchCode : (Cond.instanceMethod yX4_branchCode) ∈ lw_E := List.mem_filter.mpr ⟨List.mem_of_getElem? (i := 685) (by decide +kernel), rfl⟩
set_option maxRecDepth 20000 in
theorem cd_X4_branchCode : (Cond.code yX4_branchCode cX4_branchCode 5 (some .int)) ∈ lw_E := List.mem_filter.mpr ⟨List.mem_of_getElem? (i := 686) (by decide +kernel), rfl⟩
set_option maxRecDepth 20000 in
theorem mn_X4_226 : (Cond.methodLinkNest RX4 226 yX1_has "VeneerYard") ∈ lw_E := List.mem_filter.mpr ⟨List.mem_of_getElem? (i := 687) (by decide +kernel), rfl⟩
set_option maxRecDepth 20000 in
theorem mn_X4_227 : (Cond.methodLinkNest RX4 227 yX2_encode "VeneerYard") ∈ lw_E := List.mem_filter.mpr ⟨List.mem_of_getElem? (i := 688) (by decide +kernel), rfl⟩
set_option maxRecDepth 20000 in
theorem im_X2_encode : (Cond.instanceMethod yX2_encode) ∈ lw_E := List.mem_filter.mpr ⟨List.mem_of_getElem? (i := 690) (by decide +kernel), rfl⟩
set_option maxRecDepth 20000 in
theorem cd_X2_encode : (Cond.code yX2_encode cX2_encode 8 (some .int)) ∈ lw_E := List.mem_filter.mpr ⟨List.mem_of_getElem? (i := 691) (by decide +kernel), rfl⟩
set_option maxRecDepth 20000 in
theorem ml_X2_26 : (Cond.methodLink RX2 26 yX2_reaches) ∈ lw_E := List.mem_filter.mpr ⟨List.mem_of_getElem? (i := 692) (by decide +kernel), rfl⟩
set_option maxRecDepth 20000 in
theorem mn_X8_203 : (Cond.methodLinkNest RX8 203 yX4_thunkCode "VeneerYard") ∈ lw_E := List.mem_filter.mpr ⟨List.mem_of_getElem? (i := 693) (by decide +kernel), rfl⟩
set_option maxRecDepth 20000 in
theorem im_X4_thunkCode : (Cond.instanceMethod yX4_thunkCode) ∈ lw_E := List.mem_filter.mpr ⟨List.mem_of_getElem? (i := 695) (by decide +kernel), rfl⟩
set_option maxRecDepth 20000 in
theorem cd_X4_thunkCode : (Cond.code yX4_thunkCode cX4_thunkCode 2 (some .int)) ∈ lw_E := List.mem_filter.mpr ⟨List.mem_of_getElem? (i := 696) (by decide +kernel), rfl⟩
set_option maxRecDepth 20000 in
theorem ml_L_80 : (Cond.methodLink RL 80 yX8_at) ∈ lw_E := List.mem_filter.mpr ⟨List.mem_of_getElem? (i := 697) (by decide +kernel), rfl⟩
set_option maxRecDepth 20000 in
theorem im_X8_at : (Cond.instanceMethod yX8_at) ∈ lw_E := List.mem_filter.mpr ⟨List.mem_of_getElem? (i := 698) (by decide +kernel), rfl⟩
set_option maxRecDepth 20000 in
theorem se_X8_at : (Cond.selects RX8 yX8_at yX8_at) ∈ lw_E := List.mem_filter.mpr ⟨List.mem_of_getElem? (i := 699) (by decide +kernel), rfl⟩
set_option maxRecDepth 20000 in
theorem cd_X8_at : (Cond.code yX8_at cX8_at 3 (some .int)) ∈ lw_E := List.mem_filter.mpr ⟨List.mem_of_getElem? (i := 700) (by decide +kernel), rfl⟩
set_option maxRecDepth 20000 in
theorem mn_X8_206 : (Cond.methodLinkNest RX8 206 yX4_whatIsAt "VeneerYard") ∈ lw_E := List.mem_filter.mpr ⟨List.mem_of_getElem? (i := 701) (by decide +kernel), rfl⟩
set_option maxRecDepth 20000 in
theorem im_X4_whatIsAt : (Cond.instanceMethod yX4_whatIsAt) ∈ lw_E := List.mem_filter.mpr ⟨List.mem_of_getElem? (i := 703) (by decide +kernel), rfl⟩
set_option maxRecDepth 20000 in
theorem cd_X4_whatIsAt : (Cond.code yX4_whatIsAt cX4_whatIsAt 4 (some .int)) ∈ lw_E := List.mem_filter.mpr ⟨List.mem_of_getElem? (i := 704) (by decide +kernel), rfl⟩
set_option maxRecDepth 20000 in
theorem ml_X4_243 : (Cond.methodLink RX4 243 yX4_isWithin) ∈ lw_E := List.mem_filter.mpr ⟨List.mem_of_getElem? (i := 705) (by decide +kernel), rfl⟩
set_option maxRecDepth 20000 in
theorem sc_X4_isWithin : (Cond.static yX4_isWithin) ∈ lw_E := List.mem_filter.mpr ⟨List.mem_of_getElem? (i := 706) (by decide +kernel), rfl⟩
set_option maxRecDepth 20000 in
theorem cd_X4_isWithin : (Cond.code yX4_isWithin cX4_isWithin 5 (some .boolean)) ∈ lw_E := List.mem_filter.mpr ⟨List.mem_of_getElem? (i := 707) (by decide +kernel), rfl⟩
set_option maxRecDepth 20000 in
theorem ml_L_85 : (Cond.methodLink RL 85 yX8_walk) ∈ lw_E := List.mem_filter.mpr ⟨List.mem_of_getElem? (i := 708) (by decide +kernel), rfl⟩
set_option maxRecDepth 20000 in
theorem im_X8_walk : (Cond.instanceMethod yX8_walk) ∈ lw_E := List.mem_filter.mpr ⟨List.mem_of_getElem? (i := 709) (by decide +kernel), rfl⟩
set_option maxRecDepth 20000 in
theorem se_X8_walk : (Cond.selects RX8 yX8_walk yX8_walk) ∈ lw_E := List.mem_filter.mpr ⟨List.mem_of_getElem? (i := 710) (by decide +kernel), rfl⟩
set_option maxRecDepth 20000 in
theorem cd_X8_walk : (Cond.code yX8_walk cX8_walk 2 (some .long)) ∈ lw_E := List.mem_filter.mpr ⟨List.mem_of_getElem? (i := 711) (by decide +kernel), rfl⟩
set_option maxRecDepth 20000 in
theorem mn_X8_210 : (Cond.methodLinkNest RX8 210 yX4_walkFrom "VeneerYard") ∈ lw_E := List.mem_filter.mpr ⟨List.mem_of_getElem? (i := 712) (by decide +kernel), rfl⟩
set_option maxRecDepth 20000 in
theorem im_X4_walkFrom : (Cond.instanceMethod yX4_walkFrom) ∈ lw_E := List.mem_filter.mpr ⟨List.mem_of_getElem? (i := 714) (by decide +kernel), rfl⟩
set_option maxRecDepth 20000 in
theorem cd_X4_walkFrom : (Cond.code yX4_walkFrom cX4_walkFrom 6 (some .long)) ∈ lw_E := List.mem_filter.mpr ⟨List.mem_of_getElem? (i := 715) (by decide +kernel), rfl⟩
set_option maxRecDepth 20000 in
theorem ml_X4_231 : (Cond.methodLink RX4 231 yX4_branchCode) ∈ lw_E := List.mem_filter.mpr ⟨List.mem_of_getElem? (i := 716) (by decide +kernel), rfl⟩
set_option maxRecDepth 20000 in
theorem kc_X4_234 : (Cond.constantLong RX4 234 (-9223372036854775808)) ∈ lw_E := List.mem_filter.mpr ⟨List.mem_of_getElem? (i := 717) (by decide +kernel), rfl⟩
set_option maxRecDepth 20000 in
theorem mn_X4_236 : (Cond.methodLinkNest RX4 236 yX2_follow "VeneerYard") ∈ lw_E := List.mem_filter.mpr ⟨List.mem_of_getElem? (i := 718) (by decide +kernel), rfl⟩
set_option maxRecDepth 20000 in
theorem im_X2_follow : (Cond.instanceMethod yX2_follow) ∈ lw_E := List.mem_filter.mpr ⟨List.mem_of_getElem? (i := 720) (by decide +kernel), rfl⟩
set_option maxRecDepth 20000 in
theorem cd_X2_follow : (Cond.code yX2_follow cX2_follow 9 (some .long)) ∈ lw_E := List.mem_filter.mpr ⟨List.mem_of_getElem? (i := 721) (by decide +kernel), rfl⟩
set_option maxRecDepth 20000 in
theorem kc_X2_30 : (Cond.constantLong RX2 30 (-9223372036854775808)) ∈ lw_E := List.mem_filter.mpr ⟨List.mem_of_getElem? (i := 722) (by decide +kernel), rfl⟩
set_option maxRecDepth 20000 in
theorem kc_X2_32 : (Cond.constantLong RX2 32 (2)) ∈ lw_E := List.mem_filter.mpr ⟨List.mem_of_getElem? (i := 723) (by decide +kernel), rfl⟩
set_option maxRecDepth 20000 in
theorem ml_X4_240 : (Cond.methodLink RX4 240 yX4_thunkCode) ∈ lw_E := List.mem_filter.mpr ⟨List.mem_of_getElem? (i := 724) (by decide +kernel), rfl⟩
set_option maxRecDepth 20000 in
theorem ml_L_90 : (Cond.methodLink RL 90 yX8_far) ∈ lw_E := List.mem_filter.mpr ⟨List.mem_of_getElem? (i := 725) (by decide +kernel), rfl⟩
set_option maxRecDepth 20000 in
theorem im_X8_far : (Cond.instanceMethod yX8_far) ∈ lw_E := List.mem_filter.mpr ⟨List.mem_of_getElem? (i := 726) (by decide +kernel), rfl⟩
set_option maxRecDepth 20000 in
theorem se_X8_far : (Cond.selects RX8 yX8_far yX8_far) ∈ lw_E := List.mem_filter.mpr ⟨List.mem_of_getElem? (i := 727) (by decide +kernel), rfl⟩
set_option maxRecDepth 20000 in
theorem cd_X8_far : (Cond.code yX8_far cX8_far 8 (some .int)) ∈ lw_E := List.mem_filter.mpr ⟨List.mem_of_getElem? (i := 728) (by decide +kernel), rfl⟩
set_option maxRecDepth 20000 in
theorem mn_X8_213 : (Cond.methodLinkNest RX8 213 yX0_find "VeneerYard") ∈ lw_E := List.mem_filter.mpr ⟨List.mem_of_getElem? (i := 729) (by decide +kernel), rfl⟩
set_option maxRecDepth 20000 in
theorem mn_X8_227 : (Cond.methodLinkNest RX8 227 yX2_reaches "VeneerYard") ∈ lw_E := List.mem_filter.mpr ⟨List.mem_of_getElem? (i := 730) (by decide +kernel), rfl⟩
set_option maxRecDepth 20000 in
theorem cl_L_10 : (Cond.classLink RL 10 RX9) ∈ lw_E := List.mem_filter.mpr ⟨List.mem_of_getElem? (i := 731) (by decide +kernel), rfl⟩
set_option maxRecDepth 20000 in
theorem ins_X9 : (Cond.instantiable RX9 51) ∈ lw_E := List.mem_filter.mpr ⟨List.mem_of_getElem? (i := 732) (by decide +kernel), rfl⟩
set_option maxRecDepth 20000 in
theorem ml_L_12 : (Cond.methodLink RL 12 yX9_init) ∈ lw_E := List.mem_filter.mpr ⟨List.mem_of_getElem? (i := 733) (by decide +kernel), rfl⟩
set_option maxRecDepth 20000 in
theorem im_X9_init : (Cond.instanceMethod yX9_init) ∈ lw_E := List.mem_filter.mpr ⟨List.mem_of_getElem? (i := 734) (by decide +kernel), rfl⟩
set_option maxRecDepth 20000 in
theorem cd_X9_init : (Cond.code yX9_init cX9_init 1 none) ∈ lw_E := List.mem_filter.mpr ⟨List.mem_of_getElem? (i := 735) (by decide +kernel), rfl⟩
set_option maxRecDepth 20000 in
theorem fl_X9_105 : (Cond.fieldLink RX9 105 "VeneerYardModel" "sections" "I") ∈ lw_E := List.mem_filter.mpr ⟨List.mem_of_getElem? (i := 737) (by decide +kernel), rfl⟩
set_option maxRecDepth 20000 in
theorem fl_X9_121 : (Cond.fieldLink RX9 121 "VeneerYardModel" "labels" "I") ∈ lw_E := List.mem_filter.mpr ⟨List.mem_of_getElem? (i := 738) (by decide +kernel), rfl⟩
set_option maxRecDepth 20000 in
theorem fl_X9_124 : (Cond.fieldLink RX9 124 "VeneerYardModel" "branches" "I") ∈ lw_E := List.mem_filter.mpr ⟨List.mem_of_getElem? (i := 739) (by decide +kernel), rfl⟩
set_option maxRecDepth 20000 in
theorem fl_X9_114 : (Cond.fieldLink RX9 114 "VeneerYardModel" "pools" "I") ∈ lw_E := List.mem_filter.mpr ⟨List.mem_of_getElem? (i := 740) (by decide +kernel), rfl⟩
set_option maxRecDepth 20000 in
theorem fl_X9_7 : (Cond.fieldLink RX9 7 "VeneerYardModel" "size" "[I") ∈ lw_E := List.mem_filter.mpr ⟨List.mem_of_getElem? (i := 741) (by decide +kernel), rfl⟩
set_option maxRecDepth 20000 in
theorem fl_X9_13 : (Cond.fieldLink RX9 13 "VeneerYardModel" "align" "[I") ∈ lw_E := List.mem_filter.mpr ⟨List.mem_of_getElem? (i := 742) (by decide +kernel), rfl⟩
set_option maxRecDepth 20000 in
theorem fl_X9_16 : (Cond.fieldLink RX9 16 "VeneerYardModel" "hasPool" "[Z") ∈ lw_E := List.mem_filter.mpr ⟨List.mem_of_getElem? (i := 743) (by decide +kernel), rfl⟩
set_option maxRecDepth 20000 in
theorem fl_X9_20 : (Cond.fieldLink RX9 20 "VeneerYardModel" "labelOf" "[I") ∈ lw_E := List.mem_filter.mpr ⟨List.mem_of_getElem? (i := 744) (by decide +kernel), rfl⟩
set_option maxRecDepth 20000 in
theorem fl_X9_23 : (Cond.fieldLink RX9 23 "VeneerYardModel" "labelAt" "[I") ∈ lw_E := List.mem_filter.mpr ⟨List.mem_of_getElem? (i := 745) (by decide +kernel), rfl⟩
set_option maxRecDepth 20000 in
theorem fl_X9_26 : (Cond.fieldLink RX9 26 "VeneerYardModel" "branchOf" "[I") ∈ lw_E := List.mem_filter.mpr ⟨List.mem_of_getElem? (i := 746) (by decide +kernel), rfl⟩
set_option maxRecDepth 20000 in
theorem fl_X9_29 : (Cond.fieldLink RX9 29 "VeneerYardModel" "branchAt" "[I") ∈ lw_E := List.mem_filter.mpr ⟨List.mem_of_getElem? (i := 747) (by decide +kernel), rfl⟩
set_option maxRecDepth 20000 in
theorem fl_X9_32 : (Cond.fieldLink RX9 32 "VeneerYardModel" "branchKind" "[I") ∈ lw_E := List.mem_filter.mpr ⟨List.mem_of_getElem? (i := 748) (by decide +kernel), rfl⟩
set_option maxRecDepth 20000 in
theorem fl_X9_35 : (Cond.fieldLink RX9 35 "VeneerYardModel" "branchTo" "[I") ∈ lw_E := List.mem_filter.mpr ⟨List.mem_of_getElem? (i := 749) (by decide +kernel), rfl⟩
set_option maxRecDepth 20000 in
theorem fl_X9_38 : (Cond.fieldLink RX9 38 "VeneerYardModel" "step" "[I") ∈ lw_E := List.mem_filter.mpr ⟨List.mem_of_getElem? (i := 750) (by decide +kernel), rfl⟩
set_option maxRecDepth 20000 in
theorem fl_X9_41 : (Cond.fieldLink RX9 41 "VeneerYardModel" "bits" "[I") ∈ lw_E := List.mem_filter.mpr ⟨List.mem_of_getElem? (i := 751) (by decide +kernel), rfl⟩
set_option maxRecDepth 20000 in
theorem fl_X9_127 : (Cond.fieldLink RX9 127 "VeneerYardModel" "thunkSize" "I") ∈ lw_E := List.mem_filter.mpr ⟨List.mem_of_getElem? (i := 752) (by decide +kernel), rfl⟩
set_option maxRecDepth 20000 in
theorem fl_X9_130 : (Cond.fieldLink RX9 130 "VeneerYardModel" "thunkAlign" "I") ∈ lw_E := List.mem_filter.mpr ⟨List.mem_of_getElem? (i := 753) (by decide +kernel), rfl⟩
set_option maxRecDepth 20000 in
theorem fl_X9_133 : (Cond.fieldLink RX9 133 "VeneerYardModel" "thunkKind" "I") ∈ lw_E := List.mem_filter.mpr ⟨List.mem_of_getElem? (i := 754) (by decide +kernel), rfl⟩
set_option maxRecDepth 20000 in
theorem fl_X9_136 : (Cond.fieldLink RX9 136 "VeneerYardModel" "base" "I") ∈ lw_E := List.mem_filter.mpr ⟨List.mem_of_getElem? (i := 755) (by decide +kernel), rfl⟩
set_option maxRecDepth 20000 in
theorem fl_X9_117 : (Cond.fieldLink RX9 117 "VeneerYardModel" "isTold" "Z") ∈ lw_E := List.mem_filter.mpr ⟨List.mem_of_getElem? (i := 756) (by decide +kernel), rfl⟩
set_option maxRecDepth 20000 in
theorem fl_X9_187 : (Cond.fieldLink RX9 187 "VeneerYardModel" "isLaid" "Z") ∈ lw_E := List.mem_filter.mpr ⟨List.mem_of_getElem? (i := 757) (by decide +kernel), rfl⟩
set_option maxRecDepth 20000 in
theorem fl_X9_190 : (Cond.fieldLink RX9 190 "VeneerYardModel" "lSections" "I") ∈ lw_E := List.mem_filter.mpr ⟨List.mem_of_getElem? (i := 758) (by decide +kernel), rfl⟩
set_option maxRecDepth 20000 in
theorem fl_X9_193 : (Cond.fieldLink RX9 193 "VeneerYardModel" "lLabels" "I") ∈ lw_E := List.mem_filter.mpr ⟨List.mem_of_getElem? (i := 759) (by decide +kernel), rfl⟩
set_option maxRecDepth 20000 in
theorem fl_X9_196 : (Cond.fieldLink RX9 196 "VeneerYardModel" "lBranches" "I") ∈ lw_E := List.mem_filter.mpr ⟨List.mem_of_getElem? (i := 760) (by decide +kernel), rfl⟩
set_option maxRecDepth 20000 in
theorem fl_X9_180 : (Cond.fieldLink RX9 180 "VeneerYardModel" "lThunks" "I") ∈ lw_E := List.mem_filter.mpr ⟨List.mem_of_getElem? (i := 761) (by decide +kernel), rfl⟩
set_option maxRecDepth 20000 in
theorem fl_X9_177 : (Cond.fieldLink RX9 177 "VeneerYardModel" "lRounds" "I") ∈ lw_E := List.mem_filter.mpr ⟨List.mem_of_getElem? (i := 762) (by decide +kernel), rfl⟩
set_option maxRecDepth 20000 in
theorem fl_X9_199 : (Cond.fieldLink RX9 199 "VeneerYardModel" "lBase" "J") ∈ lw_E := List.mem_filter.mpr ⟨List.mem_of_getElem? (i := 763) (by decide +kernel), rfl⟩
set_option maxRecDepth 20000 in
theorem fl_X9_143 : (Cond.fieldLink RX9 143 "VeneerYardModel" "lEnd" "J") ∈ lw_E := List.mem_filter.mpr ⟨List.mem_of_getElem? (i := 764) (by decide +kernel), rfl⟩
set_option maxRecDepth 20000 in
theorem fl_X9_44 : (Cond.fieldLink RX9 44 "VeneerYardModel" "sStart" "[J") ∈ lw_E := List.mem_filter.mpr ⟨List.mem_of_getElem? (i := 765) (by decide +kernel), rfl⟩
set_option maxRecDepth 20000 in
theorem fl_X9_48 : (Cond.fieldLink RX9 48 "VeneerYardModel" "sEnd" "[J") ∈ lw_E := List.mem_filter.mpr ⟨List.mem_of_getElem? (i := 766) (by decide +kernel), rfl⟩
set_option maxRecDepth 20000 in
theorem fl_X9_51 : (Cond.fieldLink RX9 51 "VeneerYardModel" "sPool" "[Z") ∈ lw_E := List.mem_filter.mpr ⟨List.mem_of_getElem? (i := 767) (by decide +kernel), rfl⟩
set_option maxRecDepth 20000 in
theorem fl_X9_54 : (Cond.fieldLink RX9 54 "VeneerYardModel" "poolEnd" "[J") ∈ lw_E := List.mem_filter.mpr ⟨List.mem_of_getElem? (i := 768) (by decide +kernel), rfl⟩
set_option maxRecDepth 20000 in
theorem fl_X9_57 : (Cond.fieldLink RX9 57 "VeneerYardModel" "lAddress" "[J") ∈ lw_E := List.mem_filter.mpr ⟨List.mem_of_getElem? (i := 769) (by decide +kernel), rfl⟩
set_option maxRecDepth 20000 in
theorem fl_X9_60 : (Cond.fieldLink RX9 60 "VeneerYardModel" "bAddress" "[J") ∈ lw_E := List.mem_filter.mpr ⟨List.mem_of_getElem? (i := 770) (by decide +kernel), rfl⟩
set_option maxRecDepth 20000 in
theorem fl_X9_63 : (Cond.fieldLink RX9 63 "VeneerYardModel" "bKind" "[I") ∈ lw_E := List.mem_filter.mpr ⟨List.mem_of_getElem? (i := 771) (by decide +kernel), rfl⟩
set_option maxRecDepth 20000 in
theorem fl_X9_66 : (Cond.fieldLink RX9 66 "VeneerYardModel" "bTo" "[I") ∈ lw_E := List.mem_filter.mpr ⟨List.mem_of_getElem? (i := 772) (by decide +kernel), rfl⟩
set_option maxRecDepth 20000 in
theorem fl_X9_69 : (Cond.fieldLink RX9 69 "VeneerYardModel" "bWay" "[I") ∈ lw_E := List.mem_filter.mpr ⟨List.mem_of_getElem? (i := 773) (by decide +kernel), rfl⟩
set_option maxRecDepth 20000 in
theorem fl_X9_72 : (Cond.fieldLink RX9 72 "VeneerYardModel" "bThunk" "[I") ∈ lw_E := List.mem_filter.mpr ⟨List.mem_of_getElem? (i := 774) (by decide +kernel), rfl⟩
set_option maxRecDepth 20000 in
theorem fl_X9_75 : (Cond.fieldLink RX9 75 "VeneerYardModel" "lStep" "[I") ∈ lw_E := List.mem_filter.mpr ⟨List.mem_of_getElem? (i := 775) (by decide +kernel), rfl⟩
set_option maxRecDepth 20000 in
theorem fl_X9_78 : (Cond.fieldLink RX9 78 "VeneerYardModel" "lBits" "[I") ∈ lw_E := List.mem_filter.mpr ⟨List.mem_of_getElem? (i := 776) (by decide +kernel), rfl⟩
set_option maxRecDepth 20000 in
theorem fl_X9_202 : (Cond.fieldLink RX9 202 "VeneerYardModel" "lThunkSize" "I") ∈ lw_E := List.mem_filter.mpr ⟨List.mem_of_getElem? (i := 777) (by decide +kernel), rfl⟩
set_option maxRecDepth 20000 in
theorem fl_X9_205 : (Cond.fieldLink RX9 205 "VeneerYardModel" "lThunkKind" "I") ∈ lw_E := List.mem_filter.mpr ⟨List.mem_of_getElem? (i := 778) (by decide +kernel), rfl⟩
set_option maxRecDepth 20000 in
theorem fl_X9_81 : (Cond.fieldLink RX9 81 "VeneerYardModel" "tAddress" "[J") ∈ lw_E := List.mem_filter.mpr ⟨List.mem_of_getElem? (i := 779) (by decide +kernel), rfl⟩
set_option maxRecDepth 20000 in
theorem fl_X9_84 : (Cond.fieldLink RX9 84 "VeneerYardModel" "tSection" "[I") ∈ lw_E := List.mem_filter.mpr ⟨List.mem_of_getElem? (i := 780) (by decide +kernel), rfl⟩
set_option maxRecDepth 20000 in
theorem fl_X9_87 : (Cond.fieldLink RX9 87 "VeneerYardModel" "tLabel" "[I") ∈ lw_E := List.mem_filter.mpr ⟨List.mem_of_getElem? (i := 781) (by decide +kernel), rfl⟩
set_option maxRecDepth 20000 in
theorem fl_X9_90 : (Cond.fieldLink RX9 90 "VeneerYardModel" "tRound" "[I") ∈ lw_E := List.mem_filter.mpr ⟨List.mem_of_getElem? (i := 782) (by decide +kernel), rfl⟩
set_option maxRecDepth 20000 in
theorem fl_X9_93 : (Cond.fieldLink RX9 93 "VeneerYardModel" "tBranch" "[I") ∈ lw_E := List.mem_filter.mpr ⟨List.mem_of_getElem? (i := 783) (by decide +kernel), rfl⟩
set_option maxRecDepth 20000 in
theorem fl_X9_96 : (Cond.fieldLink RX9 96 "VeneerYardModel" "tUsed" "[I") ∈ lw_E := List.mem_filter.mpr ⟨List.mem_of_getElem? (i := 784) (by decide +kernel), rfl⟩
set_option maxRecDepth 20000 in
theorem fl_X9_99 : (Cond.fieldLink RX9 99 "VeneerYardModel" "tPlace" "[I") ∈ lw_E := List.mem_filter.mpr ⟨List.mem_of_getElem? (i := 785) (by decide +kernel), rfl⟩
set_option maxRecDepth 20000 in
theorem fl_X9_159 : (Cond.fieldLink RX9 159 "VeneerYardModel" "fresh" "I") ∈ lw_E := List.mem_filter.mpr ⟨List.mem_of_getElem? (i := 786) (by decide +kernel), rfl⟩
set_option maxRecDepth 20000 in
theorem fl_X9_102 : (Cond.fieldLink RX9 102 "VeneerYardModel" "now" "[J") ∈ lw_E := List.mem_filter.mpr ⟨List.mem_of_getElem? (i := 787) (by decide +kernel), rfl⟩
set_option maxRecDepth 20000 in
theorem ml_L_17 : (Cond.methodLink RL 17 yX9_section) ∈ lw_E := List.mem_filter.mpr ⟨List.mem_of_getElem? (i := 891) (by decide +kernel), rfl⟩
set_option maxRecDepth 20000 in
theorem im_X9_section : (Cond.instanceMethod yX9_section) ∈ lw_E := List.mem_filter.mpr ⟨List.mem_of_getElem? (i := 892) (by decide +kernel), rfl⟩
set_option maxRecDepth 20000 in
theorem se_X9_section : (Cond.selects RX9 yX9_section yX9_section) ∈ lw_E := List.mem_filter.mpr ⟨List.mem_of_getElem? (i := 893) (by decide +kernel), rfl⟩
set_option maxRecDepth 20000 in
theorem cd_X9_section : (Cond.code yX9_section cX9_section 4 (some .int)) ∈ lw_E := List.mem_filter.mpr ⟨List.mem_of_getElem? (i := 894) (by decide +kernel), rfl⟩
set_option maxRecDepth 20000 in
theorem kc_X9_109 : (Cond.constant RX9 109 (1000000)) ∈ lw_E := List.mem_filter.mpr ⟨List.mem_of_getElem? (i := 895) (by decide +kernel), rfl⟩
set_option maxRecDepth 20000 in
theorem ml_X9_110 : (Cond.methodLink RX9 110 yX9_in) ∈ lw_E := List.mem_filter.mpr ⟨List.mem_of_getElem? (i := 896) (by decide +kernel), rfl⟩
set_option maxRecDepth 20000 in
theorem sc_X9_in : (Cond.static yX9_in) ∈ lw_E := List.mem_filter.mpr ⟨List.mem_of_getElem? (i := 897) (by decide +kernel), rfl⟩
set_option maxRecDepth 20000 in
theorem cd_X9_in : (Cond.code yX9_in cX9_in 3 (some .boolean)) ∈ lw_E := List.mem_filter.mpr ⟨List.mem_of_getElem? (i := 898) (by decide +kernel), rfl⟩
set_option maxRecDepth 20000 in
theorem ml_L_22 : (Cond.methodLink RL 22 yX9_label) ∈ lw_E := List.mem_filter.mpr ⟨List.mem_of_getElem? (i := 899) (by decide +kernel), rfl⟩
set_option maxRecDepth 20000 in
theorem im_X9_label : (Cond.instanceMethod yX9_label) ∈ lw_E := List.mem_filter.mpr ⟨List.mem_of_getElem? (i := 900) (by decide +kernel), rfl⟩
set_option maxRecDepth 20000 in
theorem se_X9_label : (Cond.selects RX9 yX9_label yX9_label) ∈ lw_E := List.mem_filter.mpr ⟨List.mem_of_getElem? (i := 901) (by decide +kernel), rfl⟩
set_option maxRecDepth 20000 in
theorem cd_X9_label : (Cond.code yX9_label cX9_label 3 (some .int)) ∈ lw_E := List.mem_filter.mpr ⟨List.mem_of_getElem? (i := 902) (by decide +kernel), rfl⟩
set_option maxRecDepth 20000 in
theorem ml_L_27 : (Cond.methodLink RL 27 yX9_kind) ∈ lw_E := List.mem_filter.mpr ⟨List.mem_of_getElem? (i := 903) (by decide +kernel), rfl⟩
set_option maxRecDepth 20000 in
theorem im_X9_kind : (Cond.instanceMethod yX9_kind) ∈ lw_E := List.mem_filter.mpr ⟨List.mem_of_getElem? (i := 904) (by decide +kernel), rfl⟩
set_option maxRecDepth 20000 in
theorem se_X9_kind : (Cond.selects RX9 yX9_kind yX9_kind) ∈ lw_E := List.mem_filter.mpr ⟨List.mem_of_getElem? (i := 905) (by decide +kernel), rfl⟩
set_option maxRecDepth 20000 in
theorem cd_X9_kind : (Cond.code yX9_kind cX9_kind 4 (some .boolean)) ∈ lw_E := List.mem_filter.mpr ⟨List.mem_of_getElem? (i := 906) (by decide +kernel), rfl⟩
set_option maxRecDepth 20000 in
theorem ml_L_32 : (Cond.methodLink RL 32 yX9_branch) ∈ lw_E := List.mem_filter.mpr ⟨List.mem_of_getElem? (i := 907) (by decide +kernel), rfl⟩
set_option maxRecDepth 20000 in
theorem im_X9_branch : (Cond.instanceMethod yX9_branch) ∈ lw_E := List.mem_filter.mpr ⟨List.mem_of_getElem? (i := 908) (by decide +kernel), rfl⟩
set_option maxRecDepth 20000 in
theorem se_X9_branch : (Cond.selects RX9 yX9_branch yX9_branch) ∈ lw_E := List.mem_filter.mpr ⟨List.mem_of_getElem? (i := 909) (by decide +kernel), rfl⟩
set_option maxRecDepth 20000 in
theorem cd_X9_branch : (Cond.code yX9_branch cX9_branch 5 (some .int)) ∈ lw_E := List.mem_filter.mpr ⟨List.mem_of_getElem? (i := 910) (by decide +kernel), rfl⟩
set_option maxRecDepth 20000 in
theorem ml_L_36 : (Cond.methodLink RL 36 yX9_thunks) ∈ lw_E := List.mem_filter.mpr ⟨List.mem_of_getElem? (i := 911) (by decide +kernel), rfl⟩
set_option maxRecDepth 20000 in
theorem im_X9_thunks : (Cond.instanceMethod yX9_thunks) ∈ lw_E := List.mem_filter.mpr ⟨List.mem_of_getElem? (i := 912) (by decide +kernel), rfl⟩
set_option maxRecDepth 20000 in
theorem se_X9_thunks : (Cond.selects RX9 yX9_thunks yX9_thunks) ∈ lw_E := List.mem_filter.mpr ⟨List.mem_of_getElem? (i := 913) (by decide +kernel), rfl⟩
set_option maxRecDepth 20000 in
theorem cd_X9_thunks : (Cond.code yX9_thunks cX9_thunks 4 (some .boolean)) ∈ lw_E := List.mem_filter.mpr ⟨List.mem_of_getElem? (i := 914) (by decide +kernel), rfl⟩
set_option maxRecDepth 20000 in
theorem ml_L_41 : (Cond.methodLink RL 41 yX9_base) ∈ lw_E := List.mem_filter.mpr ⟨List.mem_of_getElem? (i := 915) (by decide +kernel), rfl⟩
set_option maxRecDepth 20000 in
theorem im_X9_base : (Cond.instanceMethod yX9_base) ∈ lw_E := List.mem_filter.mpr ⟨List.mem_of_getElem? (i := 916) (by decide +kernel), rfl⟩
set_option maxRecDepth 20000 in
theorem se_X9_base : (Cond.selects RX9 yX9_base yX9_base) ∈ lw_E := List.mem_filter.mpr ⟨List.mem_of_getElem? (i := 917) (by decide +kernel), rfl⟩
set_option maxRecDepth 20000 in
theorem cd_X9_base : (Cond.code yX9_base cX9_base 2 (some .boolean)) ∈ lw_E := List.mem_filter.mpr ⟨List.mem_of_getElem? (i := 918) (by decide +kernel), rfl⟩
set_option maxRecDepth 20000 in
theorem ml_L_46 : (Cond.methodLink RL 46 yX9_resize) ∈ lw_E := List.mem_filter.mpr ⟨List.mem_of_getElem? (i := 919) (by decide +kernel), rfl⟩
set_option maxRecDepth 20000 in
theorem im_X9_resize : (Cond.instanceMethod yX9_resize) ∈ lw_E := List.mem_filter.mpr ⟨List.mem_of_getElem? (i := 920) (by decide +kernel), rfl⟩
set_option maxRecDepth 20000 in
theorem se_X9_resize : (Cond.selects RX9 yX9_resize yX9_resize) ∈ lw_E := List.mem_filter.mpr ⟨List.mem_of_getElem? (i := 921) (by decide +kernel), rfl⟩
set_option maxRecDepth 20000 in
theorem cd_X9_resize : (Cond.code yX9_resize cX9_resize 4 (some .boolean)) ∈ lw_E := List.mem_filter.mpr ⟨List.mem_of_getElem? (i := 922) (by decide +kernel), rfl⟩
set_option maxRecDepth 20000 in
theorem ml_L_50 : (Cond.methodLink RL 50 yX9_retarget) ∈ lw_E := List.mem_filter.mpr ⟨List.mem_of_getElem? (i := 923) (by decide +kernel), rfl⟩
set_option maxRecDepth 20000 in
theorem im_X9_retarget : (Cond.instanceMethod yX9_retarget) ∈ lw_E := List.mem_filter.mpr ⟨List.mem_of_getElem? (i := 924) (by decide +kernel), rfl⟩
set_option maxRecDepth 20000 in
theorem se_X9_retarget : (Cond.selects RX9 yX9_retarget yX9_retarget) ∈ lw_E := List.mem_filter.mpr ⟨List.mem_of_getElem? (i := 925) (by decide +kernel), rfl⟩
set_option maxRecDepth 20000 in
theorem cd_X9_retarget : (Cond.code yX9_retarget cX9_retarget 3 (some .boolean)) ∈ lw_E := List.mem_filter.mpr ⟨List.mem_of_getElem? (i := 926) (by decide +kernel), rfl⟩
set_option maxRecDepth 20000 in
theorem ml_L_55 : (Cond.methodLink RL 55 yX9_lay) ∈ lw_E := List.mem_filter.mpr ⟨List.mem_of_getElem? (i := 927) (by decide +kernel), rfl⟩
set_option maxRecDepth 20000 in
theorem im_X9_lay : (Cond.instanceMethod yX9_lay) ∈ lw_E := List.mem_filter.mpr ⟨List.mem_of_getElem? (i := 928) (by decide +kernel), rfl⟩
set_option maxRecDepth 20000 in
theorem se_X9_lay : (Cond.selects RX9 yX9_lay yX9_lay) ∈ lw_E := List.mem_filter.mpr ⟨List.mem_of_getElem? (i := 929) (by decide +kernel), rfl⟩
set_option maxRecDepth 20000 in
theorem cd_X9_lay : (Cond.code yX9_lay cX9_lay 8 (some .int)) ∈ lw_E := List.mem_filter.mpr ⟨List.mem_of_getElem? (i := 930) (by decide +kernel), rfl⟩
set_option maxRecDepth 20000 in
theorem ml_X9_162 : (Cond.methodLink RX9 162 yX9_addresses) ∈ lw_E := List.mem_filter.mpr ⟨List.mem_of_getElem? (i := 931) (by decide +kernel), rfl⟩
set_option maxRecDepth 20000 in
theorem im_X9_addresses : (Cond.instanceMethod yX9_addresses) ∈ lw_E := List.mem_filter.mpr ⟨List.mem_of_getElem? (i := 933) (by decide +kernel), rfl⟩
set_option maxRecDepth 20000 in
theorem cd_X9_addresses : (Cond.code yX9_addresses cX9_addresses 6 none) ∈ lw_E := List.mem_filter.mpr ⟨List.mem_of_getElem? (i := 934) (by decide +kernel), rfl⟩
set_option maxRecDepth 20000 in
theorem ml_X9_139 : (Cond.methodLink RX9 139 yX9_upTo) ∈ lw_E := List.mem_filter.mpr ⟨List.mem_of_getElem? (i := 935) (by decide +kernel), rfl⟩
set_option maxRecDepth 20000 in
theorem sc_X9_upTo : (Cond.static yX9_upTo) ∈ lw_E := List.mem_filter.mpr ⟨List.mem_of_getElem? (i := 936) (by decide +kernel), rfl⟩
set_option maxRecDepth 20000 in
theorem cd_X9_upTo : (Cond.code yX9_upTo cX9_upTo 5 (some .long)) ∈ lw_E := List.mem_filter.mpr ⟨List.mem_of_getElem? (i := 937) (by decide +kernel), rfl⟩
set_option maxRecDepth 20000 in
theorem ml_X9_166 : (Cond.methodLink RX9 166 yX9_isDirect) ∈ lw_E := List.mem_filter.mpr ⟨List.mem_of_getElem? (i := 938) (by decide +kernel), rfl⟩
set_option maxRecDepth 20000 in
theorem im_X9_isDirect : (Cond.instanceMethod yX9_isDirect) ∈ lw_E := List.mem_filter.mpr ⟨List.mem_of_getElem? (i := 940) (by decide +kernel), rfl⟩
set_option maxRecDepth 20000 in
theorem cd_X9_isDirect : (Cond.code yX9_isDirect cX9_isDirect 2 (some .boolean)) ∈ lw_E := List.mem_filter.mpr ⟨List.mem_of_getElem? (i := 941) (by decide +kernel), rfl⟩
set_option maxRecDepth 20000 in
theorem ml_X9_147 : (Cond.methodLink RX9 147 yX9_reaches) ∈ lw_E := List.mem_filter.mpr ⟨List.mem_of_getElem? (i := 942) (by decide +kernel), rfl⟩
set_option maxRecDepth 20000 in
theorem im_X9_reaches : (Cond.instanceMethod yX9_reaches) ∈ lw_E := List.mem_filter.mpr ⟨List.mem_of_getElem? (i := 944) (by decide +kernel), rfl⟩
set_option maxRecDepth 20000 in
theorem cd_X9_reaches : (Cond.code yX9_reaches cX9_reaches 10 (some .boolean)) ∈ lw_E := List.mem_filter.mpr ⟨List.mem_of_getElem? (i := 945) (by decide +kernel), rfl⟩
set_option maxRecDepth 20000 in
theorem ml_X9_170 : (Cond.methodLink RX9 170 yX9_thunkFor) ∈ lw_E := List.mem_filter.mpr ⟨List.mem_of_getElem? (i := 946) (by decide +kernel), rfl⟩
set_option maxRecDepth 20000 in
theorem im_X9_thunkFor : (Cond.instanceMethod yX9_thunkFor) ∈ lw_E := List.mem_filter.mpr ⟨List.mem_of_getElem? (i := 948) (by decide +kernel), rfl⟩
set_option maxRecDepth 20000 in
theorem cd_X9_thunkFor : (Cond.code yX9_thunkFor cX9_thunkFor 6 (some .int)) ∈ lw_E := List.mem_filter.mpr ⟨List.mem_of_getElem? (i := 949) (by decide +kernel), rfl⟩
set_option maxRecDepth 20000 in
theorem ml_X9_151 : (Cond.methodLink RX9 151 yX9_isNearer) ∈ lw_E := List.mem_filter.mpr ⟨List.mem_of_getElem? (i := 950) (by decide +kernel), rfl⟩
set_option maxRecDepth 20000 in
theorem sc_X9_isNearer : (Cond.static yX9_isNearer) ∈ lw_E := List.mem_filter.mpr ⟨List.mem_of_getElem? (i := 951) (by decide +kernel), rfl⟩
set_option maxRecDepth 20000 in
theorem cd_X9_isNearer : (Cond.code yX9_isNearer cX9_isNearer 10 (some .boolean)) ∈ lw_E := List.mem_filter.mpr ⟨List.mem_of_getElem? (i := 952) (by decide +kernel), rfl⟩
set_option maxRecDepth 20000 in
theorem ml_X9_174 : (Cond.methodLink RX9 174 yX9_wants) ∈ lw_E := List.mem_filter.mpr ⟨List.mem_of_getElem? (i := 953) (by decide +kernel), rfl⟩
set_option maxRecDepth 20000 in
theorem im_X9_wants : (Cond.instanceMethod yX9_wants) ∈ lw_E := List.mem_filter.mpr ⟨List.mem_of_getElem? (i := 955) (by decide +kernel), rfl⟩
set_option maxRecDepth 20000 in
theorem cd_X9_wants : (Cond.code yX9_wants cX9_wants 6 (some .int)) ∈ lw_E := List.mem_filter.mpr ⟨List.mem_of_getElem? (i := 956) (by decide +kernel), rfl⟩
set_option maxRecDepth 20000 in
theorem ml_X9_155 : (Cond.methodLink RX9 155 yX9_hasThunk) ∈ lw_E := List.mem_filter.mpr ⟨List.mem_of_getElem? (i := 957) (by decide +kernel), rfl⟩
set_option maxRecDepth 20000 in
theorem im_X9_hasThunk : (Cond.instanceMethod yX9_hasThunk) ∈ lw_E := List.mem_filter.mpr ⟨List.mem_of_getElem? (i := 959) (by decide +kernel), rfl⟩
set_option maxRecDepth 20000 in
theorem cd_X9_hasThunk : (Cond.code yX9_hasThunk cX9_hasThunk 7 (some .boolean)) ∈ lw_E := List.mem_filter.mpr ⟨List.mem_of_getElem? (i := 960) (by decide +kernel), rfl⟩
set_option maxRecDepth 20000 in
theorem ml_X9_183 : (Cond.methodLink RX9 183 yX9_keeps) ∈ lw_E := List.mem_filter.mpr ⟨List.mem_of_getElem? (i := 961) (by decide +kernel), rfl⟩
set_option maxRecDepth 20000 in
theorem im_X9_keeps : (Cond.instanceMethod yX9_keeps) ∈ lw_E := List.mem_filter.mpr ⟨List.mem_of_getElem? (i := 963) (by decide +kernel), rfl⟩
set_option maxRecDepth 20000 in
theorem cd_X9_keeps : (Cond.code yX9_keeps cX9_keeps 3 (some .int)) ∈ lw_E := List.mem_filter.mpr ⟨List.mem_of_getElem? (i := 964) (by decide +kernel), rfl⟩
set_option maxRecDepth 20000 in
theorem ml_L_60 : (Cond.methodLink RL 60 yX9_count) ∈ lw_E := List.mem_filter.mpr ⟨List.mem_of_getElem? (i := 965) (by decide +kernel), rfl⟩
set_option maxRecDepth 20000 in
theorem im_X9_count : (Cond.instanceMethod yX9_count) ∈ lw_E := List.mem_filter.mpr ⟨List.mem_of_getElem? (i := 966) (by decide +kernel), rfl⟩
set_option maxRecDepth 20000 in
theorem se_X9_count : (Cond.selects RX9 yX9_count yX9_count) ∈ lw_E := List.mem_filter.mpr ⟨List.mem_of_getElem? (i := 967) (by decide +kernel), rfl⟩
set_option maxRecDepth 20000 in
theorem cd_X9_count : (Cond.code yX9_count cX9_count 2 (some .int)) ∈ lw_E := List.mem_filter.mpr ⟨List.mem_of_getElem? (i := 968) (by decide +kernel), rfl⟩
set_option maxRecDepth 20000 in
theorem ml_X9_208 : (Cond.methodLink RX9 208 yX9_ways) ∈ lw_E := List.mem_filter.mpr ⟨List.mem_of_getElem? (i := 969) (by decide +kernel), rfl⟩
set_option maxRecDepth 20000 in
theorem im_X9_ways : (Cond.instanceMethod yX9_ways) ∈ lw_E := List.mem_filter.mpr ⟨List.mem_of_getElem? (i := 971) (by decide +kernel), rfl⟩
set_option maxRecDepth 20000 in
theorem cd_X9_ways : (Cond.code yX9_ways cX9_ways 4 (some .int)) ∈ lw_E := List.mem_filter.mpr ⟨List.mem_of_getElem? (i := 972) (by decide +kernel), rfl⟩
set_option maxRecDepth 20000 in
theorem ml_X9_212 : (Cond.methodLink RX9 212 yX9_idle) ∈ lw_E := List.mem_filter.mpr ⟨List.mem_of_getElem? (i := 973) (by decide +kernel), rfl⟩
set_option maxRecDepth 20000 in
theorem im_X9_idle : (Cond.instanceMethod yX9_idle) ∈ lw_E := List.mem_filter.mpr ⟨List.mem_of_getElem? (i := 975) (by decide +kernel), rfl⟩
set_option maxRecDepth 20000 in
theorem cd_X9_idle : (Cond.code yX9_idle cX9_idle 3 (some .int)) ∈ lw_E := List.mem_filter.mpr ⟨List.mem_of_getElem? (i := 976) (by decide +kernel), rfl⟩
set_option maxRecDepth 20000 in
theorem ml_X9_215 : (Cond.methodLink RX9 215 yX9_between) ∈ lw_E := List.mem_filter.mpr ⟨List.mem_of_getElem? (i := 977) (by decide +kernel), rfl⟩
set_option maxRecDepth 20000 in
theorem im_X9_between : (Cond.instanceMethod yX9_between) ∈ lw_E := List.mem_filter.mpr ⟨List.mem_of_getElem? (i := 979) (by decide +kernel), rfl⟩
set_option maxRecDepth 20000 in
theorem cd_X9_between : (Cond.code yX9_between cX9_between 4 (some .long)) ∈ lw_E := List.mem_filter.mpr ⟨List.mem_of_getElem? (i := 980) (by decide +kernel), rfl⟩
set_option maxRecDepth 20000 in
theorem ml_L_65 : (Cond.methodLink RL 65 yX9_address) ∈ lw_E := List.mem_filter.mpr ⟨List.mem_of_getElem? (i := 981) (by decide +kernel), rfl⟩
set_option maxRecDepth 20000 in
theorem im_X9_address : (Cond.instanceMethod yX9_address) ∈ lw_E := List.mem_filter.mpr ⟨List.mem_of_getElem? (i := 982) (by decide +kernel), rfl⟩
set_option maxRecDepth 20000 in
theorem se_X9_address : (Cond.selects RX9 yX9_address yX9_address) ∈ lw_E := List.mem_filter.mpr ⟨List.mem_of_getElem? (i := 983) (by decide +kernel), rfl⟩
set_option maxRecDepth 20000 in
theorem cd_X9_address : (Cond.code yX9_address cX9_address 3 (some .long)) ∈ lw_E := List.mem_filter.mpr ⟨List.mem_of_getElem? (i := 984) (by decide +kernel), rfl⟩
set_option maxRecDepth 20000 in
theorem kc_X9_219 : (Cond.constantLong RX9 219 (-9223372036854775808)) ∈ lw_E := List.mem_filter.mpr ⟨List.mem_of_getElem? (i := 985) (by decide +kernel), rfl⟩
set_option maxRecDepth 20000 in
theorem ml_L_69 : (Cond.methodLink RL 69 yX9_route) ∈ lw_E := List.mem_filter.mpr ⟨List.mem_of_getElem? (i := 986) (by decide +kernel), rfl⟩
set_option maxRecDepth 20000 in
theorem im_X9_route : (Cond.instanceMethod yX9_route) ∈ lw_E := List.mem_filter.mpr ⟨List.mem_of_getElem? (i := 987) (by decide +kernel), rfl⟩
set_option maxRecDepth 20000 in
theorem se_X9_route : (Cond.selects RX9 yX9_route yX9_route) ∈ lw_E := List.mem_filter.mpr ⟨List.mem_of_getElem? (i := 988) (by decide +kernel), rfl⟩
set_option maxRecDepth 20000 in
theorem cd_X9_route : (Cond.code yX9_route cX9_route 3 (some .int)) ∈ lw_E := List.mem_filter.mpr ⟨List.mem_of_getElem? (i := 989) (by decide +kernel), rfl⟩
set_option maxRecDepth 20000 in
theorem ml_L_73 : (Cond.methodLink RL 73 yX9_thunk) ∈ lw_E := List.mem_filter.mpr ⟨List.mem_of_getElem? (i := 990) (by decide +kernel), rfl⟩
set_option maxRecDepth 20000 in
theorem im_X9_thunk : (Cond.instanceMethod yX9_thunk) ∈ lw_E := List.mem_filter.mpr ⟨List.mem_of_getElem? (i := 991) (by decide +kernel), rfl⟩
set_option maxRecDepth 20000 in
theorem se_X9_thunk : (Cond.selects RX9 yX9_thunk yX9_thunk) ∈ lw_E := List.mem_filter.mpr ⟨List.mem_of_getElem? (i := 992) (by decide +kernel), rfl⟩
set_option maxRecDepth 20000 in
theorem cd_X9_thunk : (Cond.code yX9_thunk cX9_thunk 3 (some .int)) ∈ lw_E := List.mem_filter.mpr ⟨List.mem_of_getElem? (i := 993) (by decide +kernel), rfl⟩
set_option maxRecDepth 20000 in
theorem ml_L_77 : (Cond.methodLink RL 77 yX9_encoded) ∈ lw_E := List.mem_filter.mpr ⟨List.mem_of_getElem? (i := 994) (by decide +kernel), rfl⟩
set_option maxRecDepth 20000 in
theorem im_X9_encoded : (Cond.instanceMethod yX9_encoded) ∈ lw_E := List.mem_filter.mpr ⟨List.mem_of_getElem? (i := 995) (by decide +kernel), rfl⟩
set_option maxRecDepth 20000 in
theorem se_X9_encoded : (Cond.selects RX9 yX9_encoded yX9_encoded) ∈ lw_E := List.mem_filter.mpr ⟨List.mem_of_getElem? (i := 996) (by decide +kernel), rfl⟩
set_option maxRecDepth 20000 in
theorem cd_X9_encoded : (Cond.code yX9_encoded cX9_encoded 3 (some .int)) ∈ lw_E := List.mem_filter.mpr ⟨List.mem_of_getElem? (i := 997) (by decide +kernel), rfl⟩
set_option maxRecDepth 20000 in
theorem ml_X9_221 : (Cond.methodLink RX9 221 yX9_way) ∈ lw_E := List.mem_filter.mpr ⟨List.mem_of_getElem? (i := 998) (by decide +kernel), rfl⟩
set_option maxRecDepth 20000 in
theorem im_X9_way : (Cond.instanceMethod yX9_way) ∈ lw_E := List.mem_filter.mpr ⟨List.mem_of_getElem? (i := 1000) (by decide +kernel), rfl⟩
set_option maxRecDepth 20000 in
theorem cd_X9_way : (Cond.code yX9_way cX9_way 6 (some .int)) ∈ lw_E := List.mem_filter.mpr ⟨List.mem_of_getElem? (i := 1001) (by decide +kernel), rfl⟩
set_option maxRecDepth 20000 in
theorem ml_X9_225 : (Cond.methodLink RX9 225 yX9_laidReaches) ∈ lw_E := List.mem_filter.mpr ⟨List.mem_of_getElem? (i := 1002) (by decide +kernel), rfl⟩
set_option maxRecDepth 20000 in
theorem im_X9_laidReaches : (Cond.instanceMethod yX9_laidReaches) ∈ lw_E := List.mem_filter.mpr ⟨List.mem_of_getElem? (i := 1004) (by decide +kernel), rfl⟩
set_option maxRecDepth 20000 in
theorem cd_X9_laidReaches : (Cond.code yX9_laidReaches cX9_laidReaches 10 (some .boolean)) ∈ lw_E := List.mem_filter.mpr ⟨List.mem_of_getElem? (i := 1005) (by decide +kernel), rfl⟩
set_option maxRecDepth 20000 in
theorem ml_L_84 : (Cond.methodLink RL 84 yX9_at) ∈ lw_E := List.mem_filter.mpr ⟨List.mem_of_getElem? (i := 1006) (by decide +kernel), rfl⟩
set_option maxRecDepth 20000 in
theorem im_X9_at : (Cond.instanceMethod yX9_at) ∈ lw_E := List.mem_filter.mpr ⟨List.mem_of_getElem? (i := 1007) (by decide +kernel), rfl⟩
set_option maxRecDepth 20000 in
theorem se_X9_at : (Cond.selects RX9 yX9_at yX9_at) ∈ lw_E := List.mem_filter.mpr ⟨List.mem_of_getElem? (i := 1008) (by decide +kernel), rfl⟩
set_option maxRecDepth 20000 in
theorem cd_X9_at : (Cond.code yX9_at cX9_at 4 (some .int)) ∈ lw_E := List.mem_filter.mpr ⟨List.mem_of_getElem? (i := 1009) (by decide +kernel), rfl⟩
set_option maxRecDepth 20000 in
theorem ml_L_89 : (Cond.methodLink RL 89 yX9_walk) ∈ lw_E := List.mem_filter.mpr ⟨List.mem_of_getElem? (i := 1010) (by decide +kernel), rfl⟩
set_option maxRecDepth 20000 in
theorem im_X9_walk : (Cond.instanceMethod yX9_walk) ∈ lw_E := List.mem_filter.mpr ⟨List.mem_of_getElem? (i := 1011) (by decide +kernel), rfl⟩
set_option maxRecDepth 20000 in
theorem se_X9_walk : (Cond.selects RX9 yX9_walk yX9_walk) ∈ lw_E := List.mem_filter.mpr ⟨List.mem_of_getElem? (i := 1012) (by decide +kernel), rfl⟩
set_option maxRecDepth 20000 in
theorem cd_X9_walk : (Cond.code yX9_walk cX9_walk 5 (some .long)) ∈ lw_E := List.mem_filter.mpr ⟨List.mem_of_getElem? (i := 1013) (by decide +kernel), rfl⟩
set_option maxRecDepth 20000 in
theorem ml_X9_228 : (Cond.methodLink RX9 228 yX9_encoded) ∈ lw_E := List.mem_filter.mpr ⟨List.mem_of_getElem? (i := 1014) (by decide +kernel), rfl⟩
set_option maxRecDepth 20000 in
theorem ml_X9_231 : (Cond.methodLink RX9 231 yX9_goes) ∈ lw_E := List.mem_filter.mpr ⟨List.mem_of_getElem? (i := 1015) (by decide +kernel), rfl⟩
set_option maxRecDepth 20000 in
theorem im_X9_goes : (Cond.instanceMethod yX9_goes) ∈ lw_E := List.mem_filter.mpr ⟨List.mem_of_getElem? (i := 1017) (by decide +kernel), rfl⟩
set_option maxRecDepth 20000 in
theorem cd_X9_goes : (Cond.code yX9_goes cX9_goes 7 (some .long)) ∈ lw_E := List.mem_filter.mpr ⟨List.mem_of_getElem? (i := 1018) (by decide +kernel), rfl⟩
set_option maxRecDepth 20000 in
theorem ml_L_93 : (Cond.methodLink RL 93 yX9_far) ∈ lw_E := List.mem_filter.mpr ⟨List.mem_of_getElem? (i := 1019) (by decide +kernel), rfl⟩
set_option maxRecDepth 20000 in
theorem im_X9_far : (Cond.instanceMethod yX9_far) ∈ lw_E := List.mem_filter.mpr ⟨List.mem_of_getElem? (i := 1020) (by decide +kernel), rfl⟩
set_option maxRecDepth 20000 in
theorem se_X9_far : (Cond.selects RX9 yX9_far yX9_far) ∈ lw_E := List.mem_filter.mpr ⟨List.mem_of_getElem? (i := 1021) (by decide +kernel), rfl⟩
set_option maxRecDepth 20000 in
theorem cd_X9_far : (Cond.code yX9_far cX9_far 6 (some .int)) ∈ lw_E := List.mem_filter.mpr ⟨List.mem_of_getElem? (i := 1022) (by decide +kernel), rfl⟩
set_option maxRecDepth 20000 in
theorem kc_L_78 : (Cond.constantLong RL 78 (4294967295)) ∈ lw_E := List.mem_filter.mpr ⟨List.mem_of_getElem? (i := 1023) (by decide +kernel), rfl⟩
set_option maxRecDepth 20000 in
theorem se_X5_append : (Cond.selects RX5 yX5_append yX5_append) ∈ lw_E := List.mem_filter.mpr ⟨List.mem_of_getElem? (i := 0) (by decide +kernel), rfl⟩
set_option maxRecDepth 20000 in
theorem se_X8_notedNumber : (Cond.selects RX8 yX8_notedNumber yX8_notedNumber) ∈ lw_E := List.mem_filter.mpr ⟨List.mem_of_getElem? (i := 1) (by decide +kernel), rfl⟩
set_option maxRecDepth 20000 in
theorem se_X8_noted : (Cond.selects RX8 yX8_noted yX8_noted) ∈ lw_E := List.mem_filter.mpr ⟨List.mem_of_getElem? (i := 2) (by decide +kernel), rfl⟩
set_option maxRecDepth 20000 in
theorem se_X5_has : (Cond.selects RX5 yX5_has yX5_has) ∈ lw_E := List.mem_filter.mpr ⟨List.mem_of_getElem? (i := 3) (by decide +kernel), rfl⟩
set_option maxRecDepth 20000 in
theorem se_X3_append : (Cond.selects RX3 yX3_append yX3_append) ∈ lw_E := List.mem_filter.mpr ⟨List.mem_of_getElem? (i := 4) (by decide +kernel), rfl⟩
set_option maxRecDepth 20000 in
theorem se_X2_tell : (Cond.selects RX2 yX2_tell yX2_tell) ∈ lw_E := List.mem_filter.mpr ⟨List.mem_of_getElem? (i := 5) (by decide +kernel), rfl⟩
set_option maxRecDepth 20000 in
theorem se_X2_has : (Cond.selects RX2 yX2_has yX2_has) ∈ lw_E := List.mem_filter.mpr ⟨List.mem_of_getElem? (i := 6) (by decide +kernel), rfl⟩
set_option maxRecDepth 20000 in
theorem se_X3_has : (Cond.selects RX3 yX3_has yX3_has) ∈ lw_E := List.mem_filter.mpr ⟨List.mem_of_getElem? (i := 7) (by decide +kernel), rfl⟩
set_option maxRecDepth 20000 in
theorem se_X1_append : (Cond.selects RX1 yX1_append yX1_append) ∈ lw_E := List.mem_filter.mpr ⟨List.mem_of_getElem? (i := 8) (by decide +kernel), rfl⟩
set_option maxRecDepth 20000 in
theorem se_X7_tellThunks : (Cond.selects RX7 yX7_tellThunks yX7_tellThunks) ∈ lw_E := List.mem_filter.mpr ⟨List.mem_of_getElem? (i := 9) (by decide +kernel), rfl⟩
set_option maxRecDepth 20000 in
theorem se_X7_changeSize : (Cond.selects RX7 yX7_changeSize yX7_changeSize) ∈ lw_E := List.mem_filter.mpr ⟨List.mem_of_getElem? (i := 10) (by decide +kernel), rfl⟩
set_option maxRecDepth 20000 in
theorem se_X3_highestIn : (Cond.selects RX3 yX3_highestIn yX3_highestIn) ∈ lw_E := List.mem_filter.mpr ⟨List.mem_of_getElem? (i := 11) (by decide +kernel), rfl⟩
set_option maxRecDepth 20000 in
theorem se_X1_highestIn : (Cond.selects RX1 yX1_highestIn yX1_highestIn) ∈ lw_E := List.mem_filter.mpr ⟨List.mem_of_getElem? (i := 12) (by decide +kernel), rfl⟩
set_option maxRecDepth 20000 in
theorem se_X1_has : (Cond.selects RX1 yX1_has yX1_has) ∈ lw_E := List.mem_filter.mpr ⟨List.mem_of_getElem? (i := 13) (by decide +kernel), rfl⟩
set_option maxRecDepth 20000 in
theorem se_X4_layOut : (Cond.selects RX4 yX4_layOut yX4_layOut) ∈ lw_E := List.mem_filter.mpr ⟨List.mem_of_getElem? (i := 14) (by decide +kernel), rfl⟩
set_option maxRecDepth 20000 in
theorem se_X7_copyFrom : (Cond.selects RX7 yX7_copyFrom yX7_copyFrom) ∈ lw_E := List.mem_filter.mpr ⟨List.mem_of_getElem? (i := 15) (by decide +kernel), rfl⟩
set_option maxRecDepth 20000 in
theorem se_X5_copyFrom : (Cond.selects RX5 yX5_copyFrom yX5_copyFrom) ∈ lw_E := List.mem_filter.mpr ⟨List.mem_of_getElem? (i := 16) (by decide +kernel), rfl⟩
set_option maxRecDepth 20000 in
theorem se_X3_copyFrom : (Cond.selects RX3 yX3_copyFrom yX3_copyFrom) ∈ lw_E := List.mem_filter.mpr ⟨List.mem_of_getElem? (i := 17) (by decide +kernel), rfl⟩
set_option maxRecDepth 20000 in
theorem se_X2_copyFrom : (Cond.selects RX2 yX2_copyFrom yX2_copyFrom) ∈ lw_E := List.mem_filter.mpr ⟨List.mem_of_getElem? (i := 18) (by decide +kernel), rfl⟩
set_option maxRecDepth 20000 in
theorem se_X1_copyFrom : (Cond.selects RX1 yX1_copyFrom yX1_copyFrom) ∈ lw_E := List.mem_filter.mpr ⟨List.mem_of_getElem? (i := 19) (by decide +kernel), rfl⟩
set_option maxRecDepth 20000 in
theorem se_X6_clear : (Cond.selects RX6 yX6_clear yX6_clear) ∈ lw_E := List.mem_filter.mpr ⟨List.mem_of_getElem? (i := 20) (by decide +kernel), rfl⟩
set_option maxRecDepth 20000 in
theorem se_X0_find : (Cond.selects RX0 yX0_find yX0_find) ∈ lw_E := List.mem_filter.mpr ⟨List.mem_of_getElem? (i := 21) (by decide +kernel), rfl⟩
set_option maxRecDepth 20000 in
theorem se_X7_thunkStride : (Cond.selects RX7 yX7_thunkStride yX7_thunkStride) ∈ lw_E := List.mem_filter.mpr ⟨List.mem_of_getElem? (i := 22) (by decide +kernel), rfl⟩
set_option maxRecDepth 20000 in
theorem se_X6_findPlaces : (Cond.selects RX6 yX6_findPlaces yX6_findPlaces) ∈ lw_E := List.mem_filter.mpr ⟨List.mem_of_getElem? (i := 23) (by decide +kernel), rfl⟩
set_option maxRecDepth 20000 in
theorem se_X4_anyWanted : (Cond.selects RX4 yX4_anyWanted yX4_anyWanted) ∈ lw_E := List.mem_filter.mpr ⟨List.mem_of_getElem? (i := 24) (by decide +kernel), rfl⟩
set_option maxRecDepth 20000 in
theorem se_X7_hasThunks : (Cond.selects RX7 yX7_hasThunks yX7_hasThunks) ∈ lw_E := List.mem_filter.mpr ⟨List.mem_of_getElem? (i := 25) (by decide +kernel), rfl⟩
set_option maxRecDepth 20000 in
theorem se_X4_isDirect : (Cond.selects RX4 yX4_isDirect yX4_isDirect) ∈ lw_E := List.mem_filter.mpr ⟨List.mem_of_getElem? (i := 26) (by decide +kernel), rfl⟩
set_option maxRecDepth 20000 in
theorem se_X4_labelAddress : (Cond.selects RX4 yX4_labelAddress yX4_labelAddress) ∈ lw_E := List.mem_filter.mpr ⟨List.mem_of_getElem? (i := 27) (by decide +kernel), rfl⟩
set_option maxRecDepth 20000 in
theorem se_X4_branchAddress : (Cond.selects RX4 yX4_branchAddress yX4_branchAddress) ∈ lw_E := List.mem_filter.mpr ⟨List.mem_of_getElem? (i := 28) (by decide +kernel), rfl⟩
set_option maxRecDepth 20000 in
theorem se_X2_reaches : (Cond.selects RX2 yX2_reaches yX2_reaches) ∈ lw_E := List.mem_filter.mpr ⟨List.mem_of_getElem? (i := 29) (by decide +kernel), rfl⟩
set_option maxRecDepth 20000 in
theorem se_X4_nearestThunk : (Cond.selects RX4 yX4_nearestThunk yX4_nearestThunk) ∈ lw_E := List.mem_filter.mpr ⟨List.mem_of_getElem? (i := 30) (by decide +kernel), rfl⟩
set_option maxRecDepth 20000 in
theorem se_X6_numberOf : (Cond.selects RX6 yX6_numberOf yX6_numberOf) ∈ lw_E := List.mem_filter.mpr ⟨List.mem_of_getElem? (i := 31) (by decide +kernel), rfl⟩
set_option maxRecDepth 20000 in
theorem se_X6_has : (Cond.selects RX6 yX6_has yX6_has) ∈ lw_E := List.mem_filter.mpr ⟨List.mem_of_getElem? (i := 32) (by decide +kernel), rfl⟩
set_option maxRecDepth 20000 in
theorem se_X4_doesHelp : (Cond.selects RX4 yX4_doesHelp yX4_doesHelp) ∈ lw_E := List.mem_filter.mpr ⟨List.mem_of_getElem? (i := 33) (by decide +kernel), rfl⟩
set_option maxRecDepth 20000 in
theorem se_X4_wantThunk : (Cond.selects RX4 yX4_wantThunk yX4_wantThunk) ∈ lw_E := List.mem_filter.mpr ⟨List.mem_of_getElem? (i := 34) (by decide +kernel), rfl⟩
set_option maxRecDepth 20000 in
theorem se_X4_couldHelp : (Cond.selects RX4 yX4_couldHelp yX4_couldHelp) ∈ lw_E := List.mem_filter.mpr ⟨List.mem_of_getElem? (i := 35) (by decide +kernel), rfl⟩
set_option maxRecDepth 20000 in
theorem se_X6_isMade : (Cond.selects RX6 yX6_isMade yX6_isMade) ∈ lw_E := List.mem_filter.mpr ⟨List.mem_of_getElem? (i := 36) (by decide +kernel), rfl⟩
set_option maxRecDepth 20000 in
theorem se_X6_isWanted : (Cond.selects RX6 yX6_isWanted yX6_isWanted) ∈ lw_E := List.mem_filter.mpr ⟨List.mem_of_getElem? (i := 37) (by decide +kernel), rfl⟩
set_option maxRecDepth 20000 in
theorem se_X6_want : (Cond.selects RX6 yX6_want yX6_want) ∈ lw_E := List.mem_filter.mpr ⟨List.mem_of_getElem? (i := 38) (by decide +kernel), rfl⟩
set_option maxRecDepth 20000 in
theorem se_X6_grow : (Cond.selects RX6 yX6_grow yX6_grow) ∈ lw_E := List.mem_filter.mpr ⟨List.mem_of_getElem? (i := 39) (by decide +kernel), rfl⟩
set_option maxRecDepth 20000 in
theorem se_X6_makeWanted : (Cond.selects RX6 yX6_makeWanted yX6_makeWanted) ∈ lw_E := List.mem_filter.mpr ⟨List.mem_of_getElem? (i := 40) (by decide +kernel), rfl⟩
set_option maxRecDepth 20000 in
theorem se_X4_routeAll : (Cond.selects RX4 yX4_routeAll yX4_routeAll) ∈ lw_E := List.mem_filter.mpr ⟨List.mem_of_getElem? (i := 41) (by decide +kernel), rfl⟩
set_option maxRecDepth 20000 in
theorem se_X4_routeByThunk : (Cond.selects RX4 yX4_routeByThunk yX4_routeByThunk) ∈ lw_E := List.mem_filter.mpr ⟨List.mem_of_getElem? (i := 42) (by decide +kernel), rfl⟩
set_option maxRecDepth 20000 in
theorem se_X6_unused : (Cond.selects RX6 yX6_unused yX6_unused) ∈ lw_E := List.mem_filter.mpr ⟨List.mem_of_getElem? (i := 43) (by decide +kernel), rfl⟩
set_option maxRecDepth 20000 in
theorem se_X4_bytesBetween : (Cond.selects RX4 yX4_bytesBetween yX4_bytesBetween) ∈ lw_E := List.mem_filter.mpr ⟨List.mem_of_getElem? (i := 44) (by decide +kernel), rfl⟩
set_option maxRecDepth 20000 in
theorem se_X4_bytesInAll : (Cond.selects RX4 yX4_bytesInAll yX4_bytesInAll) ∈ lw_E := List.mem_filter.mpr ⟨List.mem_of_getElem? (i := 45) (by decide +kernel), rfl⟩
set_option maxRecDepth 20000 in
theorem se_X5_hasPool : (Cond.selects RX5 yX5_hasPool yX5_hasPool) ∈ lw_E := List.mem_filter.mpr ⟨List.mem_of_getElem? (i := 46) (by decide +kernel), rfl⟩
set_option maxRecDepth 20000 in
theorem se_X4_branchCode : (Cond.selects RX4 yX4_branchCode yX4_branchCode) ∈ lw_E := List.mem_filter.mpr ⟨List.mem_of_getElem? (i := 47) (by decide +kernel), rfl⟩
set_option maxRecDepth 20000 in
theorem se_X2_encode : (Cond.selects RX2 yX2_encode yX2_encode) ∈ lw_E := List.mem_filter.mpr ⟨List.mem_of_getElem? (i := 48) (by decide +kernel), rfl⟩
set_option maxRecDepth 20000 in
theorem se_X4_thunkCode : (Cond.selects RX4 yX4_thunkCode yX4_thunkCode) ∈ lw_E := List.mem_filter.mpr ⟨List.mem_of_getElem? (i := 49) (by decide +kernel), rfl⟩
set_option maxRecDepth 20000 in
theorem se_X4_whatIsAt : (Cond.selects RX4 yX4_whatIsAt yX4_whatIsAt) ∈ lw_E := List.mem_filter.mpr ⟨List.mem_of_getElem? (i := 50) (by decide +kernel), rfl⟩
set_option maxRecDepth 20000 in
theorem se_X4_walkFrom : (Cond.selects RX4 yX4_walkFrom yX4_walkFrom) ∈ lw_E := List.mem_filter.mpr ⟨List.mem_of_getElem? (i := 51) (by decide +kernel), rfl⟩
set_option maxRecDepth 20000 in
theorem se_X2_follow : (Cond.selects RX2 yX2_follow yX2_follow) ∈ lw_E := List.mem_filter.mpr ⟨List.mem_of_getElem? (i := 52) (by decide +kernel), rfl⟩
set_option maxRecDepth 20000 in
theorem se_X9_addresses : (Cond.selects RX9 yX9_addresses yX9_addresses) ∈ lw_E := List.mem_filter.mpr ⟨List.mem_of_getElem? (i := 53) (by decide +kernel), rfl⟩
set_option maxRecDepth 20000 in
theorem se_X9_isDirect : (Cond.selects RX9 yX9_isDirect yX9_isDirect) ∈ lw_E := List.mem_filter.mpr ⟨List.mem_of_getElem? (i := 54) (by decide +kernel), rfl⟩
set_option maxRecDepth 20000 in
theorem se_X9_reaches : (Cond.selects RX9 yX9_reaches yX9_reaches) ∈ lw_E := List.mem_filter.mpr ⟨List.mem_of_getElem? (i := 55) (by decide +kernel), rfl⟩
set_option maxRecDepth 20000 in
theorem se_X9_thunkFor : (Cond.selects RX9 yX9_thunkFor yX9_thunkFor) ∈ lw_E := List.mem_filter.mpr ⟨List.mem_of_getElem? (i := 56) (by decide +kernel), rfl⟩
set_option maxRecDepth 20000 in
theorem se_X9_wants : (Cond.selects RX9 yX9_wants yX9_wants) ∈ lw_E := List.mem_filter.mpr ⟨List.mem_of_getElem? (i := 57) (by decide +kernel), rfl⟩
set_option maxRecDepth 20000 in
theorem se_X9_hasThunk : (Cond.selects RX9 yX9_hasThunk yX9_hasThunk) ∈ lw_E := List.mem_filter.mpr ⟨List.mem_of_getElem? (i := 58) (by decide +kernel), rfl⟩
set_option maxRecDepth 20000 in
theorem se_X9_keeps : (Cond.selects RX9 yX9_keeps yX9_keeps) ∈ lw_E := List.mem_filter.mpr ⟨List.mem_of_getElem? (i := 59) (by decide +kernel), rfl⟩
set_option maxRecDepth 20000 in
theorem se_X9_ways : (Cond.selects RX9 yX9_ways yX9_ways) ∈ lw_E := List.mem_filter.mpr ⟨List.mem_of_getElem? (i := 60) (by decide +kernel), rfl⟩
set_option maxRecDepth 20000 in
theorem se_X9_idle : (Cond.selects RX9 yX9_idle yX9_idle) ∈ lw_E := List.mem_filter.mpr ⟨List.mem_of_getElem? (i := 61) (by decide +kernel), rfl⟩
set_option maxRecDepth 20000 in
theorem se_X9_between : (Cond.selects RX9 yX9_between yX9_between) ∈ lw_E := List.mem_filter.mpr ⟨List.mem_of_getElem? (i := 62) (by decide +kernel), rfl⟩
set_option maxRecDepth 20000 in
theorem se_X9_way : (Cond.selects RX9 yX9_way yX9_way) ∈ lw_E := List.mem_filter.mpr ⟨List.mem_of_getElem? (i := 63) (by decide +kernel), rfl⟩
set_option maxRecDepth 20000 in
theorem se_X9_laidReaches : (Cond.selects RX9 yX9_laidReaches yX9_laidReaches) ∈ lw_E := List.mem_filter.mpr ⟨List.mem_of_getElem? (i := 64) (by decide +kernel), rfl⟩
set_option maxRecDepth 20000 in
theorem se_X9_goes : (Cond.selects RX9 yX9_goes yX9_goes) ∈ lw_E := List.mem_filter.mpr ⟨List.mem_of_getElem? (i := 65) (by decide +kernel), rfl⟩
end
section
/-! THE TABLES' WORDS in every state that a call comes to -/
def EnvOk (U : State) : Prop := ∀ w ∈ lw_E, ∀ a : Array Value, w.before a U = true
theorem EnvOk.of {s U : State} {a0 : Array Value} (h : ∀ w ∈ lw_E, w.before a0 s = true) (hW : s.WarmedH U.vm) : EnvOk U := by
  intro w hw a
  have h1 : (goodWord w || kk_nest w) = true := (List.mem_filter.mp hw).2
  rcases (Bool.or_eq_true _ _).mp h1 with h2 | h2
  · exact word_at hW (good_of_word h2) (h w hw)
  · cases w <;> simp [kk_nest] at h2
    all_goals first | exact va_Nw.use rfl (va_Nw.warmF hW (va_Nw.of rfl (h _ hw))) | exact va_Nw.use rfl (va_Nw.warmM hW (va_Nw.of rfl (h _ hw))) | exact va_Nw.use rfl (va_Nw.warmC hW (va_Nw.of rfl (h _ hw)))
theorem EnvOk.warm {s U : State} (h : EnvOk s) (hW : s.WarmedH U.vm) : EnvOk U := EnvOk.of (a0 := #[]) (fun w hw => h w hw #[]) hW
abbrev tysY (y : Nat → ClassId) : List (ClassId × FieldType) := [(y 0, .int), (y 1, .long), (y 2, .boolean)]
def Ok (D : va_G) (y : Nat → ClassId) (U : State) : Prop := va_K D vwCl (tysY y) U ∧ EnvOk U
theorem Ok.warm {D : va_G} {y : Nat → ClassId} {s U : State} (h : Ok D y s) (hW : s.WarmedH U.vm) : Ok D y U := ⟨va_K.moved hW.alike h.1, h.2.warm hW⟩
theorem Ok.calling {D : va_G} {y : Nat → ClassId} {U : State} (h : Ok D y U) (g : JFrame) (mk : MethodId) (a : Array Value) : Ok D y (U.calling g mk a) := h.warm (U := U.calling g mk a) (State.WarmedH.refl U)
/-- a reader's start, a writer's start -/
def PR (D : va_G) (y : Nat → ClassId) (ws : va_W) (U : State) : Prop := va_P D vwCl ws U.heap ∧ Ok D y U
def PW (D : va_G) (y : Nat → ClassId) (ws : va_W) (sz : Nat) (U : State) : Prop := U.heap.size = sz ∧ va_P D vwCl ws U.heap ∧ va_D (fun _ => True) ws ∧ Ok D y U
theorem PR.blind {D : va_G} {y : Nat → ClassId} {ws : va_W} {av : List Value} : FrameBlind (va_Pc av (PR D y ws)) := fun a U g mk q => by
  obtain ⟨q0, qP, qO⟩ := q
  exact ⟨q0, qP, qO.calling g mk a⟩
theorem PW.blind {D : va_G} {y : Nat → ClassId} {ws : va_W} {sz : Nat} {av : List Value} : FrameBlind (va_Pc av (PW D y ws sz)) := fun a U g mk q => by
  obtain ⟨q0, q1, qP, qD, qO⟩ := q
  exact ⟨q0, q1, qP, qD, qO.calling g mk a⟩
/-- what a call needs of the tables -/
def goodM (y : MethodName) (bytes : ByteArray) (maxL : Nat) (ret : Option FieldType) (C : String) (n : Nat) : Prop :=
  Cond.code y bytes maxL ret ∈ lw_E ∧ Cond.initialized y.cls ∈ lw_E ∧ Cond.instanceMethod y ∈ lw_E ∧ Cond.selects C y y ∈ lw_E ∧ (y.cls ≠ "java/lang/invoke/MethodHandle" ∧ y.cls ≠ "java/lang/invoke/VarHandle") ∧ (parseMethodDescriptor y.desc).map (fun d => d.parameters.length) = some n
def goodS (y : MethodName) (bytes : ByteArray) (maxL : Nat) (ret : Option FieldType) (n : Nat) : Prop :=
  Cond.code y bytes maxL ret ∈ lw_E ∧ Cond.initialized y.cls ∈ lw_E ∧ Cond.static y ∈ lw_E ∧ (y.cls ≠ "java/lang/invoke/MethodHandle" ∧ y.cls ≠ "java/lang/invoke/VarHandle") ∧ (parseMethodDescriptor y.desc).map (fun d => d.parameters.length) = some n
/-- a constructor -/
def goodI (y : MethodName) (bytes : ByteArray) (maxL : Nat) (n : Nat) : Prop :=
  Cond.code y bytes maxL none ∈ lw_E ∧ Cond.initialized y.cls ∈ lw_E ∧ Cond.instanceMethod y ∈ lw_E ∧ y.name = "<init>" ∧ (y.cls ≠ "java/lang/invoke/MethodHandle" ∧ y.cls ≠ "java/lang/invoke/VarHandle") ∧ (parseMethodDescriptor y.desc).map (fun d => d.parameters.length) = some n
theorem sig_n {y : MethodName} {n : Nat} (h : (parseMethodDescriptor y.desc).map (fun d => d.parameters.length) = some n) : ∀ sig, parseMethodDescriptor y.desc = some sig → n = sig.parameters.length := fun sig h2 => by
  rw [h2] at h
  exact (Option.some.inj h).symm
theorem cw_b {s : State} {y : MethodName} {bytes : ByteArray} {maxL : Nat} {ret : Option FieldType} (hE : EnvOk s) (hcd : Cond.code y bytes maxL ret ∈ lw_E) : ∀ w ∈ [Cond.code y bytes maxL ret], ∀ (a' : Array Value) (U : State), s.WarmedH U.vm → w.before a' U = true := fun w hw a' U hW => by
  rw [List.mem_singleton.mp hw]
  exact hE.warm hW _ hcd a'
section RUNS
variable {p : Program} {l : Launch} {e : Env} {R : Room} {s : State} {m : MethodId} {args : Array Value} {below : List Frame} {meth : Method} {c : Code} {H : Heap} {locs : List Loc} {cells slots : Nat} {Q : State → Prop}
variable {cc bytes : ByteArray} {nL maxL index n mc ms pc : Nat} {own C host : String} {y : MethodName} {ret : Option FieldType} {rm : Room} {Pc : Array Value → State → Prop} {Qc : Array Value → State → Outcome → State → Prop} {free : Addr → Prop} {b : Addr} {As rest st0 : List Value} {ls : Array Slot}
/-- invokevirtual by a plain link -/
theorem run_v (hx : p.tables.exec = Jvm.exec) (hb : c.code = cc) (hml : c.maxLocals = nL) (hown : s.vm.findClass own = some m.cls) (hE : EnvOk s) (hM : Met l y [Cond.code y bytes maxL ret] rm Pc Qc mc ms free) (hg : goodM y bytes maxL ret C n) (hl : Cond.methodLink own index y ∈ lw_E) (hrm : rm.cells = mc ∧ rm.slots = ms) (hR : rm.frames + 1 ≤ R.frames ∧ 8 + (maxL + 11) + rm.locals ≤ R.locals) (hp : PreV s H C b Pc As) (hn : As.length = n) (hsize : ls.size = nL) (hst : st0 = As.reverse ++ .ref b :: rest) (hW : (rest.map fun v => v.category).sum ≤ 8) (hdg : decode cc pc = .ok (.invokevirtual index, 3)) (hf : cells + mc ≤ R.cells ∧ slots + ms ≤ R.slots) :
    va_Run p l e R s m args below meth c H locs cells slots mc ms (F0 m pc ls st0) rest (Qc (Value.ref b :: As).toArray) free :=
  va_runV (Ts := lw_E) ⟨hx, hb, hml, hown, fun w h => hE w h _⟩ hM ⟨⟨hrm.1, hrm.2, hR.1, hR.2, cw_b hE hg.1, List.mem_singleton.mpr rfl, hE _ hg.1 _, hE _ hg.2.1 _, hg.2.2.2.2.1, sig_n hg.2.2.2.2.2, hE _ hl _⟩, hE _ hg.2.2.1 _, hE _ hg.2.2.2.1 _⟩ hp rfl hn hsize hst (lv_room hW) hdg hf
/-- invokevirtual of a nest mate's private method -/
theorem run_vn (hx : p.tables.exec = Jvm.exec) (hb : c.code = cc) (hml : c.maxLocals = nL) (hown : s.vm.findClass own = some m.cls) (hE : EnvOk s) (hM : Met l y [Cond.code y bytes maxL ret] rm Pc Qc mc ms free) (hg : goodM y bytes maxL ret C n) (hl : Cond.methodLinkNest own index y host ∈ lw_E) (hrm : rm.cells = mc ∧ rm.slots = ms) (hR : rm.frames + 1 ≤ R.frames ∧ 8 + (maxL + 11) + rm.locals ≤ R.locals) (hp : PreV s H C b Pc As) (hn : As.length = n) (hsize : ls.size = nL) (hst : st0 = As.reverse ++ .ref b :: rest) (hW : (rest.map fun v => v.category).sum ≤ 8) (hdg : decode cc pc = .ok (.invokevirtual index, 3)) (hf : cells + mc ≤ R.cells ∧ slots + ms ≤ R.slots) :
    va_Run p l e R s m args below meth c H locs cells slots mc ms (F0 m pc ls st0) rest (Qc (Value.ref b :: As).toArray) free :=
  va_runVN (Ts := lw_E) ⟨hx, hb, hml, hown, fun w h => hE w h _⟩ hM ⟨⟨⟨hrm.1, hrm.2, hR.1, hR.2, cw_b hE hg.1, List.mem_singleton.mpr rfl⟩, hE _ hg.1 _, hE _ hg.2.1 _, hg.2.2.2.2.1, sig_n hg.2.2.2.2.2, hE _ hl _⟩, hE _ hg.2.2.1 _, hE _ hg.2.2.2.1 _⟩ hp rfl hn hsize hst (lv_room hW) hdg hf
theorem run_s (hx : p.tables.exec = Jvm.exec) (hb : c.code = cc) (hml : c.maxLocals = nL) (hown : s.vm.findClass own = some m.cls) (hE : EnvOk s) (hM : Met l y [Cond.code y bytes maxL ret] rm Pc Qc mc ms free) (hg : goodS y bytes maxL ret n) (hl : Cond.methodLink own index y ∈ lw_E) (hrm : rm.cells = mc ∧ rm.slots = ms) (hR : rm.frames + 1 ≤ R.frames ∧ 8 + (maxL + 11) + rm.locals ≤ R.locals) (hp : PreS s H Pc As) (hn : As.length = n) (hsize : ls.size = nL) (hst : st0 = As.reverse ++ rest) (hW : (rest.map fun v => v.category).sum ≤ 8) (hdg : decode cc pc = .ok (.invokestatic index, 3)) (hf : cells + mc ≤ R.cells ∧ slots + ms ≤ R.slots) :
    va_Run p l e R s m args below meth c H locs cells slots mc ms (F0 m pc ls st0) rest (Qc As.toArray) free :=
  va_runS (Ts := lw_E) ⟨hx, hb, hml, hown, fun w h => hE w h _⟩ hM ⟨⟨hrm.1, hrm.2, hR.1, hR.2, cw_b hE hg.1, List.mem_singleton.mpr rfl, hE _ hg.1 _, hE _ hg.2.1 _, hg.2.2.2.1, sig_n hg.2.2.2.2, hE _ hl _⟩, hE _ hg.2.2.1 _⟩ hp rfl hn hsize hst (lv_room hW) hdg hf
theorem run_sn (hx : p.tables.exec = Jvm.exec) (hb : c.code = cc) (hml : c.maxLocals = nL) (hown : s.vm.findClass own = some m.cls) (hE : EnvOk s) (hM : Met l y [Cond.code y bytes maxL ret] rm Pc Qc mc ms free) (hg : goodS y bytes maxL ret n) (hl : Cond.methodLinkNest own index y host ∈ lw_E) (hrm : rm.cells = mc ∧ rm.slots = ms) (hR : rm.frames + 1 ≤ R.frames ∧ 8 + (maxL + 11) + rm.locals ≤ R.locals) (hp : PreS s H Pc As) (hn : As.length = n) (hsize : ls.size = nL) (hst : st0 = As.reverse ++ rest) (hW : (rest.map fun v => v.category).sum ≤ 8) (hdg : decode cc pc = .ok (.invokestatic index, 3)) (hf : cells + mc ≤ R.cells ∧ slots + ms ≤ R.slots) :
    va_Run p l e R s m args below meth c H locs cells slots mc ms (F0 m pc ls st0) rest (Qc As.toArray) free :=
  va_runSN (Ts := lw_E) ⟨hx, hb, hml, hown, fun w h => hE w h _⟩ hM ⟨⟨⟨hrm.1, hrm.2, hR.1, hR.2, cw_b hE hg.1, List.mem_singleton.mpr rfl⟩, hE _ hg.1 _, hE _ hg.2.1 _, hg.2.2.2.1, sig_n hg.2.2.2.2, hE _ hl _⟩, hE _ hg.2.2.1 _, trivial⟩ hp rfl hn hsize hst (lv_room hW) hdg hf
theorem run_i (hx : p.tables.exec = Jvm.exec) (hb : c.code = cc) (hml : c.maxLocals = nL) (hown : s.vm.findClass own = some m.cls) (hE : EnvOk s) (hM : Met l y [Cond.code y bytes maxL none] rm Pc Qc mc ms free) (hg : goodI y bytes maxL n) (hl : Cond.methodLink own index y ∈ lw_E) (hrm : rm.cells = mc ∧ rm.slots = ms) (hR : rm.frames + 1 ≤ R.frames ∧ 8 + (maxL + 11) + rm.locals ≤ R.locals) (hp : PreS s H Pc (.ref b :: As)) (hn : As.length = n) (hsize : ls.size = nL) (hst : st0 = As.reverse ++ .ref b :: rest) (hW : (rest.map fun v => v.category).sum ≤ 8) (hdg : decode cc pc = .ok (.invokespecial index, 3)) (hf : cells + mc ≤ R.cells ∧ slots + ms ≤ R.slots) :
    va_Run p l e R s m args below meth c H locs cells slots mc ms (F0 m pc ls st0) rest (Qc (Value.ref b :: As).toArray) free :=
  va_runI (Ts := lw_E) ⟨hx, hb, hml, hown, fun w h => hE w h _⟩ hM ⟨⟨hrm.1, hrm.2, hR.1, hR.2, cw_b hE hg.1, List.mem_singleton.mpr rfl, hE _ hg.1 _, hE _ hg.2.1 _, hg.2.2.2.2.1, sig_n hg.2.2.2.2.2, hE _ hl _⟩, hg.2.2.2.1, hE _ hg.2.2.1 _⟩ hp rfl hn hsize hst (lv_room hW) hdg hf
theorem run_in (hx : p.tables.exec = Jvm.exec) (hb : c.code = cc) (hml : c.maxLocals = nL) (hown : s.vm.findClass own = some m.cls) (hE : EnvOk s) (hM : Met l y [Cond.code y bytes maxL none] rm Pc Qc mc ms free) (hg : goodI y bytes maxL n) (hl : Cond.methodLinkNest own index y host ∈ lw_E) (hrm : rm.cells = mc ∧ rm.slots = ms) (hR : rm.frames + 1 ≤ R.frames ∧ 8 + (maxL + 11) + rm.locals ≤ R.locals) (hp : PreS s H Pc (.ref b :: As)) (hn : As.length = n) (hsize : ls.size = nL) (hst : st0 = As.reverse ++ .ref b :: rest) (hW : (rest.map fun v => v.category).sum ≤ 8) (hdg : decode cc pc = .ok (.invokespecial index, 3)) (hf : cells + mc ≤ R.cells ∧ slots + ms ≤ R.slots) :
    va_Run p l e R s m args below meth c H locs cells slots mc ms (F0 m pc ls st0) rest (Qc (Value.ref b :: As).toArray) free :=
  va_runIN (Ts := lw_E) ⟨hx, hb, hml, hown, fun w h => hE w h _⟩ hM ⟨⟨⟨hrm.1, hrm.2, hR.1, hR.2, cw_b hE hg.1, List.mem_singleton.mpr rfl⟩, hE _ hg.1 _, hE _ hg.2.1 _, hg.2.2.2.2.1, sig_n hg.2.2.2.2.2, hE _ hl _⟩, hg.2.2.2.1, hE _ hg.2.2.1 _⟩ hp rfl hn hsize hst (lv_room hW) hdg hf
/-- behind a reader: nothing has changed -/
theorem rk_i {post : Int32 → Prop} {a : Array Value} (hr : va_Run p l e R s m args below meth c H locs cells slots 0 0 (F0 m pc ls st0) rest (vp_Si post a) (fun _ => False)) (kk : ∀ r : Int32, post r → W p l e R s m args below meth c H locs cells slots Q (F0 m (pc + 3) ls (.int r :: rest))) : W p l e R s m args below meth c H locs cells slots Q (F0 m pc ls st0) := by
  intro T hT X
  obtain ⟨v, st₀, t, T', L, h0, X', hL, e1, e2, ⟨r, hv, hp, hh⟩, st⟩ := hr T hT X
  cases hv
  have hL0 : L = [] := List.eq_nil_iff_forall_not_mem.mpr hL
  subst hL0
  rw [List.append_nil] at X'
  obtain ⟨t2, a1, b1⟩ := kk r hp T' (by rw [e1, hh, h0]) X'
  exact ⟨t2, st t2 a1, b1⟩
theorem rk_l {post : Int64 → Prop} {a : Array Value} (hr : va_Run p l e R s m args below meth c H locs cells slots 0 0 (F0 m pc ls st0) rest (vp_Sl post a) (fun _ => False)) (kk : ∀ r : Int64, post r → W p l e R s m args below meth c H locs cells slots Q (F0 m (pc + 3) ls (.long r :: rest))) : W p l e R s m args below meth c H locs cells slots Q (F0 m pc ls st0) := by
  intro T hT X
  obtain ⟨v, st₀, t, T', L, h0, X', hL, e1, e2, ⟨r, hv, hp, hh⟩, st⟩ := hr T hT X
  cases hv
  have hL0 : L = [] := List.eq_nil_iff_forall_not_mem.mpr hL
  subst hL0
  rw [List.append_nil] at X'
  obtain ⟨t2, a1, b1⟩ := kk r hp T' (by rw [e1, hh, h0]) X'
  exact ⟨t2, st t2 a1, b1⟩
variable {D : va_G} {yy : Nat → ClassId} {ws : va_W} {A : Nat → Prop} {H0 : Heap}
theorem pre_VR {q0 ci : Nat} {fs : List Value} {T : u_T} {N : Nat} (hO : Ok D yy s) (hP : va_P D vwCl ws H) (he : ws[q0]? = some (b, .inr (ci, fs))) (hc : vwCl[ci]? = some (C, T, N)) : PreV s H C b (va_Pc (.ref b :: As) (PR D yy ws)) As := ⟨PR.blind, va_recv hO.1 hP hc he, fun U hU hW => ⟨rfl, by rw [hU]; exact hP, hO.warm hW⟩⟩
theorem pre_SR (hO : Ok D yy s) (hP : va_P D vwCl ws H) : PreS s H (va_Pc As (PR D yy ws)) As := ⟨PR.blind, fun U hU hW => ⟨rfl, by rw [hU]; exact hP, hO.warm hW⟩⟩
theorem pre_VW {q0 ci : Nat} {fs : List Value} {T : u_T} {N : Nat} (hO : Ok D yy s) (hP : va_P D vwCl ws H) (hD : va_D A ws) (he : ws[q0]? = some (b, .inr (ci, fs))) (hc : vwCl[ci]? = some (C, T, N)) : PreV s H C b (va_Pc (.ref b :: As) (PW D yy ws H.size)) As := ⟨PW.blind, va_recv hO.1 hP hc he, fun U hU hW => ⟨rfl, by rw [hU], by rw [hU]; exact hP, hD.weaken (fun _ _ _ _ => trivial), hO.warm hW⟩⟩
theorem pre_SW (hO : Ok D yy s) (hP : va_P D vwCl ws H) (hD : va_D A ws) : PreS s H (va_Pc As (PW D yy ws H.size)) As := ⟨PW.blind, fun U hU hW => ⟨rfl, by rw [hU], by rw [hU]; exact hP, hD.weaken (fun _ _ _ _ => trivial), hO.warm hW⟩⟩
theorem free_all (hD : va_D A ws) (hS : va_S A H0 H locs) (hA : ∀ q, H0.size ≤ q → A q) : ∀ q, va_A ws H.size q → A q := fun q h => by
  rcases h with ⟨k, e, h⟩ | h
  · exact hD.2 k (q, e) h
  · exact hA q (Nat.le_trans hS.1 h)
/-- what a writer leaves: the world Wf u -/
abbrev Aft (D : va_G) {S : Type} (Wf : S → va_W) (ws : va_W) (sz : Nat) (u : S) (t : State) : Prop := va_P D vwCl (Wf u) t.heap ∧ va_D (va_A ws sz) (Wf u)
theorem wk_v {S : Type} {post : S → Prop} {Wf : S → va_W} {a : Array Value} (hr : va_Run p l e R s m args below meth c H locs cells slots mc ms (F0 m pc ls st0) rest (va_Qv post (Aft D Wf ws H.size) (va_A ws H.size) a) (va_A ws H.size)) (hD : va_D A ws) (hS : va_S A H0 H locs) (hA : ∀ q, H0.size ≤ q → A q)
    (kk : ∀ (u : S) (H1 : Heap) (locs1 : List Loc), post u → va_P D vwCl (Wf u) H1 → va_D A (Wf u) → va_S A H0 H1 locs1 → W p l e R s m args below meth c H1 locs1 (cells + mc) (slots + ms) Q (F0 m (pc + 3) ls rest)) : W p l e R s m args below meth c H locs cells slots Q (F0 m pc ls st0) :=
  va_callv hr hS (fun q _ h => free_all hD hS hA q h) (free_all hD hS hA) (fun u t H1 locs1 ht _ hp hB _ _ hS1 => kk u H1 locs1 hp (by rw [← ht]; exact hB.1) (hB.2.weaken (fun _ q _ h => free_all hD hS hA q.1 h)) hS1)
theorem wk_i {S : Type} {post : Int32 → S → Prop} {Wf : S → va_W} {a : Array Value} (hr : va_Run p l e R s m args below meth c H locs cells slots mc ms (F0 m pc ls st0) rest (va_Qi post (Aft D Wf ws H.size) (va_A ws H.size) a) (va_A ws H.size)) (hD : va_D A ws) (hS : va_S A H0 H locs) (hA : ∀ q, H0.size ≤ q → A q)
    (kk : ∀ (r : Int32) (u : S) (H1 : Heap) (locs1 : List Loc), post r u → va_P D vwCl (Wf u) H1 → va_D A (Wf u) → va_S A H0 H1 locs1 → W p l e R s m args below meth c H1 locs1 (cells + mc) (slots + ms) Q (F0 m (pc + 3) ls (.int r :: rest))) : W p l e R s m args below meth c H locs cells slots Q (F0 m pc ls st0) :=
  va_calli hr hS (fun q _ h => free_all hD hS hA q h) (free_all hD hS hA) (fun r u t H1 locs1 ht _ hp hB _ _ hS1 => kk r u H1 locs1 hp (by rw [← ht]; exact hB.1) (hB.2.weaken (fun _ q _ h => free_all hD hS hA q.1 h)) hS1)
end RUNS
end
section
/-! THE WORLD: every cell of the class and of the reference at a fixed place; ad: their addresses, I and J: what they hold (a row a cell: fields by slot, or elements), cap: how long the thunks' rows are -/
def Wd (y : Nat → ClassId) (ad : Nat → Nat) (cap : Nat) (I : Nat → Nat → Int32) (J : Nat → Nat → Int64) : va_W := [
  (ad 0, .inr (8, [.ref (ad 1), .ref (ad 17), .ref (ad 50), .ref (ad 54), .int (I 0 4)])),
  (ad 1, .inr (7, [.ref (ad 2), .ref (ad 6), .ref (ad 9), .ref (ad 12), .int (I 1 4), .int (I 1 5), .int (I 1 6), .int (I 1 7)])),
  (ad 2, .inr (5, [.int (I 2 0), .int (I 2 1), .ref (ad 3), .ref (ad 4), .ref (ad 5)])),
  (ad 3, .inl (y 0, 40, .inl (I 3))),
  (ad 4, .inl (y 0, 40, .inl (I 4))),
  (ad 5, .inl (y 2, 40, .inl (I 5))),
  (ad 6, .inr (3, [.int (I 6 0), .ref (ad 7), .ref (ad 8)])),
  (ad 7, .inl (y 0, 60, .inl (I 7))),
  (ad 8, .inl (y 0, 60, .inl (I 8))),
  (ad 9, .inr (2, [.ref (ad 10), .ref (ad 11)])),
  (ad 10, .inl (y 0, 8, .inl (I 10))),
  (ad 11, .inl (y 0, 8, .inl (I 11))),
  (ad 12, .inr (1, [.int (I 12 0), .ref (ad 13), .ref (ad 14), .ref (ad 15), .ref (ad 16)])),
  (ad 13, .inl (y 0, 200, .inl (I 13))),
  (ad 14, .inl (y 0, 200, .inl (I 14))),
  (ad 15, .inl (y 0, 200, .inl (I 15))),
  (ad 16, .inl (y 0, 200, .inl (I 16))),
  (ad 17, .inr (4, [.ref (ad 18), .ref (ad 34), .ref (ad 38), .ref (ad 48), .ref (ad 49), .int (I 17 5), .int (I 17 6), .int (I 17 7), .int (I 17 8)])),
  (ad 18, .inr (7, [.ref (ad 19), .ref (ad 23), .ref (ad 26), .ref (ad 29), .int (I 18 4), .int (I 18 5), .int (I 18 6), .int (I 18 7)])),
  (ad 19, .inr (5, [.int (I 19 0), .int (I 19 1), .ref (ad 20), .ref (ad 21), .ref (ad 22)])),
  (ad 20, .inl (y 0, 40, .inl (I 20))),
  (ad 21, .inl (y 0, 40, .inl (I 21))),
  (ad 22, .inl (y 2, 40, .inl (I 22))),
  (ad 23, .inr (3, [.int (I 23 0), .ref (ad 24), .ref (ad 25)])),
  (ad 24, .inl (y 0, 60, .inl (I 24))),
  (ad 25, .inl (y 0, 60, .inl (I 25))),
  (ad 26, .inr (2, [.ref (ad 27), .ref (ad 28)])),
  (ad 27, .inl (y 0, 8, .inl (I 27))),
  (ad 28, .inl (y 0, 8, .inl (I 28))),
  (ad 29, .inr (1, [.int (I 29 0), .ref (ad 30), .ref (ad 31), .ref (ad 32), .ref (ad 33)])),
  (ad 30, .inl (y 0, 200, .inl (I 30))),
  (ad 31, .inl (y 0, 200, .inl (I 31))),
  (ad 32, .inl (y 0, 200, .inl (I 32))),
  (ad 33, .inl (y 0, 200, .inl (I 33))),
  (ad 34, .inr (0, [.ref (ad 35), .ref (ad 36), .ref (ad 37), .long (J 34 3)])),
  (ad 35, .inl (y 1, 40, .inr (.inl (J 35)))),
  (ad 36, .inl (y 1, 40, .inr (.inl (J 36)))),
  (ad 37, .inl (y 1, 40, .inr (.inl (J 37)))),
  (ad 38, .inr (6, [.int (I 38 0), .int (I 38 1), .ref (ad 39), .ref (ad 40), .ref (ad 41), .ref (ad 42), .ref (ad 43), .ref (ad 44), .ref (ad 45), .ref (ad 46), .ref (ad 47)])),
  (ad 39, .inl (y 0, cap, .inl (I 39))),
  (ad 40, .inl (y 0, cap, .inl (I 40))),
  (ad 41, .inl (y 0, cap, .inl (I 41))),
  (ad 42, .inl (y 0, cap, .inl (I 42))),
  (ad 43, .inl (y 0, cap, .inl (I 43))),
  (ad 44, .inl (y 0, cap, .inl (I 44))),
  (ad 45, .inl (y 1, cap, .inr (.inl (J 45)))),
  (ad 46, .inl (y 0, 40, .inl (I 46))),
  (ad 47, .inl (y 0, 2400, .inl (I 47))),
  (ad 48, .inl (y 0, 200, .inl (I 48))),
  (ad 49, .inl (y 0, 200, .inl (I 49))),
  (ad 50, .inr (0, [.ref (ad 51), .ref (ad 52), .ref (ad 53), .long (J 50 3)])),
  (ad 51, .inl (y 1, 40, .inr (.inl (J 51)))),
  (ad 52, .inl (y 1, 40, .inr (.inl (J 52)))),
  (ad 53, .inl (y 1, 40, .inr (.inl (J 53)))),
  (ad 54, .inl (y 0, 40, .inl (I 54))),
  (ad 55, .inr (9, [.int (I 55 0), .int (I 55 1), .int (I 55 2), .int (I 55 3), .ref (ad 56), .ref (ad 57), .ref (ad 58), .ref (ad 59), .ref (ad 60), .ref (ad 61), .ref (ad 62), .ref (ad 63), .ref (ad 64), .ref (ad 65), .ref (ad 66), .int (I 55 15), .int (I 55 16), .int (I 55 17), .int (I 55 18), .int (I 55 19), .int (I 55 20), .int (I 55 21), .int (I 55 22), .int (I 55 23), .int (I 55 24), .int (I 55 25), .long (J 55 26), .long (J 55 27), .ref (ad 67), .ref (ad 68), .ref (ad 69), .ref (ad 70), .ref (ad 71), .ref (ad 72), .ref (ad 73), .ref (ad 74), .ref (ad 75), .ref (ad 76), .ref (ad 77), .ref (ad 78), .int (I 55 40), .int (I 55 41), .ref (ad 79), .ref (ad 80), .ref (ad 81), .ref (ad 82), .ref (ad 83), .ref (ad 84), .ref (ad 85), .int (I 55 49), .ref (ad 86)])),
  (ad 56, .inl (y 0, 40, .inl (I 56))),
  (ad 57, .inl (y 0, 40, .inl (I 57))),
  (ad 58, .inl (y 2, 40, .inl (I 58))),
  (ad 59, .inl (y 0, 60, .inl (I 59))),
  (ad 60, .inl (y 0, 60, .inl (I 60))),
  (ad 61, .inl (y 0, 200, .inl (I 61))),
  (ad 62, .inl (y 0, 200, .inl (I 62))),
  (ad 63, .inl (y 0, 200, .inl (I 63))),
  (ad 64, .inl (y 0, 200, .inl (I 64))),
  (ad 65, .inl (y 0, 8, .inl (I 65))),
  (ad 66, .inl (y 0, 8, .inl (I 66))),
  (ad 67, .inl (y 1, 40, .inr (.inl (J 67)))),
  (ad 68, .inl (y 1, 40, .inr (.inl (J 68)))),
  (ad 69, .inl (y 2, 40, .inl (I 69))),
  (ad 70, .inl (y 1, 40, .inr (.inl (J 70)))),
  (ad 71, .inl (y 1, 60, .inr (.inl (J 71)))),
  (ad 72, .inl (y 1, 200, .inr (.inl (J 72)))),
  (ad 73, .inl (y 0, 200, .inl (I 73))),
  (ad 74, .inl (y 0, 200, .inl (I 74))),
  (ad 75, .inl (y 0, 200, .inl (I 75))),
  (ad 76, .inl (y 0, 200, .inl (I 76))),
  (ad 77, .inl (y 0, 8, .inl (I 77))),
  (ad 78, .inl (y 0, 8, .inl (I 78))),
  (ad 79, .inl (y 1, 2400, .inr (.inl (J 79)))),
  (ad 80, .inl (y 0, 2400, .inl (I 80))),
  (ad 81, .inl (y 0, 2400, .inl (I 81))),
  (ad 82, .inl (y 0, 2400, .inl (I 82))),
  (ad 83, .inl (y 0, 2400, .inl (I 83))),
  (ad 84, .inl (y 0, 2400, .inl (I 84))),
  (ad 85, .inl (y 0, 2400, .inl (I 85))),
  (ad 86, .inl (y 1, 40, .inr (.inl (J 86))))]
theorem wd_0 (y : Nat → ClassId) (ad : Nat → Nat) (cap : Nat) (I : Nat → Nat → Int32) (J : Nat → Nat → Int64) : (Wd y ad cap I J)[0]? = some (ad 0, .inr (8, [.ref (ad 1), .ref (ad 17), .ref (ad 50), .ref (ad 54), .int (I 0 4)])) := rfl
theorem wd_1 (y : Nat → ClassId) (ad : Nat → Nat) (cap : Nat) (I : Nat → Nat → Int32) (J : Nat → Nat → Int64) : (Wd y ad cap I J)[1]? = some (ad 1, .inr (7, [.ref (ad 2), .ref (ad 6), .ref (ad 9), .ref (ad 12), .int (I 1 4), .int (I 1 5), .int (I 1 6), .int (I 1 7)])) := rfl
theorem wd_2 (y : Nat → ClassId) (ad : Nat → Nat) (cap : Nat) (I : Nat → Nat → Int32) (J : Nat → Nat → Int64) : (Wd y ad cap I J)[2]? = some (ad 2, .inr (5, [.int (I 2 0), .int (I 2 1), .ref (ad 3), .ref (ad 4), .ref (ad 5)])) := rfl
theorem wd_3 (y : Nat → ClassId) (ad : Nat → Nat) (cap : Nat) (I : Nat → Nat → Int32) (J : Nat → Nat → Int64) : (Wd y ad cap I J)[3]? = some (ad 3, .inl (y 0, 40, .inl (I 3))) := rfl
theorem wd_4 (y : Nat → ClassId) (ad : Nat → Nat) (cap : Nat) (I : Nat → Nat → Int32) (J : Nat → Nat → Int64) : (Wd y ad cap I J)[4]? = some (ad 4, .inl (y 0, 40, .inl (I 4))) := rfl
theorem wd_5 (y : Nat → ClassId) (ad : Nat → Nat) (cap : Nat) (I : Nat → Nat → Int32) (J : Nat → Nat → Int64) : (Wd y ad cap I J)[5]? = some (ad 5, .inl (y 2, 40, .inl (I 5))) := rfl
theorem wd_6 (y : Nat → ClassId) (ad : Nat → Nat) (cap : Nat) (I : Nat → Nat → Int32) (J : Nat → Nat → Int64) : (Wd y ad cap I J)[6]? = some (ad 6, .inr (3, [.int (I 6 0), .ref (ad 7), .ref (ad 8)])) := rfl
theorem wd_7 (y : Nat → ClassId) (ad : Nat → Nat) (cap : Nat) (I : Nat → Nat → Int32) (J : Nat → Nat → Int64) : (Wd y ad cap I J)[7]? = some (ad 7, .inl (y 0, 60, .inl (I 7))) := rfl
theorem wd_8 (y : Nat → ClassId) (ad : Nat → Nat) (cap : Nat) (I : Nat → Nat → Int32) (J : Nat → Nat → Int64) : (Wd y ad cap I J)[8]? = some (ad 8, .inl (y 0, 60, .inl (I 8))) := rfl
theorem wd_9 (y : Nat → ClassId) (ad : Nat → Nat) (cap : Nat) (I : Nat → Nat → Int32) (J : Nat → Nat → Int64) : (Wd y ad cap I J)[9]? = some (ad 9, .inr (2, [.ref (ad 10), .ref (ad 11)])) := rfl
theorem wd_10 (y : Nat → ClassId) (ad : Nat → Nat) (cap : Nat) (I : Nat → Nat → Int32) (J : Nat → Nat → Int64) : (Wd y ad cap I J)[10]? = some (ad 10, .inl (y 0, 8, .inl (I 10))) := rfl
theorem wd_11 (y : Nat → ClassId) (ad : Nat → Nat) (cap : Nat) (I : Nat → Nat → Int32) (J : Nat → Nat → Int64) : (Wd y ad cap I J)[11]? = some (ad 11, .inl (y 0, 8, .inl (I 11))) := rfl
theorem wd_12 (y : Nat → ClassId) (ad : Nat → Nat) (cap : Nat) (I : Nat → Nat → Int32) (J : Nat → Nat → Int64) : (Wd y ad cap I J)[12]? = some (ad 12, .inr (1, [.int (I 12 0), .ref (ad 13), .ref (ad 14), .ref (ad 15), .ref (ad 16)])) := rfl
theorem wd_13 (y : Nat → ClassId) (ad : Nat → Nat) (cap : Nat) (I : Nat → Nat → Int32) (J : Nat → Nat → Int64) : (Wd y ad cap I J)[13]? = some (ad 13, .inl (y 0, 200, .inl (I 13))) := rfl
theorem wd_14 (y : Nat → ClassId) (ad : Nat → Nat) (cap : Nat) (I : Nat → Nat → Int32) (J : Nat → Nat → Int64) : (Wd y ad cap I J)[14]? = some (ad 14, .inl (y 0, 200, .inl (I 14))) := rfl
theorem wd_15 (y : Nat → ClassId) (ad : Nat → Nat) (cap : Nat) (I : Nat → Nat → Int32) (J : Nat → Nat → Int64) : (Wd y ad cap I J)[15]? = some (ad 15, .inl (y 0, 200, .inl (I 15))) := rfl
theorem wd_16 (y : Nat → ClassId) (ad : Nat → Nat) (cap : Nat) (I : Nat → Nat → Int32) (J : Nat → Nat → Int64) : (Wd y ad cap I J)[16]? = some (ad 16, .inl (y 0, 200, .inl (I 16))) := rfl
theorem wd_17 (y : Nat → ClassId) (ad : Nat → Nat) (cap : Nat) (I : Nat → Nat → Int32) (J : Nat → Nat → Int64) : (Wd y ad cap I J)[17]? = some (ad 17, .inr (4, [.ref (ad 18), .ref (ad 34), .ref (ad 38), .ref (ad 48), .ref (ad 49), .int (I 17 5), .int (I 17 6), .int (I 17 7), .int (I 17 8)])) := rfl
theorem wd_18 (y : Nat → ClassId) (ad : Nat → Nat) (cap : Nat) (I : Nat → Nat → Int32) (J : Nat → Nat → Int64) : (Wd y ad cap I J)[18]? = some (ad 18, .inr (7, [.ref (ad 19), .ref (ad 23), .ref (ad 26), .ref (ad 29), .int (I 18 4), .int (I 18 5), .int (I 18 6), .int (I 18 7)])) := rfl
theorem wd_19 (y : Nat → ClassId) (ad : Nat → Nat) (cap : Nat) (I : Nat → Nat → Int32) (J : Nat → Nat → Int64) : (Wd y ad cap I J)[19]? = some (ad 19, .inr (5, [.int (I 19 0), .int (I 19 1), .ref (ad 20), .ref (ad 21), .ref (ad 22)])) := rfl
theorem wd_20 (y : Nat → ClassId) (ad : Nat → Nat) (cap : Nat) (I : Nat → Nat → Int32) (J : Nat → Nat → Int64) : (Wd y ad cap I J)[20]? = some (ad 20, .inl (y 0, 40, .inl (I 20))) := rfl
theorem wd_21 (y : Nat → ClassId) (ad : Nat → Nat) (cap : Nat) (I : Nat → Nat → Int32) (J : Nat → Nat → Int64) : (Wd y ad cap I J)[21]? = some (ad 21, .inl (y 0, 40, .inl (I 21))) := rfl
theorem wd_22 (y : Nat → ClassId) (ad : Nat → Nat) (cap : Nat) (I : Nat → Nat → Int32) (J : Nat → Nat → Int64) : (Wd y ad cap I J)[22]? = some (ad 22, .inl (y 2, 40, .inl (I 22))) := rfl
theorem wd_23 (y : Nat → ClassId) (ad : Nat → Nat) (cap : Nat) (I : Nat → Nat → Int32) (J : Nat → Nat → Int64) : (Wd y ad cap I J)[23]? = some (ad 23, .inr (3, [.int (I 23 0), .ref (ad 24), .ref (ad 25)])) := rfl
theorem wd_24 (y : Nat → ClassId) (ad : Nat → Nat) (cap : Nat) (I : Nat → Nat → Int32) (J : Nat → Nat → Int64) : (Wd y ad cap I J)[24]? = some (ad 24, .inl (y 0, 60, .inl (I 24))) := rfl
theorem wd_25 (y : Nat → ClassId) (ad : Nat → Nat) (cap : Nat) (I : Nat → Nat → Int32) (J : Nat → Nat → Int64) : (Wd y ad cap I J)[25]? = some (ad 25, .inl (y 0, 60, .inl (I 25))) := rfl
theorem wd_26 (y : Nat → ClassId) (ad : Nat → Nat) (cap : Nat) (I : Nat → Nat → Int32) (J : Nat → Nat → Int64) : (Wd y ad cap I J)[26]? = some (ad 26, .inr (2, [.ref (ad 27), .ref (ad 28)])) := rfl
theorem wd_27 (y : Nat → ClassId) (ad : Nat → Nat) (cap : Nat) (I : Nat → Nat → Int32) (J : Nat → Nat → Int64) : (Wd y ad cap I J)[27]? = some (ad 27, .inl (y 0, 8, .inl (I 27))) := rfl
theorem wd_28 (y : Nat → ClassId) (ad : Nat → Nat) (cap : Nat) (I : Nat → Nat → Int32) (J : Nat → Nat → Int64) : (Wd y ad cap I J)[28]? = some (ad 28, .inl (y 0, 8, .inl (I 28))) := rfl
theorem wd_29 (y : Nat → ClassId) (ad : Nat → Nat) (cap : Nat) (I : Nat → Nat → Int32) (J : Nat → Nat → Int64) : (Wd y ad cap I J)[29]? = some (ad 29, .inr (1, [.int (I 29 0), .ref (ad 30), .ref (ad 31), .ref (ad 32), .ref (ad 33)])) := rfl
theorem wd_30 (y : Nat → ClassId) (ad : Nat → Nat) (cap : Nat) (I : Nat → Nat → Int32) (J : Nat → Nat → Int64) : (Wd y ad cap I J)[30]? = some (ad 30, .inl (y 0, 200, .inl (I 30))) := rfl
theorem wd_31 (y : Nat → ClassId) (ad : Nat → Nat) (cap : Nat) (I : Nat → Nat → Int32) (J : Nat → Nat → Int64) : (Wd y ad cap I J)[31]? = some (ad 31, .inl (y 0, 200, .inl (I 31))) := rfl
theorem wd_32 (y : Nat → ClassId) (ad : Nat → Nat) (cap : Nat) (I : Nat → Nat → Int32) (J : Nat → Nat → Int64) : (Wd y ad cap I J)[32]? = some (ad 32, .inl (y 0, 200, .inl (I 32))) := rfl
theorem wd_33 (y : Nat → ClassId) (ad : Nat → Nat) (cap : Nat) (I : Nat → Nat → Int32) (J : Nat → Nat → Int64) : (Wd y ad cap I J)[33]? = some (ad 33, .inl (y 0, 200, .inl (I 33))) := rfl
theorem wd_34 (y : Nat → ClassId) (ad : Nat → Nat) (cap : Nat) (I : Nat → Nat → Int32) (J : Nat → Nat → Int64) : (Wd y ad cap I J)[34]? = some (ad 34, .inr (0, [.ref (ad 35), .ref (ad 36), .ref (ad 37), .long (J 34 3)])) := rfl
theorem wd_35 (y : Nat → ClassId) (ad : Nat → Nat) (cap : Nat) (I : Nat → Nat → Int32) (J : Nat → Nat → Int64) : (Wd y ad cap I J)[35]? = some (ad 35, .inl (y 1, 40, .inr (.inl (J 35)))) := rfl
theorem wd_36 (y : Nat → ClassId) (ad : Nat → Nat) (cap : Nat) (I : Nat → Nat → Int32) (J : Nat → Nat → Int64) : (Wd y ad cap I J)[36]? = some (ad 36, .inl (y 1, 40, .inr (.inl (J 36)))) := rfl
theorem wd_37 (y : Nat → ClassId) (ad : Nat → Nat) (cap : Nat) (I : Nat → Nat → Int32) (J : Nat → Nat → Int64) : (Wd y ad cap I J)[37]? = some (ad 37, .inl (y 1, 40, .inr (.inl (J 37)))) := rfl
theorem wd_38 (y : Nat → ClassId) (ad : Nat → Nat) (cap : Nat) (I : Nat → Nat → Int32) (J : Nat → Nat → Int64) : (Wd y ad cap I J)[38]? = some (ad 38, .inr (6, [.int (I 38 0), .int (I 38 1), .ref (ad 39), .ref (ad 40), .ref (ad 41), .ref (ad 42), .ref (ad 43), .ref (ad 44), .ref (ad 45), .ref (ad 46), .ref (ad 47)])) := rfl
theorem wd_39 (y : Nat → ClassId) (ad : Nat → Nat) (cap : Nat) (I : Nat → Nat → Int32) (J : Nat → Nat → Int64) : (Wd y ad cap I J)[39]? = some (ad 39, .inl (y 0, cap, .inl (I 39))) := rfl
theorem wd_40 (y : Nat → ClassId) (ad : Nat → Nat) (cap : Nat) (I : Nat → Nat → Int32) (J : Nat → Nat → Int64) : (Wd y ad cap I J)[40]? = some (ad 40, .inl (y 0, cap, .inl (I 40))) := rfl
theorem wd_41 (y : Nat → ClassId) (ad : Nat → Nat) (cap : Nat) (I : Nat → Nat → Int32) (J : Nat → Nat → Int64) : (Wd y ad cap I J)[41]? = some (ad 41, .inl (y 0, cap, .inl (I 41))) := rfl
theorem wd_42 (y : Nat → ClassId) (ad : Nat → Nat) (cap : Nat) (I : Nat → Nat → Int32) (J : Nat → Nat → Int64) : (Wd y ad cap I J)[42]? = some (ad 42, .inl (y 0, cap, .inl (I 42))) := rfl
theorem wd_43 (y : Nat → ClassId) (ad : Nat → Nat) (cap : Nat) (I : Nat → Nat → Int32) (J : Nat → Nat → Int64) : (Wd y ad cap I J)[43]? = some (ad 43, .inl (y 0, cap, .inl (I 43))) := rfl
theorem wd_44 (y : Nat → ClassId) (ad : Nat → Nat) (cap : Nat) (I : Nat → Nat → Int32) (J : Nat → Nat → Int64) : (Wd y ad cap I J)[44]? = some (ad 44, .inl (y 0, cap, .inl (I 44))) := rfl
theorem wd_45 (y : Nat → ClassId) (ad : Nat → Nat) (cap : Nat) (I : Nat → Nat → Int32) (J : Nat → Nat → Int64) : (Wd y ad cap I J)[45]? = some (ad 45, .inl (y 1, cap, .inr (.inl (J 45)))) := rfl
theorem wd_46 (y : Nat → ClassId) (ad : Nat → Nat) (cap : Nat) (I : Nat → Nat → Int32) (J : Nat → Nat → Int64) : (Wd y ad cap I J)[46]? = some (ad 46, .inl (y 0, 40, .inl (I 46))) := rfl
theorem wd_47 (y : Nat → ClassId) (ad : Nat → Nat) (cap : Nat) (I : Nat → Nat → Int32) (J : Nat → Nat → Int64) : (Wd y ad cap I J)[47]? = some (ad 47, .inl (y 0, 2400, .inl (I 47))) := rfl
theorem wd_48 (y : Nat → ClassId) (ad : Nat → Nat) (cap : Nat) (I : Nat → Nat → Int32) (J : Nat → Nat → Int64) : (Wd y ad cap I J)[48]? = some (ad 48, .inl (y 0, 200, .inl (I 48))) := rfl
theorem wd_49 (y : Nat → ClassId) (ad : Nat → Nat) (cap : Nat) (I : Nat → Nat → Int32) (J : Nat → Nat → Int64) : (Wd y ad cap I J)[49]? = some (ad 49, .inl (y 0, 200, .inl (I 49))) := rfl
theorem wd_50 (y : Nat → ClassId) (ad : Nat → Nat) (cap : Nat) (I : Nat → Nat → Int32) (J : Nat → Nat → Int64) : (Wd y ad cap I J)[50]? = some (ad 50, .inr (0, [.ref (ad 51), .ref (ad 52), .ref (ad 53), .long (J 50 3)])) := rfl
theorem wd_51 (y : Nat → ClassId) (ad : Nat → Nat) (cap : Nat) (I : Nat → Nat → Int32) (J : Nat → Nat → Int64) : (Wd y ad cap I J)[51]? = some (ad 51, .inl (y 1, 40, .inr (.inl (J 51)))) := rfl
theorem wd_52 (y : Nat → ClassId) (ad : Nat → Nat) (cap : Nat) (I : Nat → Nat → Int32) (J : Nat → Nat → Int64) : (Wd y ad cap I J)[52]? = some (ad 52, .inl (y 1, 40, .inr (.inl (J 52)))) := rfl
theorem wd_53 (y : Nat → ClassId) (ad : Nat → Nat) (cap : Nat) (I : Nat → Nat → Int32) (J : Nat → Nat → Int64) : (Wd y ad cap I J)[53]? = some (ad 53, .inl (y 1, 40, .inr (.inl (J 53)))) := rfl
theorem wd_54 (y : Nat → ClassId) (ad : Nat → Nat) (cap : Nat) (I : Nat → Nat → Int32) (J : Nat → Nat → Int64) : (Wd y ad cap I J)[54]? = some (ad 54, .inl (y 0, 40, .inl (I 54))) := rfl
theorem wd_55 (y : Nat → ClassId) (ad : Nat → Nat) (cap : Nat) (I : Nat → Nat → Int32) (J : Nat → Nat → Int64) : (Wd y ad cap I J)[55]? = some (ad 55, .inr (9, [.int (I 55 0), .int (I 55 1), .int (I 55 2), .int (I 55 3), .ref (ad 56), .ref (ad 57), .ref (ad 58), .ref (ad 59), .ref (ad 60), .ref (ad 61), .ref (ad 62), .ref (ad 63), .ref (ad 64), .ref (ad 65), .ref (ad 66), .int (I 55 15), .int (I 55 16), .int (I 55 17), .int (I 55 18), .int (I 55 19), .int (I 55 20), .int (I 55 21), .int (I 55 22), .int (I 55 23), .int (I 55 24), .int (I 55 25), .long (J 55 26), .long (J 55 27), .ref (ad 67), .ref (ad 68), .ref (ad 69), .ref (ad 70), .ref (ad 71), .ref (ad 72), .ref (ad 73), .ref (ad 74), .ref (ad 75), .ref (ad 76), .ref (ad 77), .ref (ad 78), .int (I 55 40), .int (I 55 41), .ref (ad 79), .ref (ad 80), .ref (ad 81), .ref (ad 82), .ref (ad 83), .ref (ad 84), .ref (ad 85), .int (I 55 49), .ref (ad 86)])) := rfl
theorem wd_56 (y : Nat → ClassId) (ad : Nat → Nat) (cap : Nat) (I : Nat → Nat → Int32) (J : Nat → Nat → Int64) : (Wd y ad cap I J)[56]? = some (ad 56, .inl (y 0, 40, .inl (I 56))) := rfl
theorem wd_57 (y : Nat → ClassId) (ad : Nat → Nat) (cap : Nat) (I : Nat → Nat → Int32) (J : Nat → Nat → Int64) : (Wd y ad cap I J)[57]? = some (ad 57, .inl (y 0, 40, .inl (I 57))) := rfl
theorem wd_58 (y : Nat → ClassId) (ad : Nat → Nat) (cap : Nat) (I : Nat → Nat → Int32) (J : Nat → Nat → Int64) : (Wd y ad cap I J)[58]? = some (ad 58, .inl (y 2, 40, .inl (I 58))) := rfl
theorem wd_59 (y : Nat → ClassId) (ad : Nat → Nat) (cap : Nat) (I : Nat → Nat → Int32) (J : Nat → Nat → Int64) : (Wd y ad cap I J)[59]? = some (ad 59, .inl (y 0, 60, .inl (I 59))) := rfl
theorem wd_60 (y : Nat → ClassId) (ad : Nat → Nat) (cap : Nat) (I : Nat → Nat → Int32) (J : Nat → Nat → Int64) : (Wd y ad cap I J)[60]? = some (ad 60, .inl (y 0, 60, .inl (I 60))) := rfl
theorem wd_61 (y : Nat → ClassId) (ad : Nat → Nat) (cap : Nat) (I : Nat → Nat → Int32) (J : Nat → Nat → Int64) : (Wd y ad cap I J)[61]? = some (ad 61, .inl (y 0, 200, .inl (I 61))) := rfl
theorem wd_62 (y : Nat → ClassId) (ad : Nat → Nat) (cap : Nat) (I : Nat → Nat → Int32) (J : Nat → Nat → Int64) : (Wd y ad cap I J)[62]? = some (ad 62, .inl (y 0, 200, .inl (I 62))) := rfl
theorem wd_63 (y : Nat → ClassId) (ad : Nat → Nat) (cap : Nat) (I : Nat → Nat → Int32) (J : Nat → Nat → Int64) : (Wd y ad cap I J)[63]? = some (ad 63, .inl (y 0, 200, .inl (I 63))) := rfl
theorem wd_64 (y : Nat → ClassId) (ad : Nat → Nat) (cap : Nat) (I : Nat → Nat → Int32) (J : Nat → Nat → Int64) : (Wd y ad cap I J)[64]? = some (ad 64, .inl (y 0, 200, .inl (I 64))) := rfl
theorem wd_65 (y : Nat → ClassId) (ad : Nat → Nat) (cap : Nat) (I : Nat → Nat → Int32) (J : Nat → Nat → Int64) : (Wd y ad cap I J)[65]? = some (ad 65, .inl (y 0, 8, .inl (I 65))) := rfl
theorem wd_66 (y : Nat → ClassId) (ad : Nat → Nat) (cap : Nat) (I : Nat → Nat → Int32) (J : Nat → Nat → Int64) : (Wd y ad cap I J)[66]? = some (ad 66, .inl (y 0, 8, .inl (I 66))) := rfl
theorem wd_67 (y : Nat → ClassId) (ad : Nat → Nat) (cap : Nat) (I : Nat → Nat → Int32) (J : Nat → Nat → Int64) : (Wd y ad cap I J)[67]? = some (ad 67, .inl (y 1, 40, .inr (.inl (J 67)))) := rfl
theorem wd_68 (y : Nat → ClassId) (ad : Nat → Nat) (cap : Nat) (I : Nat → Nat → Int32) (J : Nat → Nat → Int64) : (Wd y ad cap I J)[68]? = some (ad 68, .inl (y 1, 40, .inr (.inl (J 68)))) := rfl
theorem wd_69 (y : Nat → ClassId) (ad : Nat → Nat) (cap : Nat) (I : Nat → Nat → Int32) (J : Nat → Nat → Int64) : (Wd y ad cap I J)[69]? = some (ad 69, .inl (y 2, 40, .inl (I 69))) := rfl
theorem wd_70 (y : Nat → ClassId) (ad : Nat → Nat) (cap : Nat) (I : Nat → Nat → Int32) (J : Nat → Nat → Int64) : (Wd y ad cap I J)[70]? = some (ad 70, .inl (y 1, 40, .inr (.inl (J 70)))) := rfl
theorem wd_71 (y : Nat → ClassId) (ad : Nat → Nat) (cap : Nat) (I : Nat → Nat → Int32) (J : Nat → Nat → Int64) : (Wd y ad cap I J)[71]? = some (ad 71, .inl (y 1, 60, .inr (.inl (J 71)))) := rfl
theorem wd_72 (y : Nat → ClassId) (ad : Nat → Nat) (cap : Nat) (I : Nat → Nat → Int32) (J : Nat → Nat → Int64) : (Wd y ad cap I J)[72]? = some (ad 72, .inl (y 1, 200, .inr (.inl (J 72)))) := rfl
theorem wd_73 (y : Nat → ClassId) (ad : Nat → Nat) (cap : Nat) (I : Nat → Nat → Int32) (J : Nat → Nat → Int64) : (Wd y ad cap I J)[73]? = some (ad 73, .inl (y 0, 200, .inl (I 73))) := rfl
theorem wd_74 (y : Nat → ClassId) (ad : Nat → Nat) (cap : Nat) (I : Nat → Nat → Int32) (J : Nat → Nat → Int64) : (Wd y ad cap I J)[74]? = some (ad 74, .inl (y 0, 200, .inl (I 74))) := rfl
theorem wd_75 (y : Nat → ClassId) (ad : Nat → Nat) (cap : Nat) (I : Nat → Nat → Int32) (J : Nat → Nat → Int64) : (Wd y ad cap I J)[75]? = some (ad 75, .inl (y 0, 200, .inl (I 75))) := rfl
theorem wd_76 (y : Nat → ClassId) (ad : Nat → Nat) (cap : Nat) (I : Nat → Nat → Int32) (J : Nat → Nat → Int64) : (Wd y ad cap I J)[76]? = some (ad 76, .inl (y 0, 200, .inl (I 76))) := rfl
theorem wd_77 (y : Nat → ClassId) (ad : Nat → Nat) (cap : Nat) (I : Nat → Nat → Int32) (J : Nat → Nat → Int64) : (Wd y ad cap I J)[77]? = some (ad 77, .inl (y 0, 8, .inl (I 77))) := rfl
theorem wd_78 (y : Nat → ClassId) (ad : Nat → Nat) (cap : Nat) (I : Nat → Nat → Int32) (J : Nat → Nat → Int64) : (Wd y ad cap I J)[78]? = some (ad 78, .inl (y 0, 8, .inl (I 78))) := rfl
theorem wd_79 (y : Nat → ClassId) (ad : Nat → Nat) (cap : Nat) (I : Nat → Nat → Int32) (J : Nat → Nat → Int64) : (Wd y ad cap I J)[79]? = some (ad 79, .inl (y 1, 2400, .inr (.inl (J 79)))) := rfl
theorem wd_80 (y : Nat → ClassId) (ad : Nat → Nat) (cap : Nat) (I : Nat → Nat → Int32) (J : Nat → Nat → Int64) : (Wd y ad cap I J)[80]? = some (ad 80, .inl (y 0, 2400, .inl (I 80))) := rfl
theorem wd_81 (y : Nat → ClassId) (ad : Nat → Nat) (cap : Nat) (I : Nat → Nat → Int32) (J : Nat → Nat → Int64) : (Wd y ad cap I J)[81]? = some (ad 81, .inl (y 0, 2400, .inl (I 81))) := rfl
theorem wd_82 (y : Nat → ClassId) (ad : Nat → Nat) (cap : Nat) (I : Nat → Nat → Int32) (J : Nat → Nat → Int64) : (Wd y ad cap I J)[82]? = some (ad 82, .inl (y 0, 2400, .inl (I 82))) := rfl
theorem wd_83 (y : Nat → ClassId) (ad : Nat → Nat) (cap : Nat) (I : Nat → Nat → Int32) (J : Nat → Nat → Int64) : (Wd y ad cap I J)[83]? = some (ad 83, .inl (y 0, 2400, .inl (I 83))) := rfl
theorem wd_84 (y : Nat → ClassId) (ad : Nat → Nat) (cap : Nat) (I : Nat → Nat → Int32) (J : Nat → Nat → Int64) : (Wd y ad cap I J)[84]? = some (ad 84, .inl (y 0, 2400, .inl (I 84))) := rfl
theorem wd_85 (y : Nat → ClassId) (ad : Nat → Nat) (cap : Nat) (I : Nat → Nat → Int32) (J : Nat → Nat → Int64) : (Wd y ad cap I J)[85]? = some (ad 85, .inl (y 0, 2400, .inl (I 85))) := rfl
theorem wd_86 (y : Nat → ClassId) (ad : Nat → Nat) (cap : Nat) (I : Nat → Nat → Int32) (J : Nat → Nat → Int64) : (Wd y ad cap I J)[86]? = some (ad 86, .inl (y 1, 40, .inr (.inl (J 86)))) := rfl
theorem wp_0_4 (y : Nat → ClassId) (ad : Nat → Nat) (cap : Nat) (I : Nat → Nat → Int32) (J : Nat → Nat → Int64) (v : Int32) : (Wd y ad cap I J).set 0 (ad 0, .inr (8, [.ref (ad 1), .ref (ad 17), .ref (ad 50), .ref (ad 54), .int (I 0 4)].set 4 (.int v))) = Wd y ad cap (va_up I 0 (upd (I 0) 4 v)) J := rfl
theorem wp_1_4 (y : Nat → ClassId) (ad : Nat → Nat) (cap : Nat) (I : Nat → Nat → Int32) (J : Nat → Nat → Int64) (v : Int32) : (Wd y ad cap I J).set 1 (ad 1, .inr (7, [.ref (ad 2), .ref (ad 6), .ref (ad 9), .ref (ad 12), .int (I 1 4), .int (I 1 5), .int (I 1 6), .int (I 1 7)].set 4 (.int v))) = Wd y ad cap (va_up I 1 (upd (I 1) 4 v)) J := rfl
theorem wp_1_5 (y : Nat → ClassId) (ad : Nat → Nat) (cap : Nat) (I : Nat → Nat → Int32) (J : Nat → Nat → Int64) (v : Int32) : (Wd y ad cap I J).set 1 (ad 1, .inr (7, [.ref (ad 2), .ref (ad 6), .ref (ad 9), .ref (ad 12), .int (I 1 4), .int (I 1 5), .int (I 1 6), .int (I 1 7)].set 5 (.int v))) = Wd y ad cap (va_up I 1 (upd (I 1) 5 v)) J := rfl
theorem wp_1_6 (y : Nat → ClassId) (ad : Nat → Nat) (cap : Nat) (I : Nat → Nat → Int32) (J : Nat → Nat → Int64) (v : Int32) : (Wd y ad cap I J).set 1 (ad 1, .inr (7, [.ref (ad 2), .ref (ad 6), .ref (ad 9), .ref (ad 12), .int (I 1 4), .int (I 1 5), .int (I 1 6), .int (I 1 7)].set 6 (.int v))) = Wd y ad cap (va_up I 1 (upd (I 1) 6 v)) J := rfl
theorem wp_1_7 (y : Nat → ClassId) (ad : Nat → Nat) (cap : Nat) (I : Nat → Nat → Int32) (J : Nat → Nat → Int64) (v : Int32) : (Wd y ad cap I J).set 1 (ad 1, .inr (7, [.ref (ad 2), .ref (ad 6), .ref (ad 9), .ref (ad 12), .int (I 1 4), .int (I 1 5), .int (I 1 6), .int (I 1 7)].set 7 (.int v))) = Wd y ad cap (va_up I 1 (upd (I 1) 7 v)) J := rfl
theorem wp_2_0 (y : Nat → ClassId) (ad : Nat → Nat) (cap : Nat) (I : Nat → Nat → Int32) (J : Nat → Nat → Int64) (v : Int32) : (Wd y ad cap I J).set 2 (ad 2, .inr (5, [.int (I 2 0), .int (I 2 1), .ref (ad 3), .ref (ad 4), .ref (ad 5)].set 0 (.int v))) = Wd y ad cap (va_up I 2 (upd (I 2) 0 v)) J := rfl
theorem wp_2_1 (y : Nat → ClassId) (ad : Nat → Nat) (cap : Nat) (I : Nat → Nat → Int32) (J : Nat → Nat → Int64) (v : Int32) : (Wd y ad cap I J).set 2 (ad 2, .inr (5, [.int (I 2 0), .int (I 2 1), .ref (ad 3), .ref (ad 4), .ref (ad 5)].set 1 (.int v))) = Wd y ad cap (va_up I 2 (upd (I 2) 1 v)) J := rfl
theorem ws_3 (y : Nat → ClassId) (ad : Nat → Nat) (cap : Nat) (I : Nat → Nat → Int32) (J : Nat → Nat → Int64) (r : Nat → Int32) : (Wd y ad cap I J).set 3 (ad 3, .inl (y 0, 40, .inl r)) = Wd y ad cap (va_up I 3 r) J := rfl
theorem ws_4 (y : Nat → ClassId) (ad : Nat → Nat) (cap : Nat) (I : Nat → Nat → Int32) (J : Nat → Nat → Int64) (r : Nat → Int32) : (Wd y ad cap I J).set 4 (ad 4, .inl (y 0, 40, .inl r)) = Wd y ad cap (va_up I 4 r) J := rfl
theorem ws_5 (y : Nat → ClassId) (ad : Nat → Nat) (cap : Nat) (I : Nat → Nat → Int32) (J : Nat → Nat → Int64) (r : Nat → Int32) : (Wd y ad cap I J).set 5 (ad 5, .inl (y 2, 40, .inl r)) = Wd y ad cap (va_up I 5 r) J := rfl
theorem wp_6_0 (y : Nat → ClassId) (ad : Nat → Nat) (cap : Nat) (I : Nat → Nat → Int32) (J : Nat → Nat → Int64) (v : Int32) : (Wd y ad cap I J).set 6 (ad 6, .inr (3, [.int (I 6 0), .ref (ad 7), .ref (ad 8)].set 0 (.int v))) = Wd y ad cap (va_up I 6 (upd (I 6) 0 v)) J := rfl
theorem ws_7 (y : Nat → ClassId) (ad : Nat → Nat) (cap : Nat) (I : Nat → Nat → Int32) (J : Nat → Nat → Int64) (r : Nat → Int32) : (Wd y ad cap I J).set 7 (ad 7, .inl (y 0, 60, .inl r)) = Wd y ad cap (va_up I 7 r) J := rfl
theorem ws_8 (y : Nat → ClassId) (ad : Nat → Nat) (cap : Nat) (I : Nat → Nat → Int32) (J : Nat → Nat → Int64) (r : Nat → Int32) : (Wd y ad cap I J).set 8 (ad 8, .inl (y 0, 60, .inl r)) = Wd y ad cap (va_up I 8 r) J := rfl
theorem ws_10 (y : Nat → ClassId) (ad : Nat → Nat) (cap : Nat) (I : Nat → Nat → Int32) (J : Nat → Nat → Int64) (r : Nat → Int32) : (Wd y ad cap I J).set 10 (ad 10, .inl (y 0, 8, .inl r)) = Wd y ad cap (va_up I 10 r) J := rfl
theorem ws_11 (y : Nat → ClassId) (ad : Nat → Nat) (cap : Nat) (I : Nat → Nat → Int32) (J : Nat → Nat → Int64) (r : Nat → Int32) : (Wd y ad cap I J).set 11 (ad 11, .inl (y 0, 8, .inl r)) = Wd y ad cap (va_up I 11 r) J := rfl
theorem wp_12_0 (y : Nat → ClassId) (ad : Nat → Nat) (cap : Nat) (I : Nat → Nat → Int32) (J : Nat → Nat → Int64) (v : Int32) : (Wd y ad cap I J).set 12 (ad 12, .inr (1, [.int (I 12 0), .ref (ad 13), .ref (ad 14), .ref (ad 15), .ref (ad 16)].set 0 (.int v))) = Wd y ad cap (va_up I 12 (upd (I 12) 0 v)) J := rfl
theorem ws_13 (y : Nat → ClassId) (ad : Nat → Nat) (cap : Nat) (I : Nat → Nat → Int32) (J : Nat → Nat → Int64) (r : Nat → Int32) : (Wd y ad cap I J).set 13 (ad 13, .inl (y 0, 200, .inl r)) = Wd y ad cap (va_up I 13 r) J := rfl
theorem ws_14 (y : Nat → ClassId) (ad : Nat → Nat) (cap : Nat) (I : Nat → Nat → Int32) (J : Nat → Nat → Int64) (r : Nat → Int32) : (Wd y ad cap I J).set 14 (ad 14, .inl (y 0, 200, .inl r)) = Wd y ad cap (va_up I 14 r) J := rfl
theorem ws_15 (y : Nat → ClassId) (ad : Nat → Nat) (cap : Nat) (I : Nat → Nat → Int32) (J : Nat → Nat → Int64) (r : Nat → Int32) : (Wd y ad cap I J).set 15 (ad 15, .inl (y 0, 200, .inl r)) = Wd y ad cap (va_up I 15 r) J := rfl
theorem ws_16 (y : Nat → ClassId) (ad : Nat → Nat) (cap : Nat) (I : Nat → Nat → Int32) (J : Nat → Nat → Int64) (r : Nat → Int32) : (Wd y ad cap I J).set 16 (ad 16, .inl (y 0, 200, .inl r)) = Wd y ad cap (va_up I 16 r) J := rfl
theorem wp_17_5 (y : Nat → ClassId) (ad : Nat → Nat) (cap : Nat) (I : Nat → Nat → Int32) (J : Nat → Nat → Int64) (v : Int32) : (Wd y ad cap I J).set 17 (ad 17, .inr (4, [.ref (ad 18), .ref (ad 34), .ref (ad 38), .ref (ad 48), .ref (ad 49), .int (I 17 5), .int (I 17 6), .int (I 17 7), .int (I 17 8)].set 5 (.int v))) = Wd y ad cap (va_up I 17 (upd (I 17) 5 v)) J := rfl
theorem wp_17_6 (y : Nat → ClassId) (ad : Nat → Nat) (cap : Nat) (I : Nat → Nat → Int32) (J : Nat → Nat → Int64) (v : Int32) : (Wd y ad cap I J).set 17 (ad 17, .inr (4, [.ref (ad 18), .ref (ad 34), .ref (ad 38), .ref (ad 48), .ref (ad 49), .int (I 17 5), .int (I 17 6), .int (I 17 7), .int (I 17 8)].set 6 (.int v))) = Wd y ad cap (va_up I 17 (upd (I 17) 6 v)) J := rfl
theorem wp_17_7 (y : Nat → ClassId) (ad : Nat → Nat) (cap : Nat) (I : Nat → Nat → Int32) (J : Nat → Nat → Int64) (v : Int32) : (Wd y ad cap I J).set 17 (ad 17, .inr (4, [.ref (ad 18), .ref (ad 34), .ref (ad 38), .ref (ad 48), .ref (ad 49), .int (I 17 5), .int (I 17 6), .int (I 17 7), .int (I 17 8)].set 7 (.int v))) = Wd y ad cap (va_up I 17 (upd (I 17) 7 v)) J := rfl
theorem wp_17_8 (y : Nat → ClassId) (ad : Nat → Nat) (cap : Nat) (I : Nat → Nat → Int32) (J : Nat → Nat → Int64) (v : Int32) : (Wd y ad cap I J).set 17 (ad 17, .inr (4, [.ref (ad 18), .ref (ad 34), .ref (ad 38), .ref (ad 48), .ref (ad 49), .int (I 17 5), .int (I 17 6), .int (I 17 7), .int (I 17 8)].set 8 (.int v))) = Wd y ad cap (va_up I 17 (upd (I 17) 8 v)) J := rfl
theorem wp_18_4 (y : Nat → ClassId) (ad : Nat → Nat) (cap : Nat) (I : Nat → Nat → Int32) (J : Nat → Nat → Int64) (v : Int32) : (Wd y ad cap I J).set 18 (ad 18, .inr (7, [.ref (ad 19), .ref (ad 23), .ref (ad 26), .ref (ad 29), .int (I 18 4), .int (I 18 5), .int (I 18 6), .int (I 18 7)].set 4 (.int v))) = Wd y ad cap (va_up I 18 (upd (I 18) 4 v)) J := rfl
theorem wp_18_5 (y : Nat → ClassId) (ad : Nat → Nat) (cap : Nat) (I : Nat → Nat → Int32) (J : Nat → Nat → Int64) (v : Int32) : (Wd y ad cap I J).set 18 (ad 18, .inr (7, [.ref (ad 19), .ref (ad 23), .ref (ad 26), .ref (ad 29), .int (I 18 4), .int (I 18 5), .int (I 18 6), .int (I 18 7)].set 5 (.int v))) = Wd y ad cap (va_up I 18 (upd (I 18) 5 v)) J := rfl
theorem wp_18_6 (y : Nat → ClassId) (ad : Nat → Nat) (cap : Nat) (I : Nat → Nat → Int32) (J : Nat → Nat → Int64) (v : Int32) : (Wd y ad cap I J).set 18 (ad 18, .inr (7, [.ref (ad 19), .ref (ad 23), .ref (ad 26), .ref (ad 29), .int (I 18 4), .int (I 18 5), .int (I 18 6), .int (I 18 7)].set 6 (.int v))) = Wd y ad cap (va_up I 18 (upd (I 18) 6 v)) J := rfl
theorem wp_18_7 (y : Nat → ClassId) (ad : Nat → Nat) (cap : Nat) (I : Nat → Nat → Int32) (J : Nat → Nat → Int64) (v : Int32) : (Wd y ad cap I J).set 18 (ad 18, .inr (7, [.ref (ad 19), .ref (ad 23), .ref (ad 26), .ref (ad 29), .int (I 18 4), .int (I 18 5), .int (I 18 6), .int (I 18 7)].set 7 (.int v))) = Wd y ad cap (va_up I 18 (upd (I 18) 7 v)) J := rfl
theorem wp_19_0 (y : Nat → ClassId) (ad : Nat → Nat) (cap : Nat) (I : Nat → Nat → Int32) (J : Nat → Nat → Int64) (v : Int32) : (Wd y ad cap I J).set 19 (ad 19, .inr (5, [.int (I 19 0), .int (I 19 1), .ref (ad 20), .ref (ad 21), .ref (ad 22)].set 0 (.int v))) = Wd y ad cap (va_up I 19 (upd (I 19) 0 v)) J := rfl
theorem wp_19_1 (y : Nat → ClassId) (ad : Nat → Nat) (cap : Nat) (I : Nat → Nat → Int32) (J : Nat → Nat → Int64) (v : Int32) : (Wd y ad cap I J).set 19 (ad 19, .inr (5, [.int (I 19 0), .int (I 19 1), .ref (ad 20), .ref (ad 21), .ref (ad 22)].set 1 (.int v))) = Wd y ad cap (va_up I 19 (upd (I 19) 1 v)) J := rfl
theorem ws_20 (y : Nat → ClassId) (ad : Nat → Nat) (cap : Nat) (I : Nat → Nat → Int32) (J : Nat → Nat → Int64) (r : Nat → Int32) : (Wd y ad cap I J).set 20 (ad 20, .inl (y 0, 40, .inl r)) = Wd y ad cap (va_up I 20 r) J := rfl
theorem ws_21 (y : Nat → ClassId) (ad : Nat → Nat) (cap : Nat) (I : Nat → Nat → Int32) (J : Nat → Nat → Int64) (r : Nat → Int32) : (Wd y ad cap I J).set 21 (ad 21, .inl (y 0, 40, .inl r)) = Wd y ad cap (va_up I 21 r) J := rfl
theorem ws_22 (y : Nat → ClassId) (ad : Nat → Nat) (cap : Nat) (I : Nat → Nat → Int32) (J : Nat → Nat → Int64) (r : Nat → Int32) : (Wd y ad cap I J).set 22 (ad 22, .inl (y 2, 40, .inl r)) = Wd y ad cap (va_up I 22 r) J := rfl
theorem wp_23_0 (y : Nat → ClassId) (ad : Nat → Nat) (cap : Nat) (I : Nat → Nat → Int32) (J : Nat → Nat → Int64) (v : Int32) : (Wd y ad cap I J).set 23 (ad 23, .inr (3, [.int (I 23 0), .ref (ad 24), .ref (ad 25)].set 0 (.int v))) = Wd y ad cap (va_up I 23 (upd (I 23) 0 v)) J := rfl
theorem ws_24 (y : Nat → ClassId) (ad : Nat → Nat) (cap : Nat) (I : Nat → Nat → Int32) (J : Nat → Nat → Int64) (r : Nat → Int32) : (Wd y ad cap I J).set 24 (ad 24, .inl (y 0, 60, .inl r)) = Wd y ad cap (va_up I 24 r) J := rfl
theorem ws_25 (y : Nat → ClassId) (ad : Nat → Nat) (cap : Nat) (I : Nat → Nat → Int32) (J : Nat → Nat → Int64) (r : Nat → Int32) : (Wd y ad cap I J).set 25 (ad 25, .inl (y 0, 60, .inl r)) = Wd y ad cap (va_up I 25 r) J := rfl
theorem ws_27 (y : Nat → ClassId) (ad : Nat → Nat) (cap : Nat) (I : Nat → Nat → Int32) (J : Nat → Nat → Int64) (r : Nat → Int32) : (Wd y ad cap I J).set 27 (ad 27, .inl (y 0, 8, .inl r)) = Wd y ad cap (va_up I 27 r) J := rfl
theorem ws_28 (y : Nat → ClassId) (ad : Nat → Nat) (cap : Nat) (I : Nat → Nat → Int32) (J : Nat → Nat → Int64) (r : Nat → Int32) : (Wd y ad cap I J).set 28 (ad 28, .inl (y 0, 8, .inl r)) = Wd y ad cap (va_up I 28 r) J := rfl
theorem wp_29_0 (y : Nat → ClassId) (ad : Nat → Nat) (cap : Nat) (I : Nat → Nat → Int32) (J : Nat → Nat → Int64) (v : Int32) : (Wd y ad cap I J).set 29 (ad 29, .inr (1, [.int (I 29 0), .ref (ad 30), .ref (ad 31), .ref (ad 32), .ref (ad 33)].set 0 (.int v))) = Wd y ad cap (va_up I 29 (upd (I 29) 0 v)) J := rfl
theorem ws_30 (y : Nat → ClassId) (ad : Nat → Nat) (cap : Nat) (I : Nat → Nat → Int32) (J : Nat → Nat → Int64) (r : Nat → Int32) : (Wd y ad cap I J).set 30 (ad 30, .inl (y 0, 200, .inl r)) = Wd y ad cap (va_up I 30 r) J := rfl
theorem ws_31 (y : Nat → ClassId) (ad : Nat → Nat) (cap : Nat) (I : Nat → Nat → Int32) (J : Nat → Nat → Int64) (r : Nat → Int32) : (Wd y ad cap I J).set 31 (ad 31, .inl (y 0, 200, .inl r)) = Wd y ad cap (va_up I 31 r) J := rfl
theorem ws_32 (y : Nat → ClassId) (ad : Nat → Nat) (cap : Nat) (I : Nat → Nat → Int32) (J : Nat → Nat → Int64) (r : Nat → Int32) : (Wd y ad cap I J).set 32 (ad 32, .inl (y 0, 200, .inl r)) = Wd y ad cap (va_up I 32 r) J := rfl
theorem ws_33 (y : Nat → ClassId) (ad : Nat → Nat) (cap : Nat) (I : Nat → Nat → Int32) (J : Nat → Nat → Int64) (r : Nat → Int32) : (Wd y ad cap I J).set 33 (ad 33, .inl (y 0, 200, .inl r)) = Wd y ad cap (va_up I 33 r) J := rfl
theorem wp_34_3 (y : Nat → ClassId) (ad : Nat → Nat) (cap : Nat) (I : Nat → Nat → Int32) (J : Nat → Nat → Int64) (v : Int64) : (Wd y ad cap I J).set 34 (ad 34, .inr (0, [.ref (ad 35), .ref (ad 36), .ref (ad 37), .long (J 34 3)].set 3 (.long v))) = Wd y ad cap I (va_up J 34 (vp_updL (J 34) 3 v)) := rfl
theorem ws_35 (y : Nat → ClassId) (ad : Nat → Nat) (cap : Nat) (I : Nat → Nat → Int32) (J : Nat → Nat → Int64) (r : Nat → Int64) : (Wd y ad cap I J).set 35 (ad 35, .inl (y 1, 40, .inr (.inl r))) = Wd y ad cap I (va_up J 35 r) := rfl
theorem ws_36 (y : Nat → ClassId) (ad : Nat → Nat) (cap : Nat) (I : Nat → Nat → Int32) (J : Nat → Nat → Int64) (r : Nat → Int64) : (Wd y ad cap I J).set 36 (ad 36, .inl (y 1, 40, .inr (.inl r))) = Wd y ad cap I (va_up J 36 r) := rfl
theorem ws_37 (y : Nat → ClassId) (ad : Nat → Nat) (cap : Nat) (I : Nat → Nat → Int32) (J : Nat → Nat → Int64) (r : Nat → Int64) : (Wd y ad cap I J).set 37 (ad 37, .inl (y 1, 40, .inr (.inl r))) = Wd y ad cap I (va_up J 37 r) := rfl
theorem wp_38_0 (y : Nat → ClassId) (ad : Nat → Nat) (cap : Nat) (I : Nat → Nat → Int32) (J : Nat → Nat → Int64) (v : Int32) : (Wd y ad cap I J).set 38 (ad 38, .inr (6, [.int (I 38 0), .int (I 38 1), .ref (ad 39), .ref (ad 40), .ref (ad 41), .ref (ad 42), .ref (ad 43), .ref (ad 44), .ref (ad 45), .ref (ad 46), .ref (ad 47)].set 0 (.int v))) = Wd y ad cap (va_up I 38 (upd (I 38) 0 v)) J := rfl
theorem wp_38_1 (y : Nat → ClassId) (ad : Nat → Nat) (cap : Nat) (I : Nat → Nat → Int32) (J : Nat → Nat → Int64) (v : Int32) : (Wd y ad cap I J).set 38 (ad 38, .inr (6, [.int (I 38 0), .int (I 38 1), .ref (ad 39), .ref (ad 40), .ref (ad 41), .ref (ad 42), .ref (ad 43), .ref (ad 44), .ref (ad 45), .ref (ad 46), .ref (ad 47)].set 1 (.int v))) = Wd y ad cap (va_up I 38 (upd (I 38) 1 v)) J := rfl
theorem ws_39 (y : Nat → ClassId) (ad : Nat → Nat) (cap : Nat) (I : Nat → Nat → Int32) (J : Nat → Nat → Int64) (r : Nat → Int32) : (Wd y ad cap I J).set 39 (ad 39, .inl (y 0, cap, .inl r)) = Wd y ad cap (va_up I 39 r) J := rfl
theorem ws_40 (y : Nat → ClassId) (ad : Nat → Nat) (cap : Nat) (I : Nat → Nat → Int32) (J : Nat → Nat → Int64) (r : Nat → Int32) : (Wd y ad cap I J).set 40 (ad 40, .inl (y 0, cap, .inl r)) = Wd y ad cap (va_up I 40 r) J := rfl
theorem ws_41 (y : Nat → ClassId) (ad : Nat → Nat) (cap : Nat) (I : Nat → Nat → Int32) (J : Nat → Nat → Int64) (r : Nat → Int32) : (Wd y ad cap I J).set 41 (ad 41, .inl (y 0, cap, .inl r)) = Wd y ad cap (va_up I 41 r) J := rfl
theorem ws_42 (y : Nat → ClassId) (ad : Nat → Nat) (cap : Nat) (I : Nat → Nat → Int32) (J : Nat → Nat → Int64) (r : Nat → Int32) : (Wd y ad cap I J).set 42 (ad 42, .inl (y 0, cap, .inl r)) = Wd y ad cap (va_up I 42 r) J := rfl
theorem ws_43 (y : Nat → ClassId) (ad : Nat → Nat) (cap : Nat) (I : Nat → Nat → Int32) (J : Nat → Nat → Int64) (r : Nat → Int32) : (Wd y ad cap I J).set 43 (ad 43, .inl (y 0, cap, .inl r)) = Wd y ad cap (va_up I 43 r) J := rfl
theorem ws_44 (y : Nat → ClassId) (ad : Nat → Nat) (cap : Nat) (I : Nat → Nat → Int32) (J : Nat → Nat → Int64) (r : Nat → Int32) : (Wd y ad cap I J).set 44 (ad 44, .inl (y 0, cap, .inl r)) = Wd y ad cap (va_up I 44 r) J := rfl
theorem ws_45 (y : Nat → ClassId) (ad : Nat → Nat) (cap : Nat) (I : Nat → Nat → Int32) (J : Nat → Nat → Int64) (r : Nat → Int64) : (Wd y ad cap I J).set 45 (ad 45, .inl (y 1, cap, .inr (.inl r))) = Wd y ad cap I (va_up J 45 r) := rfl
theorem ws_46 (y : Nat → ClassId) (ad : Nat → Nat) (cap : Nat) (I : Nat → Nat → Int32) (J : Nat → Nat → Int64) (r : Nat → Int32) : (Wd y ad cap I J).set 46 (ad 46, .inl (y 0, 40, .inl r)) = Wd y ad cap (va_up I 46 r) J := rfl
theorem ws_47 (y : Nat → ClassId) (ad : Nat → Nat) (cap : Nat) (I : Nat → Nat → Int32) (J : Nat → Nat → Int64) (r : Nat → Int32) : (Wd y ad cap I J).set 47 (ad 47, .inl (y 0, 2400, .inl r)) = Wd y ad cap (va_up I 47 r) J := rfl
theorem ws_48 (y : Nat → ClassId) (ad : Nat → Nat) (cap : Nat) (I : Nat → Nat → Int32) (J : Nat → Nat → Int64) (r : Nat → Int32) : (Wd y ad cap I J).set 48 (ad 48, .inl (y 0, 200, .inl r)) = Wd y ad cap (va_up I 48 r) J := rfl
theorem ws_49 (y : Nat → ClassId) (ad : Nat → Nat) (cap : Nat) (I : Nat → Nat → Int32) (J : Nat → Nat → Int64) (r : Nat → Int32) : (Wd y ad cap I J).set 49 (ad 49, .inl (y 0, 200, .inl r)) = Wd y ad cap (va_up I 49 r) J := rfl
theorem wp_50_3 (y : Nat → ClassId) (ad : Nat → Nat) (cap : Nat) (I : Nat → Nat → Int32) (J : Nat → Nat → Int64) (v : Int64) : (Wd y ad cap I J).set 50 (ad 50, .inr (0, [.ref (ad 51), .ref (ad 52), .ref (ad 53), .long (J 50 3)].set 3 (.long v))) = Wd y ad cap I (va_up J 50 (vp_updL (J 50) 3 v)) := rfl
theorem ws_51 (y : Nat → ClassId) (ad : Nat → Nat) (cap : Nat) (I : Nat → Nat → Int32) (J : Nat → Nat → Int64) (r : Nat → Int64) : (Wd y ad cap I J).set 51 (ad 51, .inl (y 1, 40, .inr (.inl r))) = Wd y ad cap I (va_up J 51 r) := rfl
theorem ws_52 (y : Nat → ClassId) (ad : Nat → Nat) (cap : Nat) (I : Nat → Nat → Int32) (J : Nat → Nat → Int64) (r : Nat → Int64) : (Wd y ad cap I J).set 52 (ad 52, .inl (y 1, 40, .inr (.inl r))) = Wd y ad cap I (va_up J 52 r) := rfl
theorem ws_53 (y : Nat → ClassId) (ad : Nat → Nat) (cap : Nat) (I : Nat → Nat → Int32) (J : Nat → Nat → Int64) (r : Nat → Int64) : (Wd y ad cap I J).set 53 (ad 53, .inl (y 1, 40, .inr (.inl r))) = Wd y ad cap I (va_up J 53 r) := rfl
theorem ws_54 (y : Nat → ClassId) (ad : Nat → Nat) (cap : Nat) (I : Nat → Nat → Int32) (J : Nat → Nat → Int64) (r : Nat → Int32) : (Wd y ad cap I J).set 54 (ad 54, .inl (y 0, 40, .inl r)) = Wd y ad cap (va_up I 54 r) J := rfl
theorem wp_55_0 (y : Nat → ClassId) (ad : Nat → Nat) (cap : Nat) (I : Nat → Nat → Int32) (J : Nat → Nat → Int64) (v : Int32) : (Wd y ad cap I J).set 55 (ad 55, .inr (9, [.int (I 55 0), .int (I 55 1), .int (I 55 2), .int (I 55 3), .ref (ad 56), .ref (ad 57), .ref (ad 58), .ref (ad 59), .ref (ad 60), .ref (ad 61), .ref (ad 62), .ref (ad 63), .ref (ad 64), .ref (ad 65), .ref (ad 66), .int (I 55 15), .int (I 55 16), .int (I 55 17), .int (I 55 18), .int (I 55 19), .int (I 55 20), .int (I 55 21), .int (I 55 22), .int (I 55 23), .int (I 55 24), .int (I 55 25), .long (J 55 26), .long (J 55 27), .ref (ad 67), .ref (ad 68), .ref (ad 69), .ref (ad 70), .ref (ad 71), .ref (ad 72), .ref (ad 73), .ref (ad 74), .ref (ad 75), .ref (ad 76), .ref (ad 77), .ref (ad 78), .int (I 55 40), .int (I 55 41), .ref (ad 79), .ref (ad 80), .ref (ad 81), .ref (ad 82), .ref (ad 83), .ref (ad 84), .ref (ad 85), .int (I 55 49), .ref (ad 86)].set 0 (.int v))) = Wd y ad cap (va_up I 55 (upd (I 55) 0 v)) J := rfl
theorem wp_55_1 (y : Nat → ClassId) (ad : Nat → Nat) (cap : Nat) (I : Nat → Nat → Int32) (J : Nat → Nat → Int64) (v : Int32) : (Wd y ad cap I J).set 55 (ad 55, .inr (9, [.int (I 55 0), .int (I 55 1), .int (I 55 2), .int (I 55 3), .ref (ad 56), .ref (ad 57), .ref (ad 58), .ref (ad 59), .ref (ad 60), .ref (ad 61), .ref (ad 62), .ref (ad 63), .ref (ad 64), .ref (ad 65), .ref (ad 66), .int (I 55 15), .int (I 55 16), .int (I 55 17), .int (I 55 18), .int (I 55 19), .int (I 55 20), .int (I 55 21), .int (I 55 22), .int (I 55 23), .int (I 55 24), .int (I 55 25), .long (J 55 26), .long (J 55 27), .ref (ad 67), .ref (ad 68), .ref (ad 69), .ref (ad 70), .ref (ad 71), .ref (ad 72), .ref (ad 73), .ref (ad 74), .ref (ad 75), .ref (ad 76), .ref (ad 77), .ref (ad 78), .int (I 55 40), .int (I 55 41), .ref (ad 79), .ref (ad 80), .ref (ad 81), .ref (ad 82), .ref (ad 83), .ref (ad 84), .ref (ad 85), .int (I 55 49), .ref (ad 86)].set 1 (.int v))) = Wd y ad cap (va_up I 55 (upd (I 55) 1 v)) J := rfl
theorem wp_55_2 (y : Nat → ClassId) (ad : Nat → Nat) (cap : Nat) (I : Nat → Nat → Int32) (J : Nat → Nat → Int64) (v : Int32) : (Wd y ad cap I J).set 55 (ad 55, .inr (9, [.int (I 55 0), .int (I 55 1), .int (I 55 2), .int (I 55 3), .ref (ad 56), .ref (ad 57), .ref (ad 58), .ref (ad 59), .ref (ad 60), .ref (ad 61), .ref (ad 62), .ref (ad 63), .ref (ad 64), .ref (ad 65), .ref (ad 66), .int (I 55 15), .int (I 55 16), .int (I 55 17), .int (I 55 18), .int (I 55 19), .int (I 55 20), .int (I 55 21), .int (I 55 22), .int (I 55 23), .int (I 55 24), .int (I 55 25), .long (J 55 26), .long (J 55 27), .ref (ad 67), .ref (ad 68), .ref (ad 69), .ref (ad 70), .ref (ad 71), .ref (ad 72), .ref (ad 73), .ref (ad 74), .ref (ad 75), .ref (ad 76), .ref (ad 77), .ref (ad 78), .int (I 55 40), .int (I 55 41), .ref (ad 79), .ref (ad 80), .ref (ad 81), .ref (ad 82), .ref (ad 83), .ref (ad 84), .ref (ad 85), .int (I 55 49), .ref (ad 86)].set 2 (.int v))) = Wd y ad cap (va_up I 55 (upd (I 55) 2 v)) J := rfl
theorem wp_55_3 (y : Nat → ClassId) (ad : Nat → Nat) (cap : Nat) (I : Nat → Nat → Int32) (J : Nat → Nat → Int64) (v : Int32) : (Wd y ad cap I J).set 55 (ad 55, .inr (9, [.int (I 55 0), .int (I 55 1), .int (I 55 2), .int (I 55 3), .ref (ad 56), .ref (ad 57), .ref (ad 58), .ref (ad 59), .ref (ad 60), .ref (ad 61), .ref (ad 62), .ref (ad 63), .ref (ad 64), .ref (ad 65), .ref (ad 66), .int (I 55 15), .int (I 55 16), .int (I 55 17), .int (I 55 18), .int (I 55 19), .int (I 55 20), .int (I 55 21), .int (I 55 22), .int (I 55 23), .int (I 55 24), .int (I 55 25), .long (J 55 26), .long (J 55 27), .ref (ad 67), .ref (ad 68), .ref (ad 69), .ref (ad 70), .ref (ad 71), .ref (ad 72), .ref (ad 73), .ref (ad 74), .ref (ad 75), .ref (ad 76), .ref (ad 77), .ref (ad 78), .int (I 55 40), .int (I 55 41), .ref (ad 79), .ref (ad 80), .ref (ad 81), .ref (ad 82), .ref (ad 83), .ref (ad 84), .ref (ad 85), .int (I 55 49), .ref (ad 86)].set 3 (.int v))) = Wd y ad cap (va_up I 55 (upd (I 55) 3 v)) J := rfl
theorem wp_55_15 (y : Nat → ClassId) (ad : Nat → Nat) (cap : Nat) (I : Nat → Nat → Int32) (J : Nat → Nat → Int64) (v : Int32) : (Wd y ad cap I J).set 55 (ad 55, .inr (9, [.int (I 55 0), .int (I 55 1), .int (I 55 2), .int (I 55 3), .ref (ad 56), .ref (ad 57), .ref (ad 58), .ref (ad 59), .ref (ad 60), .ref (ad 61), .ref (ad 62), .ref (ad 63), .ref (ad 64), .ref (ad 65), .ref (ad 66), .int (I 55 15), .int (I 55 16), .int (I 55 17), .int (I 55 18), .int (I 55 19), .int (I 55 20), .int (I 55 21), .int (I 55 22), .int (I 55 23), .int (I 55 24), .int (I 55 25), .long (J 55 26), .long (J 55 27), .ref (ad 67), .ref (ad 68), .ref (ad 69), .ref (ad 70), .ref (ad 71), .ref (ad 72), .ref (ad 73), .ref (ad 74), .ref (ad 75), .ref (ad 76), .ref (ad 77), .ref (ad 78), .int (I 55 40), .int (I 55 41), .ref (ad 79), .ref (ad 80), .ref (ad 81), .ref (ad 82), .ref (ad 83), .ref (ad 84), .ref (ad 85), .int (I 55 49), .ref (ad 86)].set 15 (.int v))) = Wd y ad cap (va_up I 55 (upd (I 55) 15 v)) J := rfl
theorem wp_55_16 (y : Nat → ClassId) (ad : Nat → Nat) (cap : Nat) (I : Nat → Nat → Int32) (J : Nat → Nat → Int64) (v : Int32) : (Wd y ad cap I J).set 55 (ad 55, .inr (9, [.int (I 55 0), .int (I 55 1), .int (I 55 2), .int (I 55 3), .ref (ad 56), .ref (ad 57), .ref (ad 58), .ref (ad 59), .ref (ad 60), .ref (ad 61), .ref (ad 62), .ref (ad 63), .ref (ad 64), .ref (ad 65), .ref (ad 66), .int (I 55 15), .int (I 55 16), .int (I 55 17), .int (I 55 18), .int (I 55 19), .int (I 55 20), .int (I 55 21), .int (I 55 22), .int (I 55 23), .int (I 55 24), .int (I 55 25), .long (J 55 26), .long (J 55 27), .ref (ad 67), .ref (ad 68), .ref (ad 69), .ref (ad 70), .ref (ad 71), .ref (ad 72), .ref (ad 73), .ref (ad 74), .ref (ad 75), .ref (ad 76), .ref (ad 77), .ref (ad 78), .int (I 55 40), .int (I 55 41), .ref (ad 79), .ref (ad 80), .ref (ad 81), .ref (ad 82), .ref (ad 83), .ref (ad 84), .ref (ad 85), .int (I 55 49), .ref (ad 86)].set 16 (.int v))) = Wd y ad cap (va_up I 55 (upd (I 55) 16 v)) J := rfl
theorem wp_55_17 (y : Nat → ClassId) (ad : Nat → Nat) (cap : Nat) (I : Nat → Nat → Int32) (J : Nat → Nat → Int64) (v : Int32) : (Wd y ad cap I J).set 55 (ad 55, .inr (9, [.int (I 55 0), .int (I 55 1), .int (I 55 2), .int (I 55 3), .ref (ad 56), .ref (ad 57), .ref (ad 58), .ref (ad 59), .ref (ad 60), .ref (ad 61), .ref (ad 62), .ref (ad 63), .ref (ad 64), .ref (ad 65), .ref (ad 66), .int (I 55 15), .int (I 55 16), .int (I 55 17), .int (I 55 18), .int (I 55 19), .int (I 55 20), .int (I 55 21), .int (I 55 22), .int (I 55 23), .int (I 55 24), .int (I 55 25), .long (J 55 26), .long (J 55 27), .ref (ad 67), .ref (ad 68), .ref (ad 69), .ref (ad 70), .ref (ad 71), .ref (ad 72), .ref (ad 73), .ref (ad 74), .ref (ad 75), .ref (ad 76), .ref (ad 77), .ref (ad 78), .int (I 55 40), .int (I 55 41), .ref (ad 79), .ref (ad 80), .ref (ad 81), .ref (ad 82), .ref (ad 83), .ref (ad 84), .ref (ad 85), .int (I 55 49), .ref (ad 86)].set 17 (.int v))) = Wd y ad cap (va_up I 55 (upd (I 55) 17 v)) J := rfl
theorem wp_55_18 (y : Nat → ClassId) (ad : Nat → Nat) (cap : Nat) (I : Nat → Nat → Int32) (J : Nat → Nat → Int64) (v : Int32) : (Wd y ad cap I J).set 55 (ad 55, .inr (9, [.int (I 55 0), .int (I 55 1), .int (I 55 2), .int (I 55 3), .ref (ad 56), .ref (ad 57), .ref (ad 58), .ref (ad 59), .ref (ad 60), .ref (ad 61), .ref (ad 62), .ref (ad 63), .ref (ad 64), .ref (ad 65), .ref (ad 66), .int (I 55 15), .int (I 55 16), .int (I 55 17), .int (I 55 18), .int (I 55 19), .int (I 55 20), .int (I 55 21), .int (I 55 22), .int (I 55 23), .int (I 55 24), .int (I 55 25), .long (J 55 26), .long (J 55 27), .ref (ad 67), .ref (ad 68), .ref (ad 69), .ref (ad 70), .ref (ad 71), .ref (ad 72), .ref (ad 73), .ref (ad 74), .ref (ad 75), .ref (ad 76), .ref (ad 77), .ref (ad 78), .int (I 55 40), .int (I 55 41), .ref (ad 79), .ref (ad 80), .ref (ad 81), .ref (ad 82), .ref (ad 83), .ref (ad 84), .ref (ad 85), .int (I 55 49), .ref (ad 86)].set 18 (.int v))) = Wd y ad cap (va_up I 55 (upd (I 55) 18 v)) J := rfl
theorem wp_55_19 (y : Nat → ClassId) (ad : Nat → Nat) (cap : Nat) (I : Nat → Nat → Int32) (J : Nat → Nat → Int64) (v : Int32) : (Wd y ad cap I J).set 55 (ad 55, .inr (9, [.int (I 55 0), .int (I 55 1), .int (I 55 2), .int (I 55 3), .ref (ad 56), .ref (ad 57), .ref (ad 58), .ref (ad 59), .ref (ad 60), .ref (ad 61), .ref (ad 62), .ref (ad 63), .ref (ad 64), .ref (ad 65), .ref (ad 66), .int (I 55 15), .int (I 55 16), .int (I 55 17), .int (I 55 18), .int (I 55 19), .int (I 55 20), .int (I 55 21), .int (I 55 22), .int (I 55 23), .int (I 55 24), .int (I 55 25), .long (J 55 26), .long (J 55 27), .ref (ad 67), .ref (ad 68), .ref (ad 69), .ref (ad 70), .ref (ad 71), .ref (ad 72), .ref (ad 73), .ref (ad 74), .ref (ad 75), .ref (ad 76), .ref (ad 77), .ref (ad 78), .int (I 55 40), .int (I 55 41), .ref (ad 79), .ref (ad 80), .ref (ad 81), .ref (ad 82), .ref (ad 83), .ref (ad 84), .ref (ad 85), .int (I 55 49), .ref (ad 86)].set 19 (.int v))) = Wd y ad cap (va_up I 55 (upd (I 55) 19 v)) J := rfl
theorem wp_55_20 (y : Nat → ClassId) (ad : Nat → Nat) (cap : Nat) (I : Nat → Nat → Int32) (J : Nat → Nat → Int64) (v : Int32) : (Wd y ad cap I J).set 55 (ad 55, .inr (9, [.int (I 55 0), .int (I 55 1), .int (I 55 2), .int (I 55 3), .ref (ad 56), .ref (ad 57), .ref (ad 58), .ref (ad 59), .ref (ad 60), .ref (ad 61), .ref (ad 62), .ref (ad 63), .ref (ad 64), .ref (ad 65), .ref (ad 66), .int (I 55 15), .int (I 55 16), .int (I 55 17), .int (I 55 18), .int (I 55 19), .int (I 55 20), .int (I 55 21), .int (I 55 22), .int (I 55 23), .int (I 55 24), .int (I 55 25), .long (J 55 26), .long (J 55 27), .ref (ad 67), .ref (ad 68), .ref (ad 69), .ref (ad 70), .ref (ad 71), .ref (ad 72), .ref (ad 73), .ref (ad 74), .ref (ad 75), .ref (ad 76), .ref (ad 77), .ref (ad 78), .int (I 55 40), .int (I 55 41), .ref (ad 79), .ref (ad 80), .ref (ad 81), .ref (ad 82), .ref (ad 83), .ref (ad 84), .ref (ad 85), .int (I 55 49), .ref (ad 86)].set 20 (.int v))) = Wd y ad cap (va_up I 55 (upd (I 55) 20 v)) J := rfl
theorem wp_55_21 (y : Nat → ClassId) (ad : Nat → Nat) (cap : Nat) (I : Nat → Nat → Int32) (J : Nat → Nat → Int64) (v : Int32) : (Wd y ad cap I J).set 55 (ad 55, .inr (9, [.int (I 55 0), .int (I 55 1), .int (I 55 2), .int (I 55 3), .ref (ad 56), .ref (ad 57), .ref (ad 58), .ref (ad 59), .ref (ad 60), .ref (ad 61), .ref (ad 62), .ref (ad 63), .ref (ad 64), .ref (ad 65), .ref (ad 66), .int (I 55 15), .int (I 55 16), .int (I 55 17), .int (I 55 18), .int (I 55 19), .int (I 55 20), .int (I 55 21), .int (I 55 22), .int (I 55 23), .int (I 55 24), .int (I 55 25), .long (J 55 26), .long (J 55 27), .ref (ad 67), .ref (ad 68), .ref (ad 69), .ref (ad 70), .ref (ad 71), .ref (ad 72), .ref (ad 73), .ref (ad 74), .ref (ad 75), .ref (ad 76), .ref (ad 77), .ref (ad 78), .int (I 55 40), .int (I 55 41), .ref (ad 79), .ref (ad 80), .ref (ad 81), .ref (ad 82), .ref (ad 83), .ref (ad 84), .ref (ad 85), .int (I 55 49), .ref (ad 86)].set 21 (.int v))) = Wd y ad cap (va_up I 55 (upd (I 55) 21 v)) J := rfl
theorem wp_55_22 (y : Nat → ClassId) (ad : Nat → Nat) (cap : Nat) (I : Nat → Nat → Int32) (J : Nat → Nat → Int64) (v : Int32) : (Wd y ad cap I J).set 55 (ad 55, .inr (9, [.int (I 55 0), .int (I 55 1), .int (I 55 2), .int (I 55 3), .ref (ad 56), .ref (ad 57), .ref (ad 58), .ref (ad 59), .ref (ad 60), .ref (ad 61), .ref (ad 62), .ref (ad 63), .ref (ad 64), .ref (ad 65), .ref (ad 66), .int (I 55 15), .int (I 55 16), .int (I 55 17), .int (I 55 18), .int (I 55 19), .int (I 55 20), .int (I 55 21), .int (I 55 22), .int (I 55 23), .int (I 55 24), .int (I 55 25), .long (J 55 26), .long (J 55 27), .ref (ad 67), .ref (ad 68), .ref (ad 69), .ref (ad 70), .ref (ad 71), .ref (ad 72), .ref (ad 73), .ref (ad 74), .ref (ad 75), .ref (ad 76), .ref (ad 77), .ref (ad 78), .int (I 55 40), .int (I 55 41), .ref (ad 79), .ref (ad 80), .ref (ad 81), .ref (ad 82), .ref (ad 83), .ref (ad 84), .ref (ad 85), .int (I 55 49), .ref (ad 86)].set 22 (.int v))) = Wd y ad cap (va_up I 55 (upd (I 55) 22 v)) J := rfl
theorem wp_55_23 (y : Nat → ClassId) (ad : Nat → Nat) (cap : Nat) (I : Nat → Nat → Int32) (J : Nat → Nat → Int64) (v : Int32) : (Wd y ad cap I J).set 55 (ad 55, .inr (9, [.int (I 55 0), .int (I 55 1), .int (I 55 2), .int (I 55 3), .ref (ad 56), .ref (ad 57), .ref (ad 58), .ref (ad 59), .ref (ad 60), .ref (ad 61), .ref (ad 62), .ref (ad 63), .ref (ad 64), .ref (ad 65), .ref (ad 66), .int (I 55 15), .int (I 55 16), .int (I 55 17), .int (I 55 18), .int (I 55 19), .int (I 55 20), .int (I 55 21), .int (I 55 22), .int (I 55 23), .int (I 55 24), .int (I 55 25), .long (J 55 26), .long (J 55 27), .ref (ad 67), .ref (ad 68), .ref (ad 69), .ref (ad 70), .ref (ad 71), .ref (ad 72), .ref (ad 73), .ref (ad 74), .ref (ad 75), .ref (ad 76), .ref (ad 77), .ref (ad 78), .int (I 55 40), .int (I 55 41), .ref (ad 79), .ref (ad 80), .ref (ad 81), .ref (ad 82), .ref (ad 83), .ref (ad 84), .ref (ad 85), .int (I 55 49), .ref (ad 86)].set 23 (.int v))) = Wd y ad cap (va_up I 55 (upd (I 55) 23 v)) J := rfl
theorem wp_55_24 (y : Nat → ClassId) (ad : Nat → Nat) (cap : Nat) (I : Nat → Nat → Int32) (J : Nat → Nat → Int64) (v : Int32) : (Wd y ad cap I J).set 55 (ad 55, .inr (9, [.int (I 55 0), .int (I 55 1), .int (I 55 2), .int (I 55 3), .ref (ad 56), .ref (ad 57), .ref (ad 58), .ref (ad 59), .ref (ad 60), .ref (ad 61), .ref (ad 62), .ref (ad 63), .ref (ad 64), .ref (ad 65), .ref (ad 66), .int (I 55 15), .int (I 55 16), .int (I 55 17), .int (I 55 18), .int (I 55 19), .int (I 55 20), .int (I 55 21), .int (I 55 22), .int (I 55 23), .int (I 55 24), .int (I 55 25), .long (J 55 26), .long (J 55 27), .ref (ad 67), .ref (ad 68), .ref (ad 69), .ref (ad 70), .ref (ad 71), .ref (ad 72), .ref (ad 73), .ref (ad 74), .ref (ad 75), .ref (ad 76), .ref (ad 77), .ref (ad 78), .int (I 55 40), .int (I 55 41), .ref (ad 79), .ref (ad 80), .ref (ad 81), .ref (ad 82), .ref (ad 83), .ref (ad 84), .ref (ad 85), .int (I 55 49), .ref (ad 86)].set 24 (.int v))) = Wd y ad cap (va_up I 55 (upd (I 55) 24 v)) J := rfl
theorem wp_55_25 (y : Nat → ClassId) (ad : Nat → Nat) (cap : Nat) (I : Nat → Nat → Int32) (J : Nat → Nat → Int64) (v : Int32) : (Wd y ad cap I J).set 55 (ad 55, .inr (9, [.int (I 55 0), .int (I 55 1), .int (I 55 2), .int (I 55 3), .ref (ad 56), .ref (ad 57), .ref (ad 58), .ref (ad 59), .ref (ad 60), .ref (ad 61), .ref (ad 62), .ref (ad 63), .ref (ad 64), .ref (ad 65), .ref (ad 66), .int (I 55 15), .int (I 55 16), .int (I 55 17), .int (I 55 18), .int (I 55 19), .int (I 55 20), .int (I 55 21), .int (I 55 22), .int (I 55 23), .int (I 55 24), .int (I 55 25), .long (J 55 26), .long (J 55 27), .ref (ad 67), .ref (ad 68), .ref (ad 69), .ref (ad 70), .ref (ad 71), .ref (ad 72), .ref (ad 73), .ref (ad 74), .ref (ad 75), .ref (ad 76), .ref (ad 77), .ref (ad 78), .int (I 55 40), .int (I 55 41), .ref (ad 79), .ref (ad 80), .ref (ad 81), .ref (ad 82), .ref (ad 83), .ref (ad 84), .ref (ad 85), .int (I 55 49), .ref (ad 86)].set 25 (.int v))) = Wd y ad cap (va_up I 55 (upd (I 55) 25 v)) J := rfl
theorem wp_55_26 (y : Nat → ClassId) (ad : Nat → Nat) (cap : Nat) (I : Nat → Nat → Int32) (J : Nat → Nat → Int64) (v : Int64) : (Wd y ad cap I J).set 55 (ad 55, .inr (9, [.int (I 55 0), .int (I 55 1), .int (I 55 2), .int (I 55 3), .ref (ad 56), .ref (ad 57), .ref (ad 58), .ref (ad 59), .ref (ad 60), .ref (ad 61), .ref (ad 62), .ref (ad 63), .ref (ad 64), .ref (ad 65), .ref (ad 66), .int (I 55 15), .int (I 55 16), .int (I 55 17), .int (I 55 18), .int (I 55 19), .int (I 55 20), .int (I 55 21), .int (I 55 22), .int (I 55 23), .int (I 55 24), .int (I 55 25), .long (J 55 26), .long (J 55 27), .ref (ad 67), .ref (ad 68), .ref (ad 69), .ref (ad 70), .ref (ad 71), .ref (ad 72), .ref (ad 73), .ref (ad 74), .ref (ad 75), .ref (ad 76), .ref (ad 77), .ref (ad 78), .int (I 55 40), .int (I 55 41), .ref (ad 79), .ref (ad 80), .ref (ad 81), .ref (ad 82), .ref (ad 83), .ref (ad 84), .ref (ad 85), .int (I 55 49), .ref (ad 86)].set 26 (.long v))) = Wd y ad cap I (va_up J 55 (vp_updL (J 55) 26 v)) := rfl
theorem wp_55_27 (y : Nat → ClassId) (ad : Nat → Nat) (cap : Nat) (I : Nat → Nat → Int32) (J : Nat → Nat → Int64) (v : Int64) : (Wd y ad cap I J).set 55 (ad 55, .inr (9, [.int (I 55 0), .int (I 55 1), .int (I 55 2), .int (I 55 3), .ref (ad 56), .ref (ad 57), .ref (ad 58), .ref (ad 59), .ref (ad 60), .ref (ad 61), .ref (ad 62), .ref (ad 63), .ref (ad 64), .ref (ad 65), .ref (ad 66), .int (I 55 15), .int (I 55 16), .int (I 55 17), .int (I 55 18), .int (I 55 19), .int (I 55 20), .int (I 55 21), .int (I 55 22), .int (I 55 23), .int (I 55 24), .int (I 55 25), .long (J 55 26), .long (J 55 27), .ref (ad 67), .ref (ad 68), .ref (ad 69), .ref (ad 70), .ref (ad 71), .ref (ad 72), .ref (ad 73), .ref (ad 74), .ref (ad 75), .ref (ad 76), .ref (ad 77), .ref (ad 78), .int (I 55 40), .int (I 55 41), .ref (ad 79), .ref (ad 80), .ref (ad 81), .ref (ad 82), .ref (ad 83), .ref (ad 84), .ref (ad 85), .int (I 55 49), .ref (ad 86)].set 27 (.long v))) = Wd y ad cap I (va_up J 55 (vp_updL (J 55) 27 v)) := rfl
theorem wp_55_40 (y : Nat → ClassId) (ad : Nat → Nat) (cap : Nat) (I : Nat → Nat → Int32) (J : Nat → Nat → Int64) (v : Int32) : (Wd y ad cap I J).set 55 (ad 55, .inr (9, [.int (I 55 0), .int (I 55 1), .int (I 55 2), .int (I 55 3), .ref (ad 56), .ref (ad 57), .ref (ad 58), .ref (ad 59), .ref (ad 60), .ref (ad 61), .ref (ad 62), .ref (ad 63), .ref (ad 64), .ref (ad 65), .ref (ad 66), .int (I 55 15), .int (I 55 16), .int (I 55 17), .int (I 55 18), .int (I 55 19), .int (I 55 20), .int (I 55 21), .int (I 55 22), .int (I 55 23), .int (I 55 24), .int (I 55 25), .long (J 55 26), .long (J 55 27), .ref (ad 67), .ref (ad 68), .ref (ad 69), .ref (ad 70), .ref (ad 71), .ref (ad 72), .ref (ad 73), .ref (ad 74), .ref (ad 75), .ref (ad 76), .ref (ad 77), .ref (ad 78), .int (I 55 40), .int (I 55 41), .ref (ad 79), .ref (ad 80), .ref (ad 81), .ref (ad 82), .ref (ad 83), .ref (ad 84), .ref (ad 85), .int (I 55 49), .ref (ad 86)].set 40 (.int v))) = Wd y ad cap (va_up I 55 (upd (I 55) 40 v)) J := rfl
theorem wp_55_41 (y : Nat → ClassId) (ad : Nat → Nat) (cap : Nat) (I : Nat → Nat → Int32) (J : Nat → Nat → Int64) (v : Int32) : (Wd y ad cap I J).set 55 (ad 55, .inr (9, [.int (I 55 0), .int (I 55 1), .int (I 55 2), .int (I 55 3), .ref (ad 56), .ref (ad 57), .ref (ad 58), .ref (ad 59), .ref (ad 60), .ref (ad 61), .ref (ad 62), .ref (ad 63), .ref (ad 64), .ref (ad 65), .ref (ad 66), .int (I 55 15), .int (I 55 16), .int (I 55 17), .int (I 55 18), .int (I 55 19), .int (I 55 20), .int (I 55 21), .int (I 55 22), .int (I 55 23), .int (I 55 24), .int (I 55 25), .long (J 55 26), .long (J 55 27), .ref (ad 67), .ref (ad 68), .ref (ad 69), .ref (ad 70), .ref (ad 71), .ref (ad 72), .ref (ad 73), .ref (ad 74), .ref (ad 75), .ref (ad 76), .ref (ad 77), .ref (ad 78), .int (I 55 40), .int (I 55 41), .ref (ad 79), .ref (ad 80), .ref (ad 81), .ref (ad 82), .ref (ad 83), .ref (ad 84), .ref (ad 85), .int (I 55 49), .ref (ad 86)].set 41 (.int v))) = Wd y ad cap (va_up I 55 (upd (I 55) 41 v)) J := rfl
theorem wp_55_49 (y : Nat → ClassId) (ad : Nat → Nat) (cap : Nat) (I : Nat → Nat → Int32) (J : Nat → Nat → Int64) (v : Int32) : (Wd y ad cap I J).set 55 (ad 55, .inr (9, [.int (I 55 0), .int (I 55 1), .int (I 55 2), .int (I 55 3), .ref (ad 56), .ref (ad 57), .ref (ad 58), .ref (ad 59), .ref (ad 60), .ref (ad 61), .ref (ad 62), .ref (ad 63), .ref (ad 64), .ref (ad 65), .ref (ad 66), .int (I 55 15), .int (I 55 16), .int (I 55 17), .int (I 55 18), .int (I 55 19), .int (I 55 20), .int (I 55 21), .int (I 55 22), .int (I 55 23), .int (I 55 24), .int (I 55 25), .long (J 55 26), .long (J 55 27), .ref (ad 67), .ref (ad 68), .ref (ad 69), .ref (ad 70), .ref (ad 71), .ref (ad 72), .ref (ad 73), .ref (ad 74), .ref (ad 75), .ref (ad 76), .ref (ad 77), .ref (ad 78), .int (I 55 40), .int (I 55 41), .ref (ad 79), .ref (ad 80), .ref (ad 81), .ref (ad 82), .ref (ad 83), .ref (ad 84), .ref (ad 85), .int (I 55 49), .ref (ad 86)].set 49 (.int v))) = Wd y ad cap (va_up I 55 (upd (I 55) 49 v)) J := rfl
theorem ws_56 (y : Nat → ClassId) (ad : Nat → Nat) (cap : Nat) (I : Nat → Nat → Int32) (J : Nat → Nat → Int64) (r : Nat → Int32) : (Wd y ad cap I J).set 56 (ad 56, .inl (y 0, 40, .inl r)) = Wd y ad cap (va_up I 56 r) J := rfl
theorem ws_57 (y : Nat → ClassId) (ad : Nat → Nat) (cap : Nat) (I : Nat → Nat → Int32) (J : Nat → Nat → Int64) (r : Nat → Int32) : (Wd y ad cap I J).set 57 (ad 57, .inl (y 0, 40, .inl r)) = Wd y ad cap (va_up I 57 r) J := rfl
theorem ws_58 (y : Nat → ClassId) (ad : Nat → Nat) (cap : Nat) (I : Nat → Nat → Int32) (J : Nat → Nat → Int64) (r : Nat → Int32) : (Wd y ad cap I J).set 58 (ad 58, .inl (y 2, 40, .inl r)) = Wd y ad cap (va_up I 58 r) J := rfl
theorem ws_59 (y : Nat → ClassId) (ad : Nat → Nat) (cap : Nat) (I : Nat → Nat → Int32) (J : Nat → Nat → Int64) (r : Nat → Int32) : (Wd y ad cap I J).set 59 (ad 59, .inl (y 0, 60, .inl r)) = Wd y ad cap (va_up I 59 r) J := rfl
theorem ws_60 (y : Nat → ClassId) (ad : Nat → Nat) (cap : Nat) (I : Nat → Nat → Int32) (J : Nat → Nat → Int64) (r : Nat → Int32) : (Wd y ad cap I J).set 60 (ad 60, .inl (y 0, 60, .inl r)) = Wd y ad cap (va_up I 60 r) J := rfl
theorem ws_61 (y : Nat → ClassId) (ad : Nat → Nat) (cap : Nat) (I : Nat → Nat → Int32) (J : Nat → Nat → Int64) (r : Nat → Int32) : (Wd y ad cap I J).set 61 (ad 61, .inl (y 0, 200, .inl r)) = Wd y ad cap (va_up I 61 r) J := rfl
theorem ws_62 (y : Nat → ClassId) (ad : Nat → Nat) (cap : Nat) (I : Nat → Nat → Int32) (J : Nat → Nat → Int64) (r : Nat → Int32) : (Wd y ad cap I J).set 62 (ad 62, .inl (y 0, 200, .inl r)) = Wd y ad cap (va_up I 62 r) J := rfl
theorem ws_63 (y : Nat → ClassId) (ad : Nat → Nat) (cap : Nat) (I : Nat → Nat → Int32) (J : Nat → Nat → Int64) (r : Nat → Int32) : (Wd y ad cap I J).set 63 (ad 63, .inl (y 0, 200, .inl r)) = Wd y ad cap (va_up I 63 r) J := rfl
theorem ws_64 (y : Nat → ClassId) (ad : Nat → Nat) (cap : Nat) (I : Nat → Nat → Int32) (J : Nat → Nat → Int64) (r : Nat → Int32) : (Wd y ad cap I J).set 64 (ad 64, .inl (y 0, 200, .inl r)) = Wd y ad cap (va_up I 64 r) J := rfl
theorem ws_65 (y : Nat → ClassId) (ad : Nat → Nat) (cap : Nat) (I : Nat → Nat → Int32) (J : Nat → Nat → Int64) (r : Nat → Int32) : (Wd y ad cap I J).set 65 (ad 65, .inl (y 0, 8, .inl r)) = Wd y ad cap (va_up I 65 r) J := rfl
theorem ws_66 (y : Nat → ClassId) (ad : Nat → Nat) (cap : Nat) (I : Nat → Nat → Int32) (J : Nat → Nat → Int64) (r : Nat → Int32) : (Wd y ad cap I J).set 66 (ad 66, .inl (y 0, 8, .inl r)) = Wd y ad cap (va_up I 66 r) J := rfl
theorem ws_67 (y : Nat → ClassId) (ad : Nat → Nat) (cap : Nat) (I : Nat → Nat → Int32) (J : Nat → Nat → Int64) (r : Nat → Int64) : (Wd y ad cap I J).set 67 (ad 67, .inl (y 1, 40, .inr (.inl r))) = Wd y ad cap I (va_up J 67 r) := rfl
theorem ws_68 (y : Nat → ClassId) (ad : Nat → Nat) (cap : Nat) (I : Nat → Nat → Int32) (J : Nat → Nat → Int64) (r : Nat → Int64) : (Wd y ad cap I J).set 68 (ad 68, .inl (y 1, 40, .inr (.inl r))) = Wd y ad cap I (va_up J 68 r) := rfl
theorem ws_69 (y : Nat → ClassId) (ad : Nat → Nat) (cap : Nat) (I : Nat → Nat → Int32) (J : Nat → Nat → Int64) (r : Nat → Int32) : (Wd y ad cap I J).set 69 (ad 69, .inl (y 2, 40, .inl r)) = Wd y ad cap (va_up I 69 r) J := rfl
theorem ws_70 (y : Nat → ClassId) (ad : Nat → Nat) (cap : Nat) (I : Nat → Nat → Int32) (J : Nat → Nat → Int64) (r : Nat → Int64) : (Wd y ad cap I J).set 70 (ad 70, .inl (y 1, 40, .inr (.inl r))) = Wd y ad cap I (va_up J 70 r) := rfl
theorem ws_71 (y : Nat → ClassId) (ad : Nat → Nat) (cap : Nat) (I : Nat → Nat → Int32) (J : Nat → Nat → Int64) (r : Nat → Int64) : (Wd y ad cap I J).set 71 (ad 71, .inl (y 1, 60, .inr (.inl r))) = Wd y ad cap I (va_up J 71 r) := rfl
theorem ws_72 (y : Nat → ClassId) (ad : Nat → Nat) (cap : Nat) (I : Nat → Nat → Int32) (J : Nat → Nat → Int64) (r : Nat → Int64) : (Wd y ad cap I J).set 72 (ad 72, .inl (y 1, 200, .inr (.inl r))) = Wd y ad cap I (va_up J 72 r) := rfl
theorem ws_73 (y : Nat → ClassId) (ad : Nat → Nat) (cap : Nat) (I : Nat → Nat → Int32) (J : Nat → Nat → Int64) (r : Nat → Int32) : (Wd y ad cap I J).set 73 (ad 73, .inl (y 0, 200, .inl r)) = Wd y ad cap (va_up I 73 r) J := rfl
theorem ws_74 (y : Nat → ClassId) (ad : Nat → Nat) (cap : Nat) (I : Nat → Nat → Int32) (J : Nat → Nat → Int64) (r : Nat → Int32) : (Wd y ad cap I J).set 74 (ad 74, .inl (y 0, 200, .inl r)) = Wd y ad cap (va_up I 74 r) J := rfl
theorem ws_75 (y : Nat → ClassId) (ad : Nat → Nat) (cap : Nat) (I : Nat → Nat → Int32) (J : Nat → Nat → Int64) (r : Nat → Int32) : (Wd y ad cap I J).set 75 (ad 75, .inl (y 0, 200, .inl r)) = Wd y ad cap (va_up I 75 r) J := rfl
theorem ws_76 (y : Nat → ClassId) (ad : Nat → Nat) (cap : Nat) (I : Nat → Nat → Int32) (J : Nat → Nat → Int64) (r : Nat → Int32) : (Wd y ad cap I J).set 76 (ad 76, .inl (y 0, 200, .inl r)) = Wd y ad cap (va_up I 76 r) J := rfl
theorem ws_77 (y : Nat → ClassId) (ad : Nat → Nat) (cap : Nat) (I : Nat → Nat → Int32) (J : Nat → Nat → Int64) (r : Nat → Int32) : (Wd y ad cap I J).set 77 (ad 77, .inl (y 0, 8, .inl r)) = Wd y ad cap (va_up I 77 r) J := rfl
theorem ws_78 (y : Nat → ClassId) (ad : Nat → Nat) (cap : Nat) (I : Nat → Nat → Int32) (J : Nat → Nat → Int64) (r : Nat → Int32) : (Wd y ad cap I J).set 78 (ad 78, .inl (y 0, 8, .inl r)) = Wd y ad cap (va_up I 78 r) J := rfl
theorem ws_79 (y : Nat → ClassId) (ad : Nat → Nat) (cap : Nat) (I : Nat → Nat → Int32) (J : Nat → Nat → Int64) (r : Nat → Int64) : (Wd y ad cap I J).set 79 (ad 79, .inl (y 1, 2400, .inr (.inl r))) = Wd y ad cap I (va_up J 79 r) := rfl
theorem ws_80 (y : Nat → ClassId) (ad : Nat → Nat) (cap : Nat) (I : Nat → Nat → Int32) (J : Nat → Nat → Int64) (r : Nat → Int32) : (Wd y ad cap I J).set 80 (ad 80, .inl (y 0, 2400, .inl r)) = Wd y ad cap (va_up I 80 r) J := rfl
theorem ws_81 (y : Nat → ClassId) (ad : Nat → Nat) (cap : Nat) (I : Nat → Nat → Int32) (J : Nat → Nat → Int64) (r : Nat → Int32) : (Wd y ad cap I J).set 81 (ad 81, .inl (y 0, 2400, .inl r)) = Wd y ad cap (va_up I 81 r) J := rfl
theorem ws_82 (y : Nat → ClassId) (ad : Nat → Nat) (cap : Nat) (I : Nat → Nat → Int32) (J : Nat → Nat → Int64) (r : Nat → Int32) : (Wd y ad cap I J).set 82 (ad 82, .inl (y 0, 2400, .inl r)) = Wd y ad cap (va_up I 82 r) J := rfl
theorem ws_83 (y : Nat → ClassId) (ad : Nat → Nat) (cap : Nat) (I : Nat → Nat → Int32) (J : Nat → Nat → Int64) (r : Nat → Int32) : (Wd y ad cap I J).set 83 (ad 83, .inl (y 0, 2400, .inl r)) = Wd y ad cap (va_up I 83 r) J := rfl
theorem ws_84 (y : Nat → ClassId) (ad : Nat → Nat) (cap : Nat) (I : Nat → Nat → Int32) (J : Nat → Nat → Int64) (r : Nat → Int32) : (Wd y ad cap I J).set 84 (ad 84, .inl (y 0, 2400, .inl r)) = Wd y ad cap (va_up I 84 r) J := rfl
theorem ws_85 (y : Nat → ClassId) (ad : Nat → Nat) (cap : Nat) (I : Nat → Nat → Int32) (J : Nat → Nat → Int64) (r : Nat → Int32) : (Wd y ad cap I J).set 85 (ad 85, .inl (y 0, 2400, .inl r)) = Wd y ad cap (va_up I 85 r) J := rfl
theorem ws_86 (y : Nat → ClassId) (ad : Nat → Nat) (cap : Nat) (I : Nat → Nat → Int32) (J : Nat → Nat → Int64) (r : Nat → Int64) : (Wd y ad cap I J).set 86 (ad 86, .inl (y 1, 40, .inr (.inl r))) = Wd y ad cap I (va_up J 86 r) := rfl
end
section
theorem k_J7_copyOf_59c91 : goodS yJ7_copyOf_59c91 cJ7_copyOf_59c91 3 (some (.array .int)) 2 := ⟨cd_J7_copyOf_59c91, ini_J7, sc_J7_copyOf_59c91, ⟨by decide, by decide⟩, by decide +kernel⟩
theorem k_J7_copyOf_c38d5 : goodS yJ7_copyOf_c38d5 cJ7_copyOf_c38d5 3 (some (.array .long)) 2 := ⟨cd_J7_copyOf_c38d5, ini_J7, sc_J7_copyOf_c38d5, ⟨by decide, by decide⟩, by decide +kernel⟩
theorem k_J7_fill_53178 : goodS yJ7_fill_53178 cJ7_fill_53178 4 none 2 := ⟨cd_J7_fill_53178, ini_J7, sc_J7_fill_53178, ⟨by decide, by decide⟩, by decide +kernel⟩
theorem k_J9_abs_067f4 : goodS yJ9_abs_067f4 cJ9_abs_067f4 2 (some .long) 1 := ⟨cd_J9_abs_067f4, ini_J9, sc_J9_abs_067f4, ⟨by decide, by decide⟩, by decide +kernel⟩
theorem k_J9_max_7cf53 : goodS yJ9_max_7cf53 cJ9_max_7cf53 2 (some .int) 2 := ⟨cd_J9_max_7cf53, ini_J9, sc_J9_max_7cf53, ⟨by decide, by decide⟩, by decide +kernel⟩
theorem k_J9_min_7cf53 : goodS yJ9_min_7cf53 cJ9_min_7cf53 2 (some .int) 2 := ⟨cd_J9_min_7cf53, ini_J9, sc_J9_min_7cf53, ⟨by decide, by decide⟩, by decide +kernel⟩
theorem k_X0_find : goodM yX0_find cX0_find 8 none RX0 2 := ⟨cd_X0_find, ini_X0, im_X0_find, se_X0_find, ⟨by decide, by decide⟩, by decide +kernel⟩
theorem k_X0_init : goodI yX0_init cX0_init 1 0 := ⟨cd_X0_init, ini_X0, im_X0_init, rfl, ⟨by decide, by decide⟩, by decide +kernel⟩
theorem k_X1_append : goodM yX1_append cX1_append 6 (some .int) RX1 4 := ⟨cd_X1_append, ini_X1, im_X1_append, se_X1_append, ⟨by decide, by decide⟩, by decide +kernel⟩
theorem k_X1_copyFrom : goodM yX1_copyFrom cX1_copyFrom 2 none RX1 1 := ⟨cd_X1_copyFrom, ini_X1, im_X1_copyFrom, se_X1_copyFrom, ⟨by decide, by decide⟩, by decide +kernel⟩
theorem k_X1_has : goodM yX1_has cX1_has 2 (some .boolean) RX1 1 := ⟨cd_X1_has, ini_X1, im_X1_has, se_X1_has, ⟨by decide, by decide⟩, by decide +kernel⟩
theorem k_X1_highestIn : goodM yX1_highestIn cX1_highestIn 4 (some .int) RX1 1 := ⟨cd_X1_highestIn, ini_X1, im_X1_highestIn, se_X1_highestIn, ⟨by decide, by decide⟩, by decide +kernel⟩
theorem k_X1_init : goodI yX1_init cX1_init 1 0 := ⟨cd_X1_init, ini_X1, im_X1_init, rfl, ⟨by decide, by decide⟩, by decide +kernel⟩
theorem k_X2_copyFrom : goodM yX2_copyFrom cX2_copyFrom 2 none RX2 1 := ⟨cd_X2_copyFrom, ini_X2, im_X2_copyFrom, se_X2_copyFrom, ⟨by decide, by decide⟩, by decide +kernel⟩
theorem k_X2_encode : goodM yX2_encode cX2_encode 8 (some .int) RX2 3 := ⟨cd_X2_encode, ini_X2, im_X2_encode, se_X2_encode, ⟨by decide, by decide⟩, by decide +kernel⟩
theorem k_X2_follow : goodM yX2_follow cX2_follow 9 (some .long) RX2 3 := ⟨cd_X2_follow, ini_X2, im_X2_follow, se_X2_follow, ⟨by decide, by decide⟩, by decide +kernel⟩
theorem k_X2_has : goodM yX2_has cX2_has 2 (some .boolean) RX2 1 := ⟨cd_X2_has, ini_X2, im_X2_has, se_X2_has, ⟨by decide, by decide⟩, by decide +kernel⟩
theorem k_X2_init : goodI yX2_init cX2_init 1 0 := ⟨cd_X2_init, ini_X2, im_X2_init, rfl, ⟨by decide, by decide⟩, by decide +kernel⟩
theorem k_X2_powerOf : goodS yX2_powerOf cX2_powerOf 1 (some .int) 1 := ⟨cd_X2_powerOf, ini_X2, sc_X2_powerOf, ⟨by decide, by decide⟩, by decide +kernel⟩
theorem k_X2_reaches : goodM yX2_reaches cX2_reaches 12 (some .boolean) RX2 3 := ⟨cd_X2_reaches, ini_X2, im_X2_reaches, se_X2_reaches, ⟨by decide, by decide⟩, by decide +kernel⟩
theorem k_X2_tell : goodM yX2_tell cX2_tell 5 (some .boolean) RX2 3 := ⟨cd_X2_tell, ini_X2, im_X2_tell, se_X2_tell, ⟨by decide, by decide⟩, by decide +kernel⟩
theorem k_X3_append : goodM yX3_append cX3_append 4 (some .int) RX3 2 := ⟨cd_X3_append, ini_X3, im_X3_append, se_X3_append, ⟨by decide, by decide⟩, by decide +kernel⟩
theorem k_X3_copyFrom : goodM yX3_copyFrom cX3_copyFrom 2 none RX3 1 := ⟨cd_X3_copyFrom, ini_X3, im_X3_copyFrom, se_X3_copyFrom, ⟨by decide, by decide⟩, by decide +kernel⟩
theorem k_X3_has : goodM yX3_has cX3_has 2 (some .boolean) RX3 1 := ⟨cd_X3_has, ini_X3, im_X3_has, se_X3_has, ⟨by decide, by decide⟩, by decide +kernel⟩
theorem k_X3_highestIn : goodM yX3_highestIn cX3_highestIn 4 (some .int) RX3 1 := ⟨cd_X3_highestIn, ini_X3, im_X3_highestIn, se_X3_highestIn, ⟨by decide, by decide⟩, by decide +kernel⟩
theorem k_X3_init : goodI yX3_init cX3_init 1 0 := ⟨cd_X3_init, ini_X3, im_X3_init, rfl, ⟨by decide, by decide⟩, by decide +kernel⟩
theorem k_X4_anyWanted : goodM yX4_anyWanted cX4_anyWanted 3 (some .boolean) RX4 1 := ⟨cd_X4_anyWanted, ini_X4, im_X4_anyWanted, se_X4_anyWanted, ⟨by decide, by decide⟩, by decide +kernel⟩
theorem k_X4_branchAddress : goodM yX4_branchAddress cX4_branchAddress 2 (some .long) RX4 1 := ⟨cd_X4_branchAddress, ini_X4, im_X4_branchAddress, se_X4_branchAddress, ⟨by decide, by decide⟩, by decide +kernel⟩
theorem k_X4_branchCode : goodM yX4_branchCode cX4_branchCode 5 (some .int) RX4 1 := ⟨cd_X4_branchCode, ini_X4, im_X4_branchCode, se_X4_branchCode, ⟨by decide, by decide⟩, by decide +kernel⟩
theorem k_X4_bytesBetween : goodM yX4_bytesBetween cX4_bytesBetween 3 (some .int) RX4 0 := ⟨cd_X4_bytesBetween, ini_X4, im_X4_bytesBetween, se_X4_bytesBetween, ⟨by decide, by decide⟩, by decide +kernel⟩
theorem k_X4_bytesInAll : goodM yX4_bytesInAll cX4_bytesInAll 1 (some .int) RX4 0 := ⟨cd_X4_bytesInAll, ini_X4, im_X4_bytesInAll, se_X4_bytesInAll, ⟨by decide, by decide⟩, by decide +kernel⟩
theorem k_X4_couldHelp : goodM yX4_couldHelp cX4_couldHelp 6 (some .boolean) RX4 2 := ⟨cd_X4_couldHelp, ini_X4, im_X4_couldHelp, se_X4_couldHelp, ⟨by decide, by decide⟩, by decide +kernel⟩
theorem k_X4_doesHelp : goodM yX4_doesHelp cX4_doesHelp 5 (some .boolean) RX4 2 := ⟨cd_X4_doesHelp, ini_X4, im_X4_doesHelp, se_X4_doesHelp, ⟨by decide, by decide⟩, by decide +kernel⟩
theorem k_X4_init : goodI yX4_init cX4_init 1 0 := ⟨cd_X4_init, ini_X4, im_X4_init, rfl, ⟨by decide, by decide⟩, by decide +kernel⟩
theorem k_X4_isDirect : goodM yX4_isDirect cX4_isDirect 4 (some .boolean) RX4 1 := ⟨cd_X4_isDirect, ini_X4, im_X4_isDirect, se_X4_isDirect, ⟨by decide, by decide⟩, by decide +kernel⟩
theorem k_X4_isWithin : goodS yX4_isWithin cX4_isWithin 5 (some .boolean) 3 := ⟨cd_X4_isWithin, ini_X4, sc_X4_isWithin, ⟨by decide, by decide⟩, by decide +kernel⟩
theorem k_X4_labelAddress : goodM yX4_labelAddress cX4_labelAddress 2 (some .long) RX4 1 := ⟨cd_X4_labelAddress, ini_X4, im_X4_labelAddress, se_X4_labelAddress, ⟨by decide, by decide⟩, by decide +kernel⟩
theorem k_X4_layOut : goodM yX4_layOut cX4_layOut 3 none RX4 1 := ⟨cd_X4_layOut, ini_X4, im_X4_layOut, se_X4_layOut, ⟨by decide, by decide⟩, by decide +kernel⟩
theorem k_X4_nearestThunk : goodM yX4_nearestThunk cX4_nearestThunk 12 (some .int) RX4 1 := ⟨cd_X4_nearestThunk, ini_X4, im_X4_nearestThunk, se_X4_nearestThunk, ⟨by decide, by decide⟩, by decide +kernel⟩
theorem k_X4_routeAll : goodM yX4_routeAll cX4_routeAll 2 none RX4 0 := ⟨cd_X4_routeAll, ini_X4, im_X4_routeAll, se_X4_routeAll, ⟨by decide, by decide⟩, by decide +kernel⟩
theorem k_X4_routeByThunk : goodM yX4_routeByThunk cX4_routeByThunk 3 none RX4 1 := ⟨cd_X4_routeByThunk, ini_X4, im_X4_routeByThunk, se_X4_routeByThunk, ⟨by decide, by decide⟩, by decide +kernel⟩
theorem k_X4_thunkCode : goodM yX4_thunkCode cX4_thunkCode 2 (some .int) RX4 1 := ⟨cd_X4_thunkCode, ini_X4, im_X4_thunkCode, se_X4_thunkCode, ⟨by decide, by decide⟩, by decide +kernel⟩
theorem k_X4_walkFrom : goodM yX4_walkFrom cX4_walkFrom 6 (some .long) RX4 1 := ⟨cd_X4_walkFrom, ini_X4, im_X4_walkFrom, se_X4_walkFrom, ⟨by decide, by decide⟩, by decide +kernel⟩
theorem k_X4_wantThunk : goodM yX4_wantThunk cX4_wantThunk 12 none RX4 2 := ⟨cd_X4_wantThunk, ini_X4, im_X4_wantThunk, se_X4_wantThunk, ⟨by decide, by decide⟩, by decide +kernel⟩
theorem k_X4_whatIsAt : goodM yX4_whatIsAt cX4_whatIsAt 4 (some .int) RX4 1 := ⟨cd_X4_whatIsAt, ini_X4, im_X4_whatIsAt, se_X4_whatIsAt, ⟨by decide, by decide⟩, by decide +kernel⟩
theorem k_X5_append : goodM yX5_append cX5_append 5 (some .int) RX5 3 := ⟨cd_X5_append, ini_X5, im_X5_append, se_X5_append, ⟨by decide, by decide⟩, by decide +kernel⟩
theorem k_X5_copyFrom : goodM yX5_copyFrom cX5_copyFrom 3 none RX5 1 := ⟨cd_X5_copyFrom, ini_X5, im_X5_copyFrom, se_X5_copyFrom, ⟨by decide, by decide⟩, by decide +kernel⟩
theorem k_X5_has : goodM yX5_has cX5_has 2 (some .boolean) RX5 1 := ⟨cd_X5_has, ini_X5, im_X5_has, se_X5_has, ⟨by decide, by decide⟩, by decide +kernel⟩
theorem k_X5_hasPool : goodM yX5_hasPool cX5_hasPool 2 (some .boolean) RX5 1 := ⟨cd_X5_hasPool, ini_X5, im_X5_hasPool, se_X5_hasPool, ⟨by decide, by decide⟩, by decide +kernel⟩
theorem k_X5_init : goodI yX5_init cX5_init 1 0 := ⟨cd_X5_init, ini_X5, im_X5_init, rfl, ⟨by decide, by decide⟩, by decide +kernel⟩
theorem k_X5_isSize : goodS yX5_isSize cX5_isSize 1 (some .boolean) 1 := ⟨cd_X5_isSize, ini_X5, sc_X5_isSize, ⟨by decide, by decide⟩, by decide +kernel⟩
theorem k_X6_clear : goodM yX6_clear cX6_clear 1 none RX6 0 := ⟨cd_X6_clear, ini_X6, im_X6_clear, se_X6_clear, ⟨by decide, by decide⟩, by decide +kernel⟩
theorem k_X6_findPlaces : goodM yX6_findPlaces cX6_findPlaces 5 none RX6 2 := ⟨cd_X6_findPlaces, ini_X6, im_X6_findPlaces, se_X6_findPlaces, ⟨by decide, by decide⟩, by decide +kernel⟩
theorem k_X6_grow : goodM yX6_grow cX6_grow 2 none RX6 0 := ⟨cd_X6_grow, ini_X6, im_X6_grow, se_X6_grow, ⟨by decide, by decide⟩, by decide +kernel⟩
theorem k_X6_has : goodM yX6_has cX6_has 2 (some .boolean) RX6 1 := ⟨cd_X6_has, ini_X6, im_X6_has, se_X6_has, ⟨by decide, by decide⟩, by decide +kernel⟩
theorem k_X6_init : goodI yX6_init cX6_init 1 0 := ⟨cd_X6_init, ini_X6, im_X6_init, rfl, ⟨by decide, by decide⟩, by decide +kernel⟩
theorem k_X6_isMade : goodM yX6_isMade cX6_isMade 3 (some .boolean) RX6 2 := ⟨cd_X6_isMade, ini_X6, im_X6_isMade, se_X6_isMade, ⟨by decide, by decide⟩, by decide +kernel⟩
theorem k_X6_isWanted : goodM yX6_isWanted cX6_isWanted 3 (some .boolean) RX6 2 := ⟨cd_X6_isWanted, ini_X6, im_X6_isWanted, se_X6_isWanted, ⟨by decide, by decide⟩, by decide +kernel⟩
theorem k_X6_makeWanted : goodM yX6_makeWanted cX6_makeWanted 2 (some .boolean) RX6 0 := ⟨cd_X6_makeWanted, ini_X6, im_X6_makeWanted, se_X6_makeWanted, ⟨by decide, by decide⟩, by decide +kernel⟩
theorem k_X6_numberOf : goodM yX6_numberOf cX6_numberOf 3 (some .int) RX6 2 := ⟨cd_X6_numberOf, ini_X6, im_X6_numberOf, se_X6_numberOf, ⟨by decide, by decide⟩, by decide +kernel⟩
theorem k_X6_unused : goodM yX6_unused cX6_unused 3 (some .int) RX6 0 := ⟨cd_X6_unused, ini_X6, im_X6_unused, se_X6_unused, ⟨by decide, by decide⟩, by decide +kernel⟩
theorem k_X6_want : goodM yX6_want cX6_want 6 none RX6 4 := ⟨cd_X6_want, ini_X6, im_X6_want, se_X6_want, ⟨by decide, by decide⟩, by decide +kernel⟩
theorem k_X7_changeSize : goodM yX7_changeSize cX7_changeSize 3 (some .boolean) RX7 2 := ⟨cd_X7_changeSize, ini_X7, im_X7_changeSize, se_X7_changeSize, ⟨by decide, by decide⟩, by decide +kernel⟩
theorem k_X7_copyFrom : goodM yX7_copyFrom cX7_copyFrom 2 none RX7 1 := ⟨cd_X7_copyFrom, ini_X7, im_X7_copyFrom, se_X7_copyFrom, ⟨by decide, by decide⟩, by decide +kernel⟩
theorem k_X7_hasThunks : goodM yX7_hasThunks cX7_hasThunks 1 (some .boolean) RX7 0 := ⟨cd_X7_hasThunks, ini_X7, im_X7_hasThunks, se_X7_hasThunks, ⟨by decide, by decide⟩, by decide +kernel⟩
theorem k_X7_init : goodI yX7_init cX7_init 1 0 := ⟨cd_X7_init, ini_X7, im_X7_init, rfl, ⟨by decide, by decide⟩, by decide +kernel⟩
theorem k_X7_tellThunks : goodM yX7_tellThunks cX7_tellThunks 4 (some .boolean) RX7 3 := ⟨cd_X7_tellThunks, ini_X7, im_X7_tellThunks, se_X7_tellThunks, ⟨by decide, by decide⟩, by decide +kernel⟩
theorem k_X7_thunkStride : goodM yX7_thunkStride cX7_thunkStride 1 (some .long) RX7 0 := ⟨cd_X7_thunkStride, ini_X7, im_X7_thunkStride, se_X7_thunkStride, ⟨by decide, by decide⟩, by decide +kernel⟩
theorem k_X8_address : goodM yX8_address cX8_address 3 (some .long) RX8 2 := ⟨cd_X8_address, ini_X8, im_X8_address, se_X8_address, ⟨by decide, by decide⟩, by decide +kernel⟩
theorem k_X8_alignUp : goodS yX8_alignUp cX8_alignUp 4 (some .long) 2 := ⟨cd_X8_alignUp, ini_X8, sc_X8_alignUp, ⟨by decide, by decide⟩, by decide +kernel⟩
theorem k_X8_at : goodM yX8_at cX8_at 3 (some .int) RX8 1 := ⟨cd_X8_at, ini_X8, im_X8_at, se_X8_at, ⟨by decide, by decide⟩, by decide +kernel⟩
theorem k_X8_base : goodM yX8_base cX8_base 2 (some .boolean) RX8 1 := ⟨cd_X8_base, ini_X8, im_X8_base, se_X8_base, ⟨by decide, by decide⟩, by decide +kernel⟩
theorem k_X8_branch : goodM yX8_branch cX8_branch 5 (some .int) RX8 4 := ⟨cd_X8_branch, ini_X8, im_X8_branch, se_X8_branch, ⟨by decide, by decide⟩, by decide +kernel⟩
theorem k_X8_count : goodM yX8_count cX8_count 2 (some .int) RX8 1 := ⟨cd_X8_count, ini_X8, im_X8_count, se_X8_count, ⟨by decide, by decide⟩, by decide +kernel⟩
theorem k_X8_encoded : goodM yX8_encoded cX8_encoded 3 (some .int) RX8 2 := ⟨cd_X8_encoded, ini_X8, im_X8_encoded, se_X8_encoded, ⟨by decide, by decide⟩, by decide +kernel⟩
theorem k_X8_far : goodM yX8_far cX8_far 8 (some .int) RX8 0 := ⟨cd_X8_far, ini_X8, im_X8_far, se_X8_far, ⟨by decide, by decide⟩, by decide +kernel⟩
theorem k_X8_init : goodI yX8_init cX8_init 1 0 := ⟨cd_X8_init, ini_X8, im_X8_init, rfl, ⟨by decide, by decide⟩, by decide +kernel⟩
theorem k_X8_kind : goodM yX8_kind cX8_kind 4 (some .boolean) RX8 3 := ⟨cd_X8_kind, ini_X8, im_X8_kind, se_X8_kind, ⟨by decide, by decide⟩, by decide +kernel⟩
theorem k_X8_label : goodM yX8_label cX8_label 3 (some .int) RX8 2 := ⟨cd_X8_label, ini_X8, im_X8_label, se_X8_label, ⟨by decide, by decide⟩, by decide +kernel⟩
theorem k_X8_lay : goodM yX8_lay cX8_lay 1 (some .int) RX8 0 := ⟨cd_X8_lay, ini_X8, im_X8_lay, se_X8_lay, ⟨by decide, by decide⟩, by decide +kernel⟩
theorem k_X8_noted : goodM yX8_noted cX8_noted 2 (some .boolean) RX8 1 := ⟨cd_X8_noted, ini_X8, im_X8_noted, se_X8_noted, ⟨by decide, by decide⟩, by decide +kernel⟩
theorem k_X8_notedNumber : goodM yX8_notedNumber cX8_notedNumber 2 (some .int) RX8 1 := ⟨cd_X8_notedNumber, ini_X8, im_X8_notedNumber, se_X8_notedNumber, ⟨by decide, by decide⟩, by decide +kernel⟩
theorem k_X8_resize : goodM yX8_resize cX8_resize 3 (some .boolean) RX8 2 := ⟨cd_X8_resize, ini_X8, im_X8_resize, se_X8_resize, ⟨by decide, by decide⟩, by decide +kernel⟩
theorem k_X8_retarget : goodM yX8_retarget cX8_retarget 3 (some .boolean) RX8 2 := ⟨cd_X8_retarget, ini_X8, im_X8_retarget, se_X8_retarget, ⟨by decide, by decide⟩, by decide +kernel⟩
theorem k_X8_route : goodM yX8_route cX8_route 3 (some .int) RX8 2 := ⟨cd_X8_route, ini_X8, im_X8_route, se_X8_route, ⟨by decide, by decide⟩, by decide +kernel⟩
theorem k_X8_section : goodM yX8_section cX8_section 4 (some .int) RX8 3 := ⟨cd_X8_section, ini_X8, im_X8_section, se_X8_section, ⟨by decide, by decide⟩, by decide +kernel⟩
theorem k_X8_thunk : goodM yX8_thunk cX8_thunk 3 (some .int) RX8 2 := ⟨cd_X8_thunk, ini_X8, im_X8_thunk, se_X8_thunk, ⟨by decide, by decide⟩, by decide +kernel⟩
theorem k_X8_thunks : goodM yX8_thunks cX8_thunks 4 (some .boolean) RX8 3 := ⟨cd_X8_thunks, ini_X8, im_X8_thunks, se_X8_thunks, ⟨by decide, by decide⟩, by decide +kernel⟩
theorem k_X8_walk : goodM yX8_walk cX8_walk 2 (some .long) RX8 1 := ⟨cd_X8_walk, ini_X8, im_X8_walk, se_X8_walk, ⟨by decide, by decide⟩, by decide +kernel⟩
theorem k_X9_address : goodM yX9_address cX9_address 3 (some .long) RX9 2 := ⟨cd_X9_address, ini_X9, im_X9_address, se_X9_address, ⟨by decide, by decide⟩, by decide +kernel⟩
theorem k_X9_addresses : goodM yX9_addresses cX9_addresses 6 none RX9 1 := ⟨cd_X9_addresses, ini_X9, im_X9_addresses, se_X9_addresses, ⟨by decide, by decide⟩, by decide +kernel⟩
theorem k_X9_at : goodM yX9_at cX9_at 4 (some .int) RX9 1 := ⟨cd_X9_at, ini_X9, im_X9_at, se_X9_at, ⟨by decide, by decide⟩, by decide +kernel⟩
theorem k_X9_base : goodM yX9_base cX9_base 2 (some .boolean) RX9 1 := ⟨cd_X9_base, ini_X9, im_X9_base, se_X9_base, ⟨by decide, by decide⟩, by decide +kernel⟩
theorem k_X9_between : goodM yX9_between cX9_between 4 (some .long) RX9 0 := ⟨cd_X9_between, ini_X9, im_X9_between, se_X9_between, ⟨by decide, by decide⟩, by decide +kernel⟩
theorem k_X9_branch : goodM yX9_branch cX9_branch 5 (some .int) RX9 4 := ⟨cd_X9_branch, ini_X9, im_X9_branch, se_X9_branch, ⟨by decide, by decide⟩, by decide +kernel⟩
theorem k_X9_count : goodM yX9_count cX9_count 2 (some .int) RX9 1 := ⟨cd_X9_count, ini_X9, im_X9_count, se_X9_count, ⟨by decide, by decide⟩, by decide +kernel⟩
theorem k_X9_encoded : goodM yX9_encoded cX9_encoded 3 (some .int) RX9 2 := ⟨cd_X9_encoded, ini_X9, im_X9_encoded, se_X9_encoded, ⟨by decide, by decide⟩, by decide +kernel⟩
theorem k_X9_far : goodM yX9_far cX9_far 6 (some .int) RX9 0 := ⟨cd_X9_far, ini_X9, im_X9_far, se_X9_far, ⟨by decide, by decide⟩, by decide +kernel⟩
theorem k_X9_goes : goodM yX9_goes cX9_goes 7 (some .long) RX9 3 := ⟨cd_X9_goes, ini_X9, im_X9_goes, se_X9_goes, ⟨by decide, by decide⟩, by decide +kernel⟩
theorem k_X9_hasThunk : goodM yX9_hasThunk cX9_hasThunk 7 (some .boolean) RX9 4 := ⟨cd_X9_hasThunk, ini_X9, im_X9_hasThunk, se_X9_hasThunk, ⟨by decide, by decide⟩, by decide +kernel⟩
theorem k_X9_idle : goodM yX9_idle cX9_idle 3 (some .int) RX9 0 := ⟨cd_X9_idle, ini_X9, im_X9_idle, se_X9_idle, ⟨by decide, by decide⟩, by decide +kernel⟩
theorem k_X9_in : goodS yX9_in cX9_in 3 (some .boolean) 3 := ⟨cd_X9_in, ini_X9, sc_X9_in, ⟨by decide, by decide⟩, by decide +kernel⟩
theorem k_X9_init : goodI yX9_init cX9_init 1 0 := ⟨cd_X9_init, ini_X9, im_X9_init, rfl, ⟨by decide, by decide⟩, by decide +kernel⟩
theorem k_X9_isDirect : goodM yX9_isDirect cX9_isDirect 2 (some .boolean) RX9 1 := ⟨cd_X9_isDirect, ini_X9, im_X9_isDirect, se_X9_isDirect, ⟨by decide, by decide⟩, by decide +kernel⟩
theorem k_X9_isNearer : goodS yX9_isNearer cX9_isNearer 10 (some .boolean) 3 := ⟨cd_X9_isNearer, ini_X9, sc_X9_isNearer, ⟨by decide, by decide⟩, by decide +kernel⟩
theorem k_X9_keeps : goodM yX9_keeps cX9_keeps 3 (some .int) RX9 0 := ⟨cd_X9_keeps, ini_X9, im_X9_keeps, se_X9_keeps, ⟨by decide, by decide⟩, by decide +kernel⟩
theorem k_X9_kind : goodM yX9_kind cX9_kind 4 (some .boolean) RX9 3 := ⟨cd_X9_kind, ini_X9, im_X9_kind, se_X9_kind, ⟨by decide, by decide⟩, by decide +kernel⟩
theorem k_X9_label : goodM yX9_label cX9_label 3 (some .int) RX9 2 := ⟨cd_X9_label, ini_X9, im_X9_label, se_X9_label, ⟨by decide, by decide⟩, by decide +kernel⟩
theorem k_X9_laidReaches : goodM yX9_laidReaches cX9_laidReaches 10 (some .boolean) RX9 3 := ⟨cd_X9_laidReaches, ini_X9, im_X9_laidReaches, se_X9_laidReaches, ⟨by decide, by decide⟩, by decide +kernel⟩
theorem k_X9_lay : goodM yX9_lay cX9_lay 8 (some .int) RX9 0 := ⟨cd_X9_lay, ini_X9, im_X9_lay, se_X9_lay, ⟨by decide, by decide⟩, by decide +kernel⟩
theorem k_X9_reaches : goodM yX9_reaches cX9_reaches 10 (some .boolean) RX9 3 := ⟨cd_X9_reaches, ini_X9, im_X9_reaches, se_X9_reaches, ⟨by decide, by decide⟩, by decide +kernel⟩
theorem k_X9_resize : goodM yX9_resize cX9_resize 4 (some .boolean) RX9 2 := ⟨cd_X9_resize, ini_X9, im_X9_resize, se_X9_resize, ⟨by decide, by decide⟩, by decide +kernel⟩
theorem k_X9_retarget : goodM yX9_retarget cX9_retarget 3 (some .boolean) RX9 2 := ⟨cd_X9_retarget, ini_X9, im_X9_retarget, se_X9_retarget, ⟨by decide, by decide⟩, by decide +kernel⟩
theorem k_X9_route : goodM yX9_route cX9_route 3 (some .int) RX9 2 := ⟨cd_X9_route, ini_X9, im_X9_route, se_X9_route, ⟨by decide, by decide⟩, by decide +kernel⟩
theorem k_X9_section : goodM yX9_section cX9_section 4 (some .int) RX9 3 := ⟨cd_X9_section, ini_X9, im_X9_section, se_X9_section, ⟨by decide, by decide⟩, by decide +kernel⟩
theorem k_X9_thunk : goodM yX9_thunk cX9_thunk 3 (some .int) RX9 2 := ⟨cd_X9_thunk, ini_X9, im_X9_thunk, se_X9_thunk, ⟨by decide, by decide⟩, by decide +kernel⟩
theorem k_X9_thunkFor : goodM yX9_thunkFor cX9_thunkFor 6 (some .int) RX9 2 := ⟨cd_X9_thunkFor, ini_X9, im_X9_thunkFor, se_X9_thunkFor, ⟨by decide, by decide⟩, by decide +kernel⟩
theorem k_X9_thunks : goodM yX9_thunks cX9_thunks 4 (some .boolean) RX9 3 := ⟨cd_X9_thunks, ini_X9, im_X9_thunks, se_X9_thunks, ⟨by decide, by decide⟩, by decide +kernel⟩
theorem k_X9_upTo : goodS yX9_upTo cX9_upTo 5 (some .long) 2 := ⟨cd_X9_upTo, ini_X9, sc_X9_upTo, ⟨by decide, by decide⟩, by decide +kernel⟩
theorem k_X9_walk : goodM yX9_walk cX9_walk 5 (some .long) RX9 1 := ⟨cd_X9_walk, ini_X9, im_X9_walk, se_X9_walk, ⟨by decide, by decide⟩, by decide +kernel⟩
theorem k_X9_wants : goodM yX9_wants cX9_wants 6 (some .int) RX9 2 := ⟨cd_X9_wants, ini_X9, im_X9_wants, se_X9_wants, ⟨by decide, by decide⟩, by decide +kernel⟩
theorem k_X9_way : goodM yX9_way cX9_way 6 (some .int) RX9 3 := ⟨cd_X9_way, ini_X9, im_X9_way, se_X9_way, ⟨by decide, by decide⟩, by decide +kernel⟩
theorem k_X9_ways : goodM yX9_ways cX9_ways 4 (some .int) RX9 1 := ⟨cd_X9_ways, ini_X9, im_X9_ways, se_X9_ways, ⟨by decide, by decide⟩, by decide +kernel⟩
theorem if01_z {P : Prop} [Decidable P] {r : Int32} (h : r = if P then 1 else 0) (h0 : r = 0) : ¬ P := fun hp => by
  rw [if_pos hp] at h
  rw [h] at h0
  exact absurd h0 (by decide)
theorem if01_n {P : Prop} [Decidable P] {r : Int32} (h : r = if P then 1 else 0) (h0 : ¬ r = 0) : P := Classical.byContradiction fun hp => by
  rw [if_neg hp] at h
  exact h0 h
theorem if01_narrow {P : Prop} [Decidable P] {r : Int32} (h : r = if P then 1 else 0) : narrow .boolean (.int r) = .int r := by
  by_cases hp : P
  · rw [if_pos hp] at h
    subst h
    decide
  · rw [if_neg hp] at h
    subst h
    decide
theorem lc_lt {x y : Int64} : lg_cmp x y < 0 ↔ x < y := by
  unfold lg_cmp
  rcases Int.lt_trichotomy x.toInt y.toInt with h | h | h
  · have h1 : x < y := Int64.lt_iff_toInt_lt.mpr h
    have h2 : ¬ x > y := fun q => by have := Int64.lt_iff_toInt_lt.mp q; omega
    have h3 : ¬ x = y := fun q => by rw [q] at h; omega
    simp [h1, h2, h3]
  · have h1 : x = y := Int64.toInt_inj.mp h
    have h2 : ¬ x > y := fun q => by have := Int64.lt_iff_toInt_lt.mp q; omega
    have h3 : ¬ x < y := fun q => by have := Int64.lt_iff_toInt_lt.mp q; omega
    simp [h1]
  · have h1 : x > y := Int64.lt_iff_toInt_lt.mpr h
    have h2 : ¬ x < y := fun q => by have := Int64.lt_iff_toInt_lt.mp q; omega
    simp [h1, h2]
theorem lc_eq {x y : Int64} : lg_cmp x y = 0 ↔ x = y := by
  unfold lg_cmp
  rcases Int.lt_trichotomy x.toInt y.toInt with h | h | h
  · have h2 : ¬ x > y := fun q => by have := Int64.lt_iff_toInt_lt.mp q; omega
    have h3 : ¬ x = y := fun q => by rw [q] at h; omega
    simp [h2, h3]
  · have h1 : x = y := Int64.toInt_inj.mp h
    have h2 : ¬ x > y := fun q => by have := Int64.lt_iff_toInt_lt.mp q; omega
    simp [h1]
  · have h1 : x > y := Int64.lt_iff_toInt_lt.mpr h
    have h3 : ¬ x = y := fun q => by rw [q] at h; omega
    simp [h1, h3]
theorem lc_gt {x y : Int64} : 0 < lg_cmp x y ↔ y < x := by
  unfold lg_cmp
  rcases Int.lt_trichotomy x.toInt y.toInt with h | h | h
  · have h2 : ¬ y < x := fun q => by have := Int64.lt_iff_toInt_lt.mp q; omega
    have h3 : ¬ x = y := fun q => by rw [q] at h; omega
    simp [h2, h3]
  · have h1 : x = y := Int64.toInt_inj.mp h
    simp [h1]
  · have h1 : y < x := Int64.lt_iff_toInt_lt.mpr h
    simp [h1]
theorem lc_le {x y : Int64} : lg_cmp x y ≤ 0 ↔ x ≤ y := by
  have h := lc_gt (x := x) (y := y)
  rw [← Int32.not_lt, ← Int64.not_lt, h]
theorem lc_ge {x y : Int64} : 0 ≤ lg_cmp x y ↔ y ≤ x := by
  have h := lc_lt (x := x) (y := y)
  rw [← Int32.not_lt, ← Int64.not_lt, h]
end
section
/-! PURE: numbers -/
theorem vp_in_cc {x : Int32} {n : Nat} (h0 : ¬ x < 0) (h1 : ¬ nI n ≤ x) (hn : n < 2 ^ 31) : vp_in x n := by
  rw [vp_in_iff]
  rw [Int32.lt_iff_toInt_lt] at h0
  rw [Int32.le_iff_toInt_le, nI_toInt hn] at h1
  have : (0 : Int32).toInt = 0 := rfl
  omega
theorem vp_in_le {x : Int32} {n N : Nat} (h0 : ¬ x < 0) (h1 : ¬ nI n ≤ x) (hn : n ≤ N) (hN : N < 2 ^ 31) : vp_in x N := by
  rw [vp_in_iff]
  rw [Int32.lt_iff_toInt_lt] at h0
  rw [Int32.le_iff_toInt_le, nI_toInt (by omega)] at h1
  have : (0 : Int32).toInt = 0 := rfl
  omega
/-- the least multiple of 2^k not below a -/
def up (a k : Nat) : Nat := (a + 2 ^ k - 1) / 2 ^ k * 2 ^ k
theorem up_ge (a k : Nat) : a ≤ up a k := by
  unfold up
  have h : 0 < 2 ^ k := Nat.two_pow_pos k
  have h1 := Nat.div_add_mod (a + 2 ^ k - 1) (2 ^ k)
  have h2 := Nat.mod_lt (a + 2 ^ k - 1) h
  rw [Nat.mul_comm] at h1
  omega
theorem up_lt (a k : Nat) : up a k < a + 2 ^ k := by
  unfold up
  have h : 0 < 2 ^ k := Nat.two_pow_pos k
  have h1 := Nat.div_mul_le_self (a + 2 ^ k - 1) (2 ^ k)
  omega
theorem up_le12 {a k : Nat} (hk : k ≤ 12) : up a k ≤ a + 4095 := by
  have h := up_lt a k
  have h2 : 2 ^ k ≤ 2 ^ 12 := Nat.pow_le_pow_right (by decide) hk
  omega
theorem up_le6 {a k : Nat} (hk : k ≤ 6) : up a k ≤ a + 63 := by
  have h := up_lt a k
  have h2 : 2 ^ k ≤ 2 ^ 6 := Nat.pow_le_pow_right (by decide) hk
  omega
theorem lN_bv (n : Nat) : (lN n).toBitVec = BitVec.ofNat 64 n := rfl
set_option maxRecDepth 20000 in
theorem neg_bits : ∀ k, k < 13 → ∀ i, i < 64 → (-(BitVec.ofNat 64 (2 ^ k))).getLsbD i = decide (k ≤ i) := by decide +kernel
theorem and_neg {n k : Nat} (hk : k ≤ 12) (hn : n < 2 ^ 63) : (lN n) &&& (-(lN (2 ^ k))) = lN (n / 2 ^ k * 2 ^ k) := by
  apply Int64.toBitVec_inj.mp
  rw [Int64.toBitVec_and, Int64.toBitVec_neg, lN_bv, lN_bv, lN_bv]
  apply BitVec.eq_of_getLsbD_eq
  intro i hi
  rw [BitVec.getLsbD_and, neg_bits k (by omega) i hi, BitVec.getLsbD_ofNat, BitVec.getLsbD_ofNat, ← Nat.shiftLeft_eq, Nat.testBit_shiftLeft, Nat.testBit_div_two_pow]
  by_cases h : k ≤ i
  · simp [h, hi]
  · simp [h]
theorem lN_sub1 {a : Nat} (h : 1 ≤ a) : lN a - 1 = lN (a - 1) := by
  rw [show (1 : Int64) = lN 1 from rfl]
  exact lN_sub h
theorem align_up {a k : Nat} (ha : a < 2 ^ 40) (hk : k ≤ 12) : (lN a + lN (2 ^ k) - 1) &&& (-(lN (2 ^ k))) = lN (up a k) := by
  have h1 : 2 ^ k ≤ 2 ^ 12 := Nat.pow_le_pow_right (by decide) hk
  have h2 : 0 < 2 ^ k := Nat.two_pow_pos k
  rw [lN_add, lN_sub1 (by omega), and_neg hk (by omega)]
  rfl
end
section
set_option maxHeartbeats 4000000 in
set_option maxRecDepth 100000 in
theorem c_X5_has (l : Launch) (D : va_G) (y : Nat → ClassId) {ws : va_W} {n1 : Int32} {q1 a1 : Nat} {z1_1 z1_2 z1_3 z1_4 : Value} (h1 : ws[q1]? = some (a1, .inr (5, [.int n1, z1_1, z1_2, z1_3, z1_4]))) (p0 : Int32) : Met l yX5_has [.code yX5_has cX5_has 2 (some .boolean)] ({ frames := 0, cells := 0, slots := 0, locals := 0 }) (va_Pc [.ref a1, .int p0] (PR D y ws)) (vp_Si (fun r => r = if ¬ p0 < 0 ∧ ¬ n1 ≤ p0 then 1 else 0)) 0 0 (fun _ => False) := by
  refine Met.ofW (cc := cX5_has) (maxL := 2) (ret := (some .boolean)) (by decide) rfl ?_
  intro p e s m args below meth c s₁ B hml hv
  obtain ⟨rfl, hP, hO⟩ := hv
  have hx := B.exec
  have hb := B.bytes
  have hr := B.returns
  have hown : s.vm.findClass RX5 = some m.cls := findClass_of_methodNamed B.named
  have hlocks := B.notSynchronized
  have hK := hO.1
  have hts : ∀ w ∈ lw_E, w.before ([.ref a1, .int p0] : List Value).toArray s = true := fun w h => hO.2 w h _
  clear B
  have hl := lv_entry ([.ref a1, .int p0]) (n := 2) (Nat.le_of_ble_eq_true rfl)
  rw [lg_entry_eq]
  generalize (lg_sl ([.ref a1, .int p0]) ++ List.replicate (2 - (lg_sl ([.ref a1, .int p0])).length) Slot.unset).toArray = ls at hl ⊢
  have hl : lv_has ls 2 [(0, .ref a1), (1, .int p0)] := hl
  refine lv_iload_n hx hb dX5_has_0 rfl (lv_at hl 1 rfl) ?_
  refine lv_if_lt (tgt := 16) hx hb dX5_has_1 (by decide) (fun c1 => ?_) (fun c1 => ?_)
  · skip
    refine lv_iconst (v := 0) hx hb dX5_has_16 (by decide) ?_
    refine W.zret (v := 0) hx hb hr (by decide) (fun t ht hW => ⟨_, rfl, ?_, ht⟩) (fun _ h => nomatch h) dX5_has_17
    simp [*]
  · skip
    refine lv_iload_n hx hb dX5_has_4 rfl (lv_at hl 1 rfl) ?_
    refine lv_aload_n hx hb dX5_has_5 rfl (lv_at hl 0 rfl) ?_
    refine va_get (D := D) (T := TX5) (N := 5) hx hb hts jnX5 hown hK hP q1 h1 rfl 0 (by decide) (hts _ fl_X5_9) (fun _ h9 => h9) rfl dX5_has_6 ?_
    refine lv_icmp_ge (tgt := 16) hx hb dX5_has_9 (by decide) (fun c9 => ?_) (fun c9 => ?_)
    · skip
      refine lv_iconst (v := 0) hx hb dX5_has_16 (by decide) ?_
      refine W.zret (v := 0) hx hb hr (by decide) (fun t ht hW => ⟨_, rfl, ?_, ht⟩) (fun _ h => nomatch h) dX5_has_17
      simp [*]
    · skip
      refine lv_iconst (v := 1) hx hb dX5_has_12 (by decide) ?_
      refine lv_goto (tgt := 17) hx hb dX5_has_13 (by decide) ?_
      refine W.zret (v := 1) hx hb hr (by decide) (fun t ht hW => ⟨_, rfl, ?_, ht⟩) (fun _ h => nomatch h) dX5_has_17
      simp [*]
set_option maxHeartbeats 4000000 in
set_option maxRecDepth 100000 in
theorem c_X3_has (l : Launch) (D : va_G) (y : Nat → ClassId) {ws : va_W} {n1 : Int32} {q1 a1 : Nat} {z1_1 z1_2 : Value} (h1 : ws[q1]? = some (a1, .inr (3, [.int n1, z1_1, z1_2]))) (p0 : Int32) : Met l yX3_has [.code yX3_has cX3_has 2 (some .boolean)] ({ frames := 0, cells := 0, slots := 0, locals := 0 }) (va_Pc [.ref a1, .int p0] (PR D y ws)) (vp_Si (fun r => r = if ¬ p0 < 0 ∧ ¬ n1 ≤ p0 then 1 else 0)) 0 0 (fun _ => False) := by
  refine Met.ofW (cc := cX3_has) (maxL := 2) (ret := (some .boolean)) (by decide) rfl ?_
  intro p e s m args below meth c s₁ B hml hv
  obtain ⟨rfl, hP, hO⟩ := hv
  have hx := B.exec
  have hb := B.bytes
  have hr := B.returns
  have hown : s.vm.findClass RX3 = some m.cls := findClass_of_methodNamed B.named
  have hlocks := B.notSynchronized
  have hK := hO.1
  have hts : ∀ w ∈ lw_E, w.before ([.ref a1, .int p0] : List Value).toArray s = true := fun w h => hO.2 w h _
  clear B
  have hl := lv_entry ([.ref a1, .int p0]) (n := 2) (Nat.le_of_ble_eq_true rfl)
  rw [lg_entry_eq]
  generalize (lg_sl ([.ref a1, .int p0]) ++ List.replicate (2 - (lg_sl ([.ref a1, .int p0])).length) Slot.unset).toArray = ls at hl ⊢
  have hl : lv_has ls 2 [(0, .ref a1), (1, .int p0)] := hl
  refine lv_iload_n hx hb dX3_has_0 rfl (lv_at hl 1 rfl) ?_
  refine lv_if_lt (tgt := 16) hx hb dX3_has_1 (by decide) (fun c1 => ?_) (fun c1 => ?_)
  · skip
    refine lv_iconst (v := 0) hx hb dX3_has_16 (by decide) ?_
    refine W.zret (v := 0) hx hb hr (by decide) (fun t ht hW => ⟨_, rfl, ?_, ht⟩) (fun _ h => nomatch h) dX3_has_17
    simp [*]
  · skip
    refine lv_iload_n hx hb dX3_has_4 rfl (lv_at hl 1 rfl) ?_
    refine lv_aload_n hx hb dX3_has_5 rfl (lv_at hl 0 rfl) ?_
    refine va_get (D := D) (T := TX3) (N := 3) hx hb hts jnX3 hown hK hP q1 h1 rfl 0 (by decide) (hts _ fl_X3_9) (fun _ h9 => h9) rfl dX3_has_6 ?_
    refine lv_icmp_ge (tgt := 16) hx hb dX3_has_9 (by decide) (fun c9 => ?_) (fun c9 => ?_)
    · skip
      refine lv_iconst (v := 0) hx hb dX3_has_16 (by decide) ?_
      refine W.zret (v := 0) hx hb hr (by decide) (fun t ht hW => ⟨_, rfl, ?_, ht⟩) (fun _ h => nomatch h) dX3_has_17
      simp [*]
    · skip
      refine lv_iconst (v := 1) hx hb dX3_has_12 (by decide) ?_
      refine lv_goto (tgt := 17) hx hb dX3_has_13 (by decide) ?_
      refine W.zret (v := 1) hx hb hr (by decide) (fun t ht hW => ⟨_, rfl, ?_, ht⟩) (fun _ h => nomatch h) dX3_has_17
      simp [*]
set_option maxHeartbeats 4000000 in
set_option maxRecDepth 100000 in
theorem c_X1_has (l : Launch) (D : va_G) (y : Nat → ClassId) {ws : va_W} {n1 : Int32} {q1 a1 : Nat} {z1_1 z1_2 z1_3 z1_4 : Value} (h1 : ws[q1]? = some (a1, .inr (1, [.int n1, z1_1, z1_2, z1_3, z1_4]))) (p0 : Int32) : Met l yX1_has [.code yX1_has cX1_has 2 (some .boolean)] ({ frames := 0, cells := 0, slots := 0, locals := 0 }) (va_Pc [.ref a1, .int p0] (PR D y ws)) (vp_Si (fun r => r = if ¬ p0 < 0 ∧ ¬ n1 ≤ p0 then 1 else 0)) 0 0 (fun _ => False) := by
  refine Met.ofW (cc := cX1_has) (maxL := 2) (ret := (some .boolean)) (by decide) rfl ?_
  intro p e s m args below meth c s₁ B hml hv
  obtain ⟨rfl, hP, hO⟩ := hv
  have hx := B.exec
  have hb := B.bytes
  have hr := B.returns
  have hown : s.vm.findClass RX1 = some m.cls := findClass_of_methodNamed B.named
  have hlocks := B.notSynchronized
  have hK := hO.1
  have hts : ∀ w ∈ lw_E, w.before ([.ref a1, .int p0] : List Value).toArray s = true := fun w h => hO.2 w h _
  clear B
  have hl := lv_entry ([.ref a1, .int p0]) (n := 2) (Nat.le_of_ble_eq_true rfl)
  rw [lg_entry_eq]
  generalize (lg_sl ([.ref a1, .int p0]) ++ List.replicate (2 - (lg_sl ([.ref a1, .int p0])).length) Slot.unset).toArray = ls at hl ⊢
  have hl : lv_has ls 2 [(0, .ref a1), (1, .int p0)] := hl
  refine lv_iload_n hx hb dX1_has_0 rfl (lv_at hl 1 rfl) ?_
  refine lv_if_lt (tgt := 16) hx hb dX1_has_1 (by decide) (fun c1 => ?_) (fun c1 => ?_)
  · skip
    refine lv_iconst (v := 0) hx hb dX1_has_16 (by decide) ?_
    refine W.zret (v := 0) hx hb hr (by decide) (fun t ht hW => ⟨_, rfl, ?_, ht⟩) (fun _ h => nomatch h) dX1_has_17
    simp [*]
  · skip
    refine lv_iload_n hx hb dX1_has_4 rfl (lv_at hl 1 rfl) ?_
    refine lv_aload_n hx hb dX1_has_5 rfl (lv_at hl 0 rfl) ?_
    refine va_get (D := D) (T := TX1) (N := 5) hx hb hts jnX1 hown hK hP q1 h1 rfl 0 (by decide) (hts _ fl_X1_9) (fun _ h9 => h9) rfl dX1_has_6 ?_
    refine lv_icmp_ge (tgt := 16) hx hb dX1_has_9 (by decide) (fun c9 => ?_) (fun c9 => ?_)
    · skip
      refine lv_iconst (v := 0) hx hb dX1_has_16 (by decide) ?_
      refine W.zret (v := 0) hx hb hr (by decide) (fun t ht hW => ⟨_, rfl, ?_, ht⟩) (fun _ h => nomatch h) dX1_has_17
      simp [*]
    · skip
      refine lv_iconst (v := 1) hx hb dX1_has_12 (by decide) ?_
      refine lv_goto (tgt := 17) hx hb dX1_has_13 (by decide) ?_
      refine W.zret (v := 1) hx hb hr (by decide) (fun t ht hW => ⟨_, rfl, ?_, ht⟩) (fun _ h => nomatch h) dX1_has_17
      simp [*]
set_option maxHeartbeats 4000000 in
set_option maxRecDepth 100000 in
theorem c_X6_has (l : Launch) (D : va_G) (y : Nat → ClassId) {ws : va_W} {n1 : Int32} {q1 a1 : Nat} {z1_1 z1_2 z1_3 z1_4 z1_5 z1_6 z1_7 z1_8 z1_9 z1_10 : Value} (h1 : ws[q1]? = some (a1, .inr (6, [.int n1, z1_1, z1_2, z1_3, z1_4, z1_5, z1_6, z1_7, z1_8, z1_9, z1_10]))) (p0 : Int32) : Met l yX6_has [.code yX6_has cX6_has 2 (some .boolean)] ({ frames := 0, cells := 0, slots := 0, locals := 0 }) (va_Pc [.ref a1, .int p0] (PR D y ws)) (vp_Si (fun r => r = if ¬ p0 < 0 ∧ ¬ n1 ≤ p0 then 1 else 0)) 0 0 (fun _ => False) := by
  refine Met.ofW (cc := cX6_has) (maxL := 2) (ret := (some .boolean)) (by decide) rfl ?_
  intro p e s m args below meth c s₁ B hml hv
  obtain ⟨rfl, hP, hO⟩ := hv
  have hx := B.exec
  have hb := B.bytes
  have hr := B.returns
  have hown : s.vm.findClass RX6 = some m.cls := findClass_of_methodNamed B.named
  have hlocks := B.notSynchronized
  have hK := hO.1
  have hts : ∀ w ∈ lw_E, w.before ([.ref a1, .int p0] : List Value).toArray s = true := fun w h => hO.2 w h _
  clear B
  have hl := lv_entry ([.ref a1, .int p0]) (n := 2) (Nat.le_of_ble_eq_true rfl)
  rw [lg_entry_eq]
  generalize (lg_sl ([.ref a1, .int p0]) ++ List.replicate (2 - (lg_sl ([.ref a1, .int p0])).length) Slot.unset).toArray = ls at hl ⊢
  have hl : lv_has ls 2 [(0, .ref a1), (1, .int p0)] := hl
  refine lv_iload_n hx hb dX6_has_0 rfl (lv_at hl 1 rfl) ?_
  refine lv_if_lt (tgt := 16) hx hb dX6_has_1 (by decide) (fun c1 => ?_) (fun c1 => ?_)
  · skip
    refine lv_iconst (v := 0) hx hb dX6_has_16 (by decide) ?_
    refine W.zret (v := 0) hx hb hr (by decide) (fun t ht hW => ⟨_, rfl, ?_, ht⟩) (fun _ h => nomatch h) dX6_has_17
    simp [*]
  · skip
    refine lv_iload_n hx hb dX6_has_4 rfl (lv_at hl 1 rfl) ?_
    refine lv_aload_n hx hb dX6_has_5 rfl (lv_at hl 0 rfl) ?_
    refine va_get (D := D) (T := TX6) (N := 11) hx hb hts jnX6 hown hK hP q1 h1 rfl 0 (by decide) (hts _ fl_X6_9) (fun _ h9 => h9) rfl dX6_has_6 ?_
    refine lv_icmp_ge (tgt := 16) hx hb dX6_has_9 (by decide) (fun c9 => ?_) (fun c9 => ?_)
    · skip
      refine lv_iconst (v := 0) hx hb dX6_has_16 (by decide) ?_
      refine W.zret (v := 0) hx hb hr (by decide) (fun t ht hW => ⟨_, rfl, ?_, ht⟩) (fun _ h => nomatch h) dX6_has_17
      simp [*]
    · skip
      refine lv_iconst (v := 1) hx hb dX6_has_12 (by decide) ?_
      refine lv_goto (tgt := 17) hx hb dX6_has_13 (by decide) ?_
      refine W.zret (v := 1) hx hb hr (by decide) (fun t ht hW => ⟨_, rfl, ?_, ht⟩) (fun _ h => nomatch h) dX6_has_17
      simp [*]
set_option maxHeartbeats 4000000 in
set_option maxRecDepth 100000 in
theorem c_X2_has (l : Launch) (D : va_G) (y : Nat → ClassId) {ws : va_W} {f2 : Nat → Int32} {q1 a1 : Nat} {z1_0 : Value} {q2 a2 : Nat} (h1 : ws[q1]? = some (a1, .inr (2, [z1_0, .ref a2]))) (h2 : ws[q2]? = some (a2, .inl (y 0, 8, .inl f2))) (p0 : Int32) : Met l yX2_has [.code yX2_has cX2_has 2 (some .boolean)] ({ frames := 0, cells := 0, slots := 0, locals := 0 }) (va_Pc [.ref a1, .int p0] (PR D y ws)) (vp_Si (fun r => r = if ¬ p0 < 0 ∧ ¬ 8 ≤ p0 ∧ ¬ f2 p0.toNatClampNeg = 0 then 1 else 0)) 0 0 (fun _ => False) := by
  refine Met.ofW (cc := cX2_has) (maxL := 2) (ret := (some .boolean)) (by decide) rfl ?_
  intro p e s m args below meth c s₁ B hml hv
  obtain ⟨rfl, hP, hO⟩ := hv
  have hx := B.exec
  have hb := B.bytes
  have hr := B.returns
  have hown : s.vm.findClass RX2 = some m.cls := findClass_of_methodNamed B.named
  have hlocks := B.notSynchronized
  have hK := hO.1
  have hts : ∀ w ∈ lw_E, w.before ([.ref a1, .int p0] : List Value).toArray s = true := fun w h => hO.2 w h _
  clear B
  have hl := lv_entry ([.ref a1, .int p0]) (n := 2) (Nat.le_of_ble_eq_true rfl)
  rw [lg_entry_eq]
  generalize (lg_sl ([.ref a1, .int p0]) ++ List.replicate (2 - (lg_sl ([.ref a1, .int p0])).length) Slot.unset).toArray = ls at hl ⊢
  have hl : lv_has ls 2 [(0, .ref a1), (1, .int p0)] := hl
  refine lv_iload_n hx hb dX2_has_0 rfl (lv_at hl 1 rfl) ?_
  refine lv_if_lt (tgt := 23) hx hb dX2_has_1 (by decide) (fun c1 => ?_) (fun c1 => ?_)
  · skip
    refine lv_iconst (v := 0) hx hb dX2_has_23 (by decide) ?_
    refine W.zret (v := 0) hx hb hr (by decide) (fun t ht hW => ⟨_, rfl, ?_, ht⟩) (fun _ h => nomatch h) dX2_has_24
    subst_vars
    simp_all
  · skip
    refine lv_iload_n hx hb dX2_has_4 rfl (lv_at hl 1 rfl) ?_
    refine lv_bipush (v := 8) hx hb dX2_has_5 (by decide) ?_
    refine lv_icmp_ge (tgt := 23) hx hb dX2_has_7 (by decide) (fun c7 => ?_) (fun c7 => ?_)
    · skip
      refine lv_iconst (v := 0) hx hb dX2_has_23 (by decide) ?_
      refine W.zret (v := 0) hx hb hr (by decide) (fun t ht hW => ⟨_, rfl, ?_, ht⟩) (fun _ h => nomatch h) dX2_has_24
      subst_vars
      simp_all
    · skip
      refine lv_aload_n hx hb dX2_has_10 rfl (lv_at hl 0 rfl) ?_
      refine va_get (D := D) (T := TX2) (N := 2) hx hb hts jnX2 hown hK hP q1 h1 rfl 1 (by decide) (hts _ fl_X2_15) (fun _ h9 => h9) rfl dX2_has_11 ?_
      refine lv_iload_n hx hb dX2_has_14 rfl (lv_at hl 1 rfl) ?_
      refine va_iald (D := D) hx hb hK hP q2 0 h2 rfl (vp_in_cc (n := 8) c1 c7 (by decide)) dX2_has_15 ?_
      refine lv_topi (fun v15 ev15 => ?_)
      refine lv_if_eq (tgt := 23) hx hb dX2_has_16 (by decide) (fun c16 => ?_) (fun c16 => ?_)
      · skip
        refine lv_iconst (v := 0) hx hb dX2_has_23 (by decide) ?_
        refine W.zret (v := 0) hx hb hr (by decide) (fun t ht hW => ⟨_, rfl, ?_, ht⟩) (fun _ h => nomatch h) dX2_has_24
        subst_vars
        simp_all
      · skip
        refine lv_iconst (v := 1) hx hb dX2_has_19 (by decide) ?_
        refine lv_goto (tgt := 24) hx hb dX2_has_20 (by decide) ?_
        refine W.zret (v := 1) hx hb hr (by decide) (fun t ht hW => ⟨_, rfl, ?_, ht⟩) (fun _ h => nomatch h) dX2_has_24
        subst_vars
        simp_all
set_option maxHeartbeats 4000000 in
set_option maxRecDepth 100000 in
theorem c_X5_isSize (l : Launch) (D : va_G) (y : Nat → ClassId) {ws : va_W} (p0 : Int32) : Met l yX5_isSize [.code yX5_isSize cX5_isSize 1 (some .boolean)] ({ frames := 0, cells := 0, slots := 0, locals := 0 }) (va_Pc [.int p0] (PR D y ws)) (vp_Si (fun r => r = if ¬ p0 < 0 ∧ ¬ 1000000 < p0 then 1 else 0)) 0 0 (fun _ => False) := by
  refine Met.ofW (cc := cX5_isSize) (maxL := 1) (ret := (some .boolean)) (by decide) rfl ?_
  intro p e s m args below meth c s₁ B hml hv
  obtain ⟨rfl, hP, hO⟩ := hv
  have hx := B.exec
  have hb := B.bytes
  have hr := B.returns
  have hown : s.vm.findClass RX5 = some m.cls := findClass_of_methodNamed B.named
  have hlocks := B.notSynchronized
  have hK := hO.1
  have hts : ∀ w ∈ lw_E, w.before ([.int p0] : List Value).toArray s = true := fun w h => hO.2 w h _
  clear B
  have hl := lv_entry ([.int p0]) (n := 1) (Nat.le_of_ble_eq_true rfl)
  rw [lg_entry_eq]
  generalize (lg_sl ([.int p0]) ++ List.replicate (1 - (lg_sl ([.int p0])).length) Slot.unset).toArray = ls at hl ⊢
  have hl : lv_has ls 1 [(0, .int p0)] := hl
  refine lv_iload_n hx hb dX5_isSize_0 rfl (lv_at hl 0 rfl) ?_
  refine lv_if_lt (tgt := 14) hx hb dX5_isSize_1 (by decide) (fun c1 => ?_) (fun c1 => ?_)
  · skip
    refine lv_iconst (v := 0) hx hb dX5_isSize_14 (by decide) ?_
    refine W.zret (v := 0) hx hb hr (by decide) (fun t ht hW => ⟨_, rfl, ?_, ht⟩) (fun _ h => nomatch h) dX5_isSize_15
    simp [*]
  · skip
    refine lv_iload_n hx hb dX5_isSize_4 rfl (lv_at hl 0 rfl) ?_
    refine lv_ldc (v := 1000000) hx hb hown (hts _ kc_X5_33) dX5_isSize_5 ?_
    refine lv_icmp_gt (tgt := 14) hx hb dX5_isSize_7 (by decide) (fun c7 => ?_) (fun c7 => ?_)
    · skip
      refine lv_iconst (v := 0) hx hb dX5_isSize_14 (by decide) ?_
      refine W.zret (v := 0) hx hb hr (by decide) (fun t ht hW => ⟨_, rfl, ?_, ht⟩) (fun _ h => nomatch h) dX5_isSize_15
      simp [*]
    · skip
      refine lv_iconst (v := 1) hx hb dX5_isSize_10 (by decide) ?_
      refine lv_goto (tgt := 15) hx hb dX5_isSize_11 (by decide) ?_
      refine W.zret (v := 1) hx hb hr (by decide) (fun t ht hW => ⟨_, rfl, ?_, ht⟩) (fun _ h => nomatch h) dX5_isSize_15
      simp [*]
set_option maxHeartbeats 4000000 in
set_option maxRecDepth 100000 in
theorem c_X5_hasPool (l : Launch) (D : va_G) (y : Nat → ClassId) {ws : va_W} {n1 : Nat} {f2 : Nat → Int32} {q1 a1 : Nat} {z1_1 z1_2 z1_3 : Value} {q2 a2 : Nat} (h1 : ws[q1]? = some (a1, .inr (5, [.int (nI n1), z1_1, z1_2, z1_3, .ref a2]))) (h2 : ws[q2]? = some (a2, .inl (y 2, 40, .inl f2))) (hn1 : n1 ≤ 40) (p0 : Int32) : Met l yX5_hasPool [.code yX5_hasPool cX5_hasPool 2 (some .boolean)] ({ frames := 1, cells := 0, slots := 0, locals := 21 }) (va_Pc [.ref a1, .int p0] (PR D y ws)) (vp_Si (fun r => r = if (¬ p0 < 0 ∧ ¬ nI n1 ≤ p0) ∧ ¬ f2 p0.toNatClampNeg = 0 then 1 else 0)) 0 0 (fun _ => False) := by
  refine Met.ofW (cc := cX5_hasPool) (maxL := 2) (ret := (some .boolean)) (by decide) rfl ?_
  intro p e s m args below meth c s₁ B hml hv
  obtain ⟨rfl, hP, hO⟩ := hv
  have hx := B.exec
  have hb := B.bytes
  have hr := B.returns
  have hown : s.vm.findClass RX5 = some m.cls := findClass_of_methodNamed B.named
  have hlocks := B.notSynchronized
  have hK := hO.1
  have hts : ∀ w ∈ lw_E, w.before ([.ref a1, .int p0] : List Value).toArray s = true := fun w h => hO.2 w h _
  clear B
  have hl := lv_entry ([.ref a1, .int p0]) (n := 2) (Nat.le_of_ble_eq_true rfl)
  rw [lg_entry_eq]
  generalize (lg_sl ([.ref a1, .int p0]) ++ List.replicate (2 - (lg_sl ([.ref a1, .int p0])).length) Slot.unset).toArray = ls at hl ⊢
  have hl : lv_has ls 2 [(0, .ref a1), (1, .int p0)] := hl
  refine lv_aload_n hx hb dX5_hasPool_0 rfl (lv_at hl 0 rfl) ?_
  refine lv_iload_n hx hb dX5_hasPool_1 rfl (lv_at hl 1 rfl) ?_
  refine rk_i (run_v (As := [.int p0]) (rest := []) (b := a1) hx hb hml hown hO.2 (c_X5_has l D y h1 p0) k_X5_has ml_X5_29 ⟨rfl, rfl⟩ ⟨Nat.le_of_ble_eq_true rfl, Nat.le_of_ble_eq_true rfl⟩ (pre_VR hO hP h1 rfl) rfl hl.1 rfl (Nat.le_of_ble_eq_true rfl) dX5_hasPool_2 ⟨(Nat.zero_le _), (Nat.zero_le _)⟩) (fun r2 er2 => ?_)
  try dsimp only at er2
  refine lv_if_eq (tgt := 21) hx hb dX5_hasPool_5 (by decide) (fun c5 => ?_) (fun c5 => ?_)
  · skip
    have c5 := if01_z er2 c5
    refine lv_iconst (v := 0) hx hb dX5_hasPool_21 (by decide) ?_
    refine W.zret (v := 0) hx hb hr (by decide) (fun t ht hW => ⟨_, rfl, ?_, ht⟩) (fun _ h => nomatch h) dX5_hasPool_22
    first | rw [if_neg (fun h9 => c5 h9.1)] | (subst_vars; simp_all; done)
  · skip
    have c5 := if01_n er2 c5
    refine lv_aload_n hx hb dX5_hasPool_8 rfl (lv_at hl 0 rfl) ?_
    refine va_get (D := D) (T := TX5) (N := 5) hx hb hts jnX5 hown hK hP q1 h1 rfl 4 (by decide) (hts _ fl_X5_25) (fun _ h9 => h9) rfl dX5_hasPool_9 ?_
    refine lv_iload_n hx hb dX5_hasPool_12 rfl (lv_at hl 1 rfl) ?_
    refine va_zald (D := D) hx hb hK hP q2 2 h2 rfl (vp_in_le c5.1 c5.2 hn1 (by decide)) dX5_hasPool_13 ?_
    refine lv_topi (fun v13 ev13 => ?_)
    refine lv_if_eq (tgt := 21) hx hb dX5_hasPool_14 (by decide) (fun c14 => ?_) (fun c14 => ?_)
    · skip
      refine lv_iconst (v := 0) hx hb dX5_hasPool_21 (by decide) ?_
      refine W.zret (v := 0) hx hb hr (by decide) (fun t ht hW => ⟨_, rfl, ?_, ht⟩) (fun _ h => nomatch h) dX5_hasPool_22
      first | rw [if_neg (fun h9 => c5 h9.1)] | (subst_vars; simp_all; done)
    · skip
      refine lv_iconst (v := 1) hx hb dX5_hasPool_17 (by decide) ?_
      refine lv_goto (tgt := 22) hx hb dX5_hasPool_18 (by decide) ?_
      refine W.zret (v := 1) hx hb hr (by decide) (fun t ht hW => ⟨_, rfl, ?_, ht⟩) (fun _ h => nomatch h) dX5_hasPool_22
      first | rw [if_neg (fun h9 => c5 h9.1)] | (subst_vars; simp_all; done)
set_option maxHeartbeats 4000000 in
set_option maxRecDepth 100000 in
theorem c_X8_alignUp (l : Launch) (D : va_G) (y : Nat → ClassId) {ws : va_W} {a0 k0 : Nat} (ha : a0 < 2 ^ 40) (hk : k0 ≤ 12) : Met l yX8_alignUp [.code yX8_alignUp cX8_alignUp 4 (some .long)] ({ frames := 0, cells := 0, slots := 0, locals := 0 }) (va_Pc [.long (lN a0), .long (lN (2 ^ k0))] (PR D y ws)) (vp_Sl (fun r => r = lN (up a0 k0))) 0 0 (fun _ => False) := by
  refine Met.ofW (cc := cX8_alignUp) (maxL := 4) (ret := (some .long)) (by decide) rfl ?_
  intro p e s m args below meth c s₁ B hml hv
  obtain ⟨rfl, hP, hO⟩ := hv
  have hx := B.exec
  have hb := B.bytes
  have hr := B.returns
  have hown : s.vm.findClass RX8 = some m.cls := findClass_of_methodNamed B.named
  have hlocks := B.notSynchronized
  have hK := hO.1
  have hts : ∀ w ∈ lw_E, w.before ([.long (lN a0), .long (lN (2 ^ k0))] : List Value).toArray s = true := fun w h => hO.2 w h _
  clear B
  have hl := lv_entry ([.long (lN a0), .long (lN (2 ^ k0))]) (n := 4) (Nat.le_of_ble_eq_true rfl)
  rw [lg_entry_eq]
  generalize (lg_sl ([.long (lN a0), .long (lN (2 ^ k0))]) ++ List.replicate (4 - (lg_sl ([.long (lN a0), .long (lN (2 ^ k0))])).length) Slot.unset).toArray = ls at hl ⊢
  have hl : lv_has ls 4 [(0, .long (lN a0)), (2, .long (lN (2 ^ k0)))] := hl
  refine lv_lload_n hx hb dX8_alignUp_0 rfl (lv_at hl 0 rfl) ?_
  refine lv_lload_n hx hb dX8_alignUp_1 rfl (lv_at hl 1 rfl) ?_
  refine lv_ladd hx hb dX8_alignUp_2 ?_
  refine lv_topl (fun v2 ev2 => ?_)
  refine lv_lconst (v := 1) hx hb dX8_alignUp_3 (by decide) ?_
  refine lv_lsub hx hb dX8_alignUp_4 ?_
  refine lv_topl (fun v4 ev4 => ?_)
  refine lv_lload_n hx hb dX8_alignUp_5 rfl (lv_at hl 1 rfl) ?_
  refine lv_lneg hx hb dX8_alignUp_6 ?_
  refine lv_topl (fun v6 ev6 => ?_)
  refine lv_land hx hb dX8_alignUp_7 ?_
  refine lv_topl (fun v7 ev7 => ?_)
  refine W.lret (v := v7) hx hb hr (fun t ht hW => ⟨_, rfl, ?_, ht⟩) (fun _ h => nomatch h) dX8_alignUp_8
  subst_vars
  exact align_up ha hk
set_option maxHeartbeats 4000000 in
set_option maxRecDepth 100000 in
theorem c_X7_hasThunks (l : Launch) (D : va_G) (y : Nat → ClassId) {ws : va_W} {n1 : Nat} {q1 a1 : Nat} {z1_0 z1_1 z1_2 z1_3 z1_4 z1_6 z1_7 : Value} (h1 : ws[q1]? = some (a1, .inr (7, [z1_0, z1_1, z1_2, z1_3, z1_4, .int (nI n1), z1_6, z1_7]))) : Met l yX7_hasThunks [.code yX7_hasThunks cX7_hasThunks 1 (some .boolean)] ({ frames := 0, cells := 0, slots := 0, locals := 0 }) (va_Pc [.ref a1] (PR D y ws)) (vp_Si (fun r => r = if ¬ nI n1 ≤ 0 then 1 else 0)) 0 0 (fun _ => False) := by
  refine Met.ofW (cc := cX7_hasThunks) (maxL := 1) (ret := (some .boolean)) (by decide) rfl ?_
  intro p e s m args below meth c s₁ B hml hv
  obtain ⟨rfl, hP, hO⟩ := hv
  have hx := B.exec
  have hb := B.bytes
  have hr := B.returns
  have hown : s.vm.findClass RX7 = some m.cls := findClass_of_methodNamed B.named
  have hlocks := B.notSynchronized
  have hK := hO.1
  have hts : ∀ w ∈ lw_E, w.before ([.ref a1] : List Value).toArray s = true := fun w h => hO.2 w h _
  clear B
  have hl := lv_entry ([.ref a1]) (n := 1) (Nat.le_of_ble_eq_true rfl)
  rw [lg_entry_eq]
  generalize (lg_sl ([.ref a1]) ++ List.replicate (1 - (lg_sl ([.ref a1])).length) Slot.unset).toArray = ls at hl ⊢
  have hl : lv_has ls 1 [(0, .ref a1)] := hl
  refine lv_aload_n hx hb dX7_hasThunks_0 rfl (lv_at hl 0 rfl) ?_
  refine va_get (D := D) (T := TX7) (N := 8) hx hb hts jnX7 hown hK hP q1 h1 rfl 5 (by decide) (hts _ fl_X7_43) (fun _ h9 => h9) rfl dX7_hasThunks_1 ?_
  refine lv_if_le (tgt := 11) hx hb dX7_hasThunks_4 (by decide) (fun c4 => ?_) (fun c4 => ?_)
  · skip
    refine lv_iconst (v := 0) hx hb dX7_hasThunks_11 (by decide) ?_
    refine W.zret (v := 0) hx hb hr (by decide) (fun t ht hW => ⟨_, rfl, ?_, ht⟩) (fun _ h => nomatch h) dX7_hasThunks_12
    simp [*]
  · skip
    refine lv_iconst (v := 1) hx hb dX7_hasThunks_7 (by decide) ?_
    refine lv_goto (tgt := 12) hx hb dX7_hasThunks_8 (by decide) ?_
    refine W.zret (v := 1) hx hb hr (by decide) (fun t ht hW => ⟨_, rfl, ?_, ht⟩) (fun _ h => nomatch h) dX7_hasThunks_12
    simp [*]
set_option maxHeartbeats 4000000 in
set_option maxRecDepth 100000 in
theorem c_X7_thunkStride (l : Launch) (D : va_G) (y : Nat → ClassId) {ws : va_W} {n1 n2 : Nat} {q1 a1 : Nat} {z1_0 z1_1 z1_2 z1_3 z1_4 z1_7 : Value} (h1 : ws[q1]? = some (a1, .inr (7, [z1_0, z1_1, z1_2, z1_3, z1_4, .int (nI n1), .int (nI (2 ^ n2)), z1_7]))) (hn1 : n1 ≤ 64) (hn2 : n2 ≤ 6) : Met l yX7_thunkStride [.code yX7_thunkStride cX7_thunkStride 1 (some .long)] ({ frames := 1, cells := 0, slots := 0, locals := 23 }) (va_Pc [.ref a1] (PR D y ws)) (vp_Sl (fun r => r = lN (up n1 n2))) 0 0 (fun _ => False) := by
  refine Met.ofW (cc := cX7_thunkStride) (maxL := 1) (ret := (some .long)) (by decide) rfl ?_
  intro p e s m args below meth c s₁ B hml hv
  obtain ⟨rfl, hP, hO⟩ := hv
  have hx := B.exec
  have hb := B.bytes
  have hr := B.returns
  have hown : s.vm.findClass RX7 = some m.cls := findClass_of_methodNamed B.named
  have hlocks := B.notSynchronized
  have hK := hO.1
  have hts : ∀ w ∈ lw_E, w.before ([.ref a1] : List Value).toArray s = true := fun w h => hO.2 w h _
  clear B
  have hl := lv_entry ([.ref a1]) (n := 1) (Nat.le_of_ble_eq_true rfl)
  rw [lg_entry_eq]
  generalize (lg_sl ([.ref a1]) ++ List.replicate (1 - (lg_sl ([.ref a1])).length) Slot.unset).toArray = ls at hl ⊢
  have hl : lv_has ls 1 [(0, .ref a1)] := hl
  have h26 : 2 ^ n2 ≤ 2 ^ 6 := Nat.pow_le_pow_right (by decide) hn2
  refine lv_aload_n hx hb dX7_thunkStride_0 rfl (lv_at hl 0 rfl) ?_
  refine va_get (D := D) (T := TX7) (N := 8) hx hb hts jnX7 hown hK hP q1 h1 rfl 5 (by decide) (hts _ fl_X7_43) (fun _ h9 => h9) rfl dX7_thunkStride_1 ?_
  refine lv_i2l (v := lN n1) hx hb dX7_thunkStride_4 (nI_l (by omega)) ?_
  refine lv_aload_n hx hb dX7_thunkStride_5 rfl (lv_at hl 0 rfl) ?_
  refine va_get (D := D) (T := TX7) (N := 8) hx hb hts jnX7 hown hK hP q1 h1 rfl 6 (by decide) (hts _ fl_X7_46) (fun _ h9 => h9) rfl dX7_thunkStride_6 ?_
  refine lv_i2l (v := lN (2 ^ n2)) hx hb dX7_thunkStride_9 (nI_l (by omega)) ?_
  refine rk_l (run_sn (As := [.long (lN n1), .long (lN (2 ^ n2))]) (rest := []) hx hb hml hown hO.2 (c_X8_alignUp l D y (a0 := n1) (k0 := n2) (by omega) (by omega)) k_X8_alignUp mn_X7_69 ⟨rfl, rfl⟩ ⟨Nat.le_of_ble_eq_true rfl, Nat.le_of_ble_eq_true rfl⟩ (pre_SR hO hP) rfl hl.1 rfl (Nat.le_of_ble_eq_true rfl) dX7_thunkStride_10 ⟨(Nat.zero_le _), (Nat.zero_le _)⟩) (fun r10 er10 => ?_)
  try dsimp only at er10
  refine W.lret (v := r10) hx hb hr (fun t ht hW => ⟨_, rfl, ?_, ht⟩) (fun _ h => nomatch h) dX7_thunkStride_13
  exact er10
set_option maxHeartbeats 4000000 in
set_option maxRecDepth 100000 in
theorem c_X6_numberOf (l : Launch) (D : va_G) (y : Nat → ClassId) {ws : va_W} {f2 : Nat → Int32} {q1 a1 : Nat} {z1_0 z1_1 z1_2 z1_3 z1_4 z1_5 z1_6 z1_7 z1_8 z1_9 : Value} {q2 a2 : Nat} (h1 : ws[q1]? = some (a1, .inr (6, [z1_0, z1_1, z1_2, z1_3, z1_4, z1_5, z1_6, z1_7, z1_8, z1_9, .ref a2]))) (h2 : ws[q2]? = some (a2, .inl (y 0, 2400, .inl f2))) {s0 l0 : Nat} (hs : s0 < 40) (hl0 : l0 < 60) : Met l yX6_numberOf [.code yX6_numberOf cX6_numberOf 3 (some .int)] ({ frames := 0, cells := 0, slots := 0, locals := 0 }) (va_Pc [.ref a1, .int (nI s0), .int (nI l0)] (PR D y ws)) (vp_Si (fun r => r = f2 (s0 * 60 + l0))) 0 0 (fun _ => False) := by
  refine Met.ofW (cc := cX6_numberOf) (maxL := 3) (ret := (some .int)) (by decide) rfl ?_
  intro p e s m args below meth c s₁ B hml hv
  obtain ⟨rfl, hP, hO⟩ := hv
  have hx := B.exec
  have hb := B.bytes
  have hr := B.returns
  have hown : s.vm.findClass RX6 = some m.cls := findClass_of_methodNamed B.named
  have hlocks := B.notSynchronized
  have hK := hO.1
  have hts : ∀ w ∈ lw_E, w.before ([.ref a1, .int (nI s0), .int (nI l0)] : List Value).toArray s = true := fun w h => hO.2 w h _
  clear B
  have hl := lv_entry ([.ref a1, .int (nI s0), .int (nI l0)]) (n := 3) (Nat.le_of_ble_eq_true rfl)
  rw [lg_entry_eq]
  generalize (lg_sl ([.ref a1, .int (nI s0), .int (nI l0)]) ++ List.replicate (3 - (lg_sl ([.ref a1, .int (nI s0), .int (nI l0)])).length) Slot.unset).toArray = ls at hl ⊢
  have hl : lv_has ls 3 [(0, .ref a1), (1, .int (nI s0)), (2, .int (nI l0))] := hl
  refine lv_aload_n hx hb dX6_numberOf_0 rfl (lv_at hl 0 rfl) ?_
  refine va_get (D := D) (T := TX6) (N := 11) hx hb hts jnX6 hown hK hP q1 h1 rfl 10 (by decide) (hts _ fl_X6_44) (fun _ h9 => h9) rfl dX6_numberOf_1 ?_
  refine lv_iload_n hx hb dX6_numberOf_4 rfl (lv_at hl 1 rfl) ?_
  refine lv_bipush (v := 60) hx hb dX6_numberOf_5 (by decide) ?_
  refine lv_imul hx hb dX6_numberOf_7 ?_
  refine lv_topi (fun v7 ev7 => ?_)
  obtain rfl : v7 = (nI (s0 * 60)) := by
    rw [ev7, show (60 : Int32) = nI 60 from rfl, pk_mul]
  refine lv_iload_n hx hb dX6_numberOf_8 rfl (lv_at hl 2 rfl) ?_
  refine lv_iadd hx hb dX6_numberOf_9 ?_
  refine lv_topi (fun v9 ev9 => ?_)
  obtain rfl : v9 = (nI (s0 * 60 + l0)) := by
    rw [ev9, nI_add]
  refine va_iald (D := D) hx hb hK hP q2 0 h2 rfl (vp_in_nI (by omega) (by omega)) dX6_numberOf_10 ?_
  rw [nI_clamp (n := s0 * 60 + l0) (by omega)]
  refine lv_topi (fun v10 ev10 => ?_)
  refine W.iret (v := v10) hx hb hr (fun t ht hW => ⟨_, rfl, ?_, ht⟩) (fun _ h => nomatch h) dX6_numberOf_11
  subst_vars
  rfl
set_option maxHeartbeats 4000000 in
set_option maxRecDepth 100000 in
theorem c_X6_isMade (l : Launch) (D : va_G) (y : Nat → ClassId) {ws : va_W} {n1 : Int32} {f2 : Nat → Int32} {q1 a1 : Nat} {z1_1 z1_2 z1_3 z1_4 z1_5 z1_6 z1_7 z1_8 z1_9 : Value} {q2 a2 : Nat} (h1 : ws[q1]? = some (a1, .inr (6, [.int n1, z1_1, z1_2, z1_3, z1_4, z1_5, z1_6, z1_7, z1_8, z1_9, .ref a2]))) (h2 : ws[q2]? = some (a2, .inl (y 0, 2400, .inl f2))) {s0 l0 : Nat} (hs : s0 < 40) (hl0 : l0 < 60) : Met l yX6_isMade [.code yX6_isMade cX6_isMade 3 (some .boolean)] ({ frames := 1, cells := 0, slots := 0, locals := 22 }) (va_Pc [.ref a1, .int (nI s0), .int (nI l0)] (PR D y ws)) (vp_Si (fun r => r = if ¬ f2 (s0 * 60 + l0) < 0 ∧ ¬ n1 ≤ f2 (s0 * 60 + l0) then 1 else 0)) 0 0 (fun _ => False) := by
  refine Met.ofW (cc := cX6_isMade) (maxL := 3) (ret := (some .boolean)) (by decide) rfl ?_
  intro p e s m args below meth c s₁ B hml hv
  obtain ⟨rfl, hP, hO⟩ := hv
  have hx := B.exec
  have hb := B.bytes
  have hr := B.returns
  have hown : s.vm.findClass RX6 = some m.cls := findClass_of_methodNamed B.named
  have hlocks := B.notSynchronized
  have hK := hO.1
  have hts : ∀ w ∈ lw_E, w.before ([.ref a1, .int (nI s0), .int (nI l0)] : List Value).toArray s = true := fun w h => hO.2 w h _
  clear B
  have hl := lv_entry ([.ref a1, .int (nI s0), .int (nI l0)]) (n := 3) (Nat.le_of_ble_eq_true rfl)
  rw [lg_entry_eq]
  generalize (lg_sl ([.ref a1, .int (nI s0), .int (nI l0)]) ++ List.replicate (3 - (lg_sl ([.ref a1, .int (nI s0), .int (nI l0)])).length) Slot.unset).toArray = ls at hl ⊢
  have hl : lv_has ls 3 [(0, .ref a1), (1, .int (nI s0)), (2, .int (nI l0))] := hl
  refine lv_aload_n hx hb dX6_isMade_0 rfl (lv_at hl 0 rfl) ?_
  refine lv_aload_n hx hb dX6_isMade_1 rfl (lv_at hl 0 rfl) ?_
  refine lv_iload_n hx hb dX6_isMade_2 rfl (lv_at hl 1 rfl) ?_
  refine lv_iload_n hx hb dX6_isMade_3 rfl (lv_at hl 2 rfl) ?_
  refine rk_i (run_v (As := [.int (nI s0), .int (nI l0)]) (rest := [.ref a1]) (b := a1) hx hb hml hown hO.2 (c_X6_numberOf l D y h1 h2 hs hl0) k_X6_numberOf ml_X6_53 ⟨rfl, rfl⟩ ⟨Nat.le_of_ble_eq_true rfl, Nat.le_of_ble_eq_true rfl⟩ (pre_VR hO hP h1 rfl) rfl hl.1 rfl (Nat.le_of_ble_eq_true rfl) dX6_isMade_4 ⟨(Nat.zero_le _), (Nat.zero_le _)⟩) (fun r4 er4 => ?_)
  try dsimp only at er4
  obtain rfl : r4 = (f2 (s0 * 60 + l0)) := by
    exact er4
  refine rk_i (run_v (As := [.int (f2 (s0 * 60 + l0))]) (rest := []) (b := a1) hx hb hml hown hO.2 (c_X6_has l D y h1 (f2 (s0 * 60 + l0))) k_X6_has ml_X6_57 ⟨rfl, rfl⟩ ⟨Nat.le_of_ble_eq_true rfl, Nat.le_of_ble_eq_true rfl⟩ (pre_VR hO hP h1 rfl) rfl hl.1 rfl (Nat.le_of_ble_eq_true rfl) dX6_isMade_7 ⟨(Nat.zero_le _), (Nat.zero_le _)⟩) (fun r7 er7 => ?_)
  try dsimp only at er7
  refine W.zret (v := r7) hx hb hr (if01_narrow er7) (fun t ht hW => ⟨_, rfl, ?_, ht⟩) (fun _ h => nomatch h) dX6_isMade_10
  exact er7
set_option maxHeartbeats 4000000 in
set_option maxRecDepth 100000 in
theorem c_X6_isWanted (l : Launch) (D : va_G) (y : Nat → ClassId) {ws : va_W} {n1 : Int32} {f2 : Nat → Int32} {q1 a1 : Nat} {z1_1 z1_2 z1_3 z1_4 z1_5 z1_6 z1_7 z1_8 z1_9 : Value} {q2 a2 : Nat} (h1 : ws[q1]? = some (a1, .inr (6, [.int n1, z1_1, z1_2, z1_3, z1_4, z1_5, z1_6, z1_7, z1_8, z1_9, .ref a2]))) (h2 : ws[q2]? = some (a2, .inl (y 0, 2400, .inl f2))) {s0 l0 : Nat} (hs : s0 < 40) (hl0 : l0 < 60) : Met l yX6_isWanted [.code yX6_isWanted cX6_isWanted 3 (some .boolean)] ({ frames := 1, cells := 0, slots := 0, locals := 22 }) (va_Pc [.ref a1, .int (nI s0), .int (nI l0)] (PR D y ws)) (vp_Si (fun r => r = if ¬ f2 (s0 * 60 + l0) < n1 then 1 else 0)) 0 0 (fun _ => False) := by
  refine Met.ofW (cc := cX6_isWanted) (maxL := 3) (ret := (some .boolean)) (by decide) rfl ?_
  intro p e s m args below meth c s₁ B hml hv
  obtain ⟨rfl, hP, hO⟩ := hv
  have hx := B.exec
  have hb := B.bytes
  have hr := B.returns
  have hown : s.vm.findClass RX6 = some m.cls := findClass_of_methodNamed B.named
  have hlocks := B.notSynchronized
  have hK := hO.1
  have hts : ∀ w ∈ lw_E, w.before ([.ref a1, .int (nI s0), .int (nI l0)] : List Value).toArray s = true := fun w h => hO.2 w h _
  clear B
  have hl := lv_entry ([.ref a1, .int (nI s0), .int (nI l0)]) (n := 3) (Nat.le_of_ble_eq_true rfl)
  rw [lg_entry_eq]
  generalize (lg_sl ([.ref a1, .int (nI s0), .int (nI l0)]) ++ List.replicate (3 - (lg_sl ([.ref a1, .int (nI s0), .int (nI l0)])).length) Slot.unset).toArray = ls at hl ⊢
  have hl : lv_has ls 3 [(0, .ref a1), (1, .int (nI s0)), (2, .int (nI l0))] := hl
  refine lv_aload_n hx hb dX6_isWanted_0 rfl (lv_at hl 0 rfl) ?_
  refine lv_iload_n hx hb dX6_isWanted_1 rfl (lv_at hl 1 rfl) ?_
  refine lv_iload_n hx hb dX6_isWanted_2 rfl (lv_at hl 2 rfl) ?_
  refine rk_i (run_v (As := [.int (nI s0), .int (nI l0)]) (rest := []) (b := a1) hx hb hml hown hO.2 (c_X6_numberOf l D y h1 h2 hs hl0) k_X6_numberOf ml_X6_53 ⟨rfl, rfl⟩ ⟨Nat.le_of_ble_eq_true rfl, Nat.le_of_ble_eq_true rfl⟩ (pre_VR hO hP h1 rfl) rfl hl.1 rfl (Nat.le_of_ble_eq_true rfl) dX6_isWanted_3 ⟨(Nat.zero_le _), (Nat.zero_le _)⟩) (fun r3 er3 => ?_)
  try dsimp only at er3
  obtain rfl : r3 = (f2 (s0 * 60 + l0)) := by
    exact er3
  refine lv_aload_n hx hb dX6_isWanted_6 rfl (lv_at hl 0 rfl) ?_
  refine va_get (D := D) (T := TX6) (N := 11) hx hb hts jnX6 hown hK hP q1 h1 rfl 0 (by decide) (hts _ fl_X6_9) (fun _ h9 => h9) rfl dX6_isWanted_7 ?_
  refine lv_icmp_lt (tgt := 17) hx hb dX6_isWanted_10 (by decide) (fun c10 => ?_) (fun c10 => ?_)
  · skip
    refine lv_iconst (v := 0) hx hb dX6_isWanted_17 (by decide) ?_
    refine W.zret (v := 0) hx hb hr (by decide) (fun t ht hW => ⟨_, rfl, ?_, ht⟩) (fun _ h => nomatch h) dX6_isWanted_18
    simp [*]
  · skip
    refine lv_iconst (v := 1) hx hb dX6_isWanted_13 (by decide) ?_
    refine lv_goto (tgt := 18) hx hb dX6_isWanted_14 (by decide) ?_
    refine W.zret (v := 1) hx hb hr (by decide) (fun t ht hW => ⟨_, rfl, ?_, ht⟩) (fun _ h => nomatch h) dX6_isWanted_18
    simp [*]
end
section
/-! PURE: longs as whole numbers -/
def zN (z : Int) : Int64 := Int64.ofInt z
theorem lN_z (n : Nat) : lN n = zN n := Int64.ofInt_eq_ofNat.symm
theorem zN_toInt {z : Int} (h1 : -2 ^ 63 ≤ z) (h2 : z < 2 ^ 63) : (zN z).toInt = z := Int64.toInt_ofInt_of_le h1 h2
theorem zN_add (a b : Int) : zN a + zN b = zN (a + b) := (Int64.ofInt_add a b).symm
theorem zN_sub (a b : Int) : zN a - zN b = zN (a - b) := (Int64.ofInt_sub a b).symm
theorem zN_mul (a b : Int) : zN a * zN b = zN (a * b) := (Int64.ofInt_mul a b).symm
theorem zN_neg (a : Int) : -zN a = zN (-a) := (Int64.ofInt_neg a).symm
theorem zN_lt {a b : Int} (h1 : -2 ^ 63 ≤ a) (h2 : a < 2 ^ 63) (h3 : -2 ^ 63 ≤ b) (h4 : b < 2 ^ 63) : zN a < zN b ↔ a < b := by
  rw [Int64.lt_iff_toInt_lt, zN_toInt h1 h2, zN_toInt h3 h4]
theorem zN_le {a b : Int} (h1 : -2 ^ 63 ≤ a) (h2 : a < 2 ^ 63) (h3 : -2 ^ 63 ≤ b) (h4 : b < 2 ^ 63) : zN a ≤ zN b ↔ a ≤ b := by
  rw [Int64.le_iff_toInt_le, zN_toInt h1 h2, zN_toInt h3 h4]
theorem zN_eq {a b : Int} (h1 : -2 ^ 63 ≤ a) (h2 : a < 2 ^ 63) (h3 : -2 ^ 63 ≤ b) (h4 : b < 2 ^ 63) : zN a = zN b ↔ a = b := by
  rw [← Int64.toInt_inj, zN_toInt h1 h2, zN_toInt h3 h4]
set_option maxRecDepth 20000 in
theorem sh63 : ∀ k, k < 64 → (((nI k).toInt64 &&& 63).toBitVec.smod 64).toNat = k := by decide +kernel
theorem zN_shr {z : Int} {k : Nat} (hk : k < 64) (h1 : -2 ^ 63 ≤ z) (h2 : z < 2 ^ 63) : zN z >>> ((nI k).toInt64 &&& 63) = zN (z / 2 ^ k) := by
  apply Int64.toInt_inj.mp
  show ((zN z).toBitVec.sshiftRight (((nI k).toInt64 &&& 63).toBitVec.smod 64).toNat).toInt = _
  rw [sh63 k hk, BitVec.toInt_sshiftRight]
  show (zN z).toInt >>> k = _
  have hp : (0 : Int) < 2 ^ k := Int.pow_pos (by decide)
  have hd1 := Int.ediv_mul_le z (b := 2 ^ k) (by omega)
  have hp1 : (1 : Int) ≤ 2 ^ k := hp
  rw [zN_toInt h1 h2, Int.shiftRight_eq_div_pow, zN_toInt]
  · rfl
  · by_cases hz : 0 ≤ z
    · have := Int.ediv_nonneg hz (by omega : (0 : Int) ≤ 2 ^ k)
      omega
    · have : z ≤ z / 2 ^ k := by
        apply Int.le_ediv_of_mul_le hp
        have : z * 2 ^ k ≤ z * 1 := Int.mul_le_mul_of_nonpos_left (by omega) hp1
        omega
      omega
  · by_cases hz : 0 ≤ z
    · have := Int.ediv_le_self (2 ^ k) hz
      omega
    · have := Int.ediv_neg_of_neg_of_pos (by omega : z < 0) hp
      omega
theorem zN_shl {z : Int} {k : Nat} (hk : k < 64) : zN z <<< ((nI k).toInt64 &&& 63) = zN (z * 2 ^ k) := by
  apply Int64.toBitVec_inj.mp
  show (zN z).toBitVec <<< (((nI k).toInt64 &&& 63).toBitVec.smod 64).toNat = _
  rw [sh63 k hk, BitVec.shiftLeft_eq_mul_twoPow]
  apply BitVec.eq_of_toInt_eq
  rw [BitVec.toInt_mul]
  show _ = (Int64.ofInt (z * 2 ^ k)).toInt
  rw [Int64.toInt_ofInt]
  show ((zN z).toInt * _).bmod _ = _
  unfold zN
  rw [Int64.toInt_ofInt]
  rw [Int.bmod_mul_bmod]
  have e : (BitVec.twoPow 64 k).toInt.bmod (2 ^ 64) = ((2 : Int) ^ k).bmod (2 ^ 64) := by
    have : ∀ k, k < 64 → (BitVec.twoPow 64 k).toInt.bmod (2 ^ 64) = ((2 : Int) ^ k).bmod (2 ^ 64) := by decide +kernel
    exact this k hk
  rw [← Int.mul_bmod_bmod, e, Int.mul_bmod_bmod]
theorem one_z : (1 : Int64) = zN 1 := rfl
theorem zero_z : (0 : Int64) = zN 0 := rfl
/-- a kind's reach: the way is a multiple of 2^sh, in bi bits -/
def rch (sh bi a b : Nat) : Bool := decide (((b : Int) - a) % (2 ^ sh : Int) = 0 ∧ -(2 ^ (bi - 1) * 2 ^ sh : Int) ≤ (b : Int) - a ∧ (b : Int) - a < (2 ^ (bi - 1) * 2 ^ sh : Int))
theorem pow_b {k n : Nat} (h : k ≤ n) : (2 : Int) ^ k ≤ 2 ^ n := by
  exact_mod_cast Nat.pow_le_pow_right (by decide : 0 < 2) h
theorem pow_p (k : Nat) : (1 : Int) ≤ 2 ^ k := by
  exact_mod_cast Nat.one_le_two_pow
theorem rch_class {sh bi a b : Nat} (hsh : sh ≤ 3) (hb1 : 1 ≤ bi) (hb2 : bi ≤ 30) (ha : a < 2 ^ 40) (hb : b < 2 ^ 40) {way steps half bk : Int64} (e1 : way = lN b - lN a) (e2 : steps = way >>> ((nI sh).toInt64 &&& 63)) (e3 : half = 1 <<< ((nI (bi - 1)).toInt64 &&& 63)) (e4 : bk = steps <<< ((nI sh).toInt64 &&& 63)) : (bk = way ∧ ¬ steps < -half ∧ ¬ half ≤ steps) ↔ rch sh bi a b = true := by
  have p1 := pow_b hsh
  have p2 := pow_p sh
  have p3 := pow_b (show bi - 1 ≤ 29 by omega)
  have p4 := pow_p (bi - 1)
  rw [lN_z, lN_z, zN_sub] at e1
  subst e1
  rw [zN_shr (by omega) (by omega) (by omega)] at e2
  subst e2
  rw [zN_shl (by omega)] at e4
  subst e4
  rw [one_z, zN_shl (by omega), Int.one_mul] at e3
  subst e3
  generalize hd : (b : Int) - a = d
  have hd1 : -2 ^ 40 ≤ d := by omega
  have hd2 : d < 2 ^ 40 := by omega
  have h1 := Int.ediv_mul_add_emod d (2 ^ sh)
  have h2 := Int.emod_nonneg d (show (2 ^ sh : Int) ≠ 0 by omega)
  have h3 := Int.emod_lt_of_pos d (show (0 : Int) < 2 ^ sh by omega)
  generalize hq : d / 2 ^ sh = q at *
  generalize hr : d % 2 ^ sh = r at *
  have hq1 : -2 ^ 41 ≤ q := by
    by_cases h : 0 ≤ q
    · omega
    · have : q * 2 ^ sh ≤ q * 1 := Int.mul_le_mul_of_nonpos_left (by omega) (by omega)
      have h5 : q * 2 ^ sh = d - r := by omega
      by_cases h6 : -2 ^ 41 ≤ q
      · exact h6
      · have : q * 2 ^ sh ≤ (-2 ^ 41) * 2 ^ sh := Int.mul_le_mul_of_nonneg_right (by omega) (by omega)
        have : (-2 ^ 41 : Int) * 2 ^ sh ≤ (-2 ^ 41) * 1 := Int.mul_le_mul_of_nonpos_left (by omega) (by omega)
        omega
  have hq2 : q < 2 ^ 41 := by
    by_cases h6 : q < 2 ^ 41
    · exact h6
    · have : (2 ^ 41 : Int) * 2 ^ sh ≤ q * 2 ^ sh := Int.mul_le_mul_of_nonneg_right (by omega) (by omega)
      have : (2 ^ 41 : Int) * 1 ≤ (2 ^ 41) * 2 ^ sh := Int.mul_le_mul_of_nonneg_left (by omega) (by omega)
      omega
  have hm : q * 2 ^ sh = d - r := by omega
  rw [zN_eq (by omega) (by omega) (by omega) (by omega), zN_neg, zN_lt (by omega) (by omega) (by omega) (by omega), zN_le (by omega) (by omega) (by omega) (by omega)]
  unfold rch
  rw [hd, hr, decide_eq_true_iff]
  have hneg : -((2 : Int) ^ (bi - 1) * 2 ^ sh) = (-2 ^ (bi - 1)) * 2 ^ sh := by rw [Int.neg_mul]
  constructor
  · rintro ⟨g1, g2, g3⟩
    refine ⟨by omega, ?_, ?_⟩
    · rw [hneg]
      have : (-2 ^ (bi - 1) : Int) * 2 ^ sh ≤ q * 2 ^ sh := Int.mul_le_mul_of_nonneg_right (by omega) (by omega)
      omega
    · have : q * 2 ^ sh < 2 ^ (bi - 1) * 2 ^ sh := Int.mul_lt_mul_of_pos_right (by omega) (by omega)
      omega
  · rintro ⟨g1, g2, g3⟩
    refine ⟨by omega, ?_, ?_⟩
    · intro g4
      have : q * 2 ^ sh < (-2 ^ (bi - 1) : Int) * 2 ^ sh := Int.mul_lt_mul_of_pos_right (by omega) (by omega)
      rw [hneg] at g2
      omega
    · intro g4
      have : (2 ^ (bi - 1) : Int) * 2 ^ sh ≤ q * 2 ^ sh := Int.mul_le_mul_of_nonneg_right (by omega) (by omega)
      omega
end
section
/-! PURE: what is encoded -/
theorem zN_and {z : Int} {k : Nat} (hk : k ≤ 62) : zN z &&& (zN (2 ^ k) - 1) = zN (z % 2 ^ k) := by
  rw [one_z, zN_sub]
  apply Int64.toBitVec_inj.mp
  rw [Int64.toBitVec_and]
  apply BitVec.eq_of_toNat_eq
  rw [BitVec.toNat_and]
  show (BitVec.ofInt 64 z).toNat &&& (BitVec.ofInt 64 (2 ^ k - 1)).toNat = (BitVec.ofInt 64 (z % 2 ^ k)).toNat
  rw [BitVec.toNat_ofInt, BitVec.toNat_ofInt, BitVec.toNat_ofInt]
  have p1 := pow_b hk
  have p2 := pow_p k
  have e1 : (((2 : Int) ^ k - 1) % ((2 ^ 64 : Nat) : Int)).toNat = 2 ^ k - 1 := by
    rw [Int.emod_eq_of_lt (by omega) (by omega)]
    have : ((2 ^ k : Nat) : Int) = (2 : Int) ^ k := by norm_cast
    omega
  rw [e1, Nat.and_two_pow_sub_one_eq_mod]
  have hz := Int.emod_nonneg z (show ((2 ^ 64 : Nat) : Int) ≠ 0 by omega)
  have hdv : ((2 : Int) ^ k) ∣ ((2 ^ 64 : Nat) : Int) := by
    have : (2 ^ 64 : Nat) = 2 ^ k * 2 ^ (64 - k) := by rw [← Nat.pow_add]; congr 1; omega
    rw [this]
    exact ⟨(2 : Int) ^ (64 - k), by norm_cast⟩
  have e2 : z % ((2 ^ 64 : Nat) : Int) % (2 ^ k) = z % 2 ^ k := Int.emod_emod_of_dvd z hdv
  have g1 := Int.emod_nonneg z (show ((2 : Int) ^ k) ≠ 0 by omega)
  have g2 := Int.emod_lt_of_pos z (show (0 : Int) < 2 ^ k by omega)
  rw [Int.emod_eq_of_lt (a := z % 2 ^ k) (by omega) (by omega), ← e2]
  generalize z % ((2 ^ 64 : Nat) : Int) = w at *
  obtain ⟨n, rfl⟩ := Int.eq_ofNat_of_zero_le hz
  have : (2 : Int) ^ k = ((2 ^ k : Nat) : Int) := by norm_cast
  rw [this]
  norm_cast
def cde (sh bi a b : Nat) : Nat := ((((b : Int) - a) / 2 ^ sh) % 2 ^ bi).toNat
theorem cde_z (sh bi a b : Nat) : ((cde sh bi a b : Nat) : Int) = (((b : Int) - a) / 2 ^ sh) % 2 ^ bi := by
  unfold cde
  have p2 := pow_p bi
  have := Int.emod_nonneg (((b : Int) - a) / 2 ^ sh) (show ((2 : Int) ^ bi) ≠ 0 by omega)
  omega
theorem cde_lt {sh bi a b : Nat} (hb : bi ≤ 30) : cde sh bi a b < 2 ^ 30 := by
  have h := cde_z sh bi a b
  have p1 := pow_b hb
  have p2 := pow_p bi
  have := Int.emod_lt_of_pos (((b : Int) - a) / 2 ^ sh) (show (0 : Int) < 2 ^ bi by omega)
  omega
theorem enc_class {sh bi a b : Nat} (hsh : sh ≤ 3) (hb2 : bi ≤ 30) (ha : a < 2 ^ 40) (hb : b < 2 ^ 40) {way steps m1 m2 an : Int64} {r : Int32} (e1 : way = lN b - lN a) (e2 : steps = way >>> ((nI sh).toInt64 &&& 63)) (e3 : m1 = 1 <<< ((nI bi).toInt64 &&& 63)) (e4 : m2 = m1 - 1) (e5 : an = steps &&& m2) (e6 : r = an.toInt32) : r = nI (cde sh bi a b) := by
  have p1 := pow_b hsh
  rw [lN_z, lN_z, zN_sub] at e1
  subst e1
  rw [zN_shr (by omega) (by omega) (by omega)] at e2
  subst e2
  rw [one_z, zN_shl (by omega), Int.one_mul] at e3
  subst e3
  subst e4
  rw [zN_and (by omega), ← cde_z, ← lN_z] at e5
  subst e5
  rw [e6, lN_i]
theorem fol_class {sh bi a b : Nat} (hsh : sh ≤ 3) (hb1 : 1 ≤ bi) (hb2 : bi ≤ 30) (ha : a < 2 ^ 40) (hb : b < 2 ^ 40) (hr : rch sh bi a b = true) {half steps sl r : Int64} (e3 : half = 1 <<< ((nI (bi - 1)).toInt64 &&& 63)) (hs : (lN (cde sh bi a b) < half ∧ steps = lN (cde sh bi a b)) ∨ (¬ lN (cde sh bi a b) < half ∧ steps = lN (cde sh bi a b) - 2 * half)) (e5 : sl = steps <<< ((nI sh).toInt64 &&& 63)) (e6 : r = lN a + sl) : r = lN b := by
  have p1 := pow_b hsh
  have p2 := pow_p sh
  have p3 := pow_b (show bi - 1 ≤ 29 by omega)
  have p4 := pow_p (bi - 1)
  have p5 : (2 : Int) ^ bi = 2 ^ (bi - 1) * 2 := by rw [← Int.pow_succ]; congr 1; omega
  have hc := cde_z sh bi a b
  have hcl := cde_lt (sh := sh) (a := a) (b := b) hb2
  unfold rch at hr
  rw [decide_eq_true_iff] at hr
  obtain ⟨g1, g2, g3⟩ := hr
  rw [one_z, zN_shl (by omega), Int.one_mul] at e3
  subst e3
  have h1 := Int.ediv_mul_add_emod ((b : Int) - a) (2 ^ sh)
  rw [g1, Int.add_zero] at h1
  generalize hq : ((b : Int) - a) / 2 ^ sh = q at *
  have hq1 : -2 ^ (bi - 1) ≤ q := by
    by_cases h6 : -2 ^ (bi - 1) ≤ q
    · exact h6
    · have : q * 2 ^ sh < (-2 ^ (bi - 1)) * 2 ^ sh := Int.mul_lt_mul_of_pos_right (by omega) (by omega)
      rw [Int.neg_mul] at this
      omega
  have hq2 : q < 2 ^ (bi - 1) := by
    by_cases h6 : q < 2 ^ (bi - 1)
    · exact h6
    · have : (2 ^ (bi - 1) : Int) * 2 ^ sh ≤ q * 2 ^ sh := Int.mul_le_mul_of_nonneg_right (by omega) (by omega)
      omega
  have hst : steps = zN q := by
    rw [lN_z, hc] at hs
    rw [p5] at hs
    by_cases h0 : 0 ≤ q
    · rw [Int.emod_eq_of_lt h0 (by omega)] at hs
      rw [zN_lt (by omega) (by omega) (by omega) (by omega)] at hs
      rcases hs with ⟨_, h⟩ | ⟨h, _⟩
      · exact h
      · omega
    · have e : q % (2 ^ (bi - 1) * 2) = q + 2 ^ (bi - 1) * 2 := by
        rw [← Int.add_emod_right, Int.emod_eq_of_lt (by omega) (by omega)]
      rw [e] at hs
      rw [zN_lt (by omega) (by omega) (by omega) (by omega)] at hs
      rcases hs with ⟨h, _⟩ | ⟨_, h⟩
      · omega
      · rw [h, show (2 : Int64) = zN 2 from rfl, zN_mul, zN_sub]
        congr 1
        omega
  subst hst
  rw [zN_shl (by omega)] at e5
  subst e5
  rw [e6, lN_z, zN_add, lN_z]
  congr 1
  omega
/-! PURE: the reference's arithmetic -/
theorem upTo_model {a k : Nat} (ha : a < 2 ^ 40) (hk : k ≤ 12) {m s1 s2 q r : Int64} (e1 : m = 1 <<< ((nI k).toInt64 &&& 63)) (e2 : s1 = lN a + m) (e3 : s2 = s1 - 1) (e4 : q = s2 / m) (e5 : r = q * m) : r = lN (up a k) := by
  have h1 : 2 ^ k ≤ 2 ^ 12 := Nat.pow_le_pow_right (by decide) hk
  have h2 : 0 < 2 ^ k := Nat.two_pow_pos k
  rw [one_z, zN_shl (by omega), Int.one_mul, show (2 : Int) ^ k = ((2 ^ k : Nat) : Int) by norm_cast, ← lN_z] at e1
  subst e1
  rw [lN_add] at e2
  subst e2
  rw [lN_sub1 (by omega)] at e3
  subst e3
  rw [pk_lDiv (by omega) (by omega) (by omega)] at e4
  subst e4
  rw [e5, lN_mul]
  rfl
theorem m_ne0 {k : Nat} (hk : k ≤ 12) {m : Int64} (e1 : m = 1 <<< ((nI k).toInt64 &&& 63)) : ¬ m = 0 := by
  have p1 := pow_b hk
  have p2 := pow_p k
  rw [one_z, zN_shl (by omega), Int.one_mul] at e1
  rw [e1, zero_z, zN_eq (by omega) (by omega) (by omega) (by omega)]
  omega
theorem zN_tdiv {z : Int} {n : Int} (h1 : -2 ^ 62 ≤ z) (h2 : z < 2 ^ 62) (h3 : 0 < n) (h4 : n < 2 ^ 62) : zN z / zN n = zN (z.tdiv n) := by
  apply Int64.toInt_inj.mp
  rw [Int64.toInt_div_of_ne_right _ _ (by
    intro h
    have := congrArg Int64.toInt h
    rw [zN_toInt (by omega) (by omega)] at this
    have h5 : (-1 : Int64).toInt = -1 := rfl
    omega), zN_toInt (by omega) (by omega), zN_toInt (by omega) (by omega)]
  have hb : (z.tdiv n).natAbs ≤ z.natAbs := by
    rw [Int.natAbs_tdiv]
    exact Nat.div_le_self _ _
  rw [zN_toInt (by omega) (by omega)]
theorem tdiv_dvd {z n : Int} (hn : 0 < n) (h : z % n = 0) : z.tdiv n = z / n := by
  obtain ⟨c, rfl⟩ := Int.dvd_of_emod_eq_zero h
  rw [Int.mul_tdiv_cancel_left _ (by omega), Int.mul_ediv_cancel_left _ (by omega)]
theorem rch_model {sh bi a b : Nat} (hsh : sh ≤ 3) (hb1 : 1 ≤ bi) (hb2 : bi ≤ 30) (ha : a < 2 ^ 40) (hb : b < 2 ^ 40) {d st h1 half rem : Int64} (e1 : d = lN b - lN a) (e0 : st = lN (2 ^ sh)) (e2 : h1 = 1 <<< ((nI (bi - 1)).toInt64 &&& 63)) (e3 : half = h1 * st) (e4 : rem = d - d / st * st) : (rem = 0 ∧ ¬ d < -half ∧ ¬ half - st < d) ↔ rch sh bi a b = true := by
  have p1 := pow_b hsh
  have p2 := pow_p sh
  have p3 := pow_b (show bi - 1 ≤ 29 by omega)
  have p4 := pow_p (bi - 1)
  have p6 : (2 : Int) ^ (bi - 1) * 2 ^ sh ≤ 2 ^ 29 * 2 ^ 3 := Int.mul_le_mul p3 p1 (by omega) (by omega)
  have p7 : (1 : Int) * 2 ^ sh ≤ 2 ^ (bi - 1) * 2 ^ sh := Int.mul_le_mul_of_nonneg_right p4 (by omega)
  rw [lN_z, lN_z, zN_sub] at e1
  subst e1
  rw [lN_z, show ((2 ^ sh : Nat) : Int) = (2 : Int) ^ sh by norm_cast] at e0
  subst e0
  rw [one_z, zN_shl (by omega), Int.one_mul] at e2
  subst e2
  rw [zN_mul] at e3
  subst e3
  unfold rch
  rw [decide_eq_true_iff]
  generalize hd : (b : Int) - a = d at *
  have hd1 : -2 ^ 40 ≤ d := by omega
  have hd2 : d < 2 ^ 40 := by omega
  have hf0 : ((2 : Int) ^ (bi - 1) * 2 ^ sh) % 2 ^ sh = 0 := Int.mul_emod_left _ _
  generalize (2 : Int) ^ (bi - 1) * 2 ^ sh = hf at *
  rw [zN_tdiv (by omega) (by omega) (by omega) (by omega), zN_mul, zN_sub] at e4
  have hrem : d - d.tdiv (2 ^ sh) * 2 ^ sh = d.tmod (2 ^ sh) := by
    have := Int.tdiv_mul_add_tmod d (2 ^ sh)
    omega
  rw [hrem] at e4
  subst e4
  have hb3 : (d.tmod (2 ^ sh)).natAbs ≤ d.natAbs := by
    rw [Int.natAbs_tmod]
    exact Nat.mod_le _ _
  have hiff : d.tmod (2 ^ sh) = 0 ↔ d % 2 ^ sh = 0 := by
    rw [← Int.dvd_iff_tmod_eq_zero, ← Int.dvd_iff_emod_eq_zero]
  rw [zero_z, zN_eq (by omega) (by omega) (by omega) (by omega), zN_neg, zN_lt (by omega) (by omega) (by omega) (by omega), zN_sub, zN_lt (by omega) (by omega) (by omega) (by omega), hiff]
  constructor
  · rintro ⟨g1, g2, g3⟩
    exact ⟨g1, by omega, by omega⟩
  · rintro ⟨g1, g2, g3⟩
    refine ⟨g1, by omega, ?_⟩
    intro g4
    obtain ⟨u, rfl⟩ := Int.dvd_of_emod_eq_zero g1
    obtain ⟨v, rfl⟩ := Int.dvd_of_emod_eq_zero hf0
    have : u < v := Int.lt_of_mul_lt_mul_left g3 (by omega)
    have h8 : 2 ^ sh * (u + 1) ≤ 2 ^ sh * v := Int.mul_le_mul_of_nonneg_left (by omega) (by omega)
    rw [Int.mul_add] at h8
    omega
theorem way_model {sh bi a b : Nat} (hsh : sh ≤ 3) (hb2 : bi ≤ 30) (ha : a < 2 ^ 40) (hb : b < 2 ^ 40) (hr : ((b : Int) - a) % 2 ^ sh = 0) {d st q m1 m2 an : Int64} {r : Int32} (e1 : d = lN b - lN a) (e0 : st = lN (2 ^ sh)) (e2 : q = d / st) (e3 : m1 = 1 <<< ((nI bi).toInt64 &&& 63)) (e4 : m2 = m1 - 1) (e5 : an = q &&& m2) (e6 : r = an.toInt32) : r = nI (cde sh bi a b) := by
  have p1 := pow_b hsh
  have p2 := pow_p sh
  rw [lN_z, lN_z, zN_sub] at e1
  subst e1
  rw [lN_z, show ((2 ^ sh : Nat) : Int) = (2 : Int) ^ sh by norm_cast] at e0
  subst e0
  rw [zN_tdiv (by omega) (by omega) (by omega) (by omega), tdiv_dvd (by omega) hr] at e2
  subst e2
  rw [one_z, zN_shl (by omega), Int.one_mul] at e3
  subst e3
  subst e4
  rw [zN_and (by omega), ← cde_z, ← lN_z] at e5
  subst e5
  rw [e6, lN_i]
theorem goes_model {sh bi a b : Nat} (hsh : sh ≤ 3) (hb1 : 1 ≤ bi) (hb2 : bi ≤ 30) (ha : a < 2 ^ 40) (hb : b < 2 ^ 40) (hr : rch sh bi a b = true) {st s1 an m1 v2 mu r : Int64} (e0 : st = lN (2 ^ sh)) (e1 : s1 = lN (cde sh bi a b) >>> ((nI (bi - 1)).toInt64 &&& 63)) (e2 : an = s1 &&& 1) (e3 : m1 = 1 <<< ((nI bi).toInt64 &&& 63)) (hs : (¬ an = 1 ∧ v2 = lN (cde sh bi a b)) ∨ (an = 1 ∧ v2 = lN (cde sh bi a b) - m1)) (e5 : mu = v2 * st) (e6 : r = lN a + mu) : r = lN b := by
  have p1 := pow_b hsh
  have p2 := pow_p sh
  have p3 := pow_b (show bi - 1 ≤ 29 by omega)
  have p4 := pow_p (bi - 1)
  have p5 : (2 : Int) ^ bi = 2 ^ (bi - 1) * 2 := by rw [← Int.pow_succ]; congr 1; omega
  have hc := cde_z sh bi a b
  have hcl := cde_lt (sh := sh) (a := a) (b := b) hb2
  unfold rch at hr
  rw [decide_eq_true_iff] at hr
  obtain ⟨g1, g2, g3⟩ := hr
  rw [lN_z, show ((2 ^ sh : Nat) : Int) = (2 : Int) ^ sh by norm_cast] at e0
  subst e0
  rw [one_z, zN_shl (by omega), Int.one_mul] at e3
  subst e3
  rw [lN_z, zN_shr (by omega) (by omega) (by omega)] at e1
  subst e1
  rw [show (1 : Int64) = zN (2 ^ 1) - 1 from rfl, zN_and (by omega)] at e2
  subst e2
  have h1 := Int.ediv_mul_add_emod ((b : Int) - a) (2 ^ sh)
  rw [g1, Int.add_zero] at h1
  generalize hq : ((b : Int) - a) / 2 ^ sh = q at *
  have hq1 : -2 ^ (bi - 1) ≤ q := by
    by_cases h6 : -2 ^ (bi - 1) ≤ q
    · exact h6
    · have : q * 2 ^ sh < (-2 ^ (bi - 1)) * 2 ^ sh := Int.mul_lt_mul_of_pos_right (by omega) (by omega)
      rw [Int.neg_mul] at this
      omega
  have hq2 : q < 2 ^ (bi - 1) := by
    by_cases h6 : q < 2 ^ (bi - 1)
    · exact h6
    · have : (2 ^ (bi - 1) : Int) * 2 ^ sh ≤ q * 2 ^ sh := Int.mul_le_mul_of_nonneg_right (by omega) (by omega)
      omega
  have hst : v2 = zN q := by
    rw [lN_z, hc, p5, one_z] at hs
    by_cases h0 : 0 ≤ q
    · rw [Int.emod_eq_of_lt h0 (by omega), Int.ediv_eq_zero_of_lt h0 hq2] at hs
      rcases hs with ⟨_, h⟩ | ⟨h, _⟩
      · exact h
      · exact absurd h (by decide)
    · have e : q % (2 ^ (bi - 1) * 2) = q + 2 ^ (bi - 1) * 2 := by
        rw [← Int.add_emod_right, Int.emod_eq_of_lt (by omega) (by omega)]
      have e9 : (q + 2 ^ (bi - 1) * 2) / 2 ^ (bi - 1) = 1 := by
        rw [show q + 2 ^ (bi - 1) * 2 = (q + 2 ^ (bi - 1)) + 1 * 2 ^ (bi - 1) by omega, Int.add_mul_ediv_right _ _ (by omega), Int.ediv_eq_zero_of_lt (by omega) (by omega)]
        rfl
      rw [e, e9] at hs
      rcases hs with ⟨h, _⟩ | ⟨_, h⟩
      · exact absurd rfl h
      · rw [h, zN_sub]
        congr 1
        omega
  subst hst
  rw [zN_mul] at e5
  subst e5
  rw [e6, lN_z, zN_add, lN_z]
  congr 1
  omega
end
section
theorem kin {f : Nat → Int32} {k0 bi : Nat} (hk : k0 < 8) (hf : f k0 = nI bi) (h1 : 1 ≤ bi) (h2 : bi ≤ 30) : ¬ nI k0 < 0 ∧ ¬ 8 ≤ nI k0 ∧ ¬ f (nI k0).toNatClampNeg = 0 := by
  refine ⟨nI_pos (by omega), ?_, ?_⟩
  · rw [show (8 : Int32) = nI 8 from rfl, nI_leI (by omega) (by omega)]
    omega
  · rw [nI_clamp (by omega), hf]
    exact nI_ne0 (by omega) (by omega)
set_option maxHeartbeats 4000000 in
set_option maxRecDepth 100000 in
theorem c_X2_reaches (l : Launch) (D : va_G) (y : Nat → ClassId) {ws : va_W} {f2 f3 : Nat → Int32} {q1 a1 : Nat} {q2 a2 : Nat} {q3 a3 : Nat} (h1 : ws[q1]? = some (a1, .inr (2, [.ref a2, .ref a3]))) (h2 : ws[q2]? = some (a2, .inl (y 0, 8, .inl f2))) (h3 : ws[q3]? = some (a3, .inl (y 0, 8, .inl f3))) {k0 sh bi a0 b0 : Nat} (hk : k0 < 8) (hsh : f2 k0 = nI sh) (hbi : f3 k0 = nI bi) (hs3 : sh ≤ 3) (hb1 : 1 ≤ bi) (hb30 : bi ≤ 30) (ha : a0 < 2 ^ 40) (hb0 : b0 < 2 ^ 40) : Met l yX2_reaches [.code yX2_reaches cX2_reaches 12 (some .boolean)] ({ frames := 1, cells := 0, slots := 0, locals := 21 }) (va_Pc [.ref a1, .int (nI k0), .long (lN a0), .long (lN b0)] (PR D y ws)) (vp_Si (fun r => r = if rch sh bi a0 b0 = true then 1 else 0)) 0 0 (fun _ => False) := by
  refine Met.ofW (cc := cX2_reaches) (maxL := 12) (ret := (some .boolean)) (by decide) rfl ?_
  intro p e s m args below meth c s₁ B hml hv
  obtain ⟨rfl, hP, hO⟩ := hv
  have hx := B.exec
  have hb := B.bytes
  have hr := B.returns
  have hown : s.vm.findClass RX2 = some m.cls := findClass_of_methodNamed B.named
  have hlocks := B.notSynchronized
  have hK := hO.1
  have hts : ∀ w ∈ lw_E, w.before ([.ref a1, .int (nI k0), .long (lN a0), .long (lN b0)] : List Value).toArray s = true := fun w h => hO.2 w h _
  clear B
  have hl := lv_entry ([.ref a1, .int (nI k0), .long (lN a0), .long (lN b0)]) (n := 12) (Nat.le_of_ble_eq_true rfl)
  rw [lg_entry_eq]
  generalize (lg_sl ([.ref a1, .int (nI k0), .long (lN a0), .long (lN b0)]) ++ List.replicate (12 - (lg_sl ([.ref a1, .int (nI k0), .long (lN a0), .long (lN b0)])).length) Slot.unset).toArray = ls at hl ⊢
  have hl : lv_has ls 12 [(0, .ref a1), (1, .int (nI k0)), (2, .long (lN a0)), (4, .long (lN b0))] := hl
  refine lv_aload_n hx hb dX2_reaches_0 rfl (lv_at hl 0 rfl) ?_
  refine lv_iload_n hx hb dX2_reaches_1 rfl (lv_at hl 1 rfl) ?_
  refine rk_i (run_v (As := [.int (nI k0)]) (rest := []) (b := a1) hx hb hml hown hO.2 (c_X2_has l D y h1 h3 (nI k0)) k_X2_has ml_X2_22 ⟨rfl, rfl⟩ ⟨Nat.le_of_ble_eq_true rfl, Nat.le_of_ble_eq_true rfl⟩ (pre_VR hO hP h1 rfl) rfl hl.1 rfl (Nat.le_of_ble_eq_true rfl) dX2_reaches_2 ⟨(Nat.zero_le _), (Nat.zero_le _)⟩) (fun r2 er2 => ?_)
  try dsimp only at er2
  refine lv_if_ne (tgt := 10) hx hb dX2_reaches_5 (by decide) (fun c5 => ?_) (fun c5 => ?_)
  · skip
    have c5 := if01_n er2 c5
    refine lv_lload hx hb dX2_reaches_10 (lv_at hl 3 rfl) ?_
    refine lv_lload_n hx hb dX2_reaches_12 rfl (lv_at hl 2 rfl) ?_
    refine lv_lsub hx hb dX2_reaches_13 ?_
    refine lv_topl (fun v13 ev13 => ?_)
    refine lv_lstore (lv' := [(6, .long v13), (0, .ref a1), (1, .int (nI k0)), (2, .long (lN a0)), (4, .long (lN b0))]) hx hb dX2_reaches_14 hl (by decide) rfl (fun ls hl => ?_)
    refine lv_lload hx hb dX2_reaches_16 (lv_at hl 0 rfl) ?_
    refine lv_aload_n hx hb dX2_reaches_18 rfl (lv_at hl 1 rfl) ?_
    refine va_get (D := D) (T := TX2) (N := 2) hx hb hts jnX2 hown hK hP q1 h1 rfl 0 (by decide) (hts _ fl_X2_9) (fun _ h9 => h9) rfl dX2_reaches_19 ?_
    refine lv_iload_n hx hb dX2_reaches_22 rfl (lv_at hl 2 rfl) ?_
    refine va_iald (D := D) hx hb hK hP q2 0 h2 rfl (vp_in_nI (by omega) (by omega)) dX2_reaches_23 ?_
    rw [nI_clamp (n := k0) (by omega)]
    refine lv_topi (fun v23 ev23 => ?_)
    obtain rfl : v23 = (nI sh) := by
      rw [ev23, hsh]
    refine lv_lshr hx hb dX2_reaches_24 rfl ?_
    refine lv_topl (fun v24 ev24 => ?_)
    refine lv_lstore (lv' := [(8, .long v24), (6, .long v13), (0, .ref a1), (1, .int (nI k0)), (2, .long (lN a0)), (4, .long (lN b0))]) hx hb dX2_reaches_25 hl (by decide) rfl (fun ls hl => ?_)
    refine lv_lconst (v := 1) hx hb dX2_reaches_27 (by decide) ?_
    refine lv_aload_n hx hb dX2_reaches_28 rfl (lv_at hl 2 rfl) ?_
    refine va_get (D := D) (T := TX2) (N := 2) hx hb hts jnX2 hown hK hP q1 h1 rfl 1 (by decide) (hts _ fl_X2_15) (fun _ h9 => h9) rfl dX2_reaches_29 ?_
    refine lv_iload_n hx hb dX2_reaches_32 rfl (lv_at hl 3 rfl) ?_
    refine va_iald (D := D) hx hb hK hP q3 0 h3 rfl (vp_in_nI (by omega) (by omega)) dX2_reaches_33 ?_
    rw [nI_clamp (n := k0) (by omega)]
    refine lv_topi (fun v33 ev33 => ?_)
    obtain rfl : v33 = (nI bi) := by
      rw [ev33, hbi]
    refine lv_iconst (v := 1) hx hb dX2_reaches_34 (by decide) ?_
    refine lv_isub hx hb dX2_reaches_35 ?_
    refine lv_topi (fun v35 ev35 => ?_)
    obtain rfl : v35 = (nI (bi - 1)) := by
      rw [ev35, show (1 : Int32) = nI 1 from rfl, pk_sub hb1]
    refine lv_lshl hx hb dX2_reaches_36 rfl ?_
    refine lv_topl (fun v36 ev36 => ?_)
    refine lv_lstore (lv' := [(10, .long v36), (8, .long v24), (6, .long v13), (0, .ref a1), (1, .int (nI k0)), (2, .long (lN a0)), (4, .long (lN b0))]) hx hb dX2_reaches_37 hl (by decide) rfl (fun ls hl => ?_)
    refine lv_lload hx hb dX2_reaches_39 (lv_at hl 1 rfl) ?_
    refine lv_aload_n hx hb dX2_reaches_41 rfl (lv_at hl 3 rfl) ?_
    refine va_get (D := D) (T := TX2) (N := 2) hx hb hts jnX2 hown hK hP q1 h1 rfl 0 (by decide) (hts _ fl_X2_9) (fun _ h9 => h9) rfl dX2_reaches_42 ?_
    refine lv_iload_n hx hb dX2_reaches_45 rfl (lv_at hl 4 rfl) ?_
    refine va_iald (D := D) hx hb hK hP q2 0 h2 rfl (vp_in_nI (by omega) (by omega)) dX2_reaches_46 ?_
    rw [nI_clamp (n := k0) (by omega)]
    refine lv_topi (fun v46 ev46 => ?_)
    obtain rfl : v46 = (nI sh) := by
      rw [ev46, hsh]
    refine lv_lshl hx hb dX2_reaches_47 rfl ?_
    refine lv_topl (fun v47 ev47 => ?_)
    refine lv_lload hx hb dX2_reaches_48 (lv_at hl 2 rfl) ?_
    refine W.lcmp hx hb dX2_reaches_50 ?_
    refine lv_if_ne (tgt := 75) hx hb dX2_reaches_51 (by decide) (fun c51 => ?_) (fun c51 => ?_)
    · skip
      have c51 := mt lc_eq.mpr c51
      refine lv_iconst (v := 0) hx hb dX2_reaches_75 (by decide) ?_
      refine W.zret (v := 0) hx hb hr (by decide) (fun t ht hW => ⟨_, rfl, ?_, ht⟩) (fun _ h => nomatch h) dX2_reaches_76
      first | rw [if_neg (fun h9 => absurd ((rch_class hs3 hb1 hb30 ha hb0 ev13 ev24 ev36 ev47).mpr h9).1 c51)] | (subst ev58; rw [if_pos ((rch_class hs3 hb1 hb30 ha hb0 ev13 ev24 ev36 ev47).mp ⟨c51, c60, c68⟩)]; done) | (subst ev58; rw [if_neg (fun h9 => ((rch_class hs3 hb1 hb30 ha hb0 ev13 ev24 ev36 ev47).mpr h9).2.2 c68)]; done) | (subst ev58; rw [if_neg (fun h9 => ((rch_class hs3 hb1 hb30 ha hb0 ev13 ev24 ev36 ev47).mpr h9).2.1 c60)]; done)
    · skip
      have c51 := lc_eq.mp c51
      refine lv_lload hx hb dX2_reaches_54 (lv_at hl 1 rfl) ?_
      refine lv_lload hx hb dX2_reaches_56 (lv_at hl 0 rfl) ?_
      refine lv_lneg hx hb dX2_reaches_58 ?_
      refine lv_topl (fun v58 ev58 => ?_)
      refine W.lcmp hx hb dX2_reaches_59 ?_
      refine lv_if_lt (tgt := 75) hx hb dX2_reaches_60 (by decide) (fun c60 => ?_) (fun c60 => ?_)
      · skip
        have c60 := lc_lt.mp c60
        refine lv_iconst (v := 0) hx hb dX2_reaches_75 (by decide) ?_
        refine W.zret (v := 0) hx hb hr (by decide) (fun t ht hW => ⟨_, rfl, ?_, ht⟩) (fun _ h => nomatch h) dX2_reaches_76
        first | rw [if_neg (fun h9 => absurd ((rch_class hs3 hb1 hb30 ha hb0 ev13 ev24 ev36 ev47).mpr h9).1 c51)] | (subst ev58; rw [if_pos ((rch_class hs3 hb1 hb30 ha hb0 ev13 ev24 ev36 ev47).mp ⟨c51, c60, c68⟩)]; done) | (subst ev58; rw [if_neg (fun h9 => ((rch_class hs3 hb1 hb30 ha hb0 ev13 ev24 ev36 ev47).mpr h9).2.2 c68)]; done) | (subst ev58; rw [if_neg (fun h9 => ((rch_class hs3 hb1 hb30 ha hb0 ev13 ev24 ev36 ev47).mpr h9).2.1 c60)]; done)
      · skip
        have c60 := mt lc_lt.mpr c60
        refine lv_lload hx hb dX2_reaches_63 (lv_at hl 1 rfl) ?_
        refine lv_lload hx hb dX2_reaches_65 (lv_at hl 0 rfl) ?_
        refine W.lcmp hx hb dX2_reaches_67 ?_
        refine lv_if_ge (tgt := 75) hx hb dX2_reaches_68 (by decide) (fun c68 => ?_) (fun c68 => ?_)
        · skip
          have c68 := lc_ge.mp c68
          refine lv_iconst (v := 0) hx hb dX2_reaches_75 (by decide) ?_
          refine W.zret (v := 0) hx hb hr (by decide) (fun t ht hW => ⟨_, rfl, ?_, ht⟩) (fun _ h => nomatch h) dX2_reaches_76
          first | rw [if_neg (fun h9 => absurd ((rch_class hs3 hb1 hb30 ha hb0 ev13 ev24 ev36 ev47).mpr h9).1 c51)] | (subst ev58; rw [if_pos ((rch_class hs3 hb1 hb30 ha hb0 ev13 ev24 ev36 ev47).mp ⟨c51, c60, c68⟩)]; done) | (subst ev58; rw [if_neg (fun h9 => ((rch_class hs3 hb1 hb30 ha hb0 ev13 ev24 ev36 ev47).mpr h9).2.2 c68)]; done) | (subst ev58; rw [if_neg (fun h9 => ((rch_class hs3 hb1 hb30 ha hb0 ev13 ev24 ev36 ev47).mpr h9).2.1 c60)]; done)
        · skip
          have c68 := mt lc_ge.mpr c68
          refine lv_iconst (v := 1) hx hb dX2_reaches_71 (by decide) ?_
          refine lv_goto (tgt := 76) hx hb dX2_reaches_72 (by decide) ?_
          refine W.zret (v := 1) hx hb hr (by decide) (fun t ht hW => ⟨_, rfl, ?_, ht⟩) (fun _ h => nomatch h) dX2_reaches_76
          first | rw [if_neg (fun h9 => absurd ((rch_class hs3 hb1 hb30 ha hb0 ev13 ev24 ev36 ev47).mpr h9).1 c51)] | (subst ev58; rw [if_pos ((rch_class hs3 hb1 hb30 ha hb0 ev13 ev24 ev36 ev47).mp ⟨c51, c60, c68⟩)]; done) | (subst ev58; rw [if_neg (fun h9 => ((rch_class hs3 hb1 hb30 ha hb0 ev13 ev24 ev36 ev47).mpr h9).2.2 c68)]; done) | (subst ev58; rw [if_neg (fun h9 => ((rch_class hs3 hb1 hb30 ha hb0 ev13 ev24 ev36 ev47).mpr h9).2.1 c60)]; done)
  · skip
    have c5 := if01_z er2 c5
    exact absurd (kin hk hbi hb1 hb30) c5
set_option maxHeartbeats 4000000 in
set_option maxRecDepth 100000 in
theorem c_X2_encode (l : Launch) (D : va_G) (y : Nat → ClassId) {ws : va_W} {f2 f3 : Nat → Int32} {q1 a1 : Nat} {q2 a2 : Nat} {q3 a3 : Nat} (h1 : ws[q1]? = some (a1, .inr (2, [.ref a2, .ref a3]))) (h2 : ws[q2]? = some (a2, .inl (y 0, 8, .inl f2))) (h3 : ws[q3]? = some (a3, .inl (y 0, 8, .inl f3))) {k0 sh bi a0 b0 : Nat} (hk : k0 < 8) (hsh : f2 k0 = nI sh) (hbi : f3 k0 = nI bi) (hs3 : sh ≤ 3) (hb1 : 1 ≤ bi) (hb30 : bi ≤ 30) (ha : a0 < 2 ^ 40) (hb0 : b0 < 2 ^ 40) : Met l yX2_encode [.code yX2_encode cX2_encode 8 (some .int)] ({ frames := 2, cells := 0, slots := 0, locals := 52 }) (va_Pc [.ref a1, .int (nI k0), .long (lN a0), .long (lN b0)] (PR D y ws)) (vp_Si (fun r => r = if rch sh bi a0 b0 = true then nI (cde sh bi a0 b0) else -1)) 0 0 (fun _ => False) := by
  refine Met.ofW (cc := cX2_encode) (maxL := 8) (ret := (some .int)) (by decide) rfl ?_
  intro p e s m args below meth c s₁ B hml hv
  obtain ⟨rfl, hP, hO⟩ := hv
  have hx := B.exec
  have hb := B.bytes
  have hr := B.returns
  have hown : s.vm.findClass RX2 = some m.cls := findClass_of_methodNamed B.named
  have hlocks := B.notSynchronized
  have hK := hO.1
  have hts : ∀ w ∈ lw_E, w.before ([.ref a1, .int (nI k0), .long (lN a0), .long (lN b0)] : List Value).toArray s = true := fun w h => hO.2 w h _
  clear B
  have hl := lv_entry ([.ref a1, .int (nI k0), .long (lN a0), .long (lN b0)]) (n := 8) (Nat.le_of_ble_eq_true rfl)
  rw [lg_entry_eq]
  generalize (lg_sl ([.ref a1, .int (nI k0), .long (lN a0), .long (lN b0)]) ++ List.replicate (8 - (lg_sl ([.ref a1, .int (nI k0), .long (lN a0), .long (lN b0)])).length) Slot.unset).toArray = ls at hl ⊢
  have hl : lv_has ls 8 [(0, .ref a1), (1, .int (nI k0)), (2, .long (lN a0)), (4, .long (lN b0))] := hl
  refine lv_aload_n hx hb dX2_encode_0 rfl (lv_at hl 0 rfl) ?_
  refine lv_iload_n hx hb dX2_encode_1 rfl (lv_at hl 1 rfl) ?_
  refine lv_lload_n hx hb dX2_encode_2 rfl (lv_at hl 2 rfl) ?_
  refine lv_lload hx hb dX2_encode_3 (lv_at hl 3 rfl) ?_
  refine rk_i (run_v (As := [.int (nI k0), .long (lN a0), .long (lN b0)]) (rest := []) (b := a1) hx hb hml hown hO.2 (c_X2_reaches l D y h1 h2 h3 hk hsh hbi hs3 hb1 hb30 ha hb0) k_X2_reaches ml_X2_26 ⟨rfl, rfl⟩ ⟨Nat.le_of_ble_eq_true rfl, Nat.le_of_ble_eq_true rfl⟩ (pre_VR hO hP h1 rfl) rfl hl.1 rfl (Nat.le_of_ble_eq_true rfl) dX2_encode_5 ⟨(Nat.zero_le _), (Nat.zero_le _)⟩) (fun r5 er5 => ?_)
  try dsimp only at er5
  refine lv_if_ne (tgt := 13) hx hb dX2_encode_8 (by decide) (fun c8 => ?_) (fun c8 => ?_)
  · skip
    have c8 := if01_n er5 c8
    refine lv_lload hx hb dX2_encode_13 (lv_at hl 3 rfl) ?_
    refine lv_lload_n hx hb dX2_encode_15 rfl (lv_at hl 2 rfl) ?_
    refine lv_lsub hx hb dX2_encode_16 ?_
    refine lv_topl (fun v16 ev16 => ?_)
    refine lv_aload_n hx hb dX2_encode_17 rfl (lv_at hl 0 rfl) ?_
    refine va_get (D := D) (T := TX2) (N := 2) hx hb hts jnX2 hown hK hP q1 h1 rfl 0 (by decide) (hts _ fl_X2_9) (fun _ h9 => h9) rfl dX2_encode_18 ?_
    refine lv_iload_n hx hb dX2_encode_21 rfl (lv_at hl 1 rfl) ?_
    refine va_iald (D := D) hx hb hK hP q2 0 h2 rfl (vp_in_nI (by omega) (by omega)) dX2_encode_22 ?_
    rw [nI_clamp (n := k0) (by omega)]
    refine lv_topi (fun v22 ev22 => ?_)
    obtain rfl : v22 = (nI sh) := by
      rw [ev22, hsh]
    refine lv_lshr hx hb dX2_encode_23 rfl ?_
    refine lv_topl (fun v23 ev23 => ?_)
    refine lv_lstore (lv' := [(6, .long v23), (0, .ref a1), (1, .int (nI k0)), (2, .long (lN a0)), (4, .long (lN b0))]) hx hb dX2_encode_24 hl (by decide) rfl (fun ls hl => ?_)
    refine lv_lload hx hb dX2_encode_26 (lv_at hl 0 rfl) ?_
    refine lv_lconst (v := 1) hx hb dX2_encode_28 (by decide) ?_
    refine lv_aload_n hx hb dX2_encode_29 rfl (lv_at hl 1 rfl) ?_
    refine va_get (D := D) (T := TX2) (N := 2) hx hb hts jnX2 hown hK hP q1 h1 rfl 1 (by decide) (hts _ fl_X2_15) (fun _ h9 => h9) rfl dX2_encode_30 ?_
    refine lv_iload_n hx hb dX2_encode_33 rfl (lv_at hl 2 rfl) ?_
    refine va_iald (D := D) hx hb hK hP q3 0 h3 rfl (vp_in_nI (by omega) (by omega)) dX2_encode_34 ?_
    rw [nI_clamp (n := k0) (by omega)]
    refine lv_topi (fun v34 ev34 => ?_)
    obtain rfl : v34 = (nI bi) := by
      rw [ev34, hbi]
    refine lv_lshl hx hb dX2_encode_35 rfl ?_
    refine lv_topl (fun v35 ev35 => ?_)
    refine lv_lconst (v := 1) hx hb dX2_encode_36 (by decide) ?_
    refine lv_lsub hx hb dX2_encode_37 ?_
    refine lv_topl (fun v37 ev37 => ?_)
    refine lv_land hx hb dX2_encode_38 ?_
    refine lv_topl (fun v38 ev38 => ?_)
    refine lv_l2i hx hb dX2_encode_39 rfl ?_
    refine lv_topi (fun v39 ev39 => ?_)
    refine W.iret (v := v39) hx hb hr (fun t ht hW => ⟨_, rfl, ?_, ht⟩) (fun _ h => nomatch h) dX2_encode_40
    rw [if_pos c8]
    exact enc_class hs3 hb30 ha hb0 ev16 ev23 ev35 ev37 ev38 ev39
  · skip
    have c8 := if01_z er5 c8
    refine lv_iconst (v := (-1)) hx hb dX2_encode_11 (by decide) ?_
    refine W.iret (v := (-1)) hx hb hr (fun t ht hW => ⟨_, rfl, ?_, ht⟩) (fun _ h => nomatch h) dX2_encode_12
    rw [if_neg c8]
set_option maxHeartbeats 4000000 in
set_option maxRecDepth 100000 in
theorem c_X2_follow (l : Launch) (D : va_G) (y : Nat → ClassId) {ws : va_W} {f2 f3 : Nat → Int32} {q1 a1 : Nat} {q2 a2 : Nat} {q3 a3 : Nat} (h1 : ws[q1]? = some (a1, .inr (2, [.ref a2, .ref a3]))) (h2 : ws[q2]? = some (a2, .inl (y 0, 8, .inl f2))) (h3 : ws[q3]? = some (a3, .inl (y 0, 8, .inl f3))) {k0 sh bi a0 b0 : Nat} (hk : k0 < 8) (hsh : f2 k0 = nI sh) (hbi : f3 k0 = nI bi) (hs3 : sh ≤ 3) (hb1 : 1 ≤ bi) (hb30 : bi ≤ 30) (ha : a0 < 2 ^ 40) (hb0 : b0 < 2 ^ 40) (hrc : rch sh bi a0 b0 = true) : Met l yX2_follow [.code yX2_follow cX2_follow 9 (some .long)] ({ frames := 1, cells := 0, slots := 0, locals := 21 }) (va_Pc [.ref a1, .int (nI k0), .long (lN a0), .int (nI (cde sh bi a0 b0))] (PR D y ws)) (vp_Sl (fun r => r = lN b0)) 0 0 (fun _ => False) := by
  refine Met.ofW (cc := cX2_follow) (maxL := 9) (ret := (some .long)) (by decide) rfl ?_
  intro p e s m args below meth c s₁ B hml hv
  obtain ⟨rfl, hP, hO⟩ := hv
  have hx := B.exec
  have hb := B.bytes
  have hr := B.returns
  have hown : s.vm.findClass RX2 = some m.cls := findClass_of_methodNamed B.named
  have hlocks := B.notSynchronized
  have hK := hO.1
  have hts : ∀ w ∈ lw_E, w.before ([.ref a1, .int (nI k0), .long (lN a0), .int (nI (cde sh bi a0 b0))] : List Value).toArray s = true := fun w h => hO.2 w h _
  clear B
  have hl := lv_entry ([.ref a1, .int (nI k0), .long (lN a0), .int (nI (cde sh bi a0 b0))]) (n := 9) (Nat.le_of_ble_eq_true rfl)
  rw [lg_entry_eq]
  generalize (lg_sl ([.ref a1, .int (nI k0), .long (lN a0), .int (nI (cde sh bi a0 b0))]) ++ List.replicate (9 - (lg_sl ([.ref a1, .int (nI k0), .long (lN a0), .int (nI (cde sh bi a0 b0))])).length) Slot.unset).toArray = ls at hl ⊢
  have hl : lv_has ls 9 [(0, .ref a1), (1, .int (nI k0)), (2, .long (lN a0)), (4, .int (nI (cde sh bi a0 b0)))] := hl
  refine lv_aload_n hx hb dX2_follow_0 rfl (lv_at hl 0 rfl) ?_
  refine lv_iload_n hx hb dX2_follow_1 rfl (lv_at hl 1 rfl) ?_
  refine rk_i (run_v (As := [.int (nI k0)]) (rest := []) (b := a1) hx hb hml hown hO.2 (c_X2_has l D y h1 h3 (nI k0)) k_X2_has ml_X2_22 ⟨rfl, rfl⟩ ⟨Nat.le_of_ble_eq_true rfl, Nat.le_of_ble_eq_true rfl⟩ (pre_VR hO hP h1 rfl) rfl hl.1 rfl (Nat.le_of_ble_eq_true rfl) dX2_follow_2 ⟨(Nat.zero_le _), (Nat.zero_le _)⟩) (fun r2 er2 => ?_)
  try dsimp only at er2
  refine lv_if_ne (tgt := 12) hx hb dX2_follow_5 (by decide) (fun c5 => ?_) (fun c5 => ?_)
  · skip
    have c5 := if01_n er2 c5
    have hcl := cde_lt (sh := sh) (a := a0) (b := b0) hb30
    refine lv_lconst (v := 1) hx hb dX2_follow_12 (by decide) ?_
    refine lv_aload_n hx hb dX2_follow_13 rfl (lv_at hl 0 rfl) ?_
    refine va_get (D := D) (T := TX2) (N := 2) hx hb hts jnX2 hown hK hP q1 h1 rfl 1 (by decide) (hts _ fl_X2_15) (fun _ h9 => h9) rfl dX2_follow_14 ?_
    refine lv_iload_n hx hb dX2_follow_17 rfl (lv_at hl 1 rfl) ?_
    refine va_iald (D := D) hx hb hK hP q3 0 h3 rfl (vp_in_nI (by omega) (by omega)) dX2_follow_18 ?_
    rw [nI_clamp (n := k0) (by omega)]
    refine lv_topi (fun v18 ev18 => ?_)
    obtain rfl : v18 = (nI bi) := by
      rw [ev18, hbi]
    refine lv_iconst (v := 1) hx hb dX2_follow_19 (by decide) ?_
    refine lv_isub hx hb dX2_follow_20 ?_
    refine lv_topi (fun v20 ev20 => ?_)
    obtain rfl : v20 = (nI (bi - 1)) := by
      rw [ev20, show (1 : Int32) = nI 1 from rfl, pk_sub hb1]
    refine lv_lshl hx hb dX2_follow_21 rfl ?_
    refine lv_topl (fun v21 ev21 => ?_)
    refine lv_lstore (lv' := [(5, .long v21), (0, .ref a1), (1, .int (nI k0)), (2, .long (lN a0)), (4, .int (nI (cde sh bi a0 b0)))]) hx hb dX2_follow_22 hl (by decide) rfl (fun ls hl => ?_)
    refine lv_iload hx hb dX2_follow_24 (lv_at hl 4 rfl) ?_
    refine lv_i2l (v := lN (cde sh bi a0 b0)) hx hb dX2_follow_26 (nI_l (by omega)) ?_
    refine lv_lload hx hb dX2_follow_27 (lv_at hl 0 rfl) ?_
    refine W.lcmp hx hb dX2_follow_29 ?_
    refine lv_if_lt (tgt := 46) hx hb dX2_follow_30 (by decide) (fun c30 => ?_) (fun c30 => ?_)
    · skip
      have c30 := lc_lt.mp c30
      refine lv_iload hx hb dX2_follow_46 (lv_at hl 4 rfl) ?_
      refine lv_i2l (v := lN (cde sh bi a0 b0)) hx hb dX2_follow_48 (nI_l (by omega)) ?_
      refine lv_lstore (lv' := [(7, .long (lN (cde sh bi a0 b0))), (5, .long v21), (0, .ref a1), (1, .int (nI k0)), (2, .long (lN a0)), (4, .int (nI (cde sh bi a0 b0)))]) hx hb dX2_follow_49 hl (by decide) rfl (fun ls hl => ?_)
      refine lv_lload_n hx hb dX2_follow_51 rfl (lv_at hl 4 rfl) ?_
      refine lv_lload hx hb dX2_follow_52 (lv_at hl 0 rfl) ?_
      refine lv_aload_n hx hb dX2_follow_54 rfl (lv_at hl 2 rfl) ?_
      refine va_get (D := D) (T := TX2) (N := 2) hx hb hts jnX2 hown hK hP q1 h1 rfl 0 (by decide) (hts _ fl_X2_9) (fun _ h9 => h9) rfl dX2_follow_55 ?_
      refine lv_iload_n hx hb dX2_follow_58 rfl (lv_at hl 3 rfl) ?_
      refine va_iald (D := D) hx hb hK hP q2 0 h2 rfl (vp_in_nI (by omega) (by omega)) dX2_follow_59 ?_
      rw [nI_clamp (n := k0) (by omega)]
      refine lv_topi (fun v59 ev59 => ?_)
      obtain rfl : v59 = (nI sh) := by
        rw [ev59, hsh]
      refine lv_lshl hx hb dX2_follow_60 rfl ?_
      refine lv_topl (fun v60 ev60 => ?_)
      refine lv_ladd hx hb dX2_follow_61 ?_
      refine lv_topl (fun v61 ev61 => ?_)
      refine W.lret (v := v61) hx hb hr (fun t ht hW => ⟨_, rfl, ?_, ht⟩) (fun _ h => nomatch h) dX2_follow_62
      first | exact fol_class hs3 hb1 hb30 ha hb0 hrc ev21 (Or.inl ⟨c30, rfl⟩) ev60 ev61 | exact fol_class hs3 hb1 hb30 ha hb0 hrc ev21 (Or.inr ⟨c30, by rw [ev42, ev41]⟩) ev60 ev61
    · skip
      have c30 := mt lc_lt.mpr c30
      refine lv_iload hx hb dX2_follow_33 (lv_at hl 4 rfl) ?_
      refine lv_i2l (v := lN (cde sh bi a0 b0)) hx hb dX2_follow_35 (nI_l (by omega)) ?_
      refine lv_ldc2 (v := 2) hx hb hown (hts _ kc_X2_32) dX2_follow_36 ?_
      refine lv_lload hx hb dX2_follow_39 (lv_at hl 0 rfl) ?_
      refine lv_lmul hx hb dX2_follow_41 ?_
      refine lv_topl (fun v41 ev41 => ?_)
      refine lv_lsub hx hb dX2_follow_42 ?_
      refine lv_topl (fun v42 ev42 => ?_)
      refine lv_goto (tgt := 49) hx hb dX2_follow_43 (by decide) ?_
      refine lv_lstore (lv' := [(7, .long v42), (5, .long v21), (0, .ref a1), (1, .int (nI k0)), (2, .long (lN a0)), (4, .int (nI (cde sh bi a0 b0)))]) hx hb dX2_follow_49 hl (by decide) rfl (fun ls hl => ?_)
      refine lv_lload_n hx hb dX2_follow_51 rfl (lv_at hl 4 rfl) ?_
      refine lv_lload hx hb dX2_follow_52 (lv_at hl 0 rfl) ?_
      refine lv_aload_n hx hb dX2_follow_54 rfl (lv_at hl 2 rfl) ?_
      refine va_get (D := D) (T := TX2) (N := 2) hx hb hts jnX2 hown hK hP q1 h1 rfl 0 (by decide) (hts _ fl_X2_9) (fun _ h9 => h9) rfl dX2_follow_55 ?_
      refine lv_iload_n hx hb dX2_follow_58 rfl (lv_at hl 3 rfl) ?_
      refine va_iald (D := D) hx hb hK hP q2 0 h2 rfl (vp_in_nI (by omega) (by omega)) dX2_follow_59 ?_
      rw [nI_clamp (n := k0) (by omega)]
      refine lv_topi (fun v59 ev59 => ?_)
      obtain rfl : v59 = (nI sh) := by
        rw [ev59, hsh]
      refine lv_lshl hx hb dX2_follow_60 rfl ?_
      refine lv_topl (fun v60 ev60 => ?_)
      refine lv_ladd hx hb dX2_follow_61 ?_
      refine lv_topl (fun v61 ev61 => ?_)
      refine W.lret (v := v61) hx hb hr (fun t ht hW => ⟨_, rfl, ?_, ht⟩) (fun _ h => nomatch h) dX2_follow_62
      first | exact fol_class hs3 hb1 hb30 ha hb0 hrc ev21 (Or.inl ⟨c30, rfl⟩) ev60 ev61 | exact fol_class hs3 hb1 hb30 ha hb0 hrc ev21 (Or.inr ⟨c30, by rw [ev42, ev41]⟩) ev60 ev61
  · skip
    have c5 := if01_z er2 c5
    exact absurd (kin hk hbi hb1 hb30) c5
end
section
/-! THE STATE AS NUMBERS. T 0: how many sections, labels, branches, pools; base; the thunks' size, power, kind. T 1 s size, T 2 s power, T 3 s pool; T 4 l section, T 5 l offset; T 6 b section, T 7 b offset, T 8 b kind, T 9 b label; T 10 k power of the step, T 11 k bits (0: not told) -/
abbrev St4 : Type := (Nat → Nat) × Nat × (Nat → Nat → Int32) × (Nat → Nat → Int64)
abbrev Wt (y : Nat → ClassId) (u : St4) : va_W := Wd y u.1 u.2.1 u.2.2.1 u.2.2.2
def WF (T : Nat → Nat → Nat) : Prop :=
  (T 0 0 ≤ 40 ∧ T 0 1 ≤ 60 ∧ T 0 2 ≤ 200 ∧ T 0 3 ≤ 40 ∧ T 0 4 < 2 ^ 31 ∧ T 0 5 ≤ 64 ∧ T 0 6 ≤ 6) ∧
  (∀ s, s < T 0 0 → T 1 s ≤ 1000000 ∧ T 2 s ≤ 12 ∧ T 3 s ≤ 1) ∧
  (∀ l, l < T 0 1 → T 4 l < T 0 0 ∧ T 5 l ≤ T 1 (T 4 l)) ∧
  (∀ b, b < T 0 2 → T 6 b < T 0 0 ∧ T 7 b < T 1 (T 6 b) ∧ T 8 b < 8 ∧ 1 ≤ T 11 (T 8 b) ∧ T 9 b < T 0 1) ∧
  (∀ k, k < 8 → T 10 k ≤ 3 ∧ T 11 k ≤ 30) ∧ (0 < T 0 5 → T 0 7 < 8 ∧ 1 ≤ T 11 (T 0 7)) ∧ (T 0 5 = 0 → T 0 6 = 0)
/-- what the cells of a Told at place 1 hold -/
def RT1 (I : Nat → Nat → Int32) (T : Nat → Nat → Nat) : Prop :=
  (I 2 0 = nI (T 0 0) ∧ I 6 0 = nI (T 0 1) ∧ I 12 0 = nI (T 0 2) ∧ I 2 1 = nI (T 0 3) ∧ I 1 4 = nI (T 0 4) ∧ I 1 5 = nI (T 0 5) ∧ I 1 6 = nI (2 ^ T 0 6) ∧ (0 < T 0 5 → I 1 7 = nI (T 0 7))) ∧
  (∀ s, s < T 0 0 → I 3 s = nI (T 1 s) ∧ I 4 s = nI (2 ^ T 2 s) ∧ I 5 s = nI (T 3 s)) ∧
  (∀ l, l < T 0 1 → I 7 l = nI (T 4 l) ∧ I 8 l = nI (T 5 l)) ∧
  (∀ b, b < T 0 2 → I 13 b = nI (T 6 b) ∧ I 14 b = nI (T 7 b) ∧ I 15 b = nI (T 8 b) ∧ I 16 b = nI (T 9 b)) ∧
  (∀ k, k < 8 → I 10 k = nI (T 10 k) ∧ I 11 k = nI (T 11 k))
/-- what the cells of a Told at place 18 hold -/
def RT18 (I : Nat → Nat → Int32) (T : Nat → Nat → Nat) : Prop :=
  (I 19 0 = nI (T 0 0) ∧ I 23 0 = nI (T 0 1) ∧ I 29 0 = nI (T 0 2) ∧ I 19 1 = nI (T 0 3) ∧ I 18 4 = nI (T 0 4) ∧ I 18 5 = nI (T 0 5) ∧ I 18 6 = nI (2 ^ T 0 6) ∧ (0 < T 0 5 → I 18 7 = nI (T 0 7))) ∧
  (∀ s, s < T 0 0 → I 20 s = nI (T 1 s) ∧ I 21 s = nI (2 ^ T 2 s) ∧ I 22 s = nI (T 3 s)) ∧
  (∀ l, l < T 0 1 → I 24 l = nI (T 4 l) ∧ I 25 l = nI (T 5 l)) ∧
  (∀ b, b < T 0 2 → I 30 b = nI (T 6 b) ∧ I 31 b = nI (T 7 b) ∧ I 32 b = nI (T 8 b) ∧ I 33 b = nI (T 9 b)) ∧
  (∀ k, k < 8 → I 27 k = nI (T 10 k) ∧ I 28 k = nI (T 11 k))
/-! ADDRESSES, with n s thunks in the pool of section s -/
def sAt (T : Nat → Nat → Nat) (n : Nat → Nat) : Nat → Nat
  | 0 => T 0 4
  | s + 1 => if n s = 0 then up (sAt T n s) (T 2 s) + T 1 s else up (up (sAt T n s) (T 2 s) + T 1 s) (T 0 6) + (n s - 1) * up (T 0 5) (T 0 6) + T 0 5
def sA (T : Nat → Nat → Nat) (n : Nat → Nat) (s : Nat) : Nat := up (sAt T n s) (T 2 s)
def pS (T : Nat → Nat → Nat) (n : Nat → Nat) (s : Nat) : Nat := up (sA T n s + T 1 s) (T 0 6)
def pE (T : Nat → Nat → Nat) (n : Nat → Nat) (s : Nat) : Nat := pS T n s + n s * up (T 0 5) (T 0 6)
def labA (T : Nat → Nat → Nat) (n : Nat → Nat) (l : Nat) : Nat := sA T n (T 4 l) + T 5 l
def braA (T : Nat → Nat → Nat) (n : Nat → Nat) (b : Nat) : Nat := sA T n (T 6 b) + T 7 b
theorem stride_le {T : Nat → Nat → Nat} (hW : WF T) : up (T 0 5) (T 0 6) ≤ 127 := by
  have h := up_le6 (a := T 0 5) hW.1.2.2.2.2.2.2
  have h2 := hW.1.2.2.2.2.2.1
  omega
theorem mul_le_b {a b A B : Nat} (h1 : a ≤ A) (h2 : b ≤ B) : a * b ≤ A * B := Nat.mul_le_mul h1 h2
theorem sAt_le {T : Nat → Nat → Nat} {n : Nat → Nat} (hW : WF T) (hn : ∀ s, n s ≤ 2400) : ∀ s, s ≤ T 0 0 → sAt T n s ≤ 2 ^ 31 + s * 1400000 := by
  intro s
  induction s with
  | zero =>
    intro _
    have := hW.1.2.2.2.2.1
    simp only [sAt]
    omega
  | succ s ih =>
    intro hs
    have h1 := ih (by omega)
    obtain ⟨g1, g2, g3⟩ := hW.2.1 s (by omega)
    have h2 := up_le12 (a := sAt T n s) g2
    have h3 := up_le6 (a := up (sAt T n s) (T 2 s) + T 1 s) hW.1.2.2.2.2.2.2
    have h4 := stride_le hW
    have h5 := hW.1.2.2.2.2.2.1
    have h6 := mul_le_b (show n s - 1 ≤ 2400 by have := hn s; omega) h4
    simp only [sAt]
    split <;> omega
theorem sA_le {T : Nat → Nat → Nat} {n : Nat → Nat} (hW : WF T) (hn : ∀ s, n s ≤ 2400) {s : Nat} (hs : s < T 0 0) : sA T n s < 2 ^ 32 := by
  have h1 := sAt_le hW hn s (by omega)
  obtain ⟨g1, g2, g3⟩ := hW.2.1 s hs
  have h2 := up_le12 (a := sAt T n s) g2
  have h3 := hW.1.1
  unfold sA
  omega
theorem pS_le {T : Nat → Nat → Nat} {n : Nat → Nat} (hW : WF T) (hn : ∀ s, n s ≤ 2400) {s : Nat} (hs : s < T 0 0) : pS T n s < 2 ^ 33 := by
  have h1 := sA_le hW hn hs
  obtain ⟨g1, g2, g3⟩ := hW.2.1 s hs
  have h3 := up_le6 (a := sA T n s + T 1 s) hW.1.2.2.2.2.2.2
  unfold pS
  omega
theorem pE_le {T : Nat → Nat → Nat} {n : Nat → Nat} (hW : WF T) (hn : ∀ s, n s ≤ 2400) {s : Nat} (hs : s < T 0 0) : pE T n s < 2 ^ 34 := by
  have h1 := pS_le hW hn hs
  have h6 := mul_le_b (hn s) (stride_le hW)
  unfold pE
  omega
theorem labA_le {T : Nat → Nat → Nat} {n : Nat → Nat} (hW : WF T) (hn : ∀ s, n s ≤ 2400) {l : Nat} (hl : l < T 0 1) : labA T n l < 2 ^ 33 := by
  obtain ⟨h1, h2⟩ := hW.2.2.1 l hl
  have h3 := sA_le hW hn h1
  have h4 := (hW.2.1 _ h1).1
  unfold labA
  omega
theorem braA_le {T : Nat → Nat → Nat} {n : Nat → Nat} (hW : WF T) (hn : ∀ s, n s ≤ 2400) {b : Nat} (hb : b < T 0 2) : braA T n b < 2 ^ 33 := by
  obtain ⟨h1, h2, _⟩ := hW.2.2.2.1 b hb
  have h3 := sA_le hW hn h1
  have h4 := (hW.2.1 _ h1).1
  unfold braA
  omega
/-- what the layout's cells hold: its Told, its addresses -/
def LR (I : Nat → Nat → Int32) (J : Nat → Nat → Int64) (T : Nat → Nat → Nat) (n : Nat → Nat) : Prop := RT18 I T ∧ WF T ∧ (∀ s, n s ≤ 2400) ∧ ∀ s, s < T 0 0 → J 35 s = lN (sA T n s) ∧ J 36 s = lN (pS T n s) ∧ J 37 s = lN (pE T n s)
def dirB (T : Nat → Nat → Nat) (n : Nat → Nat) (b : Nat) : Bool := rch (T 10 (T 8 b)) (T 11 (T 8 b)) (braA T n b) (labA T n (T 9 b))
end
section
/-! THUNKS as a list, in the order in which they were wanted: (its section, its label, the round, the branch that wanted it) -/
abbrev Th : Type := Nat × Nat × Nat × Nat
def thA (L : List Th) (t : Nat) : Th := L.getD t (0, 0, 0, 0)
def cnt (L : List Th) (s : Nat) : Nat := L.countP (fun x => x.1 == s)
def rk (L : List Th) (t : Nat) : Nat := cnt (L.take t) (thA L t).1
def isT (s l : Nat) (x : Th) : Bool := x.1 == s && x.2.1 == l
def inB (L : List Th) (s l : Nat) : Bool := L.any (isT s l)
def fnd (L : List Th) (s l : Nat) : Option Nat := L.findIdx? (isT s l)
def oI (o : Option Nat) : Int32 := match o with
  | none => -1
  | some t => nI t
/-- of the candidates the nearest one, of two the first -/
def amin (cand : Nat → Option Nat) (d : Nat → Nat) : Nat → Option Nat
  | 0 => none
  | k + 1 => match cand k with
    | none => amin cand d k
    | some t => match amin cand d k with
      | none => some t
      | some u => if d t < d u then some t else some u
def dst (x a : Nat) : Nat := if a < x then x - a else a - x
theorem oI_neg {o : Option Nat} (h : ∀ t, o = some t → t < 2 ^ 31) : oI o = -1 ↔ o = none := by
  cases o with
  | none => simp [oI]
  | some t =>
    simp only [oI]
    constructor
    · intro h1
      have h2 := congrArg Int32.toInt h1
      rw [nI_toInt (h t rfl)] at h2
      have h3 : (-1 : Int32).toInt = -1 := rfl
      omega
    · intro h1
      cases h1
theorem abs_dst {a b : Nat} (ha : a < 2 ^ 40) (hb : b < 2 ^ 40) {x : Int64} (e : x = lN a - lN b) : (if 0 < x then x else -x) = lN (dst b a) := by
  rw [lN_z, lN_z, zN_sub] at e
  subst e
  rw [zero_z, zN_neg]
  unfold dst
  by_cases h : a < b
  · rw [if_neg (by rw [zN_lt (by omega) (by omega) (by omega) (by omega)]; omega), if_pos h, lN_z]
    congr 1
    omega
  · by_cases h2 : a = b
    · subst h2
      rw [if_neg (by rw [zN_lt (by omega) (by omega) (by omega) (by omega)]; omega), if_neg h, lN_z]
      congr 1
      omega
    · rw [if_pos (by rw [zN_lt (by omega) (by omega) (by omega) (by omega)]; omega), if_neg h, lN_z]
      congr 1
      omega
theorem thA_app {M F : List Th} {t : Nat} (h : t < M.length) : thA (M ++ F) t = thA M t := by
  unfold thA
  simp [List.getD_eq_getElem?_getD, List.getElem?_append_left h]
theorem fnd_lt {L : List Th} {s l t : Nat} (h : fnd L s l = some t) : t < L.length := by
  unfold fnd at h
  rw [List.findIdx?_eq_some_iff_getElem] at h
  exact h.1
theorem fnd_at {L : List Th} {s l t : Nat} (h : fnd L s l = some t) : (thA L t).1 = s ∧ (thA L t).2.1 = l := by
  unfold fnd at h
  rw [List.findIdx?_eq_some_iff_getElem] at h
  obtain ⟨h1, h2, _⟩ := h
  unfold thA
  rw [List.getD_eq_getElem?_getD, List.getElem?_eq_getElem h1]
  unfold isT at h2
  simp at h2
  exact h2
theorem fnd_none {L : List Th} {s l : Nat} : fnd L s l = none ↔ inB L s l = false := by
  unfold fnd inB
  rw [List.findIdx?_eq_none_iff, List.any_eq_false]
  constructor
  · intro h x hx
    simp [h x hx]
  · intro h x hx
    have := h x hx
    simpa using this
theorem fnd_app (M F : List Th) (s l : Nat) : fnd (M ++ F) s l = (fnd M s l).or ((fnd F s l).map (· + M.length)) := by
  unfold fnd
  exact List.findIdx?_append
/-- a made one: its number is below the made ones' -/
theorem fnd_made {M F : List Th} {s l t : Nat} : fnd (M ++ F) s l = some t ∧ t < M.length ↔ fnd M s l = some t := by
  rw [fnd_app]
  cases h : fnd M s l with
  | none =>
    simp
    intro u _ hu
    omega
  | some u =>
    have := fnd_lt h
    simp
    intro h2
    omega
theorem cnt_le (L : List Th) (s : Nat) : cnt L s ≤ L.length := List.countP_le_length
/-- the thunks' addresses -/
def plc (T : Nat → Nat → Nat) (M : List Th) (t : Nat) : Nat := pS T (cnt M) (thA M t).1 + rk M t * up (T 0 5) (T 0 6)
def helpB (T : Nat → Nat → Nat) (M : List Th) (b t : Nat) : Bool := rch (T 10 (T 8 b)) (T 11 (T 8 b)) (braA T (cnt M) b) (plc T M t) && rch (T 10 (T 0 7)) (T 11 (T 0 7)) (plc T M t) (labA T (cnt M) (thA M t).2.1)
def couB (T : Nat → Nat → Nat) (M : List Th) (b s : Nat) : Bool := (T 3 s != 0) && !(inB M s (T 9 b)) && rch (T 10 (T 8 b)) (T 11 (T 8 b)) (braA T (cnt M) b) (pE T (cnt M) s) && rch (T 10 (T 0 7)) (T 11 (T 0 7)) (pE T (cnt M) s) (labA T (cnt M) (T 9 b))
/-- the nearest thunk that helps, the nearest pool that could -/
def bst (T : Nat → Nat → Nat) (M : List Th) (b : Nat) : Nat → Option Nat := amin (fun s => (fnd M s (T 9 b)).filter (helpB T M b)) (fun t => dst (braA T (cnt M) b) (plc T M t))
def wst (T : Nat → Nat → Nat) (M : List Th) (b : Nat) : Nat → Option Nat := amin (fun s => if couB T M b s = true then some s else none) (fun s => dst (braA T (cnt M) b) (pE T (cnt M) s))
/-- the list is one that a layout makes -/
def TW (T : Nat → Nat → Nat) (L : List Th) : Prop := (∀ t, t < L.length → (thA L t).1 < T 0 0 ∧ (thA L t).2.1 < T 0 1 ∧ (thA L t).2.2.1 ≤ 2401 ∧ (thA L t).2.2.2 < T 0 2) ∧ (∀ t u, t < L.length → u < L.length → (thA L t).1 = (thA L u).1 → (thA L t).2.1 = (thA L u).2.1 → t = u)
/-- what the cells of the thunks hold: M made ones, F wanted ones -/
def TH (I : Nat → Nat → Int32) (J : Nat → Nat → Int64) (T : Nat → Nat → Nat) (cap : Nat) (M F : List Th) : Prop :=
  (I 38 0 = nI M.length ∧ I 38 1 = nI (M ++ F).length ∧ (M ++ F).length ≤ cap ∧ cap ≤ 2400) ∧
  (∀ t, t < (M ++ F).length → I 39 t = nI (thA (M ++ F) t).1 ∧ I 40 t = nI (thA (M ++ F) t).2.1 ∧ I 41 t = nI (thA (M ++ F) t).2.2.1 ∧ I 42 t = nI (thA (M ++ F) t).2.2.2) ∧
  (∀ t, t < M.length → I 44 t = nI (rk M t)) ∧ (∀ s, s < 40 → I 46 s = nI (cnt M s)) ∧
  (∀ s l, s < 40 → l < 60 → I 47 (s * 60 + l) = oI (fnd (M ++ F) s l))
/-- and their places, as found -/
def PL (J : Nat → Nat → Int64) (T : Nat → Nat → Nat) (M : List Th) : Prop := ∀ t, t < M.length → J 45 t = lN (plc T M t)
theorem rk_le (L : List Th) (t : Nat) : rk L t ≤ L.length := by
  unfold rk
  have h := cnt_le (L.take t) (thA L t).1
  have h2 : (L.take t).length ≤ L.length := by rw [List.length_take]; omega
  omega
theorem plc_le {T : Nat → Nat → Nat} {M : List Th} (hW : WF T) (hM : M.length ≤ 2400) (hT : TW T M) {t : Nat} (ht : t < M.length) : plc T M t < 2 ^ 34 := by
  have h1 := pS_le hW (fun s => Nat.le_trans (cnt_le M s) hM) (hT.1 t ht).1
  have h2 := mul_le_b (Nat.le_trans (rk_le M t) hM) (stride_le hW)
  unfold plc
  omega
end
section
theorem bst_none {T : Nat → Nat → Nat} {M : List Th} {b k : Nat} (h : fnd M k (T 9 b) = none) : bst T M b (k + 1) = bst T M b k := by
  simp only [bst, amin, h, Option.filter_none]
theorem bst_nohelp {T : Nat → Nat → Nat} {M : List Th} {b k t : Nat} (h : fnd M k (T 9 b) = some t) (h2 : ¬ helpB T M b t = true) : bst T M b (k + 1) = bst T M b k := by
  simp only [bst, amin, h, Option.filter_some, h2, if_false]
  rfl
theorem bst_first {T : Nat → Nat → Nat} {M : List Th} {b k t : Nat} (h : fnd M k (T 9 b) = some t) (h2 : helpB T M b t = true) (h3 : bst T M b k = none) : bst T M b (k + 1) = some t := by
  unfold bst at h3 ⊢
  simp only [amin, h, Option.filter_some, h2, if_true, h3]
theorem bst_less {T : Nat → Nat → Nat} {M : List Th} {b k t u : Nat} (h : fnd M k (T 9 b) = some t) (h2 : helpB T M b t = true) (h3 : bst T M b k = some u) (h4 : dst (braA T (cnt M) b) (plc T M t) < dst (braA T (cnt M) b) (plc T M u)) : bst T M b (k + 1) = some t := by
  unfold bst at h3 ⊢
  simp only [amin, h, Option.filter_some, h2, if_true, h3, h4]
theorem bst_keep {T : Nat → Nat → Nat} {M : List Th} {b k t u : Nat} (h : fnd M k (T 9 b) = some t) (h2 : helpB T M b t = true) (h3 : bst T M b k = some u) (h4 : ¬ dst (braA T (cnt M) b) (plc T M t) < dst (braA T (cnt M) b) (plc T M u)) : bst T M b (k + 1) = bst T M b k := by
  unfold bst at h3 ⊢
  simp only [amin, h, Option.filter_some, h2, if_true, h3, h4, if_false]
theorem bst_lt {T : Nat → Nat → Nat} {M : List Th} {b : Nat} : ∀ k u, bst T M b k = some u → u < M.length := by
  intro k
  induction k with
  | zero =>
    intro u h
    exact absurd h (by simp [bst, amin])
  | succ k ih =>
    intro u h
    cases hf : fnd M k (T 9 b) with
    | none =>
      rw [bst_none hf] at h
      exact ih u h
    | some t =>
      by_cases h2 : helpB T M b t = true
      · cases h3 : bst T M b k with
        | none =>
          rw [bst_first hf h2 h3] at h
          cases h
          exact fnd_lt hf
        | some v =>
          by_cases h4 : dst (braA T (cnt M) b) (plc T M t) < dst (braA T (cnt M) b) (plc T M v)
          · rw [bst_less hf h2 h3 h4] at h
            cases h
            exact fnd_lt hf
          · rw [bst_keep hf h2 h3 h4] at h
            exact ih u h
      · rw [bst_nohelp hf h2] at h
        exact ih u h
theorem has_some {M F : List Th} {s l : Nat} (hlen : (M ++ F).length < 2 ^ 31) (h : ¬ oI (fnd (M ++ F) s l) < 0 ∧ ¬ nI M.length ≤ oI (fnd (M ++ F) s l)) : ∃ t, fnd M s l = some t ∧ t < M.length ∧ oI (fnd (M ++ F) s l) = nI t := by
  cases hf : fnd (M ++ F) s l with
  | none =>
    rw [hf] at h
    exact absurd (show (-1 : Int32) < 0 by decide) h.1
  | some t =>
    rw [hf] at h
    have ht := fnd_lt hf
    have h2 := h.2
    simp only [oI] at h2
    rw [List.length_append] at hlen ht
    rw [nI_leI (by omega) (by omega)] at h2
    exact ⟨t, fnd_made.mp ⟨hf, by omega⟩, by omega, rfl⟩
theorem has_none {M F : List Th} {s l : Nat} (hlen : (M ++ F).length < 2 ^ 31) (h : ¬ (¬ oI (fnd (M ++ F) s l) < 0 ∧ ¬ nI M.length ≤ oI (fnd (M ++ F) s l))) : fnd M s l = none := by
  cases hf : fnd M s l with
  | none => rfl
  | some t =>
    obtain ⟨h1, h2⟩ := fnd_made (F := F) |>.mpr hf
    rw [h1] at h
    have ht := fnd_lt h1
    rw [List.length_append] at hlen ht
    refine absurd ⟨?_, ?_⟩ h
    · exact nI_pos (by omega)
    · simp only [oI]
      rw [nI_leI (by omega) (by omega)]
      omega
theorem inB_fnd {M : List Th} {s l : Nat} : inB M s l = true ↔ ∃ t, fnd M s l = some t := by
  cases h : fnd M s l with
  | none =>
    have := fnd_none.mp h
    simp [this]
  | some t =>
    constructor
    · intro _
      exact ⟨t, rfl⟩
    · intro _
      cases h2 : inB M s l with
      | true => rfl
      | false =>
        have := fnd_none.mpr h2
        rw [h] at this
        cases this
set_option maxHeartbeats 4000000 in
set_option maxRecDepth 100000 in
theorem c_X4_labelAddress (l : Launch) (D : va_G) (y : Nat → ClassId) (ad : Nat → Nat) (cap : Nat) (I : Nat → Nat → Int32) (J : Nat → Nat → Int64) {T : Nat → Nat → Nat} {n : Nat → Nat} (hT : RT18 I T) (hW : WF T) (hn : ∀ s, n s ≤ 2400) (hJ : ∀ s, s < T 0 0 → J 35 s = lN (sA T n s) ∧ J 36 s = lN (pS T n s) ∧ J 37 s = lN (pE T n s)) {l0 : Nat} (hl0 : l0 < T 0 1) : Met l yX4_labelAddress [.code yX4_labelAddress cX4_labelAddress 2 (some .long)] ({ frames := 0, cells := 0, slots := 0, locals := 0 }) (va_Pc [.ref (ad 17), .int (nI l0)] (PR D y (Wd y ad cap I J))) (vp_Sl (fun r => r = lN (labA T n l0))) 0 0 (fun _ => False) := by
  refine Met.ofW (cc := cX4_labelAddress) (maxL := 2) (ret := (some .long)) (by decide) rfl ?_
  intro p e s m args below meth c s₁ B hml hv
  obtain ⟨rfl, hP, hO⟩ := hv
  have hx := B.exec
  have hb := B.bytes
  have hr := B.returns
  have hown : s.vm.findClass RX4 = some m.cls := findClass_of_methodNamed B.named
  have hlocks := B.notSynchronized
  have hK := hO.1
  have hts : ∀ w ∈ lw_E, w.before ([.ref (ad 17), .int (nI l0)] : List Value).toArray s = true := fun w h => hO.2 w h _
  clear B
  have hl := lv_entry ([.ref (ad 17), .int (nI l0)]) (n := 2) (Nat.le_of_ble_eq_true rfl)
  rw [lg_entry_eq]
  generalize (lg_sl ([.ref (ad 17), .int (nI l0)]) ++ List.replicate (2 - (lg_sl ([.ref (ad 17), .int (nI l0)])).length) Slot.unset).toArray = ls at hl ⊢
  have hl : lv_has ls 2 [(0, .ref (ad 17)), (1, .int (nI l0))] := hl
  have hW0 := hW
  obtain ⟨⟨w1, w2, w3, w4, w5, w6, w7⟩, wS, wL, wB, wK, wTk, wT0⟩ := hW
  obtain ⟨x1, x2⟩ := wL l0 hl0
  obtain ⟨x3, x4, x5⟩ := wS _ x1
  refine lv_aload_n hx hb dX4_labelAddress_0 rfl (lv_at hl 0 rfl) ?_
  refine va_get (D := D) (T := TX4) (N := 9) hx hb hts jnX4 hown hK hP 17 (wd_17 y ad cap I J) rfl 1 (by decide) (hts _ fl_X4_21) (fun _ h9 => h9) rfl dX4_labelAddress_1 ?_
  refine va_getN (D := D) (T := TX0) (N := 4) hx hb hts jnX0 hown hK hP 34 (wd_34 y ad cap I J) rfl 0 (by decide) (hts _ fn_X4_190) (fun _ h9 => h9) rfl dX4_labelAddress_4 ?_
  refine lv_aload_n hx hb dX4_labelAddress_7 rfl (lv_at hl 0 rfl) ?_
  refine va_get (D := D) (T := TX4) (N := 9) hx hb hts jnX4 hown hK hP 17 (wd_17 y ad cap I J) rfl 0 (by decide) (hts _ fl_X4_12) (fun _ h9 => h9) rfl dX4_labelAddress_8 ?_
  refine va_getN (D := D) (T := TX7) (N := 8) hx hb hts jnX7 hown hK hP 18 (wd_18 y ad cap I J) rfl 1 (by decide) (hts _ fn_X4_193) (fun _ h9 => h9) rfl dX4_labelAddress_11 ?_
  refine va_getN (D := D) (T := TX3) (N := 3) hx hb hts jnX3 hown hK hP 23 (wd_23 y ad cap I J) rfl 1 (by decide) (hts _ fn_X4_197) (fun _ h9 => h9) rfl dX4_labelAddress_14 ?_
  refine lv_iload_n hx hb dX4_labelAddress_17 rfl (lv_at hl 1 rfl) ?_
  refine va_iald (D := D) hx hb hK hP 24 0 (wd_24 y ad cap I J) rfl (vp_in_nI (by omega) (by omega)) dX4_labelAddress_18 ?_
  rw [nI_clamp (n := l0) (by omega)]
  refine lv_topi (fun v18 ev18 => ?_)
  obtain rfl : v18 = (nI (T 4 l0)) := by
    rw [ev18]; exact (hT.2.2.1 _ (by omega)).1
  refine va_lald (D := D) hx hb hK hP 35 1 (wd_35 y ad cap I J) rfl (vp_in_nI (by omega) (by omega)) dX4_labelAddress_19 ?_
  rw [nI_clamp (n := T 4 l0) (by omega)]
  refine lv_topl (fun v19 ev19 => ?_)
  obtain rfl : v19 = (lN (sA T n (T 4 l0))) := by
    rw [ev19]; exact (hJ _ (by omega)).1
  refine lv_aload_n hx hb dX4_labelAddress_20 rfl (lv_at hl 0 rfl) ?_
  refine va_get (D := D) (T := TX4) (N := 9) hx hb hts jnX4 hown hK hP 17 (wd_17 y ad cap I J) rfl 0 (by decide) (hts _ fl_X4_12) (fun _ h9 => h9) rfl dX4_labelAddress_21 ?_
  refine va_getN (D := D) (T := TX7) (N := 8) hx hb hts jnX7 hown hK hP 18 (wd_18 y ad cap I J) rfl 1 (by decide) (hts _ fn_X4_193) (fun _ h9 => h9) rfl dX4_labelAddress_24 ?_
  refine va_getN (D := D) (T := TX3) (N := 3) hx hb hts jnX3 hown hK hP 23 (wd_23 y ad cap I J) rfl 2 (by decide) (hts _ fn_X4_201) (fun _ h9 => h9) rfl dX4_labelAddress_27 ?_
  refine lv_iload_n hx hb dX4_labelAddress_30 rfl (lv_at hl 1 rfl) ?_
  refine va_iald (D := D) hx hb hK hP 25 0 (wd_25 y ad cap I J) rfl (vp_in_nI (by omega) (by omega)) dX4_labelAddress_31 ?_
  rw [nI_clamp (n := l0) (by omega)]
  refine lv_topi (fun v31 ev31 => ?_)
  obtain rfl : v31 = (nI (T 5 l0)) := by
    rw [ev31]; exact (hT.2.2.1 _ (by omega)).2
  refine lv_i2l (v := lN (T 5 l0)) hx hb dX4_labelAddress_32 (nI_l (by omega)) ?_
  refine lv_ladd hx hb dX4_labelAddress_33 ?_
  refine lv_topl (fun v33 ev33 => ?_)
  obtain rfl : v33 = (lN ((sA T n (T 4 l0)) + (T 5 l0))) := by rw [ev33, lN_add]
  refine W.lret (v := (lN ((sA T n (T 4 l0)) + (T 5 l0)))) hx hb hr (fun t ht hW => ⟨_, rfl, ?_, ht⟩) (fun _ h => nomatch h) dX4_labelAddress_34
  rfl
set_option maxHeartbeats 4000000 in
set_option maxRecDepth 100000 in
theorem c_X4_branchAddress (l : Launch) (D : va_G) (y : Nat → ClassId) (ad : Nat → Nat) (cap : Nat) (I : Nat → Nat → Int32) (J : Nat → Nat → Int64) {T : Nat → Nat → Nat} {n : Nat → Nat} (hT : RT18 I T) (hW : WF T) (hn : ∀ s, n s ≤ 2400) (hJ : ∀ s, s < T 0 0 → J 35 s = lN (sA T n s) ∧ J 36 s = lN (pS T n s) ∧ J 37 s = lN (pE T n s)) {b0 : Nat} (hb0 : b0 < T 0 2) : Met l yX4_branchAddress [.code yX4_branchAddress cX4_branchAddress 2 (some .long)] ({ frames := 0, cells := 0, slots := 0, locals := 0 }) (va_Pc [.ref (ad 17), .int (nI b0)] (PR D y (Wd y ad cap I J))) (vp_Sl (fun r => r = lN (braA T n b0))) 0 0 (fun _ => False) := by
  refine Met.ofW (cc := cX4_branchAddress) (maxL := 2) (ret := (some .long)) (by decide) rfl ?_
  intro p e s m args below meth c s₁ B hml hv
  obtain ⟨rfl, hP, hO⟩ := hv
  have hx := B.exec
  have hb := B.bytes
  have hr := B.returns
  have hown : s.vm.findClass RX4 = some m.cls := findClass_of_methodNamed B.named
  have hlocks := B.notSynchronized
  have hK := hO.1
  have hts : ∀ w ∈ lw_E, w.before ([.ref (ad 17), .int (nI b0)] : List Value).toArray s = true := fun w h => hO.2 w h _
  clear B
  have hl := lv_entry ([.ref (ad 17), .int (nI b0)]) (n := 2) (Nat.le_of_ble_eq_true rfl)
  rw [lg_entry_eq]
  generalize (lg_sl ([.ref (ad 17), .int (nI b0)]) ++ List.replicate (2 - (lg_sl ([.ref (ad 17), .int (nI b0)])).length) Slot.unset).toArray = ls at hl ⊢
  have hl : lv_has ls 2 [(0, .ref (ad 17)), (1, .int (nI b0))] := hl
  have hW0 := hW
  obtain ⟨⟨w1, w2, w3, w4, w5, w6, w7⟩, wS, wL, wB, wK, wTk, wT0⟩ := hW
  obtain ⟨x1, x2, x6, x7, x8⟩ := wB b0 hb0
  obtain ⟨x3, x4, x5⟩ := wS _ x1
  refine lv_aload_n hx hb dX4_branchAddress_0 rfl (lv_at hl 0 rfl) ?_
  refine va_get (D := D) (T := TX4) (N := 9) hx hb hts jnX4 hown hK hP 17 (wd_17 y ad cap I J) rfl 1 (by decide) (hts _ fl_X4_21) (fun _ h9 => h9) rfl dX4_branchAddress_1 ?_
  refine va_getN (D := D) (T := TX0) (N := 4) hx hb hts jnX0 hown hK hP 34 (wd_34 y ad cap I J) rfl 0 (by decide) (hts _ fn_X4_190) (fun _ h9 => h9) rfl dX4_branchAddress_4 ?_
  refine lv_aload_n hx hb dX4_branchAddress_7 rfl (lv_at hl 0 rfl) ?_
  refine va_get (D := D) (T := TX4) (N := 9) hx hb hts jnX4 hown hK hP 17 (wd_17 y ad cap I J) rfl 0 (by decide) (hts _ fl_X4_12) (fun _ h9 => h9) rfl dX4_branchAddress_8 ?_
  refine va_getN (D := D) (T := TX7) (N := 8) hx hb hts jnX7 hown hK hP 18 (wd_18 y ad cap I J) rfl 3 (by decide) (hts _ fn_X4_85) (fun _ h9 => h9) rfl dX4_branchAddress_11 ?_
  refine va_getN (D := D) (T := TX1) (N := 5) hx hb hts jnX1 hown hK hP 29 (wd_29 y ad cap I J) rfl 1 (by decide) (hts _ fn_X4_204) (fun _ h9 => h9) rfl dX4_branchAddress_14 ?_
  refine lv_iload_n hx hb dX4_branchAddress_17 rfl (lv_at hl 1 rfl) ?_
  refine va_iald (D := D) hx hb hK hP 30 0 (wd_30 y ad cap I J) rfl (vp_in_nI (by omega) (by omega)) dX4_branchAddress_18 ?_
  rw [nI_clamp (n := b0) (by omega)]
  refine lv_topi (fun v18 ev18 => ?_)
  obtain rfl : v18 = (nI (T 6 b0)) := by
    rw [ev18]; exact (hT.2.2.2.1 _ (by omega)).1
  refine va_lald (D := D) hx hb hK hP 35 1 (wd_35 y ad cap I J) rfl (vp_in_nI (by omega) (by omega)) dX4_branchAddress_19 ?_
  rw [nI_clamp (n := T 6 b0) (by omega)]
  refine lv_topl (fun v19 ev19 => ?_)
  obtain rfl : v19 = (lN (sA T n (T 6 b0))) := by
    rw [ev19]; exact (hJ _ (by omega)).1
  refine lv_aload_n hx hb dX4_branchAddress_20 rfl (lv_at hl 0 rfl) ?_
  refine va_get (D := D) (T := TX4) (N := 9) hx hb hts jnX4 hown hK hP 17 (wd_17 y ad cap I J) rfl 0 (by decide) (hts _ fl_X4_12) (fun _ h9 => h9) rfl dX4_branchAddress_21 ?_
  refine va_getN (D := D) (T := TX7) (N := 8) hx hb hts jnX7 hown hK hP 18 (wd_18 y ad cap I J) rfl 3 (by decide) (hts _ fn_X4_85) (fun _ h9 => h9) rfl dX4_branchAddress_24 ?_
  refine va_getN (D := D) (T := TX1) (N := 5) hx hb hts jnX1 hown hK hP 29 (wd_29 y ad cap I J) rfl 2 (by decide) (hts _ fn_X4_205) (fun _ h9 => h9) rfl dX4_branchAddress_27 ?_
  refine lv_iload_n hx hb dX4_branchAddress_30 rfl (lv_at hl 1 rfl) ?_
  refine va_iald (D := D) hx hb hK hP 31 0 (wd_31 y ad cap I J) rfl (vp_in_nI (by omega) (by omega)) dX4_branchAddress_31 ?_
  rw [nI_clamp (n := b0) (by omega)]
  refine lv_topi (fun v31 ev31 => ?_)
  obtain rfl : v31 = (nI (T 7 b0)) := by
    rw [ev31]; exact (hT.2.2.2.1 _ (by omega)).2.1
  refine lv_i2l (v := lN (T 7 b0)) hx hb dX4_branchAddress_32 (nI_l (by omega)) ?_
  refine lv_ladd hx hb dX4_branchAddress_33 ?_
  refine lv_topl (fun v33 ev33 => ?_)
  obtain rfl : v33 = (lN ((sA T n (T 6 b0)) + (T 7 b0))) := by rw [ev33, lN_add]
  refine W.lret (v := (lN ((sA T n (T 6 b0)) + (T 7 b0)))) hx hb hr (fun t ht hW => ⟨_, rfl, ?_, ht⟩) (fun _ h => nomatch h) dX4_branchAddress_34
  rfl
set_option maxHeartbeats 4000000 in
set_option maxRecDepth 100000 in
theorem c_X4_isDirect (l : Launch) (D : va_G) (y : Nat → ClassId) (ad : Nat → Nat) (cap : Nat) (I : Nat → Nat → Int32) (J : Nat → Nat → Int64) {T : Nat → Nat → Nat} {n : Nat → Nat} (hT : RT18 I T) (hW : WF T) (hn : ∀ s, n s ≤ 2400) (hJ : ∀ s, s < T 0 0 → J 35 s = lN (sA T n s) ∧ J 36 s = lN (pS T n s) ∧ J 37 s = lN (pE T n s)) {b0 : Nat} (hb0 : b0 < T 0 2) : Met l yX4_isDirect [.code yX4_isDirect cX4_isDirect 4 (some .boolean)] ({ frames := 2, cells := 0, slots := 0, locals := 52 }) (va_Pc [.ref (ad 17), .int (nI b0)] (PR D y (Wd y ad cap I J))) (vp_Si (fun r => r = if dirB T n b0 = true then 1 else 0)) 0 0 (fun _ => False) := by
  refine Met.ofW (cc := cX4_isDirect) (maxL := 4) (ret := (some .boolean)) (by decide) rfl ?_
  intro p e s m args below meth c s₁ B hml hv
  obtain ⟨rfl, hP, hO⟩ := hv
  have hx := B.exec
  have hb := B.bytes
  have hr := B.returns
  have hown : s.vm.findClass RX4 = some m.cls := findClass_of_methodNamed B.named
  have hlocks := B.notSynchronized
  have hK := hO.1
  have hts : ∀ w ∈ lw_E, w.before ([.ref (ad 17), .int (nI b0)] : List Value).toArray s = true := fun w h => hO.2 w h _
  clear B
  have hl := lv_entry ([.ref (ad 17), .int (nI b0)]) (n := 4) (Nat.le_of_ble_eq_true rfl)
  rw [lg_entry_eq]
  generalize (lg_sl ([.ref (ad 17), .int (nI b0)]) ++ List.replicate (4 - (lg_sl ([.ref (ad 17), .int (nI b0)])).length) Slot.unset).toArray = ls at hl ⊢
  have hl : lv_has ls 4 [(0, .ref (ad 17)), (1, .int (nI b0))] := hl
  have hW0 := hW
  obtain ⟨⟨w1, w2, w3, w4, w5, w6, w7⟩, wS, wL, wB, wK, wTk, wT0⟩ := hW
  obtain ⟨x1, x2, x6, x7, x8⟩ := wB b0 hb0
  obtain ⟨x3, x4, x5⟩ := wS _ x1
  refine lv_aload_n hx hb dX4_isDirect_0 rfl (lv_at hl 0 rfl) ?_
  refine lv_aload_n hx hb dX4_isDirect_1 rfl (lv_at hl 0 rfl) ?_
  refine va_get (D := D) (T := TX4) (N := 9) hx hb hts jnX4 hown hK hP 17 (wd_17 y ad cap I J) rfl 0 (by decide) (hts _ fl_X4_12) (fun _ h9 => h9) rfl dX4_isDirect_2 ?_
  refine va_getN (D := D) (T := TX7) (N := 8) hx hb hts jnX7 hown hK hP 18 (wd_18 y ad cap I J) rfl 3 (by decide) (hts _ fn_X4_85) (fun _ h9 => h9) rfl dX4_isDirect_5 ?_
  refine va_getN (D := D) (T := TX1) (N := 5) hx hb hts jnX1 hown hK hP 29 (wd_29 y ad cap I J) rfl 4 (by decide) (hts _ fn_X4_108) (fun _ h9 => h9) rfl dX4_isDirect_8 ?_
  refine lv_iload_n hx hb dX4_isDirect_11 rfl (lv_at hl 1 rfl) ?_
  refine va_iald (D := D) hx hb hK hP 33 0 (wd_33 y ad cap I J) rfl (vp_in_nI (by omega) (by omega)) dX4_isDirect_12 ?_
  rw [nI_clamp (n := b0) (by omega)]
  refine lv_topi (fun v12 ev12 => ?_)
  obtain rfl : v12 = (nI (T 9 b0)) := by
    rw [ev12]; exact (hT.2.2.2.1 _ (by omega)).2.2.2
  refine rk_l (run_v (As := [.int (nI (T 9 b0))]) (rest := []) (b := (ad 17)) hx hb hml hown hO.2 (c_X4_labelAddress l D y ad cap I J hT hW0 hn hJ (l0 := T 9 b0) x8) k_X4_labelAddress ml_X4_166 ⟨rfl, rfl⟩ ⟨Nat.le_of_ble_eq_true rfl, Nat.le_of_ble_eq_true rfl⟩ (pre_VR hO hP (wd_17 y ad cap I J) rfl) rfl hl.1 rfl (Nat.le_of_ble_eq_true rfl) dX4_isDirect_13 ⟨(Nat.zero_le _), (Nat.zero_le _)⟩) (fun r13 er13 => ?_)
  try dsimp only at er13
  obtain rfl : r13 = (lN (labA T n (T 9 b0))) := by
    exact er13
  refine lv_lstore_n (lv' := [(2, .long (lN (labA T n (T 9 b0)))), (0, .ref (ad 17)), (1, .int (nI b0))]) hx hb dX4_isDirect_16 rfl hl (by decide) rfl (fun ls hl => ?_)
  refine lv_aload_n hx hb dX4_isDirect_17 rfl (lv_at hl 1 rfl) ?_
  refine va_get (D := D) (T := TX4) (N := 9) hx hb hts jnX4 hown hK hP 17 (wd_17 y ad cap I J) rfl 0 (by decide) (hts _ fl_X4_12) (fun _ h9 => h9) rfl dX4_isDirect_18 ?_
  refine va_getN (D := D) (T := TX7) (N := 8) hx hb hts jnX7 hown hK hP 18 (wd_18 y ad cap I J) rfl 2 (by decide) (hts _ fn_X4_150) (fun _ h9 => h9) rfl dX4_isDirect_21 ?_
  refine lv_aload_n hx hb dX4_isDirect_24 rfl (lv_at hl 1 rfl) ?_
  refine va_get (D := D) (T := TX4) (N := 9) hx hb hts jnX4 hown hK hP 17 (wd_17 y ad cap I J) rfl 0 (by decide) (hts _ fl_X4_12) (fun _ h9 => h9) rfl dX4_isDirect_25 ?_
  refine va_getN (D := D) (T := TX7) (N := 8) hx hb hts jnX7 hown hK hP 18 (wd_18 y ad cap I J) rfl 3 (by decide) (hts _ fn_X4_85) (fun _ h9 => h9) rfl dX4_isDirect_28 ?_
  refine va_getN (D := D) (T := TX1) (N := 5) hx hb hts jnX1 hown hK hP 29 (wd_29 y ad cap I J) rfl 3 (by decide) (hts _ fn_X4_154) (fun _ h9 => h9) rfl dX4_isDirect_31 ?_
  refine lv_iload_n hx hb dX4_isDirect_34 rfl (lv_at hl 2 rfl) ?_
  refine va_iald (D := D) hx hb hK hP 32 0 (wd_32 y ad cap I J) rfl (vp_in_nI (by omega) (by omega)) dX4_isDirect_35 ?_
  rw [nI_clamp (n := b0) (by omega)]
  refine lv_topi (fun v35 ev35 => ?_)
  obtain rfl : v35 = (nI (T 8 b0)) := by
    rw [ev35]; exact (hT.2.2.2.1 _ (by omega)).2.2.1
  refine lv_aload_n hx hb dX4_isDirect_36 rfl (lv_at hl 1 rfl) ?_
  refine lv_iload_n hx hb dX4_isDirect_37 rfl (lv_at hl 2 rfl) ?_
  refine rk_l (run_v (As := [.int (nI b0)]) (rest := [.int (nI (T 8 b0)), .ref (ad 26)]) (b := (ad 17)) hx hb hml hown hO.2 (c_X4_branchAddress l D y ad cap I J hT hW0 hn hJ (b0 := b0) hb0) k_X4_branchAddress ml_X4_111 ⟨rfl, rfl⟩ ⟨Nat.le_of_ble_eq_true rfl, Nat.le_of_ble_eq_true rfl⟩ (pre_VR hO hP (wd_17 y ad cap I J) rfl) rfl hl.1 rfl (Nat.le_of_ble_eq_true rfl) dX4_isDirect_38 ⟨(Nat.zero_le _), (Nat.zero_le _)⟩) (fun r38 er38 => ?_)
  try dsimp only at er38
  obtain rfl : r38 = (lN (braA T n b0)) := by
    exact er38
  refine lv_lload_n hx hb dX4_isDirect_41 rfl (lv_at hl 0 rfl) ?_
  refine rk_i (run_vn (As := [.int (nI (T 8 b0)), .long (lN (braA T n b0)), .long (lN (labA T n (T 9 b0)))]) (rest := []) (b := (ad 26)) hx hb hml hown hO.2 (c_X2_reaches l D y (wd_26 y ad cap I J) (wd_27 y ad cap I J) (wd_28 y ad cap I J) (k0 := T 8 b0) x6 (hT.2.2.2.2 _ x6).1 (hT.2.2.2.2 _ x6).2 (wK _ x6).1 x7 (wK _ x6).2 (by have := braA_le hW0 hn hb0; omega) (by have := labA_le hW0 hn x8; omega)) k_X2_reaches mn_X4_157 ⟨rfl, rfl⟩ ⟨Nat.le_of_ble_eq_true rfl, Nat.le_of_ble_eq_true rfl⟩ (pre_VR hO hP (wd_26 y ad cap I J) rfl) rfl hl.1 rfl (Nat.le_of_ble_eq_true rfl) dX4_isDirect_42 ⟨(Nat.zero_le _), (Nat.zero_le _)⟩) (fun r42 er42 => ?_)
  try dsimp only at er42
  refine W.zret (v := r42) hx hb hr (if01_narrow er42) (fun t ht hW => ⟨_, rfl, ?_, ht⟩) (fun _ h => nomatch h) dX4_isDirect_45
  exact er42
theorem TW_left {T : Nat → Nat → Nat} {M F : List Th} (h : TW T (M ++ F)) : TW T M := by
  refine ⟨fun t ht => ?_, fun t u ht hu h1 h2 => ?_⟩
  · have := h.1 t (by rw [List.length_append]; omega)
    rw [thA_app ht] at this
    exact this
  · apply h.2 t u (by rw [List.length_append]; omega) (by rw [List.length_append]; omega)
    · rw [thA_app ht, thA_app hu]
      exact h1
    · rw [thA_app ht, thA_app hu]
      exact h2
set_option maxHeartbeats 4000000 in
set_option maxRecDepth 100000 in
theorem c_X4_doesHelp (l : Launch) (D : va_G) (y : Nat → ClassId) (ad : Nat → Nat) (cap : Nat) (I : Nat → Nat → Int32) (J : Nat → Nat → Int64) {T : Nat → Nat → Nat} {M F : List Th} (hT : RT18 I T) (hW : WF T) (hM : (M ++ F).length ≤ 2400) (hTW : TW T (M ++ F)) (hJ : ∀ s, s < T 0 0 → J 35 s = lN (sA T (cnt M) s) ∧ J 36 s = lN (pS T (cnt M) s) ∧ J 37 s = lN (pE T (cnt M) s)) (hTH : TH I J T cap M F) (hPL : PL J T M) (htz : 0 < T 0 5) {t0 b0 : Nat} (ht0 : t0 < M.length) (hb0 : b0 < T 0 2) : Met l yX4_doesHelp [.code yX4_doesHelp cX4_doesHelp 5 (some .boolean)] ({ frames := 2, cells := 0, slots := 0, locals := 52 }) (va_Pc [.ref (ad 17), .int (nI t0), .int (nI b0)] (PR D y (Wd y ad cap I J))) (vp_Si (fun r => r = if helpB T M b0 t0 = true then 1 else 0)) 0 0 (fun _ => False) := by
  refine Met.ofW (cc := cX4_doesHelp) (maxL := 5) (ret := (some .boolean)) (by decide) rfl ?_
  intro p e s m args below meth c s₁ B hml hv
  obtain ⟨rfl, hP, hO⟩ := hv
  have hx := B.exec
  have hb := B.bytes
  have hr := B.returns
  have hown : s.vm.findClass RX4 = some m.cls := findClass_of_methodNamed B.named
  have hlocks := B.notSynchronized
  have hK := hO.1
  have hts : ∀ w ∈ lw_E, w.before ([.ref (ad 17), .int (nI t0), .int (nI b0)] : List Value).toArray s = true := fun w h => hO.2 w h _
  clear B
  have hl := lv_entry ([.ref (ad 17), .int (nI t0), .int (nI b0)]) (n := 5) (Nat.le_of_ble_eq_true rfl)
  rw [lg_entry_eq]
  generalize (lg_sl ([.ref (ad 17), .int (nI t0), .int (nI b0)]) ++ List.replicate (5 - (lg_sl ([.ref (ad 17), .int (nI t0), .int (nI b0)])).length) Slot.unset).toArray = ls at hl ⊢
  have hl : lv_has ls 5 [(0, .ref (ad 17)), (1, .int (nI t0)), (2, .int (nI b0))] := hl
  have hW0 := hW
  obtain ⟨⟨w1, w2, w3, w4, w5, w6, w7⟩, wS, wL, wB, wK, wTk, wT0⟩ := hW
  obtain ⟨x1, x2, x6, x7, x8⟩ := wB b0 hb0
  obtain ⟨x3, x4, x5⟩ := wS _ x1
  have hnM : ∀ s, cnt M s ≤ 2400 := fun s => by have := cnt_le M s; rw [List.length_append] at hM; omega
  have hlen := hM
  rw [List.length_append] at hlen
  obtain ⟨t1, t2, t3, t4⟩ := hTW.1 t0 (by rw [List.length_append]; omega)
  have hTM : TW T M := TW_left hTW
  have hpl := plc_le hW0 (by omega) hTM ht0
  refine lv_aload_n hx hb dX4_doesHelp_0 rfl (lv_at hl 0 rfl) ?_
  refine va_get (D := D) (T := TX4) (N := 9) hx hb hts jnX4 hown hK hP 17 (wd_17 y ad cap I J) rfl 2 (by decide) (hts _ fl_X4_28) (fun _ h9 => h9) rfl dX4_doesHelp_1 ?_
  refine va_getN (D := D) (T := TX6) (N := 11) hx hb hts jnX6 hown hK hP 38 (wd_38 y ad cap I J) rfl 8 (by decide) (hts _ fn_X4_179) (fun _ h9 => h9) rfl dX4_doesHelp_4 ?_
  refine lv_iload_n hx hb dX4_doesHelp_7 rfl (lv_at hl 1 rfl) ?_
  refine va_lald (D := D) hx hb hK hP 45 1 (wd_45 y ad cap I J) rfl (vp_in_nI (by have := hTH.1.2.2.1; rw [List.length_append] at this; omega) (by have := hTH.1.2.2.2; omega)) dX4_doesHelp_8 ?_
  rw [nI_clamp (n := t0) (by omega)]
  refine lv_topl (fun v8 ev8 => ?_)
  obtain rfl : v8 = (lN (plc T M t0)) := by
    rw [ev8]; exact hPL _ (by omega)
  refine lv_lstore_n (lv' := [(3, .long (lN (plc T M t0))), (0, .ref (ad 17)), (1, .int (nI t0)), (2, .int (nI b0))]) hx hb dX4_doesHelp_9 rfl hl (by decide) rfl (fun ls hl => ?_)
  refine lv_aload_n hx hb dX4_doesHelp_10 rfl (lv_at hl 1 rfl) ?_
  refine va_get (D := D) (T := TX4) (N := 9) hx hb hts jnX4 hown hK hP 17 (wd_17 y ad cap I J) rfl 0 (by decide) (hts _ fl_X4_12) (fun _ h9 => h9) rfl dX4_doesHelp_11 ?_
  refine va_getN (D := D) (T := TX7) (N := 8) hx hb hts jnX7 hown hK hP 18 (wd_18 y ad cap I J) rfl 2 (by decide) (hts _ fn_X4_150) (fun _ h9 => h9) rfl dX4_doesHelp_14 ?_
  refine lv_aload_n hx hb dX4_doesHelp_17 rfl (lv_at hl 1 rfl) ?_
  refine va_get (D := D) (T := TX4) (N := 9) hx hb hts jnX4 hown hK hP 17 (wd_17 y ad cap I J) rfl 0 (by decide) (hts _ fl_X4_12) (fun _ h9 => h9) rfl dX4_doesHelp_18 ?_
  refine va_getN (D := D) (T := TX7) (N := 8) hx hb hts jnX7 hown hK hP 18 (wd_18 y ad cap I J) rfl 3 (by decide) (hts _ fn_X4_85) (fun _ h9 => h9) rfl dX4_doesHelp_21 ?_
  refine va_getN (D := D) (T := TX1) (N := 5) hx hb hts jnX1 hown hK hP 29 (wd_29 y ad cap I J) rfl 3 (by decide) (hts _ fn_X4_154) (fun _ h9 => h9) rfl dX4_doesHelp_24 ?_
  refine lv_iload_n hx hb dX4_doesHelp_27 rfl (lv_at hl 3 rfl) ?_
  refine va_iald (D := D) hx hb hK hP 32 0 (wd_32 y ad cap I J) rfl (vp_in_nI (by omega) (by omega)) dX4_doesHelp_28 ?_
  rw [nI_clamp (n := b0) (by omega)]
  refine lv_topi (fun v28 ev28 => ?_)
  obtain rfl : v28 = (nI (T 8 b0)) := by
    rw [ev28]; exact (hT.2.2.2.1 _ (by omega)).2.2.1
  refine lv_aload_n hx hb dX4_doesHelp_29 rfl (lv_at hl 1 rfl) ?_
  refine lv_iload_n hx hb dX4_doesHelp_30 rfl (lv_at hl 3 rfl) ?_
  refine rk_l (run_v (As := [.int (nI b0)]) (rest := [.int (nI (T 8 b0)), .ref (ad 26)]) (b := (ad 17)) hx hb hml hown hO.2 (c_X4_branchAddress l D y ad cap I J hT hW0 hnM hJ (b0 := b0) hb0) k_X4_branchAddress ml_X4_111 ⟨rfl, rfl⟩ ⟨Nat.le_of_ble_eq_true rfl, Nat.le_of_ble_eq_true rfl⟩ (pre_VR hO hP (wd_17 y ad cap I J) rfl) rfl hl.1 rfl (Nat.le_of_ble_eq_true rfl) dX4_doesHelp_31 ⟨(Nat.zero_le _), (Nat.zero_le _)⟩) (fun r31 er31 => ?_)
  try dsimp only at er31
  obtain rfl : r31 = (lN (braA T (cnt M) b0)) := by
    exact er31
  refine lv_lload_n hx hb dX4_doesHelp_34 rfl (lv_at hl 0 rfl) ?_
  refine rk_i (run_vn (As := [.int (nI (T 8 b0)), .long (lN (braA T (cnt M) b0)), .long (lN (plc T M t0))]) (rest := []) (b := (ad 26)) hx hb hml hown hO.2 (c_X2_reaches l D y (wd_26 y ad cap I J) (wd_27 y ad cap I J) (wd_28 y ad cap I J) (k0 := T 8 b0) x6 (hT.2.2.2.2 _ x6).1 (hT.2.2.2.2 _ x6).2 (wK _ x6).1 x7 (wK _ x6).2 (by have := braA_le hW0 hnM hb0; omega) (by omega)) k_X2_reaches mn_X4_157 ⟨rfl, rfl⟩ ⟨Nat.le_of_ble_eq_true rfl, Nat.le_of_ble_eq_true rfl⟩ (pre_VR hO hP (wd_26 y ad cap I J) rfl) rfl hl.1 rfl (Nat.le_of_ble_eq_true rfl) dX4_doesHelp_35 ⟨(Nat.zero_le _), (Nat.zero_le _)⟩) (fun r35 er35 => ?_)
  try dsimp only at er35
  refine lv_if_eq (tgt := 79) hx hb dX4_doesHelp_38 (by decide) (fun c38 => ?_) (fun c38 => ?_)
  · skip
    have c38 := if01_z er35 c38
    refine lv_iconst (v := 0) hx hb dX4_doesHelp_79 (by decide) ?_
    refine W.zret (v := 0) hx hb hr (by decide) (fun t ht hW => ⟨_, rfl, ?_, ht⟩) (fun _ h => nomatch h) dX4_doesHelp_80
    first | (rw [e9] at c72; simp only [helpB]; simp [c38, c72]; done) | (simp only [helpB]; simp [c38]; done)
  · skip
    have c38 := if01_n er35 c38
    have e9 := thA_app (F := F) ht0
    refine lv_aload_n hx hb dX4_doesHelp_41 rfl (lv_at hl 1 rfl) ?_
    refine va_get (D := D) (T := TX4) (N := 9) hx hb hts jnX4 hown hK hP 17 (wd_17 y ad cap I J) rfl 0 (by decide) (hts _ fl_X4_12) (fun _ h9 => h9) rfl dX4_doesHelp_42 ?_
    refine va_getN (D := D) (T := TX7) (N := 8) hx hb hts jnX7 hown hK hP 18 (wd_18 y ad cap I J) rfl 2 (by decide) (hts _ fn_X4_150) (fun _ h9 => h9) rfl dX4_doesHelp_45 ?_
    refine lv_aload_n hx hb dX4_doesHelp_48 rfl (lv_at hl 1 rfl) ?_
    refine va_get (D := D) (T := TX4) (N := 9) hx hb hts jnX4 hown hK hP 17 (wd_17 y ad cap I J) rfl 0 (by decide) (hts _ fl_X4_12) (fun _ h9 => h9) rfl dX4_doesHelp_49 ?_
    refine va_getN (D := D) (T := TX7) (N := 8) hx hb hts jnX7 hown hK hP 18 (wd_18 y ad cap I J) rfl 7 (by decide) (hts _ fn_X4_163) (fun _ h9 => h9) rfl dX4_doesHelp_52 ?_
    refine lv_topi (fun v52 ev52 => ?_)
    obtain rfl : v52 = (nI (T 0 7)) := by
      rw [ev52]; exact hT.1.2.2.2.2.2.2.2 htz
    refine lv_lload_n hx hb dX4_doesHelp_55 rfl (lv_at hl 0 rfl) ?_
    refine lv_aload_n hx hb dX4_doesHelp_56 rfl (lv_at hl 1 rfl) ?_
    refine lv_aload_n hx hb dX4_doesHelp_57 rfl (lv_at hl 1 rfl) ?_
    refine va_get (D := D) (T := TX4) (N := 9) hx hb hts jnX4 hown hK hP 17 (wd_17 y ad cap I J) rfl 2 (by decide) (hts _ fl_X4_28) (fun _ h9 => h9) rfl dX4_doesHelp_58 ?_
    refine va_getN (D := D) (T := TX6) (N := 11) hx hb hts jnX6 hown hK hP 38 (wd_38 y ad cap I J) rfl 3 (by decide) (hts _ fn_X4_182) (fun _ h9 => h9) rfl dX4_doesHelp_61 ?_
    refine lv_iload_n hx hb dX4_doesHelp_64 rfl (lv_at hl 2 rfl) ?_
    refine va_iald (D := D) hx hb hK hP 40 0 (wd_40 y ad cap I J) rfl (vp_in_nI (by have := hTH.1.2.2.1; rw [List.length_append] at this; omega) (by have := hTH.1.2.2.2; omega)) dX4_doesHelp_65 ?_
    rw [nI_clamp (n := t0) (by omega)]
    refine lv_topi (fun v65 ev65 => ?_)
    obtain rfl : v65 = (nI ((thA (M ++ F) t0).2.1)) := by
      rw [ev65]; exact (hTH.2.1 _ (by simp only [List.length_append]; omega)).2.1
    refine rk_l (run_v (As := [.int (nI ((thA (M ++ F) t0).2.1))]) (rest := [.long (lN (plc T M t0)), .int (nI (T 0 7)), .ref (ad 26)]) (b := (ad 17)) hx hb hml hown hO.2 (c_X4_labelAddress l D y ad cap I J hT hW0 hnM hJ (l0 := (thA (M ++ F) t0).2.1) t2) k_X4_labelAddress ml_X4_166 ⟨rfl, rfl⟩ ⟨Nat.le_of_ble_eq_true rfl, Nat.le_of_ble_eq_true rfl⟩ (pre_VR hO hP (wd_17 y ad cap I J) rfl) rfl hl.1 rfl (Nat.le_of_ble_eq_true rfl) dX4_doesHelp_66 ⟨(Nat.zero_le _), (Nat.zero_le _)⟩) (fun r66 er66 => ?_)
    try dsimp only at er66
    obtain rfl : r66 = (lN (labA T (cnt M) ((thA (M ++ F) t0).2.1))) := by
      exact er66
    refine rk_i (run_vn (As := [.int (nI (T 0 7)), .long (lN (plc T M t0)), .long (lN (labA T (cnt M) ((thA (M ++ F) t0).2.1)))]) (rest := []) (b := (ad 26)) hx hb hml hown hO.2 (c_X2_reaches l D y (wd_26 y ad cap I J) (wd_27 y ad cap I J) (wd_28 y ad cap I J) (k0 := T 0 7) (wTk htz).1 (hT.2.2.2.2 _ (wTk htz).1).1 (hT.2.2.2.2 _ (wTk htz).1).2 (wK _ (wTk htz).1).1 (wTk htz).2 (wK _ (wTk htz).1).2 (by omega) (by have := labA_le hW0 hnM t2; omega)) k_X2_reaches mn_X4_157 ⟨rfl, rfl⟩ ⟨Nat.le_of_ble_eq_true rfl, Nat.le_of_ble_eq_true rfl⟩ (pre_VR hO hP (wd_26 y ad cap I J) rfl) rfl hl.1 rfl (Nat.le_of_ble_eq_true rfl) dX4_doesHelp_69 ⟨(Nat.zero_le _), (Nat.zero_le _)⟩) (fun r69 er69 => ?_)
    try dsimp only at er69
    refine lv_if_eq (tgt := 79) hx hb dX4_doesHelp_72 (by decide) (fun c72 => ?_) (fun c72 => ?_)
    · skip
      have c72 := if01_z er69 c72
      refine lv_iconst (v := 0) hx hb dX4_doesHelp_79 (by decide) ?_
      refine W.zret (v := 0) hx hb hr (by decide) (fun t ht hW => ⟨_, rfl, ?_, ht⟩) (fun _ h => nomatch h) dX4_doesHelp_80
      first | (rw [e9] at c72; simp only [helpB]; simp [c38, c72]; done) | (simp only [helpB]; simp [c38]; done)
    · skip
      have c72 := if01_n er69 c72
      refine lv_iconst (v := 1) hx hb dX4_doesHelp_75 (by decide) ?_
      refine lv_goto (tgt := 80) hx hb dX4_doesHelp_76 (by decide) ?_
      refine W.zret (v := 1) hx hb hr (by decide) (fun t ht hW => ⟨_, rfl, ?_, ht⟩) (fun _ h => nomatch h) dX4_doesHelp_80
      first | (rw [e9] at c72; simp only [helpB]; simp [c38, c72]; done) | (simp only [helpB]; simp [c38]; done)
end
section
theorem nI_z {a : Nat} (h : a < 2 ^ 31) : nI a = 0 ↔ a = 0 := by
  rw [← nI_0, nI_eq h (by omega)]
set_option maxHeartbeats 4000000 in
set_option maxRecDepth 100000 in
theorem c_X4_couldHelp (l : Launch) (D : va_G) (y : Nat → ClassId) (ad : Nat → Nat) (cap : Nat) (I : Nat → Nat → Int32) (J : Nat → Nat → Int64) {T : Nat → Nat → Nat} {M F : List Th} (hT : RT18 I T) (hW : WF T) (hM : (M ++ F).length ≤ 2400) (hTW : TW T (M ++ F)) (hJ : ∀ s, s < T 0 0 → J 35 s = lN (sA T (cnt M) s) ∧ J 36 s = lN (pS T (cnt M) s) ∧ J 37 s = lN (pE T (cnt M) s)) (hTH : TH I J T cap M F) (hPL : PL J T M) (htz : 0 < T 0 5) {s0 b0 : Nat} (hs0 : s0 < T 0 0) (hb0 : b0 < T 0 2) : Met l yX4_couldHelp [.code yX4_couldHelp cX4_couldHelp 6 (some .boolean)] ({ frames := 2, cells := 0, slots := 0, locals := 52 }) (va_Pc [.ref (ad 17), .int (nI s0), .int (nI b0)] (PR D y (Wd y ad cap I J))) (vp_Si (fun r => r = if couB T M b0 s0 = true then 1 else 0)) 0 0 (fun _ => False) := by
  refine Met.ofW (cc := cX4_couldHelp) (maxL := 6) (ret := (some .boolean)) (by decide) rfl ?_
  intro p e s m args below meth c s₁ B hml hv
  obtain ⟨rfl, hP, hO⟩ := hv
  have hx := B.exec
  have hb := B.bytes
  have hr := B.returns
  have hown : s.vm.findClass RX4 = some m.cls := findClass_of_methodNamed B.named
  have hlocks := B.notSynchronized
  have hK := hO.1
  have hts : ∀ w ∈ lw_E, w.before ([.ref (ad 17), .int (nI s0), .int (nI b0)] : List Value).toArray s = true := fun w h => hO.2 w h _
  clear B
  have hl := lv_entry ([.ref (ad 17), .int (nI s0), .int (nI b0)]) (n := 6) (Nat.le_of_ble_eq_true rfl)
  rw [lg_entry_eq]
  generalize (lg_sl ([.ref (ad 17), .int (nI s0), .int (nI b0)]) ++ List.replicate (6 - (lg_sl ([.ref (ad 17), .int (nI s0), .int (nI b0)])).length) Slot.unset).toArray = ls at hl ⊢
  have hl : lv_has ls 6 [(0, .ref (ad 17)), (1, .int (nI s0)), (2, .int (nI b0))] := hl
  have hW0 := hW
  obtain ⟨⟨w1, w2, w3, w4, w5, w6, w7⟩, wS, wL, wB, wK, wTk, wT0⟩ := hW
  obtain ⟨x1, x2, x6, x7, x8⟩ := wB b0 hb0
  obtain ⟨x3, x4, x5⟩ := wS _ x1
  have hnM : ∀ s, cnt M s ≤ 2400 := fun s => by have := cnt_le M s; rw [List.length_append] at hM; omega
  have hlen := hM
  rw [List.length_append] at hlen
  obtain ⟨y3, y4, y5⟩ := wS _ hs0
  refine lv_aload_n hx hb dX4_couldHelp_0 rfl (lv_at hl 0 rfl) ?_
  refine va_get (D := D) (T := TX4) (N := 9) hx hb hts jnX4 hown hK hP 17 (wd_17 y ad cap I J) rfl 0 (by decide) (hts _ fl_X4_12) (fun _ h9 => h9) rfl dX4_couldHelp_1 ?_
  refine va_getN (D := D) (T := TX7) (N := 8) hx hb hts jnX7 hown hK hP 18 (wd_18 y ad cap I J) rfl 3 (by decide) (hts _ fn_X4_85) (fun _ h9 => h9) rfl dX4_couldHelp_4 ?_
  refine va_getN (D := D) (T := TX1) (N := 5) hx hb hts jnX1 hown hK hP 29 (wd_29 y ad cap I J) rfl 4 (by decide) (hts _ fn_X4_108) (fun _ h9 => h9) rfl dX4_couldHelp_7 ?_
  refine lv_iload_n hx hb dX4_couldHelp_10 rfl (lv_at hl 2 rfl) ?_
  refine va_iald (D := D) hx hb hK hP 33 0 (wd_33 y ad cap I J) rfl (vp_in_nI (by omega) (by omega)) dX4_couldHelp_11 ?_
  rw [nI_clamp (n := b0) (by omega)]
  refine lv_topi (fun v11 ev11 => ?_)
  obtain rfl : v11 = (nI (T 9 b0)) := by
    rw [ev11]; exact (hT.2.2.2.1 _ (by omega)).2.2.2
  refine lv_istore_n (lv' := [(3, .int (nI (T 9 b0))), (0, .ref (ad 17)), (1, .int (nI s0)), (2, .int (nI b0))]) hx hb dX4_couldHelp_12 rfl hl (by decide) rfl (fun ls hl => ?_)
  refine lv_aload_n hx hb dX4_couldHelp_13 rfl (lv_at hl 1 rfl) ?_
  refine va_get (D := D) (T := TX4) (N := 9) hx hb hts jnX4 hown hK hP 17 (wd_17 y ad cap I J) rfl 0 (by decide) (hts _ fl_X4_12) (fun _ h9 => h9) rfl dX4_couldHelp_14 ?_
  refine va_getN (D := D) (T := TX7) (N := 8) hx hb hts jnX7 hown hK hP 18 (wd_18 y ad cap I J) rfl 0 (by decide) (hts _ fn_X4_115) (fun _ h9 => h9) rfl dX4_couldHelp_17 ?_
  refine va_getN (D := D) (T := TX5) (N := 5) hx hb hts jnX5 hown hK hP 19 (wd_19 y ad cap I J) rfl 4 (by decide) (hts _ fn_X4_143) (fun _ h9 => h9) rfl dX4_couldHelp_20 ?_
  refine lv_iload_n hx hb dX4_couldHelp_23 rfl (lv_at hl 2 rfl) ?_
  refine va_zald (D := D) hx hb hK hP 22 2 (wd_22 y ad cap I J) rfl (vp_in_nI (by omega) (by omega)) dX4_couldHelp_24 ?_
  rw [nI_clamp (n := s0) (by omega)]
  refine lv_topi (fun v24 ev24 => ?_)
  obtain rfl : v24 = (nI (T 3 s0)) := by
    rw [ev24]; exact (hT.2.1 _ (by omega)).2.2
  refine lv_if_eq (tgt := 40) hx hb dX4_couldHelp_25 (by decide) (fun c25 => ?_) (fun c25 => ?_)
  · skip
    refine lv_iconst (v := 0) hx hb dX4_couldHelp_40 (by decide) ?_
    refine W.zret (v := 0) hx hb hr (by decide) (fun t ht hW => ⟨_, rfl, ?_, ht⟩) (fun _ h => nomatch h) dX4_couldHelp_41
    first | (have h0 := (nI_z (by omega)).mp c25; simp [couB, h0]; done) | (obtain ⟨t, h1, _⟩ := has_some (by simp only [List.length_append]; omega) c37; have h2 := inB_fnd.mpr ⟨t, h1⟩; simp [couB, h2]; done)
  · skip
    refine lv_aload_n hx hb dX4_couldHelp_28 rfl (lv_at hl 1 rfl) ?_
    refine va_get (D := D) (T := TX4) (N := 9) hx hb hts jnX4 hown hK hP 17 (wd_17 y ad cap I J) rfl 2 (by decide) (hts _ fl_X4_28) (fun _ h9 => h9) rfl dX4_couldHelp_29 ?_
    refine lv_iload_n hx hb dX4_couldHelp_32 rfl (lv_at hl 2 rfl) ?_
    refine lv_iload_n hx hb dX4_couldHelp_33 rfl (lv_at hl 0 rfl) ?_
    refine rk_i (run_vn (As := [.int (nI s0), .int (nI (T 9 b0))]) (rest := []) (b := (ad 38)) hx hb hml hown hO.2 (c_X6_isMade l D y (wd_38 y ad cap I J) (wd_47 y ad cap I J) (s0 := s0) (l0 := T 9 b0) (by omega) (by omega)) k_X6_isMade mn_X4_147 ⟨rfl, rfl⟩ ⟨Nat.le_of_ble_eq_true rfl, Nat.le_of_ble_eq_true rfl⟩ (pre_VR hO hP (wd_38 y ad cap I J) rfl) rfl hl.1 rfl (Nat.le_of_ble_eq_true rfl) dX4_couldHelp_34 ⟨(Nat.zero_le _), (Nat.zero_le _)⟩) (fun r34 er34 => ?_)
    try dsimp only at er34
    rw [hTH.1.1, hTH.2.2.2.2 _ _ (by omega) (by omega)] at er34
    refine lv_if_eq (tgt := 42) hx hb dX4_couldHelp_37 (by decide) (fun c37 => ?_) (fun c37 => ?_)
    · skip
      have c37 := if01_z er34 c37
      refine lv_aload_n hx hb dX4_couldHelp_42 rfl (lv_at hl 1 rfl) ?_
      refine va_get (D := D) (T := TX4) (N := 9) hx hb hts jnX4 hown hK hP 17 (wd_17 y ad cap I J) rfl 1 (by decide) (hts _ fl_X4_21) (fun _ h9 => h9) rfl dX4_couldHelp_43 ?_
      refine va_getN (D := D) (T := TX0) (N := 4) hx hb hts jnX0 hown hK hP 34 (wd_34 y ad cap I J) rfl 2 (by decide) (hts _ fn_X4_129) (fun _ h9 => h9) rfl dX4_couldHelp_46 ?_
      refine lv_iload_n hx hb dX4_couldHelp_49 rfl (lv_at hl 2 rfl) ?_
      refine va_lald (D := D) hx hb hK hP 37 1 (wd_37 y ad cap I J) rfl (vp_in_nI (by omega) (by omega)) dX4_couldHelp_50 ?_
      rw [nI_clamp (n := s0) (by omega)]
      refine lv_topl (fun v50 ev50 => ?_)
      obtain rfl : v50 = (lN (pE T (cnt M) s0)) := by
        rw [ev50]; exact (hJ _ (by omega)).2.2
      refine lv_lstore (lv' := [(4, .long (lN (pE T (cnt M) s0))), (3, .int (nI (T 9 b0))), (0, .ref (ad 17)), (1, .int (nI s0)), (2, .int (nI b0))]) hx hb dX4_couldHelp_51 hl (by decide) rfl (fun ls hl => ?_)
      refine lv_aload_n hx hb dX4_couldHelp_53 rfl (lv_at hl 2 rfl) ?_
      refine va_get (D := D) (T := TX4) (N := 9) hx hb hts jnX4 hown hK hP 17 (wd_17 y ad cap I J) rfl 0 (by decide) (hts _ fl_X4_12) (fun _ h9 => h9) rfl dX4_couldHelp_54 ?_
      refine va_getN (D := D) (T := TX7) (N := 8) hx hb hts jnX7 hown hK hP 18 (wd_18 y ad cap I J) rfl 2 (by decide) (hts _ fn_X4_150) (fun _ h9 => h9) rfl dX4_couldHelp_57 ?_
      refine lv_aload_n hx hb dX4_couldHelp_60 rfl (lv_at hl 2 rfl) ?_
      refine va_get (D := D) (T := TX4) (N := 9) hx hb hts jnX4 hown hK hP 17 (wd_17 y ad cap I J) rfl 0 (by decide) (hts _ fl_X4_12) (fun _ h9 => h9) rfl dX4_couldHelp_61 ?_
      refine va_getN (D := D) (T := TX7) (N := 8) hx hb hts jnX7 hown hK hP 18 (wd_18 y ad cap I J) rfl 3 (by decide) (hts _ fn_X4_85) (fun _ h9 => h9) rfl dX4_couldHelp_64 ?_
      refine va_getN (D := D) (T := TX1) (N := 5) hx hb hts jnX1 hown hK hP 29 (wd_29 y ad cap I J) rfl 3 (by decide) (hts _ fn_X4_154) (fun _ h9 => h9) rfl dX4_couldHelp_67 ?_
      refine lv_iload_n hx hb dX4_couldHelp_70 rfl (lv_at hl 4 rfl) ?_
      refine va_iald (D := D) hx hb hK hP 32 0 (wd_32 y ad cap I J) rfl (vp_in_nI (by omega) (by omega)) dX4_couldHelp_71 ?_
      rw [nI_clamp (n := b0) (by omega)]
      refine lv_topi (fun v71 ev71 => ?_)
      obtain rfl : v71 = (nI (T 8 b0)) := by
        rw [ev71]; exact (hT.2.2.2.1 _ (by omega)).2.2.1
      refine lv_aload_n hx hb dX4_couldHelp_72 rfl (lv_at hl 2 rfl) ?_
      refine lv_iload_n hx hb dX4_couldHelp_73 rfl (lv_at hl 4 rfl) ?_
      refine rk_l (run_v (As := [.int (nI b0)]) (rest := [.int (nI (T 8 b0)), .ref (ad 26)]) (b := (ad 17)) hx hb hml hown hO.2 (c_X4_branchAddress l D y ad cap I J hT hW0 hnM hJ (b0 := b0) hb0) k_X4_branchAddress ml_X4_111 ⟨rfl, rfl⟩ ⟨Nat.le_of_ble_eq_true rfl, Nat.le_of_ble_eq_true rfl⟩ (pre_VR hO hP (wd_17 y ad cap I J) rfl) rfl hl.1 rfl (Nat.le_of_ble_eq_true rfl) dX4_couldHelp_74 ⟨(Nat.zero_le _), (Nat.zero_le _)⟩) (fun r74 er74 => ?_)
      try dsimp only at er74
      obtain rfl : r74 = (lN (braA T (cnt M) b0)) := by
        exact er74
      refine lv_lload hx hb dX4_couldHelp_77 (lv_at hl 0 rfl) ?_
      refine rk_i (run_vn (As := [.int (nI (T 8 b0)), .long (lN (braA T (cnt M) b0)), .long (lN (pE T (cnt M) s0))]) (rest := []) (b := (ad 26)) hx hb hml hown hO.2 (c_X2_reaches l D y (wd_26 y ad cap I J) (wd_27 y ad cap I J) (wd_28 y ad cap I J) (k0 := T 8 b0) x6 (hT.2.2.2.2 _ x6).1 (hT.2.2.2.2 _ x6).2 (wK _ x6).1 x7 (wK _ x6).2 (by have := braA_le hW0 hnM hb0; omega) (by have := pE_le hW0 hnM hs0; omega)) k_X2_reaches mn_X4_157 ⟨rfl, rfl⟩ ⟨Nat.le_of_ble_eq_true rfl, Nat.le_of_ble_eq_true rfl⟩ (pre_VR hO hP (wd_26 y ad cap I J) rfl) rfl hl.1 rfl (Nat.le_of_ble_eq_true rfl) dX4_couldHelp_79 ⟨(Nat.zero_le _), (Nat.zero_le _)⟩) (fun r79 er79 => ?_)
      try dsimp only at er79
      refine lv_if_eq (tgt := 116) hx hb dX4_couldHelp_82 (by decide) (fun c82 => ?_) (fun c82 => ?_)
      · skip
        have c82 := if01_z er79 c82
        refine lv_iconst (v := 0) hx hb dX4_couldHelp_116 (by decide) ?_
        refine W.zret (v := 0) hx hb hr (by decide) (fun t ht hW => ⟨_, rfl, ?_, ht⟩) (fun _ h => nomatch h) dX4_couldHelp_117
        have hT3 : T 3 s0 ≠ 0 := fun h9 => c25 ((nI_z (by omega)).mpr h9)
        have hnb : inB M s0 (T 9 b0) = false := fnd_none.mp (has_none (by simp only [List.length_append]; omega) c37)
        first | (simp [couB, hT3, hnb, c82, c109]; done) | (simp [couB, hT3, hnb, c82]; done)
      · skip
        have c82 := if01_n er79 c82
        refine lv_aload_n hx hb dX4_couldHelp_85 rfl (lv_at hl 2 rfl) ?_
        refine va_get (D := D) (T := TX4) (N := 9) hx hb hts jnX4 hown hK hP 17 (wd_17 y ad cap I J) rfl 0 (by decide) (hts _ fl_X4_12) (fun _ h9 => h9) rfl dX4_couldHelp_86 ?_
        refine va_getN (D := D) (T := TX7) (N := 8) hx hb hts jnX7 hown hK hP 18 (wd_18 y ad cap I J) rfl 2 (by decide) (hts _ fn_X4_150) (fun _ h9 => h9) rfl dX4_couldHelp_89 ?_
        refine lv_aload_n hx hb dX4_couldHelp_92 rfl (lv_at hl 2 rfl) ?_
        refine va_get (D := D) (T := TX4) (N := 9) hx hb hts jnX4 hown hK hP 17 (wd_17 y ad cap I J) rfl 0 (by decide) (hts _ fl_X4_12) (fun _ h9 => h9) rfl dX4_couldHelp_93 ?_
        refine va_getN (D := D) (T := TX7) (N := 8) hx hb hts jnX7 hown hK hP 18 (wd_18 y ad cap I J) rfl 7 (by decide) (hts _ fn_X4_163) (fun _ h9 => h9) rfl dX4_couldHelp_96 ?_
        refine lv_topi (fun v96 ev96 => ?_)
        obtain rfl : v96 = (nI (T 0 7)) := by
          rw [ev96]; exact hT.1.2.2.2.2.2.2.2 htz
        refine lv_lload hx hb dX4_couldHelp_99 (lv_at hl 0 rfl) ?_
        refine lv_aload_n hx hb dX4_couldHelp_101 rfl (lv_at hl 2 rfl) ?_
        refine lv_iload_n hx hb dX4_couldHelp_102 rfl (lv_at hl 1 rfl) ?_
        refine rk_l (run_v (As := [.int (nI (T 9 b0))]) (rest := [.long (lN (pE T (cnt M) s0)), .int (nI (T 0 7)), .ref (ad 26)]) (b := (ad 17)) hx hb hml hown hO.2 (c_X4_labelAddress l D y ad cap I J hT hW0 hnM hJ (l0 := T 9 b0) x8) k_X4_labelAddress ml_X4_166 ⟨rfl, rfl⟩ ⟨Nat.le_of_ble_eq_true rfl, Nat.le_of_ble_eq_true rfl⟩ (pre_VR hO hP (wd_17 y ad cap I J) rfl) rfl hl.1 rfl (Nat.le_of_ble_eq_true rfl) dX4_couldHelp_103 ⟨(Nat.zero_le _), (Nat.zero_le _)⟩) (fun r103 er103 => ?_)
        try dsimp only at er103
        obtain rfl : r103 = (lN (labA T (cnt M) (T 9 b0))) := by
          exact er103
        refine rk_i (run_vn (As := [.int (nI (T 0 7)), .long (lN (pE T (cnt M) s0)), .long (lN (labA T (cnt M) (T 9 b0)))]) (rest := []) (b := (ad 26)) hx hb hml hown hO.2 (c_X2_reaches l D y (wd_26 y ad cap I J) (wd_27 y ad cap I J) (wd_28 y ad cap I J) (k0 := T 0 7) (wTk htz).1 (hT.2.2.2.2 _ (wTk htz).1).1 (hT.2.2.2.2 _ (wTk htz).1).2 (wK _ (wTk htz).1).1 (wTk htz).2 (wK _ (wTk htz).1).2 (by have := pE_le hW0 hnM hs0; omega) (by have := labA_le hW0 hnM x8; omega)) k_X2_reaches mn_X4_157 ⟨rfl, rfl⟩ ⟨Nat.le_of_ble_eq_true rfl, Nat.le_of_ble_eq_true rfl⟩ (pre_VR hO hP (wd_26 y ad cap I J) rfl) rfl hl.1 rfl (Nat.le_of_ble_eq_true rfl) dX4_couldHelp_106 ⟨(Nat.zero_le _), (Nat.zero_le _)⟩) (fun r106 er106 => ?_)
        try dsimp only at er106
        refine lv_if_eq (tgt := 116) hx hb dX4_couldHelp_109 (by decide) (fun c109 => ?_) (fun c109 => ?_)
        · skip
          have c109 := if01_z er106 c109
          refine lv_iconst (v := 0) hx hb dX4_couldHelp_116 (by decide) ?_
          refine W.zret (v := 0) hx hb hr (by decide) (fun t ht hW => ⟨_, rfl, ?_, ht⟩) (fun _ h => nomatch h) dX4_couldHelp_117
          have hT3 : T 3 s0 ≠ 0 := fun h9 => c25 ((nI_z (by omega)).mpr h9)
          have hnb : inB M s0 (T 9 b0) = false := fnd_none.mp (has_none (by simp only [List.length_append]; omega) c37)
          first | (simp [couB, hT3, hnb, c82, c109]; done) | (simp [couB, hT3, hnb, c82]; done)
        · skip
          have c109 := if01_n er106 c109
          refine lv_iconst (v := 1) hx hb dX4_couldHelp_112 (by decide) ?_
          refine lv_goto (tgt := 117) hx hb dX4_couldHelp_113 (by decide) ?_
          refine W.zret (v := 1) hx hb hr (by decide) (fun t ht hW => ⟨_, rfl, ?_, ht⟩) (fun _ h => nomatch h) dX4_couldHelp_117
          have hT3 : T 3 s0 ≠ 0 := fun h9 => c25 ((nI_z (by omega)).mpr h9)
          have hnb : inB M s0 (T 9 b0) = false := fnd_none.mp (has_none (by simp only [List.length_append]; omega) c37)
          first | (simp [couB, hT3, hnb, c82, c109]; done) | (simp [couB, hT3, hnb, c82]; done)
    · skip
      have c37 := if01_n er34 c37
      refine lv_iconst (v := 0) hx hb dX4_couldHelp_40 (by decide) ?_
      refine W.zret (v := 0) hx hb hr (by decide) (fun t ht hW => ⟨_, rfl, ?_, ht⟩) (fun _ h => nomatch h) dX4_couldHelp_41
      first | (have h0 := (nI_z (by omega)).mp c25; simp [couB, h0]; done) | (obtain ⟨t, h1, _⟩ := has_some (by simp only [List.length_append]; omega) c37; have h2 := inB_fnd.mpr ⟨t, h1⟩; simp [couB, h2]; done)
set_option maxHeartbeats 4000000 in
set_option maxRecDepth 100000 in
theorem c_X4_nearestThunk (l : Launch) (D : va_G) (y : Nat → ClassId) (ad : Nat → Nat) (cap : Nat) (I : Nat → Nat → Int32) (J : Nat → Nat → Int64) {T : Nat → Nat → Nat} {M F : List Th} (hT : RT18 I T) (hW : WF T) (hM : (M ++ F).length ≤ 2400) (hTW : TW T (M ++ F)) (hJ : ∀ s, s < T 0 0 → J 35 s = lN (sA T (cnt M) s) ∧ J 36 s = lN (pS T (cnt M) s) ∧ J 37 s = lN (pE T (cnt M) s)) (hTH : TH I J T cap M F) (hPL : PL J T M) (htz0 : 0 < M.length → 0 < T 0 5) {b0 : Nat} (hb0 : b0 < T 0 2) : Met l yX4_nearestThunk [.code yX4_nearestThunk cX4_nearestThunk 12 (some .int)] ({ frames := 3, cells := 0, slots := 0, locals := 76 }) (va_Pc [.ref (ad 17), .int (nI b0)] (PR D y (Wd y ad cap I J))) (vp_Si (fun r => r = oI (bst T M b0 (T 0 0)))) 0 0 (fun _ => False) := by
  refine Met.ofW (cc := cX4_nearestThunk) (maxL := 12) (ret := (some .int)) (by decide) rfl ?_
  intro p e s m args below meth c s₁ B hml hv
  obtain ⟨rfl, hP, hO⟩ := hv
  have hx := B.exec
  have hb := B.bytes
  have hr := B.returns
  have hown : s.vm.findClass RX4 = some m.cls := findClass_of_methodNamed B.named
  have hlocks := B.notSynchronized
  have hK := hO.1
  have hts : ∀ w ∈ lw_E, w.before ([.ref (ad 17), .int (nI b0)] : List Value).toArray s = true := fun w h => hO.2 w h _
  clear B
  have hl := lv_entry ([.ref (ad 17), .int (nI b0)]) (n := 12) (Nat.le_of_ble_eq_true rfl)
  rw [lg_entry_eq]
  generalize (lg_sl ([.ref (ad 17), .int (nI b0)]) ++ List.replicate (12 - (lg_sl ([.ref (ad 17), .int (nI b0)])).length) Slot.unset).toArray = ls at hl ⊢
  have hl : lv_has ls 12 [(0, .ref (ad 17)), (1, .int (nI b0))] := hl
  have hW0 := hW
  obtain ⟨⟨w1, w2, w3, w4, w5, w6, w7⟩, wS, wL, wB, wK, wTk, wT0⟩ := hW
  obtain ⟨x1, x2, x6, x7, x8⟩ := wB b0 hb0
  obtain ⟨x3, x4, x5⟩ := wS _ x1
  have hnM : ∀ s, cnt M s ≤ 2400 := fun s => by have := cnt_le M s; rw [List.length_append] at hM; omega
  have hlen := hM
  rw [List.length_append] at hlen
  refine lv_aload_n hx hb dX4_nearestThunk_0 rfl (lv_at hl 0 rfl) ?_
  refine va_get (D := D) (T := TX4) (N := 9) hx hb hts jnX4 hown hK hP 17 (wd_17 y ad cap I J) rfl 0 (by decide) (hts _ fl_X4_12) (fun _ h9 => h9) rfl dX4_nearestThunk_1 ?_
  refine va_getN (D := D) (T := TX7) (N := 8) hx hb hts jnX7 hown hK hP 18 (wd_18 y ad cap I J) rfl 3 (by decide) (hts _ fn_X4_85) (fun _ h9 => h9) rfl dX4_nearestThunk_4 ?_
  refine va_getN (D := D) (T := TX1) (N := 5) hx hb hts jnX1 hown hK hP 29 (wd_29 y ad cap I J) rfl 4 (by decide) (hts _ fn_X4_108) (fun _ h9 => h9) rfl dX4_nearestThunk_7 ?_
  refine lv_iload_n hx hb dX4_nearestThunk_10 rfl (lv_at hl 1 rfl) ?_
  refine va_iald (D := D) hx hb hK hP 33 0 (wd_33 y ad cap I J) rfl (vp_in_nI (by omega) (by omega)) dX4_nearestThunk_11 ?_
  rw [nI_clamp (n := b0) (by omega)]
  refine lv_topi (fun v11 ev11 => ?_)
  obtain rfl : v11 = (nI (T 9 b0)) := by
    rw [ev11]; exact (hT.2.2.2.1 _ (by omega)).2.2.2
  refine lv_istore_n (lv' := [(2, .int (nI (T 9 b0))), (0, .ref (ad 17)), (1, .int (nI b0))]) hx hb dX4_nearestThunk_12 rfl hl (by decide) rfl (fun ls hl => ?_)
  refine lv_aload_n hx hb dX4_nearestThunk_13 rfl (lv_at hl 1 rfl) ?_
  refine lv_iload_n hx hb dX4_nearestThunk_14 rfl (lv_at hl 2 rfl) ?_
  refine rk_l (run_v (As := [.int (nI b0)]) (rest := []) (b := (ad 17)) hx hb hml hown hO.2 (c_X4_branchAddress l D y ad cap I J hT hW0 hnM hJ (b0 := b0) hb0) k_X4_branchAddress ml_X4_111 ⟨rfl, rfl⟩ ⟨Nat.le_of_ble_eq_true rfl, Nat.le_of_ble_eq_true rfl⟩ (pre_VR hO hP (wd_17 y ad cap I J) rfl) rfl hl.1 rfl (Nat.le_of_ble_eq_true rfl) dX4_nearestThunk_15 ⟨(Nat.zero_le _), (Nat.zero_le _)⟩) (fun r15 er15 => ?_)
  try dsimp only at er15
  obtain rfl : r15 = (lN (braA T (cnt M) b0)) := by
    exact er15
  refine lv_lstore_n (lv' := [(3, .long (lN (braA T (cnt M) b0))), (2, .int (nI (T 9 b0))), (0, .ref (ad 17)), (1, .int (nI b0))]) hx hb dX4_nearestThunk_18 rfl hl (by decide) rfl (fun ls hl => ?_)
  refine lv_iconst (v := (-1)) hx hb dX4_nearestThunk_19 (by decide) ?_
  refine lv_istore (lv' := [(5, .int (-1)), (3, .long (lN (braA T (cnt M) b0))), (2, .int (nI (T 9 b0))), (0, .ref (ad 17)), (1, .int (nI b0))]) hx hb dX4_nearestThunk_20 hl (by decide) rfl (fun ls hl => ?_)
  refine lv_lconst (v := 0) hx hb dX4_nearestThunk_22 (by decide) ?_
  refine lv_lstore (lv' := [(6, .long 0), (5, .int (-1)), (3, .long (lN (braA T (cnt M) b0))), (2, .int (nI (T 9 b0))), (0, .ref (ad 17)), (1, .int (nI b0))]) hx hb dX4_nearestThunk_23 hl (by decide) rfl (fun ls hl => ?_)
  refine lv_iconst (v := 0) hx hb dX4_nearestThunk_25 (by decide) ?_
  refine lv_istore (lv' := [(8, .int 0), (6, .long 0), (5, .int (-1)), (3, .long (lN (braA T (cnt M) b0))), (2, .int (nI (T 9 b0))), (0, .ref (ad 17)), (1, .int (nI b0))]) hx hb dX4_nearestThunk_26 hl (by decide) rfl (fun ls hl => ?_)
  have loop28 : ∀ (n28 : Nat) (k : Nat) (x6 : Int64) , (k ≤ T 0 0) → (∀ u, bst T M b0 k = some u → x6 = lN (dst (braA T (cnt M) b0) (plc T M u))) → T 0 0 + 1 ≤ k + n28 → ∀ ls : Array Slot, lv_has ls 12 [(0, .ref (ad 17)), (1, .int (nI b0)), (2, .int (nI (T 9 b0))), (3, .long (lN (braA T (cnt M) b0))), (5, .int (oI (bst T M b0 k))), (6, .long x6), (8, .int (nI k))] → W p l e (headSpec [.code yX4_nearestThunk cX4_nearestThunk 12 (some .int)] ({ frames := 3, cells := 0, slots := 0, locals := 76 })).room s m ([.ref (ad 17), .int (nI b0)] : List Value).toArray below meth c s.heap [] 0 0 (MQ below (vp_Si (fun r => r = oI (bst T M b0 (T 0 0)))) ([.ref (ad 17), .int (nI b0)] : List Value).toArray s 0 0 (fun _ => False)) (F0 m 28 ls []) := by
    intro n28
    induction n28 with
    | zero =>
      intro k x6 hk h6 hmeas
      exact absurd hmeas (by omega)
    | succ n28 ih28 =>
      intro k x6 hk h6 hmeas ls hl
      refine lv_iload hx hb dX4_nearestThunk_28 (lv_at hl 6 rfl) ?_
      refine lv_aload_n hx hb dX4_nearestThunk_30 rfl (lv_at hl 0 rfl) ?_
      refine va_get (D := D) (T := TX4) (N := 9) hx hb hts jnX4 hown hK hP 17 (wd_17 y ad cap I J) rfl 0 (by decide) (hts _ fl_X4_12) (fun _ h9 => h9) rfl dX4_nearestThunk_31 ?_
      refine va_getN (D := D) (T := TX7) (N := 8) hx hb hts jnX7 hown hK hP 18 (wd_18 y ad cap I J) rfl 0 (by decide) (hts _ fn_X4_115) (fun _ h9 => h9) rfl dX4_nearestThunk_34 ?_
      refine va_getN (D := D) (T := TX5) (N := 5) hx hb hts jnX5 hown hK hP 19 (wd_19 y ad cap I J) rfl 0 (by decide) (hts _ fn_X4_119) (fun _ h9 => h9) rfl dX4_nearestThunk_37 ?_
      refine lv_topi (fun v37 ev37 => ?_)
      obtain rfl : v37 = (nI (T 0 0)) := by
        rw [ev37]; exact hT.1.1
      refine lv_icmp_ge (tgt := 125) hx hb dX4_nearestThunk_40 (by decide) (fun c40 => ?_) (fun c40 => ?_)
      · skip
        have c40 := (nI_leI (a := (T 0 0)) (b := k) (by omega) (by omega)).mp c40
        refine lv_iload hx hb dX4_nearestThunk_125 (lv_at hl 4 rfl) ?_
        refine W.iret (v := (oI (bst T M b0 k))) hx hb hr (fun t ht hW => ⟨_, rfl, ?_, ht⟩) (fun _ h => nomatch h) dX4_nearestThunk_127
        have : k = T 0 0 := by omega
        rw [this]
      · skip
        have c40 := mt (nI_leI (a := (T 0 0)) (b := k) (by omega) (by omega)).mpr c40
        refine lv_aload_n hx hb dX4_nearestThunk_43 rfl (lv_at hl 0 rfl) ?_
        refine va_get (D := D) (T := TX4) (N := 9) hx hb hts jnX4 hown hK hP 17 (wd_17 y ad cap I J) rfl 2 (by decide) (hts _ fl_X4_28) (fun _ h9 => h9) rfl dX4_nearestThunk_44 ?_
        refine lv_iload hx hb dX4_nearestThunk_47 (lv_at hl 6 rfl) ?_
        refine lv_iload_n hx hb dX4_nearestThunk_49 rfl (lv_at hl 2 rfl) ?_
        refine rk_i (run_vn (As := [.int (nI k), .int (nI (T 9 b0))]) (rest := []) (b := (ad 38)) hx hb hml hown hO.2 (c_X6_numberOf l D y (wd_38 y ad cap I J) (wd_47 y ad cap I J) (s0 := k) (l0 := T 9 b0) (by omega) (by omega)) k_X6_numberOf mn_X4_169 ⟨rfl, rfl⟩ ⟨Nat.le_of_ble_eq_true rfl, Nat.le_of_ble_eq_true rfl⟩ (pre_VR hO hP (wd_38 y ad cap I J) rfl) rfl hl.1 rfl (Nat.le_of_ble_eq_true rfl) dX4_nearestThunk_50 ⟨(Nat.zero_le _), (Nat.zero_le _)⟩) (fun r50 er50 => ?_)
        try dsimp only at er50
        obtain rfl : r50 = (oI (fnd (M ++ F) k (T 9 b0))) := by
          rw [er50]; exact hTH.2.2.2.2 _ _ (by omega) (by omega)
        refine lv_istore (lv' := [(9, .int (oI (fnd (M ++ F) k (T 9 b0)))), (0, .ref (ad 17)), (1, .int (nI b0)), (2, .int (nI (T 9 b0))), (3, .long (lN (braA T (cnt M) b0))), (5, .int (oI (bst T M b0 k))), (6, .long x6), (8, .int (nI k))]) hx hb dX4_nearestThunk_53 hl (by decide) rfl (fun ls hl => ?_)
        refine lv_aload_n hx hb dX4_nearestThunk_55 rfl (lv_at hl 1 rfl) ?_
        refine va_get (D := D) (T := TX4) (N := 9) hx hb hts jnX4 hown hK hP 17 (wd_17 y ad cap I J) rfl 2 (by decide) (hts _ fl_X4_28) (fun _ h9 => h9) rfl dX4_nearestThunk_56 ?_
        refine lv_iload hx hb dX4_nearestThunk_59 (lv_at hl 0 rfl) ?_
        refine rk_i (run_vn (As := [.int (oI (fnd (M ++ F) k (T 9 b0)))]) (rest := []) (b := (ad 38)) hx hb hml hown hO.2 (c_X6_has l D y (wd_38 y ad cap I J) (oI (fnd (M ++ F) k (T 9 b0)))) k_X6_has mn_X4_173 ⟨rfl, rfl⟩ ⟨Nat.le_of_ble_eq_true rfl, Nat.le_of_ble_eq_true rfl⟩ (pre_VR hO hP (wd_38 y ad cap I J) rfl) rfl hl.1 rfl (Nat.le_of_ble_eq_true rfl) dX4_nearestThunk_61 ⟨(Nat.zero_le _), (Nat.zero_le _)⟩) (fun r61 er61 => ?_)
        try dsimp only at er61
        rw [hTH.1.1] at er61
        refine lv_if_eq (tgt := 119) hx hb dX4_nearestThunk_64 (by decide) (fun c64 => ?_) (fun c64 => ?_)
        · skip
          have c64 := if01_z er61 c64
          have hf := has_none (by simp only [List.length_append]; omega) c64
          have eB := bst_none hf
          refine lv_iinc (v := (nI (k + 1))) (lv' := [(8, .int (nI (k + 1))), (9, .int (oI (fnd (M ++ F) k (T 9 b0)))), (0, .ref (ad 17)), (1, .int (nI b0)), (2, .int (nI (T 9 b0))), (3, .long (lN (braA T (cnt M) b0))), (5, .int (oI (bst T M b0 k))), (6, .long x6)]) hx hb dX4_nearestThunk_119 hl (k := 7) rfl (nI_1 _) (by decide) rfl (fun ls hl => ?_)
          refine lv_goto (tgt := 28) hx hb dX4_nearestThunk_122 (by decide) ?_
          exact ih28 (k + 1) x6 (by omega) (fun v hv => by rw [eB] at hv; first | exact h6 v hv | (cases hv; rfl) | (rw [hu] at hv; cases hv; rfl)) (by omega) ls (by rw [eB]; exact lv_sub hl [2, 3, 4, 5, 6, 7, 0] rfl)
        · skip
          have c64 := if01_n er61 c64
          obtain ⟨t, hf, ht, eT⟩ := has_some (by simp only [List.length_append]; omega) c64
          rw [eT] at hl
          have htz := htz0 (by omega)
          refine lv_aload_n hx hb dX4_nearestThunk_67 rfl (lv_at hl 1 rfl) ?_
          refine lv_iload hx hb dX4_nearestThunk_68 (lv_at hl 0 rfl) ?_
          refine lv_iload_n hx hb dX4_nearestThunk_70 rfl (lv_at hl 2 rfl) ?_
          refine rk_i (run_v (As := [.int (nI t), .int (nI b0)]) (rest := []) (b := (ad 17)) hx hb hml hown hO.2 (c_X4_doesHelp l D y ad cap I J hT hW0 hM hTW hJ hTH hPL htz (t0 := t) (b0 := b0) ht hb0) k_X4_doesHelp ml_X4_176 ⟨rfl, rfl⟩ ⟨Nat.le_of_ble_eq_true rfl, Nat.le_of_ble_eq_true rfl⟩ (pre_VR hO hP (wd_17 y ad cap I J) rfl) rfl hl.1 rfl (Nat.le_of_ble_eq_true rfl) dX4_nearestThunk_71 ⟨(Nat.zero_le _), (Nat.zero_le _)⟩) (fun r71 er71 => ?_)
          try dsimp only at er71
          refine lv_if_ne (tgt := 80) hx hb dX4_nearestThunk_74 (by decide) (fun c74 => ?_) (fun c74 => ?_)
          · skip
            have c74 := if01_n er71 c74
            have hpl := plc_le hW0 (by omega) (TW_left hTW) ht
            have hbr := braA_le hW0 hnM hb0
            refine lv_aload_n hx hb dX4_nearestThunk_80 rfl (lv_at hl 1 rfl) ?_
            refine va_get (D := D) (T := TX4) (N := 9) hx hb hts jnX4 hown hK hP 17 (wd_17 y ad cap I J) rfl 2 (by decide) (hts _ fl_X4_28) (fun _ h9 => h9) rfl dX4_nearestThunk_81 ?_
            refine va_getN (D := D) (T := TX6) (N := 11) hx hb hts jnX6 hown hK hP 38 (wd_38 y ad cap I J) rfl 8 (by decide) (hts _ fn_X4_179) (fun _ h9 => h9) rfl dX4_nearestThunk_84 ?_
            refine lv_iload hx hb dX4_nearestThunk_87 (lv_at hl 0 rfl) ?_
            refine va_lald (D := D) hx hb hK hP 45 1 (wd_45 y ad cap I J) rfl (vp_in_nI (by have := hTH.1.2.2.1; rw [List.length_append] at this; omega) (by have := hTH.1.2.2.2; omega)) dX4_nearestThunk_89 ?_
            rw [nI_clamp (n := t) (by omega)]
            refine lv_topl (fun v89 ev89 => ?_)
            obtain rfl : v89 = (lN (plc T M t)) := by
              rw [ev89]; exact hPL _ (by omega)
            refine lv_lload_n hx hb dX4_nearestThunk_90 rfl (lv_at hl 4 rfl) ?_
            refine lv_lsub hx hb dX4_nearestThunk_91 ?_
            refine lv_topl (fun v91 ev91 => ?_)
            refine va_mabs_long hx hb (by rw [hml]; exact hl.1.symm) hown (hts _ ml_X4_133) (hts _ sc_J9_abs_067f4) (hts _ ini_J9) (hts _ cd_J9_abs_067f4) (Nat.le_of_ble_eq_true rfl) (Nat.le_of_ble_eq_true rfl) (Nat.zero_le _) (Nat.zero_le _) dX4_nearestThunk_92 ?_
            refine lv_topl (fun v92 ev92 => ?_)
            obtain rfl : v92 = (lN (dst (braA T (cnt M) b0) (plc T M t))) := by
              rw [ev92]; exact abs_dst (by omega) (by omega) ev91
            refine lv_lstore (lv' := [(10, .long (lN (dst (braA T (cnt M) b0) (plc T M t)))), (9, .int (nI t)), (0, .ref (ad 17)), (1, .int (nI b0)), (2, .int (nI (T 9 b0))), (3, .long (lN (braA T (cnt M) b0))), (5, .int (oI (bst T M b0 k))), (6, .long x6), (8, .int (nI k))]) hx hb dX4_nearestThunk_95 hl (by decide) rfl (fun ls hl => ?_)
            refine lv_iload hx hb dX4_nearestThunk_97 (lv_at hl 6 rfl) ?_
            refine lv_iconst (v := (-1)) hx hb dX4_nearestThunk_99 (by decide) ?_
            refine lv_icmp_eq (tgt := 111) hx hb dX4_nearestThunk_100 (by decide) (fun c100 => ?_) (fun c100 => ?_)
            · skip
              have hnear := (oI_neg (fun u hu => by have := bst_lt k u hu; omega)).mp c100
              have eB := bst_first hf c74 hnear
              refine lv_iload hx hb dX4_nearestThunk_111 (lv_at hl 1 rfl) ?_
              refine lv_istore (lv' := [(5, .int (nI t)), (10, .long (lN (dst (braA T (cnt M) b0) (plc T M t)))), (9, .int (nI t)), (0, .ref (ad 17)), (1, .int (nI b0)), (2, .int (nI (T 9 b0))), (3, .long (lN (braA T (cnt M) b0))), (6, .long x6), (8, .int (nI k))]) hx hb dX4_nearestThunk_113 hl (by decide) rfl (fun ls hl => ?_)
              refine lv_lload hx hb dX4_nearestThunk_115 (lv_at hl 1 rfl) ?_
              refine lv_lstore (lv' := [(6, .long (lN (dst (braA T (cnt M) b0) (plc T M t)))), (5, .int (nI t)), (10, .long (lN (dst (braA T (cnt M) b0) (plc T M t)))), (9, .int (nI t)), (0, .ref (ad 17)), (1, .int (nI b0)), (2, .int (nI (T 9 b0))), (3, .long (lN (braA T (cnt M) b0))), (8, .int (nI k))]) hx hb dX4_nearestThunk_117 hl (by decide) rfl (fun ls hl => ?_)
              refine lv_iinc (v := (nI (k + 1))) (lv' := [(8, .int (nI (k + 1))), (6, .long (lN (dst (braA T (cnt M) b0) (plc T M t)))), (5, .int (nI t)), (10, .long (lN (dst (braA T (cnt M) b0) (plc T M t)))), (9, .int (nI t)), (0, .ref (ad 17)), (1, .int (nI b0)), (2, .int (nI (T 9 b0))), (3, .long (lN (braA T (cnt M) b0)))]) hx hb dX4_nearestThunk_119 hl (k := 8) rfl (nI_1 _) (by decide) rfl (fun ls hl => ?_)
              refine lv_goto (tgt := 28) hx hb dX4_nearestThunk_122 (by decide) ?_
              exact ih28 (k + 1) (lN (dst (braA T (cnt M) b0) (plc T M t))) (by omega) (fun v hv => by rw [eB] at hv; first | exact h6 v hv | (cases hv; rfl) | (rw [hu] at hv; cases hv; rfl)) (by omega) ls (by rw [eB]; exact lv_sub hl [5, 6, 7, 8, 2, 1, 0] rfl)
            · skip
              obtain ⟨u, hu⟩ := Option.ne_none_iff_exists'.mp (fun h9 => c100 ((oI_neg (fun u hu => by have := bst_lt k u hu; omega)).mpr h9))
              obtain rfl := h6 u hu
              have hpu := plc_le hW0 (by omega) (TW_left hTW) (bst_lt k u hu)
              have hd1 : dst (braA T (cnt M) b0) (plc T M t) < 2 ^ 40 := by unfold dst; split <;> omega
              have hd2 : dst (braA T (cnt M) b0) (plc T M u) < 2 ^ 40 := by unfold dst; split <;> omega
              refine lv_lload hx hb dX4_nearestThunk_103 (lv_at hl 0 rfl) ?_
              refine lv_lload hx hb dX4_nearestThunk_105 (lv_at hl 7 rfl) ?_
              refine W.lcmp hx hb dX4_nearestThunk_107 ?_
              refine lv_if_ge (tgt := 119) hx hb dX4_nearestThunk_108 (by decide) (fun c108 => ?_) (fun c108 => ?_)
              · skip
                have c108 := lc_ge.mp c108
                rw [pk_lLE (by omega) (by omega)] at c108
                have eB := bst_keep hf c74 hu (by omega)
                refine lv_iinc (v := (nI (k + 1))) (lv' := [(8, .int (nI (k + 1))), (10, .long (lN (dst (braA T (cnt M) b0) (plc T M t)))), (9, .int (nI t)), (0, .ref (ad 17)), (1, .int (nI b0)), (2, .int (nI (T 9 b0))), (3, .long (lN (braA T (cnt M) b0))), (5, .int (oI (bst T M b0 k))), (6, .long (lN (dst (braA T (cnt M) b0) (plc T M u))))]) hx hb dX4_nearestThunk_119 hl (k := 8) rfl (nI_1 _) (by decide) rfl (fun ls hl => ?_)
                refine lv_goto (tgt := 28) hx hb dX4_nearestThunk_122 (by decide) ?_
                exact ih28 (k + 1) (lN (dst (braA T (cnt M) b0) (plc T M u))) (by omega) (fun v hv => by rw [eB] at hv; first | exact h6 v hv | (cases hv; rfl) | (rw [hu] at hv; cases hv; rfl)) (by omega) ls (by rw [eB]; exact lv_sub hl [3, 4, 5, 6, 7, 8, 0] rfl)
              · skip
                have c108 := mt lc_ge.mpr c108
                rw [pk_lLE (by omega) (by omega)] at c108
                have eB := bst_less hf c74 hu (by omega)
                refine lv_iload hx hb dX4_nearestThunk_111 (lv_at hl 1 rfl) ?_
                refine lv_istore (lv' := [(5, .int (nI t)), (10, .long (lN (dst (braA T (cnt M) b0) (plc T M t)))), (9, .int (nI t)), (0, .ref (ad 17)), (1, .int (nI b0)), (2, .int (nI (T 9 b0))), (3, .long (lN (braA T (cnt M) b0))), (6, .long (lN (dst (braA T (cnt M) b0) (plc T M u)))), (8, .int (nI k))]) hx hb dX4_nearestThunk_113 hl (by decide) rfl (fun ls hl => ?_)
                refine lv_lload hx hb dX4_nearestThunk_115 (lv_at hl 1 rfl) ?_
                refine lv_lstore (lv' := [(6, .long (lN (dst (braA T (cnt M) b0) (plc T M t)))), (5, .int (nI t)), (10, .long (lN (dst (braA T (cnt M) b0) (plc T M t)))), (9, .int (nI t)), (0, .ref (ad 17)), (1, .int (nI b0)), (2, .int (nI (T 9 b0))), (3, .long (lN (braA T (cnt M) b0))), (8, .int (nI k))]) hx hb dX4_nearestThunk_117 hl (by decide) rfl (fun ls hl => ?_)
                refine lv_iinc (v := (nI (k + 1))) (lv' := [(8, .int (nI (k + 1))), (6, .long (lN (dst (braA T (cnt M) b0) (plc T M t)))), (5, .int (nI t)), (10, .long (lN (dst (braA T (cnt M) b0) (plc T M t)))), (9, .int (nI t)), (0, .ref (ad 17)), (1, .int (nI b0)), (2, .int (nI (T 9 b0))), (3, .long (lN (braA T (cnt M) b0)))]) hx hb dX4_nearestThunk_119 hl (k := 8) rfl (nI_1 _) (by decide) rfl (fun ls hl => ?_)
                refine lv_goto (tgt := 28) hx hb dX4_nearestThunk_122 (by decide) ?_
                exact ih28 (k + 1) (lN (dst (braA T (cnt M) b0) (plc T M t))) (by omega) (fun v hv => by rw [eB] at hv; first | exact h6 v hv | (cases hv; rfl) | (rw [hu] at hv; cases hv; rfl)) (by omega) ls (by rw [eB]; exact lv_sub hl [5, 6, 7, 8, 2, 1, 0] rfl)
          · skip
            have c74 := if01_z er71 c74
            have eB := bst_nohelp hf c74
            refine lv_goto (tgt := 119) hx hb dX4_nearestThunk_77 (by decide) ?_
            refine lv_iinc (v := (nI (k + 1))) (lv' := [(8, .int (nI (k + 1))), (9, .int (nI t)), (0, .ref (ad 17)), (1, .int (nI b0)), (2, .int (nI (T 9 b0))), (3, .long (lN (braA T (cnt M) b0))), (5, .int (oI (bst T M b0 k))), (6, .long x6)]) hx hb dX4_nearestThunk_119 hl (k := 7) rfl (nI_1 _) (by decide) rfl (fun ls hl => ?_)
            refine lv_goto (tgt := 28) hx hb dX4_nearestThunk_122 (by decide) ?_
            exact ih28 (k + 1) x6 (by omega) (fun v hv => by rw [eB] at hv; first | exact h6 v hv | (cases hv; rfl) | (rw [hu] at hv; cases hv; rfl)) (by omega) ls (by rw [eB]; exact lv_sub hl [2, 3, 4, 5, 6, 7, 0] rfl)
  exact loop28 (T 0 0 + 1) 0 0 (by omega) (fun u hu => by simp [bst, amin] at hu) (by omega) ls (by show lv_has ls _ [(0, .ref (ad 17)), (1, .int (nI b0)), (2, .int (nI (T 9 b0))), (3, .long (lN (braA T (cnt M) b0))), (5, .int (-1)), (6, .long 0), (8, .int 0)]; exact lv_sub hl [5, 6, 4, 3, 2, 1, 0] rfl)
end
section
/-! WHAT IS LAID OUT: routes, codes, what is where -/
def rtB (T : Nat → Nat → Nat) (M : List Th) (b : Nat) : Option Nat := if dirB T (cnt M) b = true then none else bst T M b (T 0 0)
def wyB (T : Nat → Nat → Nat) (M : List Th) (b : Nat) : Nat := if dirB T (cnt M) b = true then 0 else match bst T M b (T 0 0) with
  | none => 2
  | some _ => 1
def cdB (T : Nat → Nat → Nat) (M : List Th) (b : Nat) : Option Nat := if dirB T (cnt M) b = true then some (cde (T 10 (T 8 b)) (T 11 (T 8 b)) (braA T (cnt M) b) (labA T (cnt M) (T 9 b))) else match bst T M b (T 0 0) with
  | none => none
  | some t => some (cde (T 10 (T 8 b)) (T 11 (T 8 b)) (braA T (cnt M) b) (plc T M t))
def cdT (T : Nat → Nat → Nat) (M : List Th) (t : Nat) : Option Nat := if rch (T 10 (T 0 7)) (T 11 (T 0 7)) (plc T M t) (labA T (cnt M) (thA M t).2.1) = true then some (cde (T 10 (T 0 7)) (T 11 (T 0 7)) (plc T M t) (labA T (cnt M) (thA M t).2.1)) else none
def us (T : Nat → Nat → Nat) (M : List Th) (t : Nat) : Nat → Nat
  | 0 => 0
  | b + 1 => us T M t b + if rtB T M b = some t then 1 else 0
def ix (n : Nat) (p : Int32) : Option Nat := if ¬ p < 0 ∧ ¬ nI n ≤ p then some p.toNatClampNeg else none
theorem ix_ok {n : Nat} (hn : n < 2 ^ 31) {p : Int32} (h : ¬ p < 0 ∧ ¬ nI n ≤ p) : ∃ b : Nat, p = nI b ∧ b < n := by
  obtain ⟨j, h1, h2⟩ := nI_of h.1
  subst h2
  have h3 := h.2
  rw [nI_leI (by omega) (by omega)] at h3
  exact ⟨j, rfl, by omega⟩
theorem ix_in {n b : Nat} (hn : n < 2 ^ 31) (h : b < n) : ix n (nI b) = some b := by
  unfold ix
  rw [if_pos ⟨nI_pos (by omega), by rw [nI_leI (by omega) (by omega)]; omega⟩, nI_clamp (by omega)]
theorem ix_no {n : Nat} {p : Int32} (h : ¬ (¬ p < 0 ∧ ¬ nI n ≤ p)) : ix n p = none := by
  unfold ix
  rw [if_neg h]
def fst (p : Nat → Bool) (n : Nat) : Option Nat := (List.range n).find? p
theorem fst_some {p : Nat → Bool} {n k : Nat} (hk : k < n) (h : p k = true) (hb : ∀ j, j < k → ¬ p j = true) : fst p n = some k := by
  unfold fst
  rw [List.find?_range_eq_some]
  exact ⟨h, List.mem_range.mpr hk, fun j hj => by have := hb j hj; simpa using this⟩
theorem fst_none {p : Nat → Bool} {n : Nat} (hb : ∀ j, j < n → ¬ p j = true) : fst p n = none := by
  unfold fst
  rw [List.find?_eq_none]
  intro j hj
  exact hb j (List.mem_range.mp hj)
def sumS (T : Nat → Nat → Nat) : Nat → Nat
  | 0 => 0
  | k + 1 => sumS T k + T 1 k
def iN (z : Int) : Int32 := Int32.ofInt z
theorem nI_iN (n : Nat) : nI n = iN n := Int32.ofInt_eq_ofNat.symm
theorem iN_sub (a b : Int) : iN a - iN b = iN (a - b) := (Int32.ofInt_sub a b).symm
theorem iN_mul (a b : Int) : iN a * iN b = iN (a * b) := (Int32.ofInt_mul a b).symm
def inS (T : Nat → Nat → Nat) (n : Nat → Nat) (x : Int64) (s : Nat) : Bool := decide (¬ x < lN (sA T n s) ∧ x < lN (sA T n s + T 1 s))
def inT (T : Nat → Nat → Nat) (M : List Th) (x : Int64) (t : Nat) : Bool := decide (¬ x < lN (plc T M t) ∧ x < lN (plc T M t + T 0 5))
def atB (T : Nat → Nat → Nat) (M : List Th) (x : Int64) : Int32 := if x < lN (T 0 4) ∨ ¬ x < lN (sAt T (cnt M) (T 0 0)) then -1 else match fst (inS T (cnt M) x) (T 0 0) with
  | some s => nI (1000 + s)
  | none => match fst (inT T M x) M.length with
    | some t => nI (2000 + t)
    | none => 0
def nuls (f : Nat → Nat) : Nat → Nat
  | 0 => 0
  | k + 1 => nuls f k + if f k = 0 then 1 else 0
theorem nuls_le (f : Nat → Nat) : ∀ k, nuls f k ≤ k := by
  intro k
  induction k with
  | zero => simp [nuls]
  | succ k ih =>
    simp only [nuls]
    split <;> omega
theorem us_le (T : Nat → Nat → Nat) (M : List Th) (t : Nat) : ∀ b, us T M t b ≤ b := by
  intro b
  induction b with
  | zero => simp [us]
  | succ b ih =>
    simp only [us]
    split <;> omega
/-- what the layout's cells hold of it, for those who ask -/
def LQ (I : Nat → Nat → Int32) (J : Nat → Nat → Int64) (T : Nat → Nat → Nat) (cap : Nat) (M : List Th) : Prop :=
  (I 38 0 = nI M.length ∧ M.length ≤ cap ∧ cap ≤ 2400 ∧ TW T M ∧ (0 < M.length → 0 < T 0 5)) ∧
  (∀ t, t < M.length → I 39 t = nI (thA M t).1 ∧ I 40 t = nI (thA M t).2.1 ∧ I 41 t = nI (thA M t).2.2.1 ∧ I 42 t = nI (thA M t).2.2.2 ∧ I 43 t = nI (us T M t (T 0 2)) ∧ I 44 t = nI (rk M t)) ∧
  (∀ t, t < M.length → J 45 t = lN (plc T M t)) ∧
  (∀ b, b < T 0 2 → I 48 b = nI (wyB T M b) ∧ I 49 b = oI (rtB T M b)) ∧
  (∀ s, s < T 0 0 → J 35 s = lN (sA T (cnt M) s) ∧ J 36 s = lN (pS T (cnt M) s) ∧ J 37 s = lN (pE T (cnt M) s)) ∧ J 34 3 = lN (sAt T (cnt M) (T 0 0))
theorem bst_help {T : Nat → Nat → Nat} {M : List Th} {b : Nat} : ∀ k t, bst T M b k = some t → helpB T M b t = true ∧ (thA M t).2.1 = T 9 b := by
  intro k
  induction k with
  | zero =>
    intro u h
    exact absurd h (by simp [bst, amin])
  | succ k ih =>
    intro u h
    cases hf : fnd M k (T 9 b) with
    | none =>
      rw [bst_none hf] at h
      exact ih u h
    | some t =>
      by_cases h2 : helpB T M b t = true
      · cases h3 : bst T M b k with
        | none =>
          rw [bst_first hf h2 h3] at h
          cases h
          exact ⟨h2, (fnd_at hf).2⟩
        | some v =>
          by_cases h4 : dst (braA T (cnt M) b) (plc T M t) < dst (braA T (cnt M) b) (plc T M v)
          · rw [bst_less hf h2 h3 h4] at h
            cases h
            exact ⟨h2, (fnd_at hf).2⟩
          · rw [bst_keep hf h2 h3 h4] at h
            exact ih u h
      · rw [bst_nohelp hf h2] at h
        exact ih u h
theorem help_split {T : Nat → Nat → Nat} {M : List Th} {b t : Nat} (h : helpB T M b t = true) : rch (T 10 (T 8 b)) (T 11 (T 8 b)) (braA T (cnt M) b) (plc T M t) = true ∧ rch (T 10 (T 0 7)) (T 11 (T 0 7)) (plc T M t) (labA T (cnt M) (thA M t).2.1) = true := by
  unfold helpB at h
  rw [Bool.and_eq_true] at h
  exact h
theorem sAt_mono {T : Nat → Nat → Nat} {n : Nat → Nat} (s : Nat) : sAt T n s ≤ sAt T n (s + 1) := by
  have h1 := up_ge (sAt T n s) (T 2 s)
  have h2 := up_ge (up (sAt T n s) (T 2 s) + T 1 s) (T 0 6)
  simp only [sAt]
  split <;> omega
theorem sAt_ge {T : Nat → Nat → Nat} {n : Nat → Nat} : ∀ s, T 0 4 ≤ sAt T n s := by
  intro s
  induction s with
  | zero => simp [sAt]
  | succ s ih =>
    have := sAt_mono (T := T) (n := n) s
    omega
end
section
set_option maxHeartbeats 4000000 in
set_option maxRecDepth 100000 in
theorem c_X4_isWithin (l : Launch) (D : va_G) (y : Nat → ClassId) {ws : va_W} {a0 n0 : Nat} (hn0 : n0 < 2 ^ 31) (x0 : Int64) : Met l yX4_isWithin [.code yX4_isWithin cX4_isWithin 5 (some .boolean)] ({ frames := 0, cells := 0, slots := 0, locals := 0 }) (va_Pc [.long x0, .long (lN a0), .int (nI n0)] (PR D y ws)) (vp_Si (fun r => r = if ¬ x0 < lN a0 ∧ x0 < lN (a0 + n0) then 1 else 0)) 0 0 (fun _ => False) := by
  refine Met.ofW (cc := cX4_isWithin) (maxL := 5) (ret := (some .boolean)) (by decide) rfl ?_
  intro p e s m args below meth c s₁ B hml hv
  obtain ⟨rfl, hP, hO⟩ := hv
  have hx := B.exec
  have hb := B.bytes
  have hr := B.returns
  have hown : s.vm.findClass RX4 = some m.cls := findClass_of_methodNamed B.named
  have hlocks := B.notSynchronized
  have hK := hO.1
  have hts : ∀ w ∈ lw_E, w.before ([.long x0, .long (lN a0), .int (nI n0)] : List Value).toArray s = true := fun w h => hO.2 w h _
  clear B
  have hl := lv_entry ([.long x0, .long (lN a0), .int (nI n0)]) (n := 5) (Nat.le_of_ble_eq_true rfl)
  rw [lg_entry_eq]
  generalize (lg_sl ([.long x0, .long (lN a0), .int (nI n0)]) ++ List.replicate (5 - (lg_sl ([.long x0, .long (lN a0), .int (nI n0)])).length) Slot.unset).toArray = ls at hl ⊢
  have hl : lv_has ls 5 [(0, .long x0), (2, .long (lN a0)), (4, .int (nI n0))] := hl
  refine lv_lload_n hx hb dX4_isWithin_0 rfl (lv_at hl 0 rfl) ?_
  refine lv_lload_n hx hb dX4_isWithin_1 rfl (lv_at hl 1 rfl) ?_
  refine W.lcmp hx hb dX4_isWithin_2 ?_
  refine lv_if_lt (tgt := 20) hx hb dX4_isWithin_3 (by decide) (fun c3 => ?_) (fun c3 => ?_)
  · skip
    have c3 := lc_lt.mp c3
    refine lv_iconst (v := 0) hx hb dX4_isWithin_20 (by decide) ?_
    refine W.zret (v := 0) hx hb hr (by decide) (fun t ht hW => ⟨_, rfl, ?_, ht⟩) (fun _ h => nomatch h) dX4_isWithin_21
    first | (rw [if_pos ⟨c3, Int64.not_le.mp c13⟩]; done) | (rw [if_neg (fun h9 => h9.1 c3)]; done) | (rw [if_neg (fun h9 => absurd h9.2 (Int64.not_lt.mpr c13))]; done)
  · skip
    have c3 := mt lc_lt.mpr c3
    refine lv_lload_n hx hb dX4_isWithin_6 rfl (lv_at hl 0 rfl) ?_
    refine lv_lload_n hx hb dX4_isWithin_7 rfl (lv_at hl 1 rfl) ?_
    refine lv_iload hx hb dX4_isWithin_8 (lv_at hl 2 rfl) ?_
    refine lv_i2l (v := lN n0) hx hb dX4_isWithin_10 (nI_l (by omega)) ?_
    refine lv_ladd hx hb dX4_isWithin_11 ?_
    refine lv_topl (fun v11 ev11 => ?_)
    obtain rfl : v11 = (lN (a0 + n0)) := by rw [ev11, lN_add]
    refine W.lcmp hx hb dX4_isWithin_12 ?_
    refine lv_if_ge (tgt := 20) hx hb dX4_isWithin_13 (by decide) (fun c13 => ?_) (fun c13 => ?_)
    · skip
      have c13 := lc_ge.mp c13
      refine lv_iconst (v := 0) hx hb dX4_isWithin_20 (by decide) ?_
      refine W.zret (v := 0) hx hb hr (by decide) (fun t ht hW => ⟨_, rfl, ?_, ht⟩) (fun _ h => nomatch h) dX4_isWithin_21
      first | (rw [if_pos ⟨c3, Int64.not_le.mp c13⟩]; done) | (rw [if_neg (fun h9 => h9.1 c3)]; done) | (rw [if_neg (fun h9 => absurd h9.2 (Int64.not_lt.mpr c13))]; done)
    · skip
      have c13 := mt lc_ge.mpr c13
      refine lv_iconst (v := 1) hx hb dX4_isWithin_16 (by decide) ?_
      refine lv_goto (tgt := 21) hx hb dX4_isWithin_17 (by decide) ?_
      refine W.zret (v := 1) hx hb hr (by decide) (fun t ht hW => ⟨_, rfl, ?_, ht⟩) (fun _ h => nomatch h) dX4_isWithin_21
      first | (rw [if_pos ⟨c3, Int64.not_le.mp c13⟩]; done) | (rw [if_neg (fun h9 => h9.1 c3)]; done) | (rw [if_neg (fun h9 => absurd h9.2 (Int64.not_lt.mpr c13))]; done)
set_option maxHeartbeats 4000000 in
set_option maxRecDepth 100000 in
theorem c_X4_bytesInAll (l : Launch) (D : va_G) (y : Nat → ClassId) (ad : Nat → Nat) (cap : Nat) (I : Nat → Nat → Int32) (J : Nat → Nat → Int64) {T : Nat → Nat → Nat} {M : List Th} (hT : RT18 I T) (hW : WF T) (hQ : LQ I J T cap M) : Met l yX4_bytesInAll [.code yX4_bytesInAll cX4_bytesInAll 1 (some .int)] ({ frames := 0, cells := 0, slots := 0, locals := 0 }) (va_Pc [.ref (ad 17)] (PR D y (Wd y ad cap I J))) (vp_Si (fun r => r = nI (sAt T (cnt M) (T 0 0) - T 0 4))) 0 0 (fun _ => False) := by
  refine Met.ofW (cc := cX4_bytesInAll) (maxL := 1) (ret := (some .int)) (by decide) rfl ?_
  intro p e s m args below meth c s₁ B hml hv
  obtain ⟨rfl, hP, hO⟩ := hv
  have hx := B.exec
  have hb := B.bytes
  have hr := B.returns
  have hown : s.vm.findClass RX4 = some m.cls := findClass_of_methodNamed B.named
  have hlocks := B.notSynchronized
  have hK := hO.1
  have hts : ∀ w ∈ lw_E, w.before ([.ref (ad 17)] : List Value).toArray s = true := fun w h => hO.2 w h _
  clear B
  have hl := lv_entry ([.ref (ad 17)]) (n := 1) (Nat.le_of_ble_eq_true rfl)
  rw [lg_entry_eq]
  generalize (lg_sl ([.ref (ad 17)]) ++ List.replicate (1 - (lg_sl ([.ref (ad 17)])).length) Slot.unset).toArray = ls at hl ⊢
  have hl : lv_has ls 1 [(0, .ref (ad 17))] := hl
  have hW0 := hW
  obtain ⟨⟨w1, w2, w3, w4, w5, w6, w7⟩, wS, wL, wB, wK, wTk, wT0⟩ := hW
  obtain ⟨⟨q1, q2, q3, hTW, htz0⟩, qT, qP, qB, hJ, qE⟩ := hQ
  have hnM : ∀ s, cnt M s ≤ 2400 := fun s => by have := cnt_le M s; omega
  refine lv_aload_n hx hb dX4_bytesInAll_0 rfl (lv_at hl 0 rfl) ?_
  refine va_get (D := D) (T := TX4) (N := 9) hx hb hts jnX4 hown hK hP 17 (wd_17 y ad cap I J) rfl 1 (by decide) (hts _ fl_X4_21) (fun _ h9 => h9) rfl dX4_bytesInAll_1 ?_
  refine va_getN (D := D) (T := TX0) (N := 4) hx hb hts jnX0 hown hK hP 34 (wd_34 y ad cap I J) rfl 3 (by decide) (hts _ fn_X4_206) (fun _ h9 => h9) rfl dX4_bytesInAll_4 ?_
  refine lv_topl (fun v4 ev4 => ?_)
  obtain rfl : v4 = (lN (sAt T (cnt M) (T 0 0))) := by
    rw [ev4]; exact qE
  refine lv_aload_n hx hb dX4_bytesInAll_7 rfl (lv_at hl 0 rfl) ?_
  refine va_get (D := D) (T := TX4) (N := 9) hx hb hts jnX4 hown hK hP 17 (wd_17 y ad cap I J) rfl 0 (by decide) (hts _ fl_X4_12) (fun _ h9 => h9) rfl dX4_bytesInAll_8 ?_
  refine va_getN (D := D) (T := TX7) (N := 8) hx hb hts jnX7 hown hK hP 18 (wd_18 y ad cap I J) rfl 4 (by decide) (hts _ fn_X4_210) (fun _ h9 => h9) rfl dX4_bytesInAll_11 ?_
  refine lv_topi (fun v11 ev11 => ?_)
  obtain rfl : v11 = (nI (T 0 4)) := by
    rw [ev11]; exact hT.1.2.2.2.2.1
  refine lv_i2l (v := lN (T 0 4)) hx hb dX4_bytesInAll_14 (nI_l (by omega)) ?_
  refine lv_lsub hx hb dX4_bytesInAll_15 ?_
  refine lv_topl (fun v15 ev15 => ?_)
  refine lv_l2i hx hb dX4_bytesInAll_16 rfl ?_
  refine lv_topi (fun v16 ev16 => ?_)
  refine W.iret (v := v16) hx hb hr (fun t ht hW => ⟨_, rfl, ?_, ht⟩) (fun _ h => nomatch h) dX4_bytesInAll_17
  subst_vars
  rw [lN_sub (sAt_ge _), lN_i]
set_option maxHeartbeats 4000000 in
set_option maxRecDepth 100000 in
theorem c_X4_bytesBetween (l : Launch) (D : va_G) (y : Nat → ClassId) (ad : Nat → Nat) (cap : Nat) (I : Nat → Nat → Int32) (J : Nat → Nat → Int64) {T : Nat → Nat → Nat} {M : List Th} (hT : RT18 I T) (hW : WF T) (hQ : LQ I J T cap M) : Met l yX4_bytesBetween [.code yX4_bytesBetween cX4_bytesBetween 3 (some .int)] ({ frames := 1, cells := 0, slots := 0, locals := 20 }) (va_Pc [.ref (ad 17)] (PR D y (Wd y ad cap I J))) (vp_Si (fun r => r = iN ((sAt T (cnt M) (T 0 0) : Int) - T 0 4 - M.length * T 0 5 - ((sumS T (T 0 0) : Nat) : Int)))) 0 0 (fun _ => False) := by
  refine Met.ofW (cc := cX4_bytesBetween) (maxL := 3) (ret := (some .int)) (by decide) rfl ?_
  intro p e s m args below meth c s₁ B hml hv
  obtain ⟨rfl, hP, hO⟩ := hv
  have hx := B.exec
  have hb := B.bytes
  have hr := B.returns
  have hown : s.vm.findClass RX4 = some m.cls := findClass_of_methodNamed B.named
  have hlocks := B.notSynchronized
  have hK := hO.1
  have hts : ∀ w ∈ lw_E, w.before ([.ref (ad 17)] : List Value).toArray s = true := fun w h => hO.2 w h _
  clear B
  have hl := lv_entry ([.ref (ad 17)]) (n := 3) (Nat.le_of_ble_eq_true rfl)
  rw [lg_entry_eq]
  generalize (lg_sl ([.ref (ad 17)]) ++ List.replicate (3 - (lg_sl ([.ref (ad 17)])).length) Slot.unset).toArray = ls at hl ⊢
  have hl : lv_has ls 3 [(0, .ref (ad 17))] := hl
  have hW0 := hW
  obtain ⟨⟨w1, w2, w3, w4, w5, w6, w7⟩, wS, wL, wB, wK, wTk, wT0⟩ := hW
  have hQ0 := hQ
  obtain ⟨⟨q1, q2, q3, hTW, htz0⟩, qT, qP, qB, hJ, qE⟩ := hQ
  have hnM : ∀ s, cnt M s ≤ 2400 := fun s => by have := cnt_le M s; omega
  refine lv_aload_n hx hb dX4_bytesBetween_0 rfl (lv_at hl 0 rfl) ?_
  refine rk_i (run_v (As := []) (rest := []) (b := (ad 17)) hx hb hml hown hO.2 (c_X4_bytesInAll l D y ad cap I J hT hW0 hQ0) k_X4_bytesInAll ml_X4_213 ⟨rfl, rfl⟩ ⟨Nat.le_of_ble_eq_true rfl, Nat.le_of_ble_eq_true rfl⟩ (pre_VR hO hP (wd_17 y ad cap I J) rfl) rfl hl.1 rfl (Nat.le_of_ble_eq_true rfl) dX4_bytesBetween_1 ⟨(Nat.zero_le _), (Nat.zero_le _)⟩) (fun r1 er1 => ?_)
  try dsimp only at er1
  obtain rfl : r1 = (nI (sAt T (cnt M) (T 0 0) - T 0 4)) := by
    exact er1
  refine lv_aload_n hx hb dX4_bytesBetween_4 rfl (lv_at hl 0 rfl) ?_
  refine va_get (D := D) (T := TX4) (N := 9) hx hb hts jnX4 hown hK hP 17 (wd_17 y ad cap I J) rfl 2 (by decide) (hts _ fl_X4_28) (fun _ h9 => h9) rfl dX4_bytesBetween_5 ?_
  refine va_getN (D := D) (T := TX6) (N := 11) hx hb hts jnX6 hown hK hP 38 (wd_38 y ad cap I J) rfl 0 (by decide) (hts _ fn_X4_217) (fun _ h9 => h9) rfl dX4_bytesBetween_8 ?_
  refine lv_topi (fun v8 ev8 => ?_)
  obtain rfl : v8 = (nI M.length) := by
    rw [ev8]; exact q1
  refine lv_aload_n hx hb dX4_bytesBetween_11 rfl (lv_at hl 0 rfl) ?_
  refine va_get (D := D) (T := TX4) (N := 9) hx hb hts jnX4 hown hK hP 17 (wd_17 y ad cap I J) rfl 0 (by decide) (hts _ fl_X4_12) (fun _ h9 => h9) rfl dX4_bytesBetween_12 ?_
  refine va_getN (D := D) (T := TX7) (N := 8) hx hb hts jnX7 hown hK hP 18 (wd_18 y ad cap I J) rfl 5 (by decide) (hts _ fn_X4_220) (fun _ h9 => h9) rfl dX4_bytesBetween_15 ?_
  refine lv_topi (fun v15 ev15 => ?_)
  obtain rfl : v15 = (nI (T 0 5)) := by
    rw [ev15]; exact hT.1.2.2.2.2.2.1
  refine lv_imul hx hb dX4_bytesBetween_18 ?_
  refine lv_topi (fun v18 ev18 => ?_)
  obtain rfl : v18 = (nI (M.length * T 0 5)) := by
    rw [ev18, pk_mul]
  refine lv_isub hx hb dX4_bytesBetween_19 ?_
  refine lv_topi (fun v19 ev19 => ?_)
  obtain rfl : v19 = (iN (((sAt T (cnt M) (T 0 0) : Int) - T 0 4 - M.length * T 0 5) - ((sumS T 0 : Nat) : Int))) := by
    have h9 := sAt_ge (T := T) (n := cnt M) (T 0 0)
    rw [ev19, nI_iN, nI_iN, iN_sub]
    congr 1
    simp only [sumS]
    rw [Int.ofNat_sub h9]
    simp
  refine lv_istore_n (lv' := [(1, .int (iN (((sAt T (cnt M) (T 0 0) : Int) - T 0 4 - M.length * T 0 5) - ((sumS T 0 : Nat) : Int)))), (0, .ref (ad 17))]) hx hb dX4_bytesBetween_20 rfl hl (by decide) rfl (fun ls hl => ?_)
  refine lv_iconst (v := 0) hx hb dX4_bytesBetween_21 (by decide) ?_
  rw [show (0 : Int32) = (nI 0) from rfl]
  refine lv_istore_n (lv' := [(2, .int (nI 0)), (1, .int (iN (((sAt T (cnt M) (T 0 0) : Int) - T 0 4 - M.length * T 0 5) - ((sumS T 0 : Nat) : Int)))), (0, .ref (ad 17))]) hx hb dX4_bytesBetween_22 rfl hl (by decide) rfl (fun ls hl => ?_)
  have loop23 : ∀ (n23 : Nat) (k : Nat) , (k ≤ T 0 0) → T 0 0 + 1 ≤ k + n23 → ∀ ls : Array Slot, lv_has ls 3 [(0, .ref (ad 17)), (1, .int (iN (((sAt T (cnt M) (T 0 0) : Int) - T 0 4 - M.length * T 0 5) - ((sumS T k : Nat) : Int)))), (2, .int (nI k))] → W p l e (headSpec [.code yX4_bytesBetween cX4_bytesBetween 3 (some .int)] ({ frames := 1, cells := 0, slots := 0, locals := 20 })).room s m ([.ref (ad 17)] : List Value).toArray below meth c s.heap [] 0 0 (MQ below (vp_Si (fun r => r = iN ((sAt T (cnt M) (T 0 0) : Int) - T 0 4 - M.length * T 0 5 - ((sumS T (T 0 0) : Nat) : Int)))) ([.ref (ad 17)] : List Value).toArray s 0 0 (fun _ => False)) (F0 m 23 ls []) := by
    intro n23
    induction n23 with
    | zero =>
      intro k hk hmeas
      exact absurd hmeas (by omega)
    | succ n23 ih23 =>
      intro k hk hmeas ls hl
      refine lv_iload_n hx hb dX4_bytesBetween_23 rfl (lv_at hl 2 rfl) ?_
      refine lv_aload_n hx hb dX4_bytesBetween_24 rfl (lv_at hl 0 rfl) ?_
      refine va_get (D := D) (T := TX4) (N := 9) hx hb hts jnX4 hown hK hP 17 (wd_17 y ad cap I J) rfl 0 (by decide) (hts _ fl_X4_12) (fun _ h9 => h9) rfl dX4_bytesBetween_25 ?_
      refine va_getN (D := D) (T := TX7) (N := 8) hx hb hts jnX7 hown hK hP 18 (wd_18 y ad cap I J) rfl 0 (by decide) (hts _ fn_X4_115) (fun _ h9 => h9) rfl dX4_bytesBetween_28 ?_
      refine va_getN (D := D) (T := TX5) (N := 5) hx hb hts jnX5 hown hK hP 19 (wd_19 y ad cap I J) rfl 0 (by decide) (hts _ fn_X4_119) (fun _ h9 => h9) rfl dX4_bytesBetween_31 ?_
      refine lv_topi (fun v31 ev31 => ?_)
      obtain rfl : v31 = (nI (T 0 0)) := by
        rw [ev31]; exact hT.1.1
      refine lv_icmp_ge (tgt := 58) hx hb dX4_bytesBetween_34 (by decide) (fun c34 => ?_) (fun c34 => ?_)
      · skip
        have c34 := (nI_leI (a := (T 0 0)) (b := k) (by omega) (by omega)).mp c34
        refine lv_iload_n hx hb dX4_bytesBetween_58 rfl (lv_at hl 1 rfl) ?_
        refine W.iret (v := (iN (((sAt T (cnt M) (T 0 0) : Int) - T 0 4 - M.length * T 0 5) - ((sumS T k : Nat) : Int)))) hx hb hr (fun t ht hW => ⟨_, rfl, ?_, ht⟩) (fun _ h => nomatch h) dX4_bytesBetween_59
        have : k = T 0 0 := by omega
        rw [this]
      · skip
        have c34 := mt (nI_leI (a := (T 0 0)) (b := k) (by omega) (by omega)).mpr c34
        refine lv_iload_n hx hb dX4_bytesBetween_37 rfl (lv_at hl 1 rfl) ?_
        refine lv_aload_n hx hb dX4_bytesBetween_38 rfl (lv_at hl 0 rfl) ?_
        refine va_get (D := D) (T := TX4) (N := 9) hx hb hts jnX4 hown hK hP 17 (wd_17 y ad cap I J) rfl 0 (by decide) (hts _ fl_X4_12) (fun _ h9 => h9) rfl dX4_bytesBetween_39 ?_
        refine va_getN (D := D) (T := TX7) (N := 8) hx hb hts jnX7 hown hK hP 18 (wd_18 y ad cap I J) rfl 0 (by decide) (hts _ fn_X4_115) (fun _ h9 => h9) rfl dX4_bytesBetween_42 ?_
        refine va_getN (D := D) (T := TX5) (N := 5) hx hb hts jnX5 hown hK hP 19 (wd_19 y ad cap I J) rfl 2 (by decide) (hts _ fn_X4_223) (fun _ h9 => h9) rfl dX4_bytesBetween_45 ?_
        refine lv_iload_n hx hb dX4_bytesBetween_48 rfl (lv_at hl 2 rfl) ?_
        refine va_iald (D := D) hx hb hK hP 20 0 (wd_20 y ad cap I J) rfl (vp_in_nI (by omega) (by omega)) dX4_bytesBetween_49 ?_
        rw [nI_clamp (n := k) (by omega)]
        refine lv_topi (fun v49 ev49 => ?_)
        obtain rfl : v49 = (nI (T 1 k)) := by
          rw [ev49]; exact (hT.2.1 _ (by omega)).1
        refine lv_isub hx hb dX4_bytesBetween_50 ?_
        refine lv_topi (fun v50 ev50 => ?_)
        obtain rfl : v50 = (iN (((sAt T (cnt M) (T 0 0) : Int) - T 0 4 - M.length * T 0 5) - ((sumS T (k + 1) : Nat) : Int))) := by
          rw [ev50, nI_iN, iN_sub]
          congr 1
          simp only [sumS]
          omega
        refine lv_istore_n (lv' := [(1, .int (iN (((sAt T (cnt M) (T 0 0) : Int) - T 0 4 - M.length * T 0 5) - ((sumS T (k + 1) : Nat) : Int)))), (0, .ref (ad 17)), (2, .int (nI k))]) hx hb dX4_bytesBetween_51 rfl hl (by decide) rfl (fun ls hl => ?_)
        refine lv_iinc (v := (nI (k + 1))) (lv' := [(2, .int (nI (k + 1))), (1, .int (iN (((sAt T (cnt M) (T 0 0) : Int) - T 0 4 - M.length * T 0 5) - ((sumS T (k + 1) : Nat) : Int)))), (0, .ref (ad 17))]) hx hb dX4_bytesBetween_52 hl (k := 2) rfl (nI_1 _) (by decide) rfl (fun ls hl => ?_)
        refine lv_goto (tgt := 23) hx hb dX4_bytesBetween_55 (by decide) ?_
        exact ih23 (k + 1) (by omega) (by omega) ls (by exact lv_sub hl [2, 1, 0] rfl)
  exact loop23 (T 0 0 + 1) 0 (by omega) (by omega) ls (by exact lv_sub hl [2, 1, 0] rfl)
set_option maxHeartbeats 4000000 in
set_option maxRecDepth 100000 in
theorem c_X4_thunkCode (l : Launch) (D : va_G) (y : Nat → ClassId) (ad : Nat → Nat) (cap : Nat) (I : Nat → Nat → Int32) (J : Nat → Nat → Int64) {T : Nat → Nat → Nat} {M : List Th} (hT : RT18 I T) (hW : WF T) (hQ : LQ I J T cap M) (p0 : Int32) : Met l yX4_thunkCode [.code yX4_thunkCode cX4_thunkCode 2 (some .int)] ({ frames := 3, cells := 0, slots := 0, locals := 79 }) (va_Pc [.ref (ad 17), .int p0] (PR D y (Wd y ad cap I J))) (vp_Si (fun r => r = oI ((ix M.length p0).bind (cdT T M)))) 0 0 (fun _ => False) := by
  refine Met.ofW (cc := cX4_thunkCode) (maxL := 2) (ret := (some .int)) (by decide) rfl ?_
  intro p e s m args below meth c s₁ B hml hv
  obtain ⟨rfl, hP, hO⟩ := hv
  have hx := B.exec
  have hb := B.bytes
  have hr := B.returns
  have hown : s.vm.findClass RX4 = some m.cls := findClass_of_methodNamed B.named
  have hlocks := B.notSynchronized
  have hK := hO.1
  have hts : ∀ w ∈ lw_E, w.before ([.ref (ad 17), .int p0] : List Value).toArray s = true := fun w h => hO.2 w h _
  clear B
  have hl := lv_entry ([.ref (ad 17), .int p0]) (n := 2) (Nat.le_of_ble_eq_true rfl)
  rw [lg_entry_eq]
  generalize (lg_sl ([.ref (ad 17), .int p0]) ++ List.replicate (2 - (lg_sl ([.ref (ad 17), .int p0])).length) Slot.unset).toArray = ls at hl ⊢
  have hl : lv_has ls 2 [(0, .ref (ad 17)), (1, .int p0)] := hl
  have hW0 := hW
  obtain ⟨⟨w1, w2, w3, w4, w5, w6, w7⟩, wS, wL, wB, wK, wTk, wT0⟩ := hW
  obtain ⟨⟨q1, q2, q3, hTW, htz0⟩, qT, qP, qB, hJ, qE⟩ := hQ
  have hnM : ∀ s, cnt M s ≤ 2400 := fun s => by have := cnt_le M s; omega
  refine lv_aload_n hx hb dX4_thunkCode_0 rfl (lv_at hl 0 rfl) ?_
  refine va_get (D := D) (T := TX4) (N := 9) hx hb hts jnX4 hown hK hP 17 (wd_17 y ad cap I J) rfl 2 (by decide) (hts _ fl_X4_28) (fun _ h9 => h9) rfl dX4_thunkCode_1 ?_
  refine lv_iload_n hx hb dX4_thunkCode_4 rfl (lv_at hl 1 rfl) ?_
  refine rk_i (run_vn (As := [.int p0]) (rest := []) (b := (ad 38)) hx hb hml hown hO.2 (c_X6_has l D y (wd_38 y ad cap I J) p0) k_X6_has mn_X4_173 ⟨rfl, rfl⟩ ⟨Nat.le_of_ble_eq_true rfl, Nat.le_of_ble_eq_true rfl⟩ (pre_VR hO hP (wd_38 y ad cap I J) rfl) rfl hl.1 rfl (Nat.le_of_ble_eq_true rfl) dX4_thunkCode_5 ⟨(Nat.zero_le _), (Nat.zero_le _)⟩) (fun r5 er5 => ?_)
  try dsimp only at er5
  rw [q1] at er5
  refine lv_if_ne (tgt := 13) hx hb dX4_thunkCode_8 (by decide) (fun c8 => ?_) (fun c8 => ?_)
  · skip
    have c8 := if01_n er5 c8
    obtain ⟨t0, rfl, ht0⟩ := ix_ok (n := M.length) (by omega) c8
    obtain ⟨t1, t2, t3, t4⟩ := hTW.1 t0 ht0
    have htz := htz0 (by omega)
    have hpl := plc_le hW0 (by omega) hTW ht0
    refine lv_aload_n hx hb dX4_thunkCode_13 rfl (lv_at hl 0 rfl) ?_
    refine va_get (D := D) (T := TX4) (N := 9) hx hb hts jnX4 hown hK hP 17 (wd_17 y ad cap I J) rfl 0 (by decide) (hts _ fl_X4_12) (fun _ h9 => h9) rfl dX4_thunkCode_14 ?_
    refine va_getN (D := D) (T := TX7) (N := 8) hx hb hts jnX7 hown hK hP 18 (wd_18 y ad cap I J) rfl 2 (by decide) (hts _ fn_X4_150) (fun _ h9 => h9) rfl dX4_thunkCode_17 ?_
    refine lv_aload_n hx hb dX4_thunkCode_20 rfl (lv_at hl 0 rfl) ?_
    refine va_get (D := D) (T := TX4) (N := 9) hx hb hts jnX4 hown hK hP 17 (wd_17 y ad cap I J) rfl 0 (by decide) (hts _ fl_X4_12) (fun _ h9 => h9) rfl dX4_thunkCode_21 ?_
    refine va_getN (D := D) (T := TX7) (N := 8) hx hb hts jnX7 hown hK hP 18 (wd_18 y ad cap I J) rfl 7 (by decide) (hts _ fn_X4_163) (fun _ h9 => h9) rfl dX4_thunkCode_24 ?_
    refine lv_topi (fun v24 ev24 => ?_)
    obtain rfl : v24 = (nI (T 0 7)) := by
      rw [ev24]; exact hT.1.2.2.2.2.2.2.2 htz
    refine lv_aload_n hx hb dX4_thunkCode_27 rfl (lv_at hl 0 rfl) ?_
    refine va_get (D := D) (T := TX4) (N := 9) hx hb hts jnX4 hown hK hP 17 (wd_17 y ad cap I J) rfl 2 (by decide) (hts _ fl_X4_28) (fun _ h9 => h9) rfl dX4_thunkCode_28 ?_
    refine va_getN (D := D) (T := TX6) (N := 11) hx hb hts jnX6 hown hK hP 38 (wd_38 y ad cap I J) rfl 8 (by decide) (hts _ fn_X4_179) (fun _ h9 => h9) rfl dX4_thunkCode_31 ?_
    refine lv_iload_n hx hb dX4_thunkCode_34 rfl (lv_at hl 1 rfl) ?_
    refine va_lald (D := D) hx hb hK hP 45 1 (wd_45 y ad cap I J) rfl (vp_in_nI (by omega) (by omega)) dX4_thunkCode_35 ?_
    rw [nI_clamp (n := t0) (by omega)]
    refine lv_topl (fun v35 ev35 => ?_)
    obtain rfl : v35 = (lN (plc T M t0)) := by
      rw [ev35]; exact qP _ (by omega)
    refine lv_aload_n hx hb dX4_thunkCode_36 rfl (lv_at hl 0 rfl) ?_
    refine lv_aload_n hx hb dX4_thunkCode_37 rfl (lv_at hl 0 rfl) ?_
    refine va_get (D := D) (T := TX4) (N := 9) hx hb hts jnX4 hown hK hP 17 (wd_17 y ad cap I J) rfl 2 (by decide) (hts _ fl_X4_28) (fun _ h9 => h9) rfl dX4_thunkCode_38 ?_
    refine va_getN (D := D) (T := TX6) (N := 11) hx hb hts jnX6 hown hK hP 38 (wd_38 y ad cap I J) rfl 3 (by decide) (hts _ fn_X4_182) (fun _ h9 => h9) rfl dX4_thunkCode_41 ?_
    refine lv_iload_n hx hb dX4_thunkCode_44 rfl (lv_at hl 1 rfl) ?_
    refine va_iald (D := D) hx hb hK hP 40 0 (wd_40 y ad cap I J) rfl (vp_in_nI (by omega) (by omega)) dX4_thunkCode_45 ?_
    rw [nI_clamp (n := t0) (by omega)]
    refine lv_topi (fun v45 ev45 => ?_)
    obtain rfl : v45 = (nI ((thA M t0).2.1)) := by
      rw [ev45]; exact (qT _ (by omega)).2.1
    refine rk_l (run_v (As := [.int (nI ((thA M t0).2.1))]) (rest := [.long (lN (plc T M t0)), .int (nI (T 0 7)), .ref (ad 26)]) (b := (ad 17)) hx hb hml hown hO.2 (c_X4_labelAddress l D y ad cap I J hT hW0 hnM hJ (l0 := (thA M t0).2.1) t2) k_X4_labelAddress ml_X4_166 ⟨rfl, rfl⟩ ⟨Nat.le_of_ble_eq_true rfl, Nat.le_of_ble_eq_true rfl⟩ (pre_VR hO hP (wd_17 y ad cap I J) rfl) rfl hl.1 rfl (Nat.le_of_ble_eq_true rfl) dX4_thunkCode_46 ⟨(Nat.zero_le _), (Nat.zero_le _)⟩) (fun r46 er46 => ?_)
    try dsimp only at er46
    obtain rfl : r46 = (lN (labA T (cnt M) ((thA M t0).2.1))) := by
      exact er46
    refine rk_i (run_vn (As := [.int (nI (T 0 7)), .long (lN (plc T M t0)), .long (lN (labA T (cnt M) ((thA M t0).2.1)))]) (rest := []) (b := (ad 26)) hx hb hml hown hO.2 (c_X2_encode l D y (wd_26 y ad cap I J) (wd_27 y ad cap I J) (wd_28 y ad cap I J) (k0 := T 0 7) (wTk htz).1 (hT.2.2.2.2 _ (wTk htz).1).1 (hT.2.2.2.2 _ (wTk htz).1).2 (wK _ (wTk htz).1).1 (wTk htz).2 (wK _ (wTk htz).1).2 (by omega) (by have := labA_le hW0 hnM t2; omega)) k_X2_encode mn_X4_227 ⟨rfl, rfl⟩ ⟨Nat.le_of_ble_eq_true rfl, Nat.le_of_ble_eq_true rfl⟩ (pre_VR hO hP (wd_26 y ad cap I J) rfl) rfl hl.1 rfl (Nat.le_of_ble_eq_true rfl) dX4_thunkCode_49 ⟨(Nat.zero_le _), (Nat.zero_le _)⟩) (fun r49 er49 => ?_)
    try dsimp only at er49
    refine W.iret (v := r49) hx hb hr (fun t ht hW => ⟨_, rfl, ?_, ht⟩) (fun _ h => nomatch h) dX4_thunkCode_52
    rw [ix_in (by omega) ht0, er49]
    simp only [Option.bind_some, cdT]
    split <;> rfl
  · skip
    have c8 := if01_z er5 c8
    refine lv_iconst (v := (-1)) hx hb dX4_thunkCode_11 (by decide) ?_
    refine W.iret (v := (-1)) hx hb hr (fun t ht hW => ⟨_, rfl, ?_, ht⟩) (fun _ h => nomatch h) dX4_thunkCode_12
    rw [ix_no c8]
    rfl
set_option maxHeartbeats 4000000 in
set_option maxRecDepth 100000 in
theorem c_X4_branchCode (l : Launch) (D : va_G) (y : Nat → ClassId) (ad : Nat → Nat) (cap : Nat) (I : Nat → Nat → Int32) (J : Nat → Nat → Int64) {T : Nat → Nat → Nat} {M : List Th} (hT : RT18 I T) (hW : WF T) (hQ : LQ I J T cap M) (p0 : Int32) : Met l yX4_branchCode [.code yX4_branchCode cX4_branchCode 5 (some .int)] ({ frames := 3, cells := 0, slots := 0, locals := 79 }) (va_Pc [.ref (ad 17), .int p0] (PR D y (Wd y ad cap I J))) (vp_Si (fun r => r = oI ((ix (T 0 2) p0).bind (cdB T M)))) 0 0 (fun _ => False) := by
  refine Met.ofW (cc := cX4_branchCode) (maxL := 5) (ret := (some .int)) (by decide) rfl ?_
  intro p e s m args below meth c s₁ B hml hv
  obtain ⟨rfl, hP, hO⟩ := hv
  have hx := B.exec
  have hb := B.bytes
  have hr := B.returns
  have hown : s.vm.findClass RX4 = some m.cls := findClass_of_methodNamed B.named
  have hlocks := B.notSynchronized
  have hK := hO.1
  have hts : ∀ w ∈ lw_E, w.before ([.ref (ad 17), .int p0] : List Value).toArray s = true := fun w h => hO.2 w h _
  clear B
  have hl := lv_entry ([.ref (ad 17), .int p0]) (n := 5) (Nat.le_of_ble_eq_true rfl)
  rw [lg_entry_eq]
  generalize (lg_sl ([.ref (ad 17), .int p0]) ++ List.replicate (5 - (lg_sl ([.ref (ad 17), .int p0])).length) Slot.unset).toArray = ls at hl ⊢
  have hl : lv_has ls 5 [(0, .ref (ad 17)), (1, .int p0)] := hl
  have hW0 := hW
  obtain ⟨⟨w1, w2, w3, w4, w5, w6, w7⟩, wS, wL, wB, wK, wTk, wT0⟩ := hW
  obtain ⟨⟨q1, q2, q3, hTW, htz0⟩, qT, qP, qB, hJ, qE⟩ := hQ
  have hnM : ∀ s, cnt M s ≤ 2400 := fun s => by have := cnt_le M s; omega
  refine lv_aload_n hx hb dX4_branchCode_0 rfl (lv_at hl 0 rfl) ?_
  refine va_get (D := D) (T := TX4) (N := 9) hx hb hts jnX4 hown hK hP 17 (wd_17 y ad cap I J) rfl 0 (by decide) (hts _ fl_X4_12) (fun _ h9 => h9) rfl dX4_branchCode_1 ?_
  refine va_getN (D := D) (T := TX7) (N := 8) hx hb hts jnX7 hown hK hP 18 (wd_18 y ad cap I J) rfl 3 (by decide) (hts _ fn_X4_85) (fun _ h9 => h9) rfl dX4_branchCode_4 ?_
  refine lv_iload_n hx hb dX4_branchCode_7 rfl (lv_at hl 1 rfl) ?_
  refine rk_i (run_vn (As := [.int p0]) (rest := []) (b := (ad 29)) hx hb hml hown hO.2 (c_X1_has l D y (wd_29 y ad cap I J) p0) k_X1_has mn_X4_226 ⟨rfl, rfl⟩ ⟨Nat.le_of_ble_eq_true rfl, Nat.le_of_ble_eq_true rfl⟩ (pre_VR hO hP (wd_29 y ad cap I J) rfl) rfl hl.1 rfl (Nat.le_of_ble_eq_true rfl) dX4_branchCode_8 ⟨(Nat.zero_le _), (Nat.zero_le _)⟩) (fun r8 er8 => ?_)
  try dsimp only at er8
  rw [hT.1.2.2.1] at er8
  refine lv_if_eq (tgt := 24) hx hb dX4_branchCode_11 (by decide) (fun c11 => ?_) (fun c11 => ?_)
  · skip
    have c11 := if01_z er8 c11
    refine lv_iconst (v := (-1)) hx hb dX4_branchCode_24 (by decide) ?_
    refine W.iret (v := (-1)) hx hb hr (fun t ht hW => ⟨_, rfl, ?_, ht⟩) (fun _ h => nomatch h) dX4_branchCode_25
    first | (rw [ix_no c11]; rfl) | (rw [ix_in (by omega) hb0]; simp only [Option.bind_some]; unfold wyB at c21; by_cases h9 : dirB T (cnt M) b0 = true; (rw [if_pos h9] at c21; exact absurd c21 (by decide)); rw [if_neg h9] at c21; cases h8 : bst T M b0 (T 0 0) with | none => (simp [cdB, h9, h8, oI]) | some t => (rw [h8] at c21; exact absurd c21 (by simp)))
  · skip
    have c11 := if01_n er8 c11
    obtain ⟨b0, rfl, hb0⟩ := ix_ok (n := T 0 2) (by omega) c11
    obtain ⟨x1, x2, x6, x7, x8⟩ := wB b0 hb0
    obtain ⟨x3, x4, x5⟩ := wS _ x1
    have hwy : wyB T M b0 < 2 ^ 31 := by unfold wyB; split; omega; split <;> omega
    refine lv_aload_n hx hb dX4_branchCode_14 rfl (lv_at hl 0 rfl) ?_
    refine va_get (D := D) (T := TX4) (N := 9) hx hb hts jnX4 hown hK hP 17 (wd_17 y ad cap I J) rfl 3 (by decide) (hts _ fl_X4_32) (fun _ h9 => h9) rfl dX4_branchCode_15 ?_
    refine lv_iload_n hx hb dX4_branchCode_18 rfl (lv_at hl 1 rfl) ?_
    refine va_iald (D := D) hx hb hK hP 48 0 (wd_48 y ad cap I J) rfl (vp_in_nI (by omega) (by omega)) dX4_branchCode_19 ?_
    rw [nI_clamp (n := b0) (by omega)]
    refine lv_topi (fun v19 ev19 => ?_)
    obtain rfl : v19 = (nI (wyB T M b0)) := by
      rw [ev19]; exact (qB _ (by omega)).1
    refine lv_iconst (v := 2) hx hb dX4_branchCode_20 (by decide) ?_
    refine lv_icmp_ne (tgt := 26) hx hb dX4_branchCode_21 (by decide) (fun c21 => ?_) (fun c21 => ?_)
    · skip
      have c21 := mt (nI_eq (a := (wyB T M b0)) (b := 2) (by omega) (by omega)).mpr c21
      have hbst : dirB T (cnt M) b0 = true ∨ ∃ t, bst T M b0 (T 0 0) = some t := by
        unfold wyB at c21
        by_cases h9 : dirB T (cnt M) b0 = true
        · exact Or.inl h9
        · rw [if_neg h9] at c21
          cases h8 : bst T M b0 (T 0 0) with
          | none =>
            rw [h8] at c21
            exact absurd rfl c21
          | some t => exact Or.inr ⟨t, rfl⟩
      refine lv_aload_n hx hb dX4_branchCode_26 rfl (lv_at hl 0 rfl) ?_
      refine va_get (D := D) (T := TX4) (N := 9) hx hb hts jnX4 hown hK hP 17 (wd_17 y ad cap I J) rfl 4 (by decide) (hts _ fl_X4_36) (fun _ h9 => h9) rfl dX4_branchCode_27 ?_
      refine lv_iload_n hx hb dX4_branchCode_30 rfl (lv_at hl 1 rfl) ?_
      refine va_iald (D := D) hx hb hK hP 49 0 (wd_49 y ad cap I J) rfl (vp_in_nI (by omega) (by omega)) dX4_branchCode_31 ?_
      rw [nI_clamp (n := b0) (by omega)]
      refine lv_topi (fun v31 ev31 => ?_)
      obtain rfl : v31 = (oI (rtB T M b0)) := by
        rw [ev31]; exact (qB _ (by omega)).2
      refine lv_istore_n (lv' := [(2, .int (oI (rtB T M b0))), (0, .ref (ad 17)), (1, .int (nI b0))]) hx hb dX4_branchCode_32 rfl hl (by decide) rfl (fun ls hl => ?_)
      refine lv_aload_n hx hb dX4_branchCode_33 rfl (lv_at hl 1 rfl) ?_
      refine va_get (D := D) (T := TX4) (N := 9) hx hb hts jnX4 hown hK hP 17 (wd_17 y ad cap I J) rfl 2 (by decide) (hts _ fl_X4_28) (fun _ h9 => h9) rfl dX4_branchCode_34 ?_
      refine lv_iload_n hx hb dX4_branchCode_37 rfl (lv_at hl 0 rfl) ?_
      refine rk_i (run_vn (As := [.int (oI (rtB T M b0))]) (rest := []) (b := (ad 38)) hx hb hml hown hO.2 (c_X6_has l D y (wd_38 y ad cap I J) (oI (rtB T M b0))) k_X6_has mn_X4_173 ⟨rfl, rfl⟩ ⟨Nat.le_of_ble_eq_true rfl, Nat.le_of_ble_eq_true rfl⟩ (pre_VR hO hP (wd_38 y ad cap I J) rfl) rfl hl.1 rfl (Nat.le_of_ble_eq_true rfl) dX4_branchCode_38 ⟨(Nat.zero_le _), (Nat.zero_le _)⟩) (fun r38 er38 => ?_)
      try dsimp only at er38
      rw [q1] at er38
      refine lv_if_eq (tgt := 56) hx hb dX4_branchCode_41 (by decide) (fun c41 => ?_) (fun c41 => ?_)
      · skip
        have c41 := if01_z er38 c41
        have hdr : dirB T (cnt M) b0 = true := by
          rcases hbst with h9 | ⟨t, h9⟩
          · exact h9
          · by_cases h8 : dirB T (cnt M) b0 = true
            · exact h8
            · have h7 : rtB T M b0 = some t := by
                unfold rtB
                rw [if_neg h8]
                exact h9
              have h6 := bst_lt _ _ h9
              rw [h7] at c41
              simp only [oI] at c41
              exact absurd ⟨nI_pos (by omega), by rw [nI_leI (by omega) (by omega)]; omega⟩ c41
        refine lv_aload_n hx hb dX4_branchCode_56 rfl (lv_at hl 1 rfl) ?_
        refine lv_aload_n hx hb dX4_branchCode_57 rfl (lv_at hl 1 rfl) ?_
        refine va_get (D := D) (T := TX4) (N := 9) hx hb hts jnX4 hown hK hP 17 (wd_17 y ad cap I J) rfl 0 (by decide) (hts _ fl_X4_12) (fun _ h9 => h9) rfl dX4_branchCode_58 ?_
        refine va_getN (D := D) (T := TX7) (N := 8) hx hb hts jnX7 hown hK hP 18 (wd_18 y ad cap I J) rfl 3 (by decide) (hts _ fn_X4_85) (fun _ h9 => h9) rfl dX4_branchCode_61 ?_
        refine va_getN (D := D) (T := TX1) (N := 5) hx hb hts jnX1 hown hK hP 29 (wd_29 y ad cap I J) rfl 4 (by decide) (hts _ fn_X4_108) (fun _ h9 => h9) rfl dX4_branchCode_64 ?_
        refine lv_iload_n hx hb dX4_branchCode_67 rfl (lv_at hl 2 rfl) ?_
        refine va_iald (D := D) hx hb hK hP 33 0 (wd_33 y ad cap I J) rfl (vp_in_nI (by omega) (by omega)) dX4_branchCode_68 ?_
        rw [nI_clamp (n := b0) (by omega)]
        refine lv_topi (fun v68 ev68 => ?_)
        obtain rfl : v68 = (nI (T 9 b0)) := by
          rw [ev68]; exact (hT.2.2.2.1 _ (by omega)).2.2.2
        refine rk_l (run_v (As := [.int (nI (T 9 b0))]) (rest := []) (b := (ad 17)) hx hb hml hown hO.2 (c_X4_labelAddress l D y ad cap I J hT hW0 hnM hJ (l0 := T 9 b0) x8) k_X4_labelAddress ml_X4_166 ⟨rfl, rfl⟩ ⟨Nat.le_of_ble_eq_true rfl, Nat.le_of_ble_eq_true rfl⟩ (pre_VR hO hP (wd_17 y ad cap I J) rfl) rfl hl.1 rfl (Nat.le_of_ble_eq_true rfl) dX4_branchCode_69 ⟨(Nat.zero_le _), (Nat.zero_le _)⟩) (fun r69 er69 => ?_)
        try dsimp only at er69
        obtain rfl : r69 = (lN (labA T (cnt M) (T 9 b0))) := by
          exact er69
        refine lv_lstore_n (lv' := [(3, .long (lN (labA T (cnt M) (T 9 b0)))), (2, .int (oI (rtB T M b0))), (0, .ref (ad 17)), (1, .int (nI b0))]) hx hb dX4_branchCode_72 rfl hl (by decide) rfl (fun ls hl => ?_)
        refine lv_aload_n hx hb dX4_branchCode_73 rfl (lv_at hl 2 rfl) ?_
        refine va_get (D := D) (T := TX4) (N := 9) hx hb hts jnX4 hown hK hP 17 (wd_17 y ad cap I J) rfl 0 (by decide) (hts _ fl_X4_12) (fun _ h9 => h9) rfl dX4_branchCode_74 ?_
        refine va_getN (D := D) (T := TX7) (N := 8) hx hb hts jnX7 hown hK hP 18 (wd_18 y ad cap I J) rfl 2 (by decide) (hts _ fn_X4_150) (fun _ h9 => h9) rfl dX4_branchCode_77 ?_
        refine lv_aload_n hx hb dX4_branchCode_80 rfl (lv_at hl 2 rfl) ?_
        refine va_get (D := D) (T := TX4) (N := 9) hx hb hts jnX4 hown hK hP 17 (wd_17 y ad cap I J) rfl 0 (by decide) (hts _ fl_X4_12) (fun _ h9 => h9) rfl dX4_branchCode_81 ?_
        refine va_getN (D := D) (T := TX7) (N := 8) hx hb hts jnX7 hown hK hP 18 (wd_18 y ad cap I J) rfl 3 (by decide) (hts _ fn_X4_85) (fun _ h9 => h9) rfl dX4_branchCode_84 ?_
        refine va_getN (D := D) (T := TX1) (N := 5) hx hb hts jnX1 hown hK hP 29 (wd_29 y ad cap I J) rfl 3 (by decide) (hts _ fn_X4_154) (fun _ h9 => h9) rfl dX4_branchCode_87 ?_
        refine lv_iload_n hx hb dX4_branchCode_90 rfl (lv_at hl 3 rfl) ?_
        refine va_iald (D := D) hx hb hK hP 32 0 (wd_32 y ad cap I J) rfl (vp_in_nI (by omega) (by omega)) dX4_branchCode_91 ?_
        rw [nI_clamp (n := b0) (by omega)]
        refine lv_topi (fun v91 ev91 => ?_)
        obtain rfl : v91 = (nI (T 8 b0)) := by
          rw [ev91]; exact (hT.2.2.2.1 _ (by omega)).2.2.1
        refine lv_aload_n hx hb dX4_branchCode_92 rfl (lv_at hl 2 rfl) ?_
        refine lv_iload_n hx hb dX4_branchCode_93 rfl (lv_at hl 3 rfl) ?_
        refine rk_l (run_v (As := [.int (nI b0)]) (rest := [.int (nI (T 8 b0)), .ref (ad 26)]) (b := (ad 17)) hx hb hml hown hO.2 (c_X4_branchAddress l D y ad cap I J hT hW0 hnM hJ (b0 := b0) hb0) k_X4_branchAddress ml_X4_111 ⟨rfl, rfl⟩ ⟨Nat.le_of_ble_eq_true rfl, Nat.le_of_ble_eq_true rfl⟩ (pre_VR hO hP (wd_17 y ad cap I J) rfl) rfl hl.1 rfl (Nat.le_of_ble_eq_true rfl) dX4_branchCode_94 ⟨(Nat.zero_le _), (Nat.zero_le _)⟩) (fun r94 er94 => ?_)
        try dsimp only at er94
        obtain rfl : r94 = (lN (braA T (cnt M) b0)) := by
          exact er94
        refine lv_lload_n hx hb dX4_branchCode_97 rfl (lv_at hl 0 rfl) ?_
        refine rk_i (run_vn (As := [.int (nI (T 8 b0)), .long (lN (braA T (cnt M) b0)), .long (lN (labA T (cnt M) (T 9 b0)))]) (rest := []) (b := (ad 26)) hx hb hml hown hO.2 (c_X2_encode l D y (wd_26 y ad cap I J) (wd_27 y ad cap I J) (wd_28 y ad cap I J) (k0 := T 8 b0) x6 (hT.2.2.2.2 _ x6).1 (hT.2.2.2.2 _ x6).2 (wK _ x6).1 x7 (wK _ x6).2 (by have := braA_le hW0 hnM hb0; omega) (by have := labA_le hW0 hnM x8; omega)) k_X2_encode mn_X4_227 ⟨rfl, rfl⟩ ⟨Nat.le_of_ble_eq_true rfl, Nat.le_of_ble_eq_true rfl⟩ (pre_VR hO hP (wd_26 y ad cap I J) rfl) rfl hl.1 rfl (Nat.le_of_ble_eq_true rfl) dX4_branchCode_98 ⟨(Nat.zero_le _), (Nat.zero_le _)⟩) (fun r98 er98 => ?_)
        try dsimp only at er98
        refine W.iret (v := r98) hx hb hr (fun t ht hW => ⟨_, rfl, ?_, ht⟩) (fun _ h => nomatch h) dX4_branchCode_101
        rw [ix_in (by omega) hb0, er98]
        simp only [Option.bind_some, cdB]
        have hdr2 := hdr
        unfold dirB at hdr2
        rw [if_pos hdr, if_pos hdr2]
        rfl
      · skip
        have c41 := if01_n er38 c41
        have hrt : ∃ t0, rtB T M b0 = some t0 ∧ bst T M b0 (T 0 0) = some t0 ∧ ¬ dirB T (cnt M) b0 = true := by
          cases h8 : rtB T M b0 with
          | none =>
            rw [h8] at c41
            exact absurd (show (-1 : Int32) < 0 by decide) c41.1
          | some t =>
            unfold rtB at h8
            by_cases h9 : dirB T (cnt M) b0 = true
            · rw [if_pos h9] at h8
              cases h8
            · rw [if_neg h9] at h8
              exact ⟨t, rfl, h8, h9⟩
        obtain ⟨t0, hrt, hbt, hnd⟩ := hrt
        rw [hrt] at hl
        simp only [oI] at hl
        have ht0 := bst_lt _ _ hbt
        have hpl := plc_le hW0 (by omega) hTW ht0
        obtain ⟨hh1, hh2⟩ := help_split (bst_help _ _ hbt).1
        refine lv_aload_n hx hb dX4_branchCode_44 rfl (lv_at hl 1 rfl) ?_
        refine va_get (D := D) (T := TX4) (N := 9) hx hb hts jnX4 hown hK hP 17 (wd_17 y ad cap I J) rfl 2 (by decide) (hts _ fl_X4_28) (fun _ h9 => h9) rfl dX4_branchCode_45 ?_
        refine va_getN (D := D) (T := TX6) (N := 11) hx hb hts jnX6 hown hK hP 38 (wd_38 y ad cap I J) rfl 8 (by decide) (hts _ fn_X4_179) (fun _ h9 => h9) rfl dX4_branchCode_48 ?_
        refine lv_iload_n hx hb dX4_branchCode_51 rfl (lv_at hl 0 rfl) ?_
        refine va_lald (D := D) hx hb hK hP 45 1 (wd_45 y ad cap I J) rfl (vp_in_nI (by omega) (by omega)) dX4_branchCode_52 ?_
        rw [nI_clamp (n := t0) (by omega)]
        refine lv_topl (fun v52 ev52 => ?_)
        obtain rfl : v52 = (lN (plc T M t0)) := by
          rw [ev52]; exact qP _ (by omega)
        refine lv_goto (tgt := 72) hx hb dX4_branchCode_53 (by decide) ?_
        refine lv_lstore_n (lv' := [(3, .long (lN (plc T M t0))), (2, .int (nI t0)), (0, .ref (ad 17)), (1, .int (nI b0))]) hx hb dX4_branchCode_72 rfl hl (by decide) rfl (fun ls hl => ?_)
        refine lv_aload_n hx hb dX4_branchCode_73 rfl (lv_at hl 2 rfl) ?_
        refine va_get (D := D) (T := TX4) (N := 9) hx hb hts jnX4 hown hK hP 17 (wd_17 y ad cap I J) rfl 0 (by decide) (hts _ fl_X4_12) (fun _ h9 => h9) rfl dX4_branchCode_74 ?_
        refine va_getN (D := D) (T := TX7) (N := 8) hx hb hts jnX7 hown hK hP 18 (wd_18 y ad cap I J) rfl 2 (by decide) (hts _ fn_X4_150) (fun _ h9 => h9) rfl dX4_branchCode_77 ?_
        refine lv_aload_n hx hb dX4_branchCode_80 rfl (lv_at hl 2 rfl) ?_
        refine va_get (D := D) (T := TX4) (N := 9) hx hb hts jnX4 hown hK hP 17 (wd_17 y ad cap I J) rfl 0 (by decide) (hts _ fl_X4_12) (fun _ h9 => h9) rfl dX4_branchCode_81 ?_
        refine va_getN (D := D) (T := TX7) (N := 8) hx hb hts jnX7 hown hK hP 18 (wd_18 y ad cap I J) rfl 3 (by decide) (hts _ fn_X4_85) (fun _ h9 => h9) rfl dX4_branchCode_84 ?_
        refine va_getN (D := D) (T := TX1) (N := 5) hx hb hts jnX1 hown hK hP 29 (wd_29 y ad cap I J) rfl 3 (by decide) (hts _ fn_X4_154) (fun _ h9 => h9) rfl dX4_branchCode_87 ?_
        refine lv_iload_n hx hb dX4_branchCode_90 rfl (lv_at hl 3 rfl) ?_
        refine va_iald (D := D) hx hb hK hP 32 0 (wd_32 y ad cap I J) rfl (vp_in_nI (by omega) (by omega)) dX4_branchCode_91 ?_
        rw [nI_clamp (n := b0) (by omega)]
        refine lv_topi (fun v91 ev91 => ?_)
        obtain rfl : v91 = (nI (T 8 b0)) := by
          rw [ev91]; exact (hT.2.2.2.1 _ (by omega)).2.2.1
        refine lv_aload_n hx hb dX4_branchCode_92 rfl (lv_at hl 2 rfl) ?_
        refine lv_iload_n hx hb dX4_branchCode_93 rfl (lv_at hl 3 rfl) ?_
        refine rk_l (run_v (As := [.int (nI b0)]) (rest := [.int (nI (T 8 b0)), .ref (ad 26)]) (b := (ad 17)) hx hb hml hown hO.2 (c_X4_branchAddress l D y ad cap I J hT hW0 hnM hJ (b0 := b0) hb0) k_X4_branchAddress ml_X4_111 ⟨rfl, rfl⟩ ⟨Nat.le_of_ble_eq_true rfl, Nat.le_of_ble_eq_true rfl⟩ (pre_VR hO hP (wd_17 y ad cap I J) rfl) rfl hl.1 rfl (Nat.le_of_ble_eq_true rfl) dX4_branchCode_94 ⟨(Nat.zero_le _), (Nat.zero_le _)⟩) (fun r94 er94 => ?_)
        try dsimp only at er94
        obtain rfl : r94 = (lN (braA T (cnt M) b0)) := by
          exact er94
        refine lv_lload_n hx hb dX4_branchCode_97 rfl (lv_at hl 0 rfl) ?_
        refine rk_i (run_vn (As := [.int (nI (T 8 b0)), .long (lN (braA T (cnt M) b0)), .long (lN (plc T M t0))]) (rest := []) (b := (ad 26)) hx hb hml hown hO.2 (c_X2_encode l D y (wd_26 y ad cap I J) (wd_27 y ad cap I J) (wd_28 y ad cap I J) (k0 := T 8 b0) x6 (hT.2.2.2.2 _ x6).1 (hT.2.2.2.2 _ x6).2 (wK _ x6).1 x7 (wK _ x6).2 (by have := braA_le hW0 hnM hb0; omega) (by omega)) k_X2_encode mn_X4_227 ⟨rfl, rfl⟩ ⟨Nat.le_of_ble_eq_true rfl, Nat.le_of_ble_eq_true rfl⟩ (pre_VR hO hP (wd_26 y ad cap I J) rfl) rfl hl.1 rfl (Nat.le_of_ble_eq_true rfl) dX4_branchCode_98 ⟨(Nat.zero_le _), (Nat.zero_le _)⟩) (fun r98 er98 => ?_)
        try dsimp only at er98
        refine W.iret (v := r98) hx hb hr (fun t ht hW => ⟨_, rfl, ?_, ht⟩) (fun _ h => nomatch h) dX4_branchCode_101
        rw [ix_in (by omega) hb0, er98]
        simp only [Option.bind_some, cdB]
        rw [if_neg hnd, if_pos hh1, hbt]
        rfl
    · skip
      have c21 := (nI_eq (a := (wyB T M b0)) (b := 2) (by omega) (by omega)).mp c21
      refine lv_iconst (v := (-1)) hx hb dX4_branchCode_24 (by decide) ?_
      refine W.iret (v := (-1)) hx hb hr (fun t ht hW => ⟨_, rfl, ?_, ht⟩) (fun _ h => nomatch h) dX4_branchCode_25
      first | (rw [ix_no c11]; rfl) | (rw [ix_in (by omega) hb0]; simp only [Option.bind_some]; unfold wyB at c21; by_cases h9 : dirB T (cnt M) b0 = true; (rw [if_pos h9] at c21; exact absurd c21 (by decide)); rw [if_neg h9] at c21; cases h8 : bst T M b0 (T 0 0) with | none => (simp [cdB, h9, h8, oI]) | some t => (rw [h8] at c21; exact absurd c21 (by simp)))
end
section
def wkB (T : Nat → Nat → Nat) (M : List Th) (o : Option Nat) : Int64 := match o with
  | none => -9223372036854775808
  | some b => if wyB T M b = 2 then -9223372036854775808 else lN (labA T (cnt M) (T 9 b))
theorem cdB_lt {T : Nat → Nat → Nat} {M : List Th} (hW : WF T) {b c : Nat} (hb : b < T 0 2) (h : cdB T M b = some c) : c < 2 ^ 30 := by
  have h30 := (hW.2.2.2.2.1 _ (hW.2.2.2.1 b hb).2.2.1).2
  unfold cdB at h
  split at h
  · cases h
    exact cde_lt h30
  · split at h
    · cases h
    · cases h
      exact cde_lt h30
theorem cdB_none {T : Nat → Nat → Nat} {M : List Th} {b : Nat} : cdB T M b = none ↔ wyB T M b = 2 := by
  unfold cdB wyB
  split
  · simp
  · split <;> simp
set_option maxHeartbeats 4000000 in
set_option maxRecDepth 100000 in
theorem c_X4_walkFrom (l : Launch) (D : va_G) (y : Nat → ClassId) (ad : Nat → Nat) (cap : Nat) (I : Nat → Nat → Int32) (J : Nat → Nat → Int64) {T : Nat → Nat → Nat} {M : List Th} (hT : RT18 I T) (hW : WF T) (hQ : LQ I J T cap M) (p0 : Int32) : Met l yX4_walkFrom [.code yX4_walkFrom cX4_walkFrom 6 (some .long)] ({ frames := 4, cells := 0, slots := 0, locals := 103 }) (va_Pc [.ref (ad 17), .int p0] (PR D y (Wd y ad cap I J))) (vp_Sl (fun r => r = wkB T M (ix (T 0 2) p0))) 0 0 (fun _ => False) := by
  refine Met.ofW (cc := cX4_walkFrom) (maxL := 6) (ret := (some .long)) (by decide) rfl ?_
  intro p e s m args below meth c s₁ B hml hv
  obtain ⟨rfl, hP, hO⟩ := hv
  have hx := B.exec
  have hb := B.bytes
  have hr := B.returns
  have hown : s.vm.findClass RX4 = some m.cls := findClass_of_methodNamed B.named
  have hlocks := B.notSynchronized
  have hK := hO.1
  have hts : ∀ w ∈ lw_E, w.before ([.ref (ad 17), .int p0] : List Value).toArray s = true := fun w h => hO.2 w h _
  clear B
  have hl := lv_entry ([.ref (ad 17), .int p0]) (n := 6) (Nat.le_of_ble_eq_true rfl)
  rw [lg_entry_eq]
  generalize (lg_sl ([.ref (ad 17), .int p0]) ++ List.replicate (6 - (lg_sl ([.ref (ad 17), .int p0])).length) Slot.unset).toArray = ls at hl ⊢
  have hl : lv_has ls 6 [(0, .ref (ad 17)), (1, .int p0)] := hl
  have hW0 := hW
  obtain ⟨⟨w1, w2, w3, w4, w5, w6, w7⟩, wS, wL, wB, wK, wTk, wT0⟩ := hW
  have hQ0 := hQ
  obtain ⟨⟨q1, q2, q3, hTW, htz0⟩, qT, qP, qB, hJ, qE⟩ := hQ
  have hnM : ∀ s, cnt M s ≤ 2400 := fun s => by have := cnt_le M s; omega
  refine lv_aload_n hx hb dX4_walkFrom_0 rfl (lv_at hl 0 rfl) ?_
  refine lv_iload_n hx hb dX4_walkFrom_1 rfl (lv_at hl 1 rfl) ?_
  refine rk_i (run_v (As := [.int p0]) (rest := []) (b := (ad 17)) hx hb hml hown hO.2 (c_X4_branchCode l D y ad cap I J hT hW0 hQ0 p0) k_X4_branchCode ml_X4_231 ⟨rfl, rfl⟩ ⟨Nat.le_of_ble_eq_true rfl, Nat.le_of_ble_eq_true rfl⟩ (pre_VR hO hP (wd_17 y ad cap I J) rfl) rfl hl.1 rfl (Nat.le_of_ble_eq_true rfl) dX4_walkFrom_2 ⟨(Nat.zero_le _), (Nat.zero_le _)⟩) (fun r2 er2 => ?_)
  try dsimp only at er2
  refine lv_istore_n (lv' := [(2, .int r2), (0, .ref (ad 17)), (1, .int p0)]) hx hb dX4_walkFrom_5 rfl hl (by decide) rfl (fun ls hl => ?_)
  have hlt : ∀ c, (ix (T 0 2) p0).bind (cdB T M) = some c → ∃ b0, p0 = nI b0 ∧ b0 < T 0 2 ∧ cdB T M b0 = some c ∧ c < 2 ^ 30 := by
    intro c hc
    by_cases h9 : ¬ p0 < 0 ∧ ¬ nI (T 0 2) ≤ p0
    · obtain ⟨b0, rfl, hb0⟩ := ix_ok (by omega) h9
      rw [ix_in (by omega) hb0] at hc
      exact ⟨b0, rfl, hb0, hc, cdB_lt hW0 hb0 hc⟩
    · rw [ix_no h9] at hc
      cases hc
  have hneg := oI_neg (o := (ix (T 0 2) p0).bind (cdB T M)) (fun c hc => by obtain ⟨_, _, _, _, h9⟩ := hlt c hc; omega)
  refine lv_iload_n hx hb dX4_walkFrom_6 rfl (lv_at hl 0 rfl) ?_
  refine lv_iconst (v := (-1)) hx hb dX4_walkFrom_7 (by decide) ?_
  refine lv_icmp_ne (tgt := 15) hx hb dX4_walkFrom_8 (by decide) (fun c8 => ?_) (fun c8 => ?_)
  · skip
    rw [er2] at c8
    obtain ⟨cc0, hcc⟩ := Option.ne_none_iff_exists'.mp (fun h9 => c8 (hneg.mpr h9))
    obtain ⟨b0, rfl, hb0, hcd, hc30⟩ := hlt cc0 hcc
    rw [hcc] at er2
    simp only [oI] at er2
    obtain ⟨x1, x2, x6, x7, x8⟩ := wB b0 hb0
    obtain ⟨x3, x4, x5⟩ := wS _ x1
    have hbr := braA_le hW0 hnM hb0
    have hlb := labA_le hW0 hnM x8
    by_cases hdr : dirB T (cnt M) b0 = true
    · skip
      have hcd2 := hcd
      unfold cdB at hcd2
      rw [if_pos hdr] at hcd2
      obtain rfl := Option.some.inj hcd2
      subst er2
      have hdr2 := hdr
      unfold dirB at hdr2
      have hrt : rtB T M b0 = none := by unfold rtB; rw [if_pos hdr]
      refine lv_aload_n hx hb dX4_walkFrom_15 rfl (lv_at hl 1 rfl) ?_
      refine va_get (D := D) (T := TX4) (N := 9) hx hb hts jnX4 hown hK hP 17 (wd_17 y ad cap I J) rfl 0 (by decide) (hts _ fl_X4_12) (fun _ h9 => h9) rfl dX4_walkFrom_16 ?_
      refine va_getN (D := D) (T := TX7) (N := 8) hx hb hts jnX7 hown hK hP 18 (wd_18 y ad cap I J) rfl 2 (by decide) (hts _ fn_X4_150) (fun _ h9 => h9) rfl dX4_walkFrom_19 ?_
      refine lv_aload_n hx hb dX4_walkFrom_22 rfl (lv_at hl 1 rfl) ?_
      refine va_get (D := D) (T := TX4) (N := 9) hx hb hts jnX4 hown hK hP 17 (wd_17 y ad cap I J) rfl 0 (by decide) (hts _ fl_X4_12) (fun _ h9 => h9) rfl dX4_walkFrom_23 ?_
      refine va_getN (D := D) (T := TX7) (N := 8) hx hb hts jnX7 hown hK hP 18 (wd_18 y ad cap I J) rfl 3 (by decide) (hts _ fn_X4_85) (fun _ h9 => h9) rfl dX4_walkFrom_26 ?_
      refine va_getN (D := D) (T := TX1) (N := 5) hx hb hts jnX1 hown hK hP 29 (wd_29 y ad cap I J) rfl 3 (by decide) (hts _ fn_X4_154) (fun _ h9 => h9) rfl dX4_walkFrom_29 ?_
      refine lv_iload_n hx hb dX4_walkFrom_32 rfl (lv_at hl 2 rfl) ?_
      refine va_iald (D := D) hx hb hK hP 32 0 (wd_32 y ad cap I J) rfl (vp_in_nI (by omega) (by omega)) dX4_walkFrom_33 ?_
      rw [nI_clamp (n := b0) (by omega)]
      refine lv_topi (fun v33 ev33 => ?_)
      obtain rfl : v33 = (nI (T 8 b0)) := by
        rw [ev33]; exact (hT.2.2.2.1 _ (by omega)).2.2.1
      refine lv_aload_n hx hb dX4_walkFrom_34 rfl (lv_at hl 1 rfl) ?_
      refine lv_iload_n hx hb dX4_walkFrom_35 rfl (lv_at hl 2 rfl) ?_
      refine rk_l (run_v (As := [.int (nI b0)]) (rest := [.int (nI (T 8 b0)), .ref (ad 26)]) (b := (ad 17)) hx hb hml hown hO.2 (c_X4_branchAddress l D y ad cap I J hT hW0 hnM hJ (b0 := b0) hb0) k_X4_branchAddress ml_X4_111 ⟨rfl, rfl⟩ ⟨Nat.le_of_ble_eq_true rfl, Nat.le_of_ble_eq_true rfl⟩ (pre_VR hO hP (wd_17 y ad cap I J) rfl) rfl hl.1 rfl (Nat.le_of_ble_eq_true rfl) dX4_walkFrom_36 ⟨(Nat.zero_le _), (Nat.zero_le _)⟩) (fun r36 er36 => ?_)
      try dsimp only at er36
      obtain rfl : r36 = (lN (braA T (cnt M) b0)) := by
        exact er36
      refine lv_iload_n hx hb dX4_walkFrom_39 rfl (lv_at hl 0 rfl) ?_
      refine rk_l (run_vn (As := [.int (nI (T 8 b0)), .long (lN (braA T (cnt M) b0)), .int (nI (cde (T 10 (T 8 b0)) (T 11 (T 8 b0)) (braA T (cnt M) b0) (labA T (cnt M) (T 9 b0))))]) (rest := []) (b := (ad 26)) hx hb hml hown hO.2 (c_X2_follow l D y (wd_26 y ad cap I J) (wd_27 y ad cap I J) (wd_28 y ad cap I J) (k0 := T 8 b0) (a0 := braA T (cnt M) b0) (b0 := labA T (cnt M) (T 9 b0)) x6 (hT.2.2.2.2 _ x6).1 (hT.2.2.2.2 _ x6).2 (wK _ x6).1 x7 (wK _ x6).2 (by omega) (by omega) hdr2) k_X2_follow mn_X4_236 ⟨rfl, rfl⟩ ⟨Nat.le_of_ble_eq_true rfl, Nat.le_of_ble_eq_true rfl⟩ (pre_VR hO hP (wd_26 y ad cap I J) rfl) rfl hl.1 rfl (Nat.le_of_ble_eq_true rfl) dX4_walkFrom_40 ⟨(Nat.zero_le _), (Nat.zero_le _)⟩) (fun r40 er40 => ?_)
      try dsimp only at er40
      obtain rfl : r40 = (lN (labA T (cnt M) (T 9 b0))) := by
        exact er40
      refine lv_lstore_n (lv' := [(3, .long (lN (labA T (cnt M) (T 9 b0)))), (2, .int (nI (cde (T 10 (T 8 b0)) (T 11 (T 8 b0)) (braA T (cnt M) b0) (labA T (cnt M) (T 9 b0))))), (0, .ref (ad 17)), (1, .int (nI b0))]) hx hb dX4_walkFrom_43 rfl hl (by decide) rfl (fun ls hl => ?_)
      refine lv_aload_n hx hb dX4_walkFrom_44 rfl (lv_at hl 2 rfl) ?_
      refine lv_aload_n hx hb dX4_walkFrom_45 rfl (lv_at hl 2 rfl) ?_
      refine va_get (D := D) (T := TX4) (N := 9) hx hb hts jnX4 hown hK hP 17 (wd_17 y ad cap I J) rfl 4 (by decide) (hts _ fl_X4_36) (fun _ h9 => h9) rfl dX4_walkFrom_46 ?_
      refine lv_iload_n hx hb dX4_walkFrom_49 rfl (lv_at hl 3 rfl) ?_
      refine va_iald (D := D) hx hb hK hP 49 0 (wd_49 y ad cap I J) rfl (vp_in_nI (by omega) (by omega)) dX4_walkFrom_50 ?_
      rw [nI_clamp (n := b0) (by omega)]
      refine lv_topi (fun v50 ev50 => ?_)
      obtain rfl : v50 = (oI (rtB T M b0)) := by
        rw [ev50]; exact (qB _ (by omega)).2
      refine rk_i (run_v (As := [.int (oI (rtB T M b0))]) (rest := []) (b := (ad 17)) hx hb hml hown hO.2 (c_X4_thunkCode l D y ad cap I J hT hW0 hQ0 (oI (rtB T M b0))) k_X4_thunkCode ml_X4_240 ⟨rfl, rfl⟩ ⟨Nat.le_of_ble_eq_true rfl, Nat.le_of_ble_eq_true rfl⟩ (pre_VR hO hP (wd_17 y ad cap I J) rfl) rfl hl.1 rfl (Nat.le_of_ble_eq_true rfl) dX4_walkFrom_51 ⟨(Nat.zero_le _), (Nat.zero_le _)⟩) (fun r51 er51 => ?_)
      try dsimp only at er51
      obtain rfl : r51 = (-1) := by
        rw [er51, hrt]
        rfl
      refine lv_istore (lv' := [(5, .int (-1)), (3, .long (lN (labA T (cnt M) (T 9 b0)))), (2, .int (nI (cde (T 10 (T 8 b0)) (T 11 (T 8 b0)) (braA T (cnt M) b0) (labA T (cnt M) (T 9 b0))))), (0, .ref (ad 17)), (1, .int (nI b0))]) hx hb dX4_walkFrom_54 hl (by decide) rfl (fun ls hl => ?_)
      refine lv_iload hx hb dX4_walkFrom_56 (lv_at hl 0 rfl) ?_
      refine lv_iconst (v := (-1)) hx hb dX4_walkFrom_58 (by decide) ?_
      refine lv_icmp_ne (tgt := 64) hx hb dX4_walkFrom_59 (by decide) (fun c59 => ?_) (fun c59 => ?_)
      · skip
        exact absurd rfl c59
      · skip
        refine lv_lload_n hx hb dX4_walkFrom_62 rfl (lv_at hl 1 rfl) ?_
        refine W.lret (v := (lN (labA T (cnt M) (T 9 b0)))) hx hb hr (fun t ht hW => ⟨_, rfl, ?_, ht⟩) (fun _ h => nomatch h) dX4_walkFrom_63
        have hw2 : ¬ wyB T M b0 = 2 := fun h9 => by rw [cdB_none.mpr h9] at hcd; cases hcd
        rw [ix_in (by omega) hb0]
        simp only [wkB]
        rw [if_neg hw2]
    · skip
      have hcd2 := hcd
      unfold cdB at hcd2
      rw [if_neg hdr] at hcd2
      cases hbt : bst T M b0 (T 0 0) with
      | none =>
        rw [hbt] at hcd2
        cases hcd2
      | some t0 =>
        rw [hbt] at hcd2
        obtain rfl := Option.some.inj hcd2
        subst er2
        have hrt : rtB T M b0 = some t0 := by unfold rtB; rw [if_neg hdr]; exact hbt
        have ht0 := bst_lt _ _ hbt
        have hpl := plc_le hW0 (by omega) hTW ht0
        obtain ⟨hh1, hh2⟩ := help_split (bst_help _ _ hbt).1
        have htl := (bst_help _ _ hbt).2
        have htz := htz0 (by omega)
        refine lv_aload_n hx hb dX4_walkFrom_15 rfl (lv_at hl 1 rfl) ?_
        refine va_get (D := D) (T := TX4) (N := 9) hx hb hts jnX4 hown hK hP 17 (wd_17 y ad cap I J) rfl 0 (by decide) (hts _ fl_X4_12) (fun _ h9 => h9) rfl dX4_walkFrom_16 ?_
        refine va_getN (D := D) (T := TX7) (N := 8) hx hb hts jnX7 hown hK hP 18 (wd_18 y ad cap I J) rfl 2 (by decide) (hts _ fn_X4_150) (fun _ h9 => h9) rfl dX4_walkFrom_19 ?_
        refine lv_aload_n hx hb dX4_walkFrom_22 rfl (lv_at hl 1 rfl) ?_
        refine va_get (D := D) (T := TX4) (N := 9) hx hb hts jnX4 hown hK hP 17 (wd_17 y ad cap I J) rfl 0 (by decide) (hts _ fl_X4_12) (fun _ h9 => h9) rfl dX4_walkFrom_23 ?_
        refine va_getN (D := D) (T := TX7) (N := 8) hx hb hts jnX7 hown hK hP 18 (wd_18 y ad cap I J) rfl 3 (by decide) (hts _ fn_X4_85) (fun _ h9 => h9) rfl dX4_walkFrom_26 ?_
        refine va_getN (D := D) (T := TX1) (N := 5) hx hb hts jnX1 hown hK hP 29 (wd_29 y ad cap I J) rfl 3 (by decide) (hts _ fn_X4_154) (fun _ h9 => h9) rfl dX4_walkFrom_29 ?_
        refine lv_iload_n hx hb dX4_walkFrom_32 rfl (lv_at hl 2 rfl) ?_
        refine va_iald (D := D) hx hb hK hP 32 0 (wd_32 y ad cap I J) rfl (vp_in_nI (by omega) (by omega)) dX4_walkFrom_33 ?_
        rw [nI_clamp (n := b0) (by omega)]
        refine lv_topi (fun v33 ev33 => ?_)
        obtain rfl : v33 = (nI (T 8 b0)) := by
          rw [ev33]; exact (hT.2.2.2.1 _ (by omega)).2.2.1
        refine lv_aload_n hx hb dX4_walkFrom_34 rfl (lv_at hl 1 rfl) ?_
        refine lv_iload_n hx hb dX4_walkFrom_35 rfl (lv_at hl 2 rfl) ?_
        refine rk_l (run_v (As := [.int (nI b0)]) (rest := [.int (nI (T 8 b0)), .ref (ad 26)]) (b := (ad 17)) hx hb hml hown hO.2 (c_X4_branchAddress l D y ad cap I J hT hW0 hnM hJ (b0 := b0) hb0) k_X4_branchAddress ml_X4_111 ⟨rfl, rfl⟩ ⟨Nat.le_of_ble_eq_true rfl, Nat.le_of_ble_eq_true rfl⟩ (pre_VR hO hP (wd_17 y ad cap I J) rfl) rfl hl.1 rfl (Nat.le_of_ble_eq_true rfl) dX4_walkFrom_36 ⟨(Nat.zero_le _), (Nat.zero_le _)⟩) (fun r36 er36 => ?_)
        try dsimp only at er36
        obtain rfl : r36 = (lN (braA T (cnt M) b0)) := by
          exact er36
        refine lv_iload_n hx hb dX4_walkFrom_39 rfl (lv_at hl 0 rfl) ?_
        refine rk_l (run_vn (As := [.int (nI (T 8 b0)), .long (lN (braA T (cnt M) b0)), .int (nI (cde (T 10 (T 8 b0)) (T 11 (T 8 b0)) (braA T (cnt M) b0) (plc T M t0)))]) (rest := []) (b := (ad 26)) hx hb hml hown hO.2 (c_X2_follow l D y (wd_26 y ad cap I J) (wd_27 y ad cap I J) (wd_28 y ad cap I J) (k0 := T 8 b0) (a0 := braA T (cnt M) b0) (b0 := plc T M t0) x6 (hT.2.2.2.2 _ x6).1 (hT.2.2.2.2 _ x6).2 (wK _ x6).1 x7 (wK _ x6).2 (by omega) (by omega) hh1) k_X2_follow mn_X4_236 ⟨rfl, rfl⟩ ⟨Nat.le_of_ble_eq_true rfl, Nat.le_of_ble_eq_true rfl⟩ (pre_VR hO hP (wd_26 y ad cap I J) rfl) rfl hl.1 rfl (Nat.le_of_ble_eq_true rfl) dX4_walkFrom_40 ⟨(Nat.zero_le _), (Nat.zero_le _)⟩) (fun r40 er40 => ?_)
        try dsimp only at er40
        obtain rfl : r40 = (lN (plc T M t0)) := by
          exact er40
        refine lv_lstore_n (lv' := [(3, .long (lN (plc T M t0))), (2, .int (nI (cde (T 10 (T 8 b0)) (T 11 (T 8 b0)) (braA T (cnt M) b0) (plc T M t0)))), (0, .ref (ad 17)), (1, .int (nI b0))]) hx hb dX4_walkFrom_43 rfl hl (by decide) rfl (fun ls hl => ?_)
        refine lv_aload_n hx hb dX4_walkFrom_44 rfl (lv_at hl 2 rfl) ?_
        refine lv_aload_n hx hb dX4_walkFrom_45 rfl (lv_at hl 2 rfl) ?_
        refine va_get (D := D) (T := TX4) (N := 9) hx hb hts jnX4 hown hK hP 17 (wd_17 y ad cap I J) rfl 4 (by decide) (hts _ fl_X4_36) (fun _ h9 => h9) rfl dX4_walkFrom_46 ?_
        refine lv_iload_n hx hb dX4_walkFrom_49 rfl (lv_at hl 3 rfl) ?_
        refine va_iald (D := D) hx hb hK hP 49 0 (wd_49 y ad cap I J) rfl (vp_in_nI (by omega) (by omega)) dX4_walkFrom_50 ?_
        rw [nI_clamp (n := b0) (by omega)]
        refine lv_topi (fun v50 ev50 => ?_)
        obtain rfl : v50 = (oI (rtB T M b0)) := by
          rw [ev50]; exact (qB _ (by omega)).2
        refine rk_i (run_v (As := [.int (oI (rtB T M b0))]) (rest := []) (b := (ad 17)) hx hb hml hown hO.2 (c_X4_thunkCode l D y ad cap I J hT hW0 hQ0 (oI (rtB T M b0))) k_X4_thunkCode ml_X4_240 ⟨rfl, rfl⟩ ⟨Nat.le_of_ble_eq_true rfl, Nat.le_of_ble_eq_true rfl⟩ (pre_VR hO hP (wd_17 y ad cap I J) rfl) rfl hl.1 rfl (Nat.le_of_ble_eq_true rfl) dX4_walkFrom_51 ⟨(Nat.zero_le _), (Nat.zero_le _)⟩) (fun r51 er51 => ?_)
        try dsimp only at er51
        obtain rfl : r51 = (nI (cde (T 10 (T 0 7)) (T 11 (T 0 7)) (plc T M t0) (labA T (cnt M) (thA M t0).2.1))) := by
          rw [er51, hrt]
          simp only [oI]
          rw [ix_in (by omega) ht0]
          simp only [Option.bind_some, cdT]
          rw [if_pos hh2]
        refine lv_istore (lv' := [(5, .int (nI (cde (T 10 (T 0 7)) (T 11 (T 0 7)) (plc T M t0) (labA T (cnt M) (thA M t0).2.1)))), (3, .long (lN (plc T M t0))), (2, .int (nI (cde (T 10 (T 8 b0)) (T 11 (T 8 b0)) (braA T (cnt M) b0) (plc T M t0)))), (0, .ref (ad 17)), (1, .int (nI b0))]) hx hb dX4_walkFrom_54 hl (by decide) rfl (fun ls hl => ?_)
        refine lv_iload hx hb dX4_walkFrom_56 (lv_at hl 0 rfl) ?_
        refine lv_iconst (v := (-1)) hx hb dX4_walkFrom_58 (by decide) ?_
        refine lv_icmp_ne (tgt := 64) hx hb dX4_walkFrom_59 (by decide) (fun c59 => ?_) (fun c59 => ?_)
        · skip
          refine lv_aload_n hx hb dX4_walkFrom_64 rfl (lv_at hl 3 rfl) ?_
          refine va_get (D := D) (T := TX4) (N := 9) hx hb hts jnX4 hown hK hP 17 (wd_17 y ad cap I J) rfl 0 (by decide) (hts _ fl_X4_12) (fun _ h9 => h9) rfl dX4_walkFrom_65 ?_
          refine va_getN (D := D) (T := TX7) (N := 8) hx hb hts jnX7 hown hK hP 18 (wd_18 y ad cap I J) rfl 2 (by decide) (hts _ fn_X4_150) (fun _ h9 => h9) rfl dX4_walkFrom_68 ?_
          refine lv_aload_n hx hb dX4_walkFrom_71 rfl (lv_at hl 3 rfl) ?_
          refine va_get (D := D) (T := TX4) (N := 9) hx hb hts jnX4 hown hK hP 17 (wd_17 y ad cap I J) rfl 0 (by decide) (hts _ fl_X4_12) (fun _ h9 => h9) rfl dX4_walkFrom_72 ?_
          refine va_getN (D := D) (T := TX7) (N := 8) hx hb hts jnX7 hown hK hP 18 (wd_18 y ad cap I J) rfl 7 (by decide) (hts _ fn_X4_163) (fun _ h9 => h9) rfl dX4_walkFrom_75 ?_
          refine lv_topi (fun v75 ev75 => ?_)
          obtain rfl : v75 = (nI (T 0 7)) := by
            rw [ev75]; exact hT.1.2.2.2.2.2.2.2 htz
          refine lv_lload_n hx hb dX4_walkFrom_78 rfl (lv_at hl 1 rfl) ?_
          refine lv_iload hx hb dX4_walkFrom_79 (lv_at hl 0 rfl) ?_
          refine rk_l (run_vn (As := [.int (nI (T 0 7)), .long (lN (plc T M t0)), .int (nI (cde (T 10 (T 0 7)) (T 11 (T 0 7)) (plc T M t0) (labA T (cnt M) (thA M t0).2.1)))]) (rest := []) (b := (ad 26)) hx hb hml hown hO.2 (c_X2_follow l D y (wd_26 y ad cap I J) (wd_27 y ad cap I J) (wd_28 y ad cap I J) (k0 := T 0 7) (a0 := plc T M t0) (b0 := labA T (cnt M) (thA M t0).2.1) (wTk htz).1 (hT.2.2.2.2 _ (wTk htz).1).1 (hT.2.2.2.2 _ (wTk htz).1).2 (wK _ (wTk htz).1).1 (wTk htz).2 (wK _ (wTk htz).1).2 (by omega) (by have := labA_le hW0 hnM (show (thA M t0).2.1 < T 0 1 from (hTW.1 t0 ht0).2.1); omega) hh2) k_X2_follow mn_X4_236 ⟨rfl, rfl⟩ ⟨Nat.le_of_ble_eq_true rfl, Nat.le_of_ble_eq_true rfl⟩ (pre_VR hO hP (wd_26 y ad cap I J) rfl) rfl hl.1 rfl (Nat.le_of_ble_eq_true rfl) dX4_walkFrom_81 ⟨(Nat.zero_le _), (Nat.zero_le _)⟩) (fun r81 er81 => ?_)
          try dsimp only at er81
          refine W.lret (v := r81) hx hb hr (fun t ht hW => ⟨_, rfl, ?_, ht⟩) (fun _ h => nomatch h) dX4_walkFrom_84
          have hw2 : ¬ wyB T M b0 = 2 := fun h9 => by rw [cdB_none.mpr h9] at hcd; cases hcd
          rw [ix_in (by omega) hb0]
          simp only [wkB]
          rw [if_neg hw2]
          rw [er81, htl]
        · skip
          exact absurd c59 (fun h9 => by have h8 := congrArg Int32.toInt h9; rw [nI_toInt (by have := cde_lt (sh := T 10 (T 0 7)) (a := plc T M t0) (b := labA T (cnt M) (thA M t0).2.1) (wK _ (wTk htz).1).2; omega)] at h8; have h7 : (-1 : Int32).toInt = -1 := rfl; omega)
  · skip
    refine lv_ldc2 (v := (-9223372036854775808)) hx hb hown (hts _ kc_X4_234) dX4_walkFrom_11 ?_
    refine W.lret (v := (-9223372036854775808)) hx hb hr (fun t ht hW => ⟨_, rfl, ?_, ht⟩) (fun _ h => nomatch h) dX4_walkFrom_14
    rw [er2] at c8
    have h9 := hneg.mp c8
    by_cases h8 : ¬ p0 < 0 ∧ ¬ nI (T 0 2) ≤ p0
    · obtain ⟨b0, rfl, hb0⟩ := ix_ok (by omega) h8
      rw [ix_in (by omega) hb0] at h9 ⊢
      have h7 := cdB_none.mp h9
      simp only [wkB]
      rw [if_pos h7]
    · rw [ix_no h8]
      rfl
set_option maxHeartbeats 4000000 in
set_option maxRecDepth 100000 in
theorem c_X4_whatIsAt (l : Launch) (D : va_G) (y : Nat → ClassId) (ad : Nat → Nat) (cap : Nat) (I : Nat → Nat → Int32) (J : Nat → Nat → Int64) {T : Nat → Nat → Nat} {M : List Th} (hT : RT18 I T) (hW : WF T) (hQ : LQ I J T cap M) (x0 : Int64) : Met l yX4_whatIsAt [.code yX4_whatIsAt cX4_whatIsAt 4 (some .int)] ({ frames := 1, cells := 0, slots := 0, locals := 24 }) (va_Pc [.ref (ad 17), .long x0] (PR D y (Wd y ad cap I J))) (vp_Si (fun r => r = atB T M x0)) 0 0 (fun _ => False) := by
  refine Met.ofW (cc := cX4_whatIsAt) (maxL := 4) (ret := (some .int)) (by decide) rfl ?_
  intro p e s m args below meth c s₁ B hml hv
  obtain ⟨rfl, hP, hO⟩ := hv
  have hx := B.exec
  have hb := B.bytes
  have hr := B.returns
  have hown : s.vm.findClass RX4 = some m.cls := findClass_of_methodNamed B.named
  have hlocks := B.notSynchronized
  have hK := hO.1
  have hts : ∀ w ∈ lw_E, w.before ([.ref (ad 17), .long x0] : List Value).toArray s = true := fun w h => hO.2 w h _
  clear B
  have hl := lv_entry ([.ref (ad 17), .long x0]) (n := 4) (Nat.le_of_ble_eq_true rfl)
  rw [lg_entry_eq]
  generalize (lg_sl ([.ref (ad 17), .long x0]) ++ List.replicate (4 - (lg_sl ([.ref (ad 17), .long x0])).length) Slot.unset).toArray = ls at hl ⊢
  have hl : lv_has ls 4 [(0, .ref (ad 17)), (1, .long x0)] := hl
  have hW0 := hW
  obtain ⟨⟨w1, w2, w3, w4, w5, w6, w7⟩, wS, wL, wB, wK, wTk, wT0⟩ := hW
  obtain ⟨⟨q1, q2, q3, hTW, htz0⟩, qT, qP, qB, hJ, qE⟩ := hQ
  have hnM : ∀ s, cnt M s ≤ 2400 := fun s => by have := cnt_le M s; omega
  refine lv_lload_n hx hb dX4_whatIsAt_0 rfl (lv_at hl 1 rfl) ?_
  refine lv_aload_n hx hb dX4_whatIsAt_1 rfl (lv_at hl 0 rfl) ?_
  refine va_get (D := D) (T := TX4) (N := 9) hx hb hts jnX4 hown hK hP 17 (wd_17 y ad cap I J) rfl 0 (by decide) (hts _ fl_X4_12) (fun _ h9 => h9) rfl dX4_whatIsAt_2 ?_
  refine va_getN (D := D) (T := TX7) (N := 8) hx hb hts jnX7 hown hK hP 18 (wd_18 y ad cap I J) rfl 4 (by decide) (hts _ fn_X4_210) (fun _ h9 => h9) rfl dX4_whatIsAt_5 ?_
  refine lv_topi (fun v5 ev5 => ?_)
  obtain rfl : v5 = (nI (T 0 4)) := by
    rw [ev5]; exact hT.1.2.2.2.2.1
  refine lv_i2l (v := lN (T 0 4)) hx hb dX4_whatIsAt_8 (nI_l (by omega)) ?_
  refine W.lcmp hx hb dX4_whatIsAt_9 ?_
  refine lv_if_lt (tgt := 25) hx hb dX4_whatIsAt_10 (by decide) (fun c10 => ?_) (fun c10 => ?_)
  · skip
    have c10 := lc_lt.mp c10
    refine lv_iconst (v := (-1)) hx hb dX4_whatIsAt_25 (by decide) ?_
    refine W.iret (v := (-1)) hx hb hr (fun t ht hW => ⟨_, rfl, ?_, ht⟩) (fun _ h => nomatch h) dX4_whatIsAt_26
    unfold atB
    first | (rw [if_pos (Or.inl c10)]; done) | (rw [if_pos (Or.inr c22)]; done)
  · skip
    have c10 := mt lc_lt.mpr c10
    refine lv_lload_n hx hb dX4_whatIsAt_13 rfl (lv_at hl 1 rfl) ?_
    refine lv_aload_n hx hb dX4_whatIsAt_14 rfl (lv_at hl 0 rfl) ?_
    refine va_get (D := D) (T := TX4) (N := 9) hx hb hts jnX4 hown hK hP 17 (wd_17 y ad cap I J) rfl 1 (by decide) (hts _ fl_X4_21) (fun _ h9 => h9) rfl dX4_whatIsAt_15 ?_
    refine va_getN (D := D) (T := TX0) (N := 4) hx hb hts jnX0 hown hK hP 34 (wd_34 y ad cap I J) rfl 3 (by decide) (hts _ fn_X4_206) (fun _ h9 => h9) rfl dX4_whatIsAt_18 ?_
    refine lv_topl (fun v18 ev18 => ?_)
    obtain rfl : v18 = (lN (sAt T (cnt M) (T 0 0))) := by
      rw [ev18]; exact qE
    refine W.lcmp hx hb dX4_whatIsAt_21 ?_
    refine lv_if_lt (tgt := 27) hx hb dX4_whatIsAt_22 (by decide) (fun c22 => ?_) (fun c22 => ?_)
    · skip
      have c22 := lc_lt.mp c22
      refine lv_iconst (v := 0) hx hb dX4_whatIsAt_27 (by decide) ?_
      rw [show (0 : Int32) = (nI 0) from rfl]
      refine lv_istore_n (lv' := [(3, .int (nI 0)), (0, .ref (ad 17)), (1, .long x0)]) hx hb dX4_whatIsAt_28 rfl hl (by decide) rfl (fun ls hl => ?_)
      have loop29 : ∀ (n29 : Nat) (k : Nat) , (k ≤ T 0 0) → (∀ j, j < k → ¬ inS T (cnt M) x0 j = true) → T 0 0 + 1 ≤ k + n29 → ∀ ls : Array Slot, lv_has ls 4 [(0, .ref (ad 17)), (1, .long x0), (3, .int (nI k))] → W p l e (headSpec [.code yX4_whatIsAt cX4_whatIsAt 4 (some .int)] ({ frames := 1, cells := 0, slots := 0, locals := 24 })).room s m ([.ref (ad 17), .long x0] : List Value).toArray below meth c s.heap [] 0 0 (MQ below (vp_Si (fun r => r = atB T M x0)) ([.ref (ad 17), .long x0] : List Value).toArray s 0 0 (fun _ => False)) (F0 m 29 ls []) := by
        intro n29
        induction n29 with
        | zero =>
          intro k hk hS9 hmeas
          exact absurd hmeas (by omega)
        | succ n29 ih29 =>
          intro k hk hS9 hmeas ls hl
          refine lv_iload_n hx hb dX4_whatIsAt_29 rfl (lv_at hl 2 rfl) ?_
          refine lv_aload_n hx hb dX4_whatIsAt_30 rfl (lv_at hl 0 rfl) ?_
          refine va_get (D := D) (T := TX4) (N := 9) hx hb hts jnX4 hown hK hP 17 (wd_17 y ad cap I J) rfl 0 (by decide) (hts _ fl_X4_12) (fun _ h9 => h9) rfl dX4_whatIsAt_31 ?_
          refine va_getN (D := D) (T := TX7) (N := 8) hx hb hts jnX7 hown hK hP 18 (wd_18 y ad cap I J) rfl 0 (by decide) (hts _ fn_X4_115) (fun _ h9 => h9) rfl dX4_whatIsAt_34 ?_
          refine va_getN (D := D) (T := TX5) (N := 5) hx hb hts jnX5 hown hK hP 19 (wd_19 y ad cap I J) rfl 0 (by decide) (hts _ fn_X4_119) (fun _ h9 => h9) rfl dX4_whatIsAt_37 ?_
          refine lv_topi (fun v37 ev37 => ?_)
          obtain rfl : v37 = (nI (T 0 0)) := by
            rw [ev37]; exact hT.1.1
          refine lv_icmp_ge (tgt := 83) hx hb dX4_whatIsAt_40 (by decide) (fun c40 => ?_) (fun c40 => ?_)
          · skip
            have c40 := (nI_leI (a := (T 0 0)) (b := k) (by omega) (by omega)).mp c40
            have hS8 : ∀ j, j < T 0 0 → ¬ inS T (cnt M) x0 j = true := fun j hj => hS9 j (by omega)
            refine lv_iconst (v := 0) hx hb dX4_whatIsAt_83 (by decide) ?_
            rw [show (0 : Int32) = (nI 0) from rfl]
            refine lv_istore_n (lv' := [(3, .int (nI 0)), (0, .ref (ad 17)), (1, .long x0)]) hx hb dX4_whatIsAt_84 rfl hl (by decide) rfl (fun ls hl => ?_)
            have loop85 : ∀ (n85 : Nat) (k : Nat) , (k ≤ M.length) → (∀ j, j < k → ¬ inT T M x0 j = true) → M.length + 1 ≤ k + n85 → ∀ ls : Array Slot, lv_has ls 4 [(0, .ref (ad 17)), (1, .long x0), (3, .int (nI k))] → W p l e (headSpec [.code yX4_whatIsAt cX4_whatIsAt 4 (some .int)] ({ frames := 1, cells := 0, slots := 0, locals := 24 })).room s m ([.ref (ad 17), .long x0] : List Value).toArray below meth c s.heap [] 0 0 (MQ below (vp_Si (fun r => r = atB T M x0)) ([.ref (ad 17), .long x0] : List Value).toArray s 0 0 (fun _ => False)) (F0 m 85 ls []) := by
              intro n85
              induction n85 with
              | zero =>
                intro k hk hT9 hmeas
                exact absurd hmeas (by omega)
              | succ n85 ih85 =>
                intro k hk hT9 hmeas ls hl
                refine lv_iload_n hx hb dX4_whatIsAt_85 rfl (lv_at hl 2 rfl) ?_
                refine lv_aload_n hx hb dX4_whatIsAt_86 rfl (lv_at hl 0 rfl) ?_
                refine va_get (D := D) (T := TX4) (N := 9) hx hb hts jnX4 hown hK hP 17 (wd_17 y ad cap I J) rfl 2 (by decide) (hts _ fl_X4_28) (fun _ h9 => h9) rfl dX4_whatIsAt_87 ?_
                refine va_getN (D := D) (T := TX6) (N := 11) hx hb hts jnX6 hown hK hP 38 (wd_38 y ad cap I J) rfl 0 (by decide) (hts _ fn_X4_217) (fun _ h9 => h9) rfl dX4_whatIsAt_90 ?_
                refine lv_topi (fun v90 ev90 => ?_)
                obtain rfl : v90 = (nI M.length) := by
                  rw [ev90]; exact q1
                refine lv_icmp_ge (tgt := 131) hx hb dX4_whatIsAt_93 (by decide) (fun c93 => ?_) (fun c93 => ?_)
                · skip
                  have c93 := (nI_leI (a := M.length) (b := k) (by omega) (by omega)).mp c93
                  refine lv_iconst (v := 0) hx hb dX4_whatIsAt_131 (by decide) ?_
                  refine W.iret (v := 0) hx hb hr (fun t ht hW => ⟨_, rfl, ?_, ht⟩) (fun _ h => nomatch h) dX4_whatIsAt_132
                  unfold atB
                  rw [if_neg (fun h9 => h9.elim c10 (fun h8 => h8 c22))]
                  rw [fst_none hS8, fst_none (fun j hj => hT9 j (by omega))]
                · skip
                  have c93 := mt (nI_leI (a := M.length) (b := k) (by omega) (by omega)).mpr c93
                  refine lv_lload_n hx hb dX4_whatIsAt_96 rfl (lv_at hl 1 rfl) ?_
                  refine lv_aload_n hx hb dX4_whatIsAt_97 rfl (lv_at hl 0 rfl) ?_
                  refine va_get (D := D) (T := TX4) (N := 9) hx hb hts jnX4 hown hK hP 17 (wd_17 y ad cap I J) rfl 2 (by decide) (hts _ fl_X4_28) (fun _ h9 => h9) rfl dX4_whatIsAt_98 ?_
                  refine va_getN (D := D) (T := TX6) (N := 11) hx hb hts jnX6 hown hK hP 38 (wd_38 y ad cap I J) rfl 8 (by decide) (hts _ fn_X4_179) (fun _ h9 => h9) rfl dX4_whatIsAt_101 ?_
                  refine lv_iload_n hx hb dX4_whatIsAt_104 rfl (lv_at hl 2 rfl) ?_
                  refine va_lald (D := D) hx hb hK hP 45 1 (wd_45 y ad cap I J) rfl (vp_in_nI (by omega) (by omega)) dX4_whatIsAt_105 ?_
                  rw [nI_clamp (n := k) (by omega)]
                  refine lv_topl (fun v105 ev105 => ?_)
                  obtain rfl : v105 = (lN (plc T M k)) := by
                    rw [ev105]; exact qP _ (by omega)
                  refine lv_aload_n hx hb dX4_whatIsAt_106 rfl (lv_at hl 0 rfl) ?_
                  refine va_get (D := D) (T := TX4) (N := 9) hx hb hts jnX4 hown hK hP 17 (wd_17 y ad cap I J) rfl 0 (by decide) (hts _ fl_X4_12) (fun _ h9 => h9) rfl dX4_whatIsAt_107 ?_
                  refine va_getN (D := D) (T := TX7) (N := 8) hx hb hts jnX7 hown hK hP 18 (wd_18 y ad cap I J) rfl 5 (by decide) (hts _ fn_X4_220) (fun _ h9 => h9) rfl dX4_whatIsAt_110 ?_
                  refine lv_topi (fun v110 ev110 => ?_)
                  obtain rfl : v110 = (nI (T 0 5)) := by
                    rw [ev110]; exact hT.1.2.2.2.2.2.1
                  refine rk_i (run_s (As := [.long x0, .long (lN (plc T M k)), .int (nI (T 0 5))]) (rest := []) hx hb hml hown hO.2 (c_X4_isWithin l D y (a0 := plc T M k) (n0 := T 0 5) (by omega) x0) k_X4_isWithin ml_X4_243 ⟨rfl, rfl⟩ ⟨Nat.le_of_ble_eq_true rfl, Nat.le_of_ble_eq_true rfl⟩ (pre_SR hO hP) rfl hl.1 rfl (Nat.le_of_ble_eq_true rfl) dX4_whatIsAt_113 ⟨(Nat.zero_le _), (Nat.zero_le _)⟩) (fun r113 er113 => ?_)
                  try dsimp only at er113
                  refine lv_if_eq (tgt := 125) hx hb dX4_whatIsAt_116 (by decide) (fun c116 => ?_) (fun c116 => ?_)
                  · skip
                    have c116 := if01_z er113 c116
                    refine lv_iinc (v := (nI (k + 1))) (lv' := [(3, .int (nI (k + 1))), (0, .ref (ad 17)), (1, .long x0)]) hx hb dX4_whatIsAt_125 hl (k := 2) rfl (nI_1 _) (by decide) rfl (fun ls hl => ?_)
                    refine lv_goto (tgt := 85) hx hb dX4_whatIsAt_128 (by decide) ?_
                    exact ih85 (k + 1) (by omega) (fun j hj => by rcases Nat.lt_succ_iff_lt_or_eq.mp hj with h9 | h9; exact hT9 j h9; (rw [h9]; unfold inT; rw [decide_eq_true_iff]; exact c116)) (by omega) ls (by exact lv_sub hl [1, 2, 0] rfl)
                  · skip
                    have c116 := if01_n er113 c116
                    refine lv_sipush (v := 2000) hx hb dX4_whatIsAt_119 (by decide) ?_
                    refine lv_iload_n hx hb dX4_whatIsAt_122 rfl (lv_at hl 2 rfl) ?_
                    refine lv_iadd hx hb dX4_whatIsAt_123 ?_
                    refine lv_topi (fun v123 ev123 => ?_)
                    obtain rfl : v123 = (nI (2000 + k)) := by rw [ev123, show (2000 : Int32) = nI 2000 from rfl, nI_add]
                    refine W.iret (v := (nI (2000 + k))) hx hb hr (fun t ht hW => ⟨_, rfl, ?_, ht⟩) (fun _ h => nomatch h) dX4_whatIsAt_124
                    unfold atB
                    rw [if_neg (fun h9 => h9.elim c10 (fun h8 => h8 c22))]
                    rw [fst_none hS8, fst_some (k := k) (by omega) (by unfold inT; rw [decide_eq_true_iff]; exact c116) hT9]
            exact loop85 (M.length + 1) 0 (by omega) (fun j hj => absurd hj (by omega)) (by omega) ls (by exact lv_sub hl [1, 2, 0] rfl)
          · skip
            have c40 := mt (nI_leI (a := (T 0 0)) (b := k) (by omega) (by omega)).mpr c40
            obtain ⟨y3, y4, y5⟩ := wS k (by omega)
            refine lv_lload_n hx hb dX4_whatIsAt_43 rfl (lv_at hl 1 rfl) ?_
            refine lv_aload_n hx hb dX4_whatIsAt_44 rfl (lv_at hl 0 rfl) ?_
            refine va_get (D := D) (T := TX4) (N := 9) hx hb hts jnX4 hown hK hP 17 (wd_17 y ad cap I J) rfl 1 (by decide) (hts _ fl_X4_21) (fun _ h9 => h9) rfl dX4_whatIsAt_45 ?_
            refine va_getN (D := D) (T := TX0) (N := 4) hx hb hts jnX0 hown hK hP 34 (wd_34 y ad cap I J) rfl 0 (by decide) (hts _ fn_X4_190) (fun _ h9 => h9) rfl dX4_whatIsAt_48 ?_
            refine lv_iload_n hx hb dX4_whatIsAt_51 rfl (lv_at hl 2 rfl) ?_
            refine va_lald (D := D) hx hb hK hP 35 1 (wd_35 y ad cap I J) rfl (vp_in_nI (by omega) (by omega)) dX4_whatIsAt_52 ?_
            rw [nI_clamp (n := k) (by omega)]
            refine lv_topl (fun v52 ev52 => ?_)
            obtain rfl : v52 = (lN (sA T (cnt M) k)) := by
              rw [ev52]; exact (hJ _ (by omega)).1
            refine lv_aload_n hx hb dX4_whatIsAt_53 rfl (lv_at hl 0 rfl) ?_
            refine va_get (D := D) (T := TX4) (N := 9) hx hb hts jnX4 hown hK hP 17 (wd_17 y ad cap I J) rfl 0 (by decide) (hts _ fl_X4_12) (fun _ h9 => h9) rfl dX4_whatIsAt_54 ?_
            refine va_getN (D := D) (T := TX7) (N := 8) hx hb hts jnX7 hown hK hP 18 (wd_18 y ad cap I J) rfl 0 (by decide) (hts _ fn_X4_115) (fun _ h9 => h9) rfl dX4_whatIsAt_57 ?_
            refine va_getN (D := D) (T := TX5) (N := 5) hx hb hts jnX5 hown hK hP 19 (wd_19 y ad cap I J) rfl 2 (by decide) (hts _ fn_X4_223) (fun _ h9 => h9) rfl dX4_whatIsAt_60 ?_
            refine lv_iload_n hx hb dX4_whatIsAt_63 rfl (lv_at hl 2 rfl) ?_
            refine va_iald (D := D) hx hb hK hP 20 0 (wd_20 y ad cap I J) rfl (vp_in_nI (by omega) (by omega)) dX4_whatIsAt_64 ?_
            rw [nI_clamp (n := k) (by omega)]
            refine lv_topi (fun v64 ev64 => ?_)
            obtain rfl : v64 = (nI (T 1 k)) := by
              rw [ev64]; exact (hT.2.1 _ (by omega)).1
            refine rk_i (run_s (As := [.long x0, .long (lN (sA T (cnt M) k)), .int (nI (T 1 k))]) (rest := []) hx hb hml hown hO.2 (c_X4_isWithin l D y (a0 := sA T (cnt M) k) (n0 := T 1 k) (by omega) x0) k_X4_isWithin ml_X4_243 ⟨rfl, rfl⟩ ⟨Nat.le_of_ble_eq_true rfl, Nat.le_of_ble_eq_true rfl⟩ (pre_SR hO hP) rfl hl.1 rfl (Nat.le_of_ble_eq_true rfl) dX4_whatIsAt_65 ⟨(Nat.zero_le _), (Nat.zero_le _)⟩) (fun r65 er65 => ?_)
            try dsimp only at er65
            refine lv_if_eq (tgt := 77) hx hb dX4_whatIsAt_68 (by decide) (fun c68 => ?_) (fun c68 => ?_)
            · skip
              have c68 := if01_z er65 c68
              refine lv_iinc (v := (nI (k + 1))) (lv' := [(3, .int (nI (k + 1))), (0, .ref (ad 17)), (1, .long x0)]) hx hb dX4_whatIsAt_77 hl (k := 2) rfl (nI_1 _) (by decide) rfl (fun ls hl => ?_)
              refine lv_goto (tgt := 29) hx hb dX4_whatIsAt_80 (by decide) ?_
              exact ih29 (k + 1) (by omega) (fun j hj => by rcases Nat.lt_succ_iff_lt_or_eq.mp hj with h9 | h9; exact hS9 j h9; (rw [h9]; unfold inS; rw [decide_eq_true_iff]; exact c68)) (by omega) ls (by exact lv_sub hl [1, 2, 0] rfl)
            · skip
              have c68 := if01_n er65 c68
              refine lv_sipush (v := 1000) hx hb dX4_whatIsAt_71 (by decide) ?_
              refine lv_iload_n hx hb dX4_whatIsAt_74 rfl (lv_at hl 2 rfl) ?_
              refine lv_iadd hx hb dX4_whatIsAt_75 ?_
              refine lv_topi (fun v75 ev75 => ?_)
              obtain rfl : v75 = (nI (1000 + k)) := by rw [ev75, show (1000 : Int32) = nI 1000 from rfl, nI_add]
              refine W.iret (v := (nI (1000 + k))) hx hb hr (fun t ht hW => ⟨_, rfl, ?_, ht⟩) (fun _ h => nomatch h) dX4_whatIsAt_76
              unfold atB
              rw [if_neg (fun h9 => h9.elim c10 (fun h8 => h8 c22))]
              rw [fst_some (k := k) (by omega) (by unfold inS; rw [decide_eq_true_iff]; exact c68) hS9]
      exact loop29 (T 0 0 + 1) 0 (by omega) (fun j hj => absurd hj (by omega)) (by omega) ls (by exact lv_sub hl [1, 2, 0] rfl)
    · skip
      have c22 := mt lc_lt.mpr c22
      refine lv_iconst (v := (-1)) hx hb dX4_whatIsAt_25 (by decide) ?_
      refine W.iret (v := (-1)) hx hb hr (fun t ht hW => ⟨_, rfl, ?_, ht⟩) (fun _ h => nomatch h) dX4_whatIsAt_26
      unfold atB
      first | (rw [if_pos (Or.inl c10)]; done) | (rw [if_pos (Or.inr c22)]; done)
set_option maxHeartbeats 4000000 in
set_option maxRecDepth 100000 in
theorem c_X6_unused (l : Launch) (D : va_G) (y : Nat → ClassId) (ad : Nat → Nat) (cap : Nat) (I : Nat → Nat → Int32) (J : Nat → Nat → Int64) {T : Nat → Nat → Nat} {M : List Th} (hT : RT18 I T) (hW : WF T) (hQ : LQ I J T cap M) : Met l yX6_unused [.code yX6_unused cX6_unused 3 (some .int)] ({ frames := 0, cells := 0, slots := 0, locals := 0 }) (va_Pc [.ref (ad 38)] (PR D y (Wd y ad cap I J))) (vp_Si (fun r => r = nI (nuls (fun t => us T M t (T 0 2)) M.length))) 0 0 (fun _ => False) := by
  refine Met.ofW (cc := cX6_unused) (maxL := 3) (ret := (some .int)) (by decide) rfl ?_
  intro p e s m args below meth c s₁ B hml hv
  obtain ⟨rfl, hP, hO⟩ := hv
  have hx := B.exec
  have hb := B.bytes
  have hr := B.returns
  have hown : s.vm.findClass RX6 = some m.cls := findClass_of_methodNamed B.named
  have hlocks := B.notSynchronized
  have hK := hO.1
  have hts : ∀ w ∈ lw_E, w.before ([.ref (ad 38)] : List Value).toArray s = true := fun w h => hO.2 w h _
  clear B
  have hl := lv_entry ([.ref (ad 38)]) (n := 3) (Nat.le_of_ble_eq_true rfl)
  rw [lg_entry_eq]
  generalize (lg_sl ([.ref (ad 38)]) ++ List.replicate (3 - (lg_sl ([.ref (ad 38)])).length) Slot.unset).toArray = ls at hl ⊢
  have hl : lv_has ls 3 [(0, .ref (ad 38))] := hl
  have hW0 := hW
  obtain ⟨⟨w1, w2, w3, w4, w5, w6, w7⟩, wS, wL, wB, wK, wTk, wT0⟩ := hW
  obtain ⟨⟨q1, q2, q3, hTW, htz0⟩, qT, qP, qB, hJ, qE⟩ := hQ
  have hnM : ∀ s, cnt M s ≤ 2400 := fun s => by have := cnt_le M s; omega
  refine lv_iconst (v := 0) hx hb dX6_unused_0 (by decide) ?_
  rw [show (0 : Int32) = (nI (nuls (fun t => us T M t (T 0 2)) 0)) from rfl]
  refine lv_istore_n (lv' := [(1, .int (nI (nuls (fun t => us T M t (T 0 2)) 0))), (0, .ref (ad 38))]) hx hb dX6_unused_1 rfl hl (by decide) rfl (fun ls hl => ?_)
  refine lv_iconst (v := 0) hx hb dX6_unused_2 (by decide) ?_
  rw [show (0 : Int32) = (nI 0) from rfl]
  refine lv_istore_n (lv' := [(2, .int (nI 0)), (1, .int (nI (nuls (fun t => us T M t (T 0 2)) 0))), (0, .ref (ad 38))]) hx hb dX6_unused_3 rfl hl (by decide) rfl (fun ls hl => ?_)
  have loop4 : ∀ (n4 : Nat) (k : Nat) , (k ≤ M.length) → M.length + 1 ≤ k + n4 → ∀ ls : Array Slot, lv_has ls 3 [(0, .ref (ad 38)), (1, .int (nI (nuls (fun t => us T M t (T 0 2)) k))), (2, .int (nI k))] → W p l e (headSpec [.code yX6_unused cX6_unused 3 (some .int)] ({ frames := 0, cells := 0, slots := 0, locals := 0 })).room s m ([.ref (ad 38)] : List Value).toArray below meth c s.heap [] 0 0 (MQ below (vp_Si (fun r => r = nI (nuls (fun t => us T M t (T 0 2)) M.length))) ([.ref (ad 38)] : List Value).toArray s 0 0 (fun _ => False)) (F0 m 4 ls []) := by
    intro n4
    induction n4 with
    | zero =>
      intro k hk hmeas
      exact absurd hmeas (by omega)
    | succ n4 ih4 =>
      intro k hk hmeas ls hl
      refine lv_iload_n hx hb dX6_unused_4 rfl (lv_at hl 2 rfl) ?_
      refine lv_aload_n hx hb dX6_unused_5 rfl (lv_at hl 0 rfl) ?_
      refine va_get (D := D) (T := TX6) (N := 11) hx hb hts jnX6 hown hK hP 38 (wd_38 y ad cap I J) rfl 0 (by decide) (hts _ fl_X6_9) (fun _ h9 => h9) rfl dX6_unused_6 ?_
      refine lv_topi (fun v6 ev6 => ?_)
      obtain rfl : v6 = (nI M.length) := by
        rw [ev6]; exact q1
      refine lv_icmp_ge (tgt := 30) hx hb dX6_unused_9 (by decide) (fun c9 => ?_) (fun c9 => ?_)
      · skip
        have c9 := (nI_leI (a := M.length) (b := k) (by omega) (by omega)).mp c9
        refine lv_iload_n hx hb dX6_unused_30 rfl (lv_at hl 1 rfl) ?_
        refine W.iret (v := (nI (nuls (fun t => us T M t (T 0 2)) k))) hx hb hr (fun t ht hW => ⟨_, rfl, ?_, ht⟩) (fun _ h => nomatch h) dX6_unused_31
        have : k = M.length := by omega
        rw [this]
      · skip
        have c9 := mt (nI_leI (a := M.length) (b := k) (by omega) (by omega)).mpr c9
        have hul := us_le T M k (T 0 2)
        refine lv_aload_n hx hb dX6_unused_12 rfl (lv_at hl 0 rfl) ?_
        refine va_get (D := D) (T := TX6) (N := 11) hx hb hts jnX6 hown hK hP 38 (wd_38 y ad cap I J) rfl 6 (by decide) (hts _ fl_X6_31) (fun _ h9 => h9) rfl dX6_unused_13 ?_
        refine lv_iload_n hx hb dX6_unused_16 rfl (lv_at hl 2 rfl) ?_
        refine va_iald (D := D) hx hb hK hP 43 0 (wd_43 y ad cap I J) rfl (vp_in_nI (by omega) (by omega)) dX6_unused_17 ?_
        rw [nI_clamp (n := k) (by omega)]
        refine lv_topi (fun v17 ev17 => ?_)
        obtain rfl : v17 = (nI (us T M k (T 0 2))) := by
          rw [ev17]; exact (qT _ (by omega)).2.2.2.2.1
        refine lv_if_ne (tgt := 24) hx hb dX6_unused_18 (by decide) (fun c18 => ?_) (fun c18 => ?_)
        · skip
          have eN : nuls (fun t => us T M t (T 0 2)) (k + 1) = nuls (fun t => us T M t (T 0 2)) k := by simp only [nuls]; rw [if_neg (fun h9 => c18 (by rw [h9]; rfl))]; rfl
          refine lv_iinc (v := (nI (k + 1))) (lv' := [(2, .int (nI (k + 1))), (0, .ref (ad 38)), (1, .int (nI (nuls (fun t => us T M t (T 0 2)) k)))]) hx hb dX6_unused_24 hl (k := 2) rfl (nI_1 _) (by decide) rfl (fun ls hl => ?_)
          refine lv_goto (tgt := 4) hx hb dX6_unused_27 (by decide) ?_
          exact ih4 (k + 1) (by omega) (by omega) ls (by rw [show nuls (fun t => us T M t (T 0 2)) (k + 1) = nuls (fun t => us T M t (T 0 2)) k from eN]; exact lv_sub hl [1, 2, 0] rfl)
        · skip
          have eN : nuls (fun t => us T M t (T 0 2)) (k + 1) = nuls (fun t => us T M t (T 0 2)) k + 1 := by simp only [nuls]; rw [if_pos ((nI_z (by omega)).mp c18)]
          refine lv_iinc (v := (nI ((nuls (fun t => us T M t (T 0 2)) k) + 1))) (lv' := [(1, .int (nI ((nuls (fun t => us T M t (T 0 2)) k) + 1))), (0, .ref (ad 38)), (2, .int (nI k))]) hx hb dX6_unused_21 hl (k := 1) rfl (nI_1 _) (by decide) rfl (fun ls hl => ?_)
          refine lv_iinc (v := (nI (k + 1))) (lv' := [(2, .int (nI (k + 1))), (1, .int (nI ((nuls (fun t => us T M t (T 0 2)) k) + 1))), (0, .ref (ad 38))]) hx hb dX6_unused_24 hl (k := 2) rfl (nI_1 _) (by decide) rfl (fun ls hl => ?_)
          refine lv_goto (tgt := 4) hx hb dX6_unused_27 (by decide) ?_
          exact ih4 (k + 1) (by omega) (by omega) ls (by rw [show nuls (fun t => us T M t (T 0 2)) (k + 1) = (nuls (fun t => us T M t (T 0 2)) k) + 1 from eN]; exact lv_sub hl [2, 1, 0] rfl)
  exact loop4 (M.length + 1) 0 (by omega) (by omega) ls (by exact lv_sub hl [2, 1, 0] rfl)
end
section
/-! TELLING: the state as numbers behind a call that did something -/
def EqX (S : List Nat) (I I' : Nat → Nat → Int32) : Prop := ∀ j, j ∉ S → I' j = I j
theorem EqX.rf {S : List Nat} {I : Nat → Nat → Int32} : EqX S I I := fun _ _ => rfl
theorem EqX.up {S : List Nat} {I I' : Nat → Nat → Int32} {k : Nat} {r : Nat → Int32} (h : EqX S I I') (hk : k ∈ S) : EqX S I (va_up I' k r) := fun j hj => by
  have : j ≠ k := fun e => hj (e ▸ hk)
  simp only [va_up, if_neg this]
  exact h j hj
theorem EqX.trans {S S' : List Nat} {I I' I'' : Nat → Nat → Int32} (h : EqX S I I') (h2 : EqX S' I' I'') (hs : ∀ k, k ∈ S → k ∈ S') : EqX S' I I'' := fun j hj => by
  rw [h2 j hj, h j (fun e => hj (hs j e))]
def u2 (T : Nat → Nat → Nat) (r j v : Nat) : Nat → Nat → Nat := va_up T r (va_up (T r) j v)
def addS (T : Nat → Nat → Nat) (a k q : Nat) : Nat → Nat → Nat := u2 (u2 (u2 (u2 (u2 T 1 (T 0 0) a) 2 (T 0 0) k) 3 (T 0 0) q) 0 3 (T 0 3 + q)) 0 0 (T 0 0 + 1)
def addL (T : Nat → Nat → Nat) (s o : Nat) : Nat → Nat → Nat := u2 (u2 (u2 T 4 (T 0 1) s) 5 (T 0 1) o) 0 1 (T 0 1 + 1)
def addK (T : Nat → Nat → Nat) (k p b : Nat) : Nat → Nat → Nat := u2 (u2 T 10 k p) 11 k b
def addB (T : Nat → Nat → Nat) (s o k t : Nat) : Nat → Nat → Nat := u2 (u2 (u2 (u2 (u2 T 6 (T 0 2) s) 7 (T 0 2) o) 8 (T 0 2) k) 9 (T 0 2) t) 0 2 (T 0 2 + 1)
def addT (T : Nat → Nat → Nat) (s a k : Nat) : Nat → Nat → Nat := u2 (u2 (u2 T 0 5 s) 0 6 a) 0 7 k
def addA (T : Nat → Nat → Nat) (a : Nat) : Nat → Nat → Nat := u2 T 0 4 a
def setS (T : Nat → Nat → Nat) (s n : Nat) : Nat → Nat → Nat := u2 T 1 s n
def setB (T : Nat → Nat → Nat) (b t : Nat) : Nat → Nat → Nat := u2 T 9 b t
set_option maxRecDepth 20000 in
theorem shl_pow : ∀ k, k < 13 → (1 : Int32) <<< (nI k &&& 31) = nI (2 ^ k) := by decide +kernel
theorem lt_s2 {n s : Nat} (h : s < n + 1) : s = n ∨ s < n := by omega
theorem RT1_addS {I : Nat → Nat → Int32} {T : Nat → Nat → Nat} {a k q : Nat} (h : RT1 I T) (hk : k ≤ 12) {I1 I2 I3 I4 I5 : Nat → Nat → Int32} (e1 : I1 = va_up I 3 (upd (I 3) (T 0 0) (nI a))) (e2 : I2 = va_up I1 4 (upd (I1 4) (T 0 0) ((1 : Int32) <<< (nI k &&& 31)))) (e3 : I3 = va_up I2 5 (upd (I2 5) (T 0 0) (nI q))) (e4 : (q = 0 ∧ I4 = I3) ∨ (q = 1 ∧ I4 = va_up I3 2 (upd (I3 2) 1 (nI (T 0 3 + 1))))) (e5 : I5 = va_up I4 2 (upd (I4 2) 0 (nI (T 0 0 + 1)))) : RT1 I5 (addS T a k q) := by
  obtain ⟨⟨h1, h2, h3, h4, h5, h6, h7, h8⟩, hS, hL, hB, hK⟩ := h
  rw [shl_pow k (by omega)] at e2
  subst e1 e2 e3 e5
  rcases e4 with ⟨rfl, rfl⟩ | ⟨rfl, rfl⟩
  all_goals
    refine ⟨⟨?_, ?_, ?_, ?_, ?_, ?_, ?_, ?_⟩, ?_, ?_, ?_, ?_⟩
    · simp [addS, u2, va_up, upd]
    · simpa [addS, u2, va_up, upd] using h2
    · simpa [addS, u2, va_up, upd] using h3
    · simp [addS, u2, va_up, upd, h4]
    · simpa [addS, u2, va_up, upd] using h5
    · simpa [addS, u2, va_up, upd] using h6
    · simpa [addS, u2, va_up, upd] using h7
    · simpa [addS, u2, va_up, upd] using h8
    · intro s hs
      have hs2 : s < T 0 0 + 1 := by simpa [addS, u2, va_up] using hs
      rcases lt_s2 hs2 with rfl | hs3
      · simp [addS, u2, va_up, upd]
      · have hne : s ≠ T 0 0 := by omega
        simpa [addS, u2, va_up, upd, hne] using hS s hs3
    · intro s hs
      have hs2 : s < T 0 1 := by simpa [addS, u2, va_up] using hs
      simpa [addS, u2, va_up, upd] using hL s hs2
    · intro s hs
      have hs2 : s < T 0 2 := by simpa [addS, u2, va_up] using hs
      simpa [addS, u2, va_up, upd] using hB s hs2
    · intro s hs
      simpa [addS, u2, va_up, upd] using hK s hs
end
section
theorem RT1_addL {I : Nat → Nat → Int32} {T : Nat → Nat → Nat} {s f : Nat} {I1 I2 I3 : Nat → Nat → Int32} (h : RT1 I T) (e1 : I1 = va_up I 7 (upd (I 7) (T 0 1) (nI s))) (e2 : I2 = va_up I1 8 (upd (I1 8) (T 0 1) (nI f))) (e3 : I3 = va_up I2 6 (upd (I2 6) 0 (nI (T 0 1 + 1)))) : RT1 I3 (addL T s f) := by
  obtain ⟨⟨h1, h2, h3, h4, h5, h6, h7, h8⟩, hS, hL, hB, hK⟩ := h
  subst e1 e2 e3
  refine ⟨⟨?_, ?_, ?_, ?_, ?_, ?_, ?_, ?_⟩, ?_, ?_, ?_, ?_⟩
  · simpa [addL, u2, va_up, upd] using h1
  · simp [addL, u2, va_up, upd]
  · simpa [addL, u2, va_up, upd] using h3
  · simpa [addL, u2, va_up, upd] using h4
  · simpa [addL, u2, va_up, upd] using h5
  · simpa [addL, u2, va_up, upd] using h6
  · simpa [addL, u2, va_up, upd] using h7
  · simpa [addL, u2, va_up, upd] using h8
  · intro j hj
    have hj2 : j < T 0 0 := by simpa [addL, u2, va_up, upd] using hj
    simpa [addL, u2, va_up, upd] using hS j hj2
  · intro j hj
    have hj2 : j < T 0 1 + 1 := by simpa [addL, u2, va_up, upd] using hj
    rcases lt_s2 hj2 with rfl | hj3
    · simp [addL, u2, va_up, upd]
    · have hne : j ≠ T 0 1 := by omega
      simpa [addL, u2, va_up, upd, hne] using hL j hj3
  · intro j hj
    have hj2 : j < T 0 2 := by simpa [addL, u2, va_up, upd] using hj
    simpa [addL, u2, va_up, upd] using hB j hj2
  · intro j hj
    have hj2 : j < 8 := by simpa [addL, u2, va_up, upd] using hj
    simpa [addL, u2, va_up, upd] using hK j hj2
theorem RT1_addB {I : Nat → Nat → Int32} {T : Nat → Nat → Nat} {s f k t : Nat} {I1 I2 I3 I4 I5 : Nat → Nat → Int32} (h : RT1 I T) (e1 : I1 = va_up I 13 (upd (I 13) (T 0 2) (nI s))) (e2 : I2 = va_up I1 14 (upd (I1 14) (T 0 2) (nI f))) (e3 : I3 = va_up I2 15 (upd (I2 15) (T 0 2) (nI k))) (e4 : I4 = va_up I3 16 (upd (I3 16) (T 0 2) (nI t))) (e5 : I5 = va_up I4 12 (upd (I4 12) 0 (nI (T 0 2 + 1)))) : RT1 I5 (addB T s f k t) := by
  obtain ⟨⟨h1, h2, h3, h4, h5, h6, h7, h8⟩, hS, hL, hB, hK⟩ := h
  subst e1 e2 e3 e4 e5
  refine ⟨⟨?_, ?_, ?_, ?_, ?_, ?_, ?_, ?_⟩, ?_, ?_, ?_, ?_⟩
  · simpa [addB, u2, va_up, upd] using h1
  · simpa [addB, u2, va_up, upd] using h2
  · simp [addB, u2, va_up, upd]
  · simpa [addB, u2, va_up, upd] using h4
  · simpa [addB, u2, va_up, upd] using h5
  · simpa [addB, u2, va_up, upd] using h6
  · simpa [addB, u2, va_up, upd] using h7
  · simpa [addB, u2, va_up, upd] using h8
  · intro j hj
    have hj2 : j < T 0 0 := by simpa [addB, u2, va_up, upd] using hj
    simpa [addB, u2, va_up, upd] using hS j hj2
  · intro j hj
    have hj2 : j < T 0 1 := by simpa [addB, u2, va_up, upd] using hj
    simpa [addB, u2, va_up, upd] using hL j hj2
  · intro j hj
    have hj2 : j < T 0 2 + 1 := by simpa [addB, u2, va_up, upd] using hj
    rcases lt_s2 hj2 with rfl | hj3
    · simp [addB, u2, va_up, upd]
    · have hne : j ≠ T 0 2 := by omega
      simpa [addB, u2, va_up, upd, hne] using hB j hj3
  · intro j hj
    have hj2 : j < 8 := by simpa [addB, u2, va_up, upd] using hj
    simpa [addB, u2, va_up, upd] using hK j hj2
theorem RT1_addK {I : Nat → Nat → Int32} {T : Nat → Nat → Nat} {k p b : Nat} {I1 I2 : Nat → Nat → Int32} (h : RT1 I T) (e1 : I1 = va_up I 10 (upd (I 10) k (nI p))) (e2 : I2 = va_up I1 11 (upd (I1 11) k (nI b))) : RT1 I2 (addK T k p b) := by
  obtain ⟨⟨h1, h2, h3, h4, h5, h6, h7, h8⟩, hS, hL, hB, hK⟩ := h
  subst e1 e2
  refine ⟨⟨?_, ?_, ?_, ?_, ?_, ?_, ?_, ?_⟩, ?_, ?_, ?_, ?_⟩
  · simpa [addK, u2, va_up, upd] using h1
  · simpa [addK, u2, va_up, upd] using h2
  · simpa [addK, u2, va_up, upd] using h3
  · simpa [addK, u2, va_up, upd] using h4
  · simpa [addK, u2, va_up, upd] using h5
  · simpa [addK, u2, va_up, upd] using h6
  · simpa [addK, u2, va_up, upd] using h7
  · simpa [addK, u2, va_up, upd] using h8
  · intro j hj
    have hj2 : j < T 0 0 := by simpa [addK, u2, va_up, upd] using hj
    simpa [addK, u2, va_up, upd] using hS j hj2
  · intro j hj
    have hj2 : j < T 0 1 := by simpa [addK, u2, va_up, upd] using hj
    simpa [addK, u2, va_up, upd] using hL j hj2
  · intro j hj
    have hj2 : j < T 0 2 := by simpa [addK, u2, va_up, upd] using hj
    simpa [addK, u2, va_up, upd] using hB j hj2
  · intro j hj
    have hj2 : j < 8 := hj
    by_cases hne : j = k
    · subst hne
      simp [addK, u2, va_up, upd]
    · simpa [addK, u2, va_up, upd, hne] using hK j hj2
theorem RT1_addT {I : Nat → Nat → Int32} {T : Nat → Nat → Nat} {s a k : Nat} (ha : a ≤ 6) {I1 I2 I3 : Nat → Nat → Int32} (h : RT1 I T) (e1 : I1 = va_up I 1 (upd (I 1) 5 (nI s))) (e2 : I2 = va_up I1 1 (upd (I1 1) 6 ((1 : Int32) <<< (nI a &&& 31)))) (e3 : I3 = va_up I2 1 (upd (I2 1) 7 (nI k))) : RT1 I3 (addT T s a k) := by
  obtain ⟨⟨h1, h2, h3, h4, h5, h6, h7, h8⟩, hS, hL, hB, hK⟩ := h
  rw [shl_pow a (by omega)] at e2
  subst e1 e2 e3
  refine ⟨⟨?_, ?_, ?_, ?_, ?_, ?_, ?_, ?_⟩, ?_, ?_, ?_, ?_⟩
  · simpa [addT, u2, va_up, upd] using h1
  · simpa [addT, u2, va_up, upd] using h2
  · simpa [addT, u2, va_up, upd] using h3
  · simpa [addT, u2, va_up, upd] using h4
  · simpa [addT, u2, va_up, upd] using h5
  · simp [addT, u2, va_up, upd]
  · simp [addT, u2, va_up, upd]
  · simp [addT, u2, va_up, upd]
  · intro j hj
    have hj2 : j < T 0 0 := by simpa [addT, u2, va_up, upd] using hj
    simpa [addT, u2, va_up, upd] using hS j hj2
  · intro j hj
    have hj2 : j < T 0 1 := by simpa [addT, u2, va_up, upd] using hj
    simpa [addT, u2, va_up, upd] using hL j hj2
  · intro j hj
    have hj2 : j < T 0 2 := by simpa [addT, u2, va_up, upd] using hj
    simpa [addT, u2, va_up, upd] using hB j hj2
  · intro j hj
    have hj2 : j < 8 := by simpa [addT, u2, va_up, upd] using hj
    simpa [addT, u2, va_up, upd] using hK j hj2
theorem RT1_addA {I : Nat → Nat → Int32} {T : Nat → Nat → Nat} {a : Nat} {I1 : Nat → Nat → Int32} (h : RT1 I T) (e1 : I1 = va_up I 1 (upd (I 1) 4 (nI a))) : RT1 I1 (addA T a) := by
  obtain ⟨⟨h1, h2, h3, h4, h5, h6, h7, h8⟩, hS, hL, hB, hK⟩ := h
  subst e1
  refine ⟨⟨?_, ?_, ?_, ?_, ?_, ?_, ?_, ?_⟩, ?_, ?_, ?_, ?_⟩
  · simpa [addA, u2, va_up, upd] using h1
  · simpa [addA, u2, va_up, upd] using h2
  · simpa [addA, u2, va_up, upd] using h3
  · simpa [addA, u2, va_up, upd] using h4
  · simp [addA, u2, va_up, upd]
  · simpa [addA, u2, va_up, upd] using h6
  · simpa [addA, u2, va_up, upd] using h7
  · simpa [addA, u2, va_up, upd] using h8
  · intro j hj
    have hj2 : j < T 0 0 := by simpa [addA, u2, va_up, upd] using hj
    simpa [addA, u2, va_up, upd] using hS j hj2
  · intro j hj
    have hj2 : j < T 0 1 := by simpa [addA, u2, va_up, upd] using hj
    simpa [addA, u2, va_up, upd] using hL j hj2
  · intro j hj
    have hj2 : j < T 0 2 := by simpa [addA, u2, va_up, upd] using hj
    simpa [addA, u2, va_up, upd] using hB j hj2
  · intro j hj
    have hj2 : j < 8 := by simpa [addA, u2, va_up, upd] using hj
    simpa [addA, u2, va_up, upd] using hK j hj2
theorem RT1_setS {I : Nat → Nat → Int32} {T : Nat → Nat → Nat} {s n : Nat} {I1 : Nat → Nat → Int32} (h : RT1 I T) (e1 : I1 = va_up I 3 (upd (I 3) s (nI n))) : RT1 I1 (setS T s n) := by
  obtain ⟨⟨h1, h2, h3, h4, h5, h6, h7, h8⟩, hS, hL, hB, hK⟩ := h
  subst e1
  refine ⟨⟨?_, ?_, ?_, ?_, ?_, ?_, ?_, ?_⟩, ?_, ?_, ?_, ?_⟩
  · simpa [setS, u2, va_up, upd] using h1
  · simpa [setS, u2, va_up, upd] using h2
  · simpa [setS, u2, va_up, upd] using h3
  · simpa [setS, u2, va_up, upd] using h4
  · simpa [setS, u2, va_up, upd] using h5
  · simpa [setS, u2, va_up, upd] using h6
  · simpa [setS, u2, va_up, upd] using h7
  · simpa [setS, u2, va_up, upd] using h8
  · intro j hj
    have hj2 : j < T 0 0 := by simpa [setS, u2, va_up, upd] using hj
    by_cases hne : j = s
    · subst hne
      have := hS _ hj2
      simp [setS, u2, va_up, upd, this]
    · simpa [setS, u2, va_up, upd, hne] using hS j hj2
  · intro j hj
    have hj2 : j < T 0 1 := by simpa [setS, u2, va_up, upd] using hj
    simpa [setS, u2, va_up, upd] using hL j hj2
  · intro j hj
    have hj2 : j < T 0 2 := by simpa [setS, u2, va_up, upd] using hj
    simpa [setS, u2, va_up, upd] using hB j hj2
  · intro j hj
    have hj2 : j < 8 := by simpa [setS, u2, va_up, upd] using hj
    simpa [setS, u2, va_up, upd] using hK j hj2
theorem RT1_setB {I : Nat → Nat → Int32} {T : Nat → Nat → Nat} {b t : Nat} {I1 : Nat → Nat → Int32} (h : RT1 I T) (e1 : I1 = va_up I 16 (upd (I 16) b (nI t))) : RT1 I1 (setB T b t) := by
  obtain ⟨⟨h1, h2, h3, h4, h5, h6, h7, h8⟩, hS, hL, hB, hK⟩ := h
  subst e1
  refine ⟨⟨?_, ?_, ?_, ?_, ?_, ?_, ?_, ?_⟩, ?_, ?_, ?_, ?_⟩
  · simpa [setB, u2, va_up, upd] using h1
  · simpa [setB, u2, va_up, upd] using h2
  · simpa [setB, u2, va_up, upd] using h3
  · simpa [setB, u2, va_up, upd] using h4
  · simpa [setB, u2, va_up, upd] using h5
  · simpa [setB, u2, va_up, upd] using h6
  · simpa [setB, u2, va_up, upd] using h7
  · simpa [setB, u2, va_up, upd] using h8
  · intro j hj
    have hj2 : j < T 0 0 := by simpa [setB, u2, va_up, upd] using hj
    simpa [setB, u2, va_up, upd] using hS j hj2
  · intro j hj
    have hj2 : j < T 0 1 := by simpa [setB, u2, va_up, upd] using hj
    simpa [setB, u2, va_up, upd] using hL j hj2
  · intro j hj
    have hj2 : j < T 0 2 := by simpa [setB, u2, va_up, upd] using hj
    by_cases hne : j = b
    · subst hne
      have := hB _ hj2
      simp [setB, u2, va_up, upd, this]
    · simpa [setB, u2, va_up, upd, hne] using hB j hj2
  · intro j hj
    have hj2 : j < 8 := by simpa [setB, u2, va_up, upd] using hj
    simpa [setB, u2, va_up, upd] using hK j hj2
theorem WF_addS {T : Nat → Nat → Nat} {a k q : Nat} (h : WF T) (h1 : T 0 0 < 40) (h2 : a ≤ 1000000) (h3 : k ≤ 12) (h4 : q ≤ 1) (h5 : T 0 3 ≤ T 0 0) : WF (addS T a k q) := by
  obtain ⟨⟨w1, w2, w3, w4, w5, w6, w7⟩, wS, wL, wB, wK, wTk, wT0⟩ := h
  refine ⟨⟨?_, ?_, ?_, ?_, ?_, ?_, ?_⟩, ?_, ?_, ?_, ?_, ?_, ?_⟩
  · simp [addS, u2, va_up]; omega
  · simpa [addS, u2, va_up] using w2
  · simpa [addS, u2, va_up] using w3
  · simp [addS, u2, va_up]; omega
  · simpa [addS, u2, va_up] using w5
  · simpa [addS, u2, va_up] using w6
  · simpa [addS, u2, va_up] using w7
  · intro s hs
    have hs2 : s < T 0 0 + 1 := by simpa [addS, u2, va_up] using hs
    rcases lt_s2 hs2 with rfl | hs3
    · simp [addS, u2, va_up]; omega
    · have hne : s ≠ T 0 0 := by omega
      simpa [addS, u2, va_up, hne] using wS s hs3
  · intro l hl
    have hl2 : l < T 0 1 := by simpa [addS, u2, va_up] using hl
    obtain ⟨g1, g2⟩ := wL l hl2
    have hne : T 4 l ≠ T 0 0 := by omega
    simp [addS, u2, va_up, hne]
    omega
  · intro b hb
    have hb2 : b < T 0 2 := by simpa [addS, u2, va_up] using hb
    obtain ⟨g1, g2, g3, g4, g5⟩ := wB b hb2
    have hne : T 6 b ≠ T 0 0 := by omega
    simp [addS, u2, va_up, hne]
    omega
  · intro k hk
    simpa [addS, u2, va_up] using wK k hk
  · simpa [addS, u2, va_up] using wTk
  · simpa [addS, u2, va_up] using wT0
theorem WF_addL {T : Nat → Nat → Nat} {s f : Nat} (h : WF T) (h1 : T 0 1 < 60) (h2 : s < T 0 0) (h3 : f ≤ T 1 s) : WF (addL T s f) := by
  obtain ⟨⟨w1, w2, w3, w4, w5, w6, w7⟩, wS, wL, wB, wK, wTk, wT0⟩ := h
  refine ⟨⟨?_, ?_, ?_, ?_, ?_, ?_, ?_⟩, ?_, ?_, ?_, ?_, ?_, ?_⟩
  · simpa [addL, u2, va_up] using w1
  · simp [addL, u2, va_up]; omega
  · simpa [addL, u2, va_up] using w3
  · simpa [addL, u2, va_up] using w4
  · simpa [addL, u2, va_up] using w5
  · simpa [addL, u2, va_up] using w6
  · simpa [addL, u2, va_up] using w7
  · simpa [addL, u2, va_up] using wS
  · intro l hl
    have hl2 : l < T 0 1 + 1 := by simpa [addL, u2, va_up] using hl
    rcases lt_s2 hl2 with rfl | hl3
    · simp [addL, u2, va_up]; omega
    · have hne : l ≠ T 0 1 := by omega
      simpa [addL, u2, va_up, hne] using wL l hl3
  · intro b hb
    have hb2 : b < T 0 2 := by simpa [addL, u2, va_up] using hb
    obtain ⟨g1, g2, g3, g4, g5⟩ := wB b hb2
    simp [addL, u2, va_up]
    omega
  · simpa [addL, u2, va_up] using wK
  · simpa [addL, u2, va_up] using wTk
  · simpa [addL, u2, va_up] using wT0
theorem WF_addB {T : Nat → Nat → Nat} {s f k t : Nat} (h : WF T) (h1 : T 0 2 < 200) (h2 : s < T 0 0) (h3 : f < T 1 s) (h4 : k < 8) (h5 : 1 ≤ T 11 k) (h6 : t < T 0 1) : WF (addB T s f k t) := by
  obtain ⟨⟨w1, w2, w3, w4, w5, w6, w7⟩, wS, wL, wB, wK, wTk, wT0⟩ := h
  refine ⟨⟨?_, ?_, ?_, ?_, ?_, ?_, ?_⟩, ?_, ?_, ?_, ?_, ?_, ?_⟩
  · simpa [addB, u2, va_up] using w1
  · simpa [addB, u2, va_up] using w2
  · simp [addB, u2, va_up]; omega
  · simpa [addB, u2, va_up] using w4
  · simpa [addB, u2, va_up] using w5
  · simpa [addB, u2, va_up] using w6
  · simpa [addB, u2, va_up] using w7
  · simpa [addB, u2, va_up] using wS
  · simpa [addB, u2, va_up] using wL
  · intro l hl
    have hl2 : l < T 0 2 + 1 := by simpa [addB, u2, va_up] using hl
    rcases lt_s2 hl2 with rfl | hl3
    · simp [addB, u2, va_up]; omega
    · have hne : l ≠ T 0 2 := by omega
      simpa [addB, u2, va_up, hne] using wB l hl3
  · simpa [addB, u2, va_up] using wK
  · simpa [addB, u2, va_up] using wTk
  · simpa [addB, u2, va_up] using wT0
theorem WF_addK {T : Nat → Nat → Nat} {k p b : Nat} (h : WF T) (h2 : p ≤ 3) (h3 : 4 ≤ b) (h4 : b ≤ 30) : WF (addK T k p b) := by
  obtain ⟨⟨w1, w2, w3, w4, w5, w6, w7⟩, wS, wL, wB, wK, wTk, wT0⟩ := h
  refine ⟨⟨?_, ?_, ?_, ?_, ?_, ?_, ?_⟩, ?_, ?_, ?_, ?_, ?_, ?_⟩
  · simpa [addK, u2, va_up] using w1
  · simpa [addK, u2, va_up] using w2
  · simpa [addK, u2, va_up] using w3
  · simpa [addK, u2, va_up] using w4
  · simpa [addK, u2, va_up] using w5
  · simpa [addK, u2, va_up] using w6
  · simpa [addK, u2, va_up] using w7
  · simpa [addK, u2, va_up] using wS
  · simpa [addK, u2, va_up] using wL
  · intro l hl
    have hl2 : l < T 0 2 := by simpa [addK, u2, va_up] using hl
    obtain ⟨g1, g2, g3, g4, g5⟩ := wB l hl2
    by_cases hne : T 8 l = k
    · simp [addK, u2, va_up, hne]; omega
    · simp [addK, u2, va_up, hne]; omega
  · intro j hj
    have := wK j hj
    by_cases hne : j = k
    · simp [addK, u2, va_up, hne]; omega
    · simp [addK, u2, va_up, hne]; omega
  · intro hz
    have := wTk (by simpa [addK, u2, va_up] using hz)
    by_cases hne : T 0 7 = k
    · simp [addK, u2, va_up, hne]; omega
    · simp [addK, u2, va_up, hne]; omega
  · simpa [addK, u2, va_up] using wT0
theorem WF_addT {T : Nat → Nat → Nat} {s a k : Nat} (h : WF T) (h1 : 1 ≤ s) (h2 : s ≤ 64) (h3 : a ≤ 6) (h4 : k < 8) (h5 : 1 ≤ T 11 k) : WF (addT T s a k) := by
  obtain ⟨⟨w1, w2, w3, w4, w5, w6, w7⟩, wS, wL, wB, wK, wTk, wT0⟩ := h
  refine ⟨⟨?_, ?_, ?_, ?_, ?_, ?_, ?_⟩, ?_, ?_, ?_, ?_, ?_, ?_⟩
  · simpa [addT, u2, va_up] using w1
  · simpa [addT, u2, va_up] using w2
  · simpa [addT, u2, va_up] using w3
  · simpa [addT, u2, va_up] using w4
  · simpa [addT, u2, va_up] using w5
  · simp [addT, u2, va_up]; omega
  · simp [addT, u2, va_up]; omega
  · simpa [addT, u2, va_up] using wS
  · simpa [addT, u2, va_up] using wL
  · simpa [addT, u2, va_up] using wB
  · simpa [addT, u2, va_up] using wK
  · intro _
    simp [addT, u2, va_up]; omega
  · intro hz
    simp [addT, u2, va_up] at hz
    omega
theorem WF_addA {T : Nat → Nat → Nat} {a : Nat} (h : WF T) (h1 : a < 2 ^ 31) : WF (addA T a) := by
  obtain ⟨⟨w1, w2, w3, w4, w5, w6, w7⟩, wS, wL, wB, wK, wTk, wT0⟩ := h
  refine ⟨⟨?_, ?_, ?_, ?_, ?_, ?_, ?_⟩, ?_, ?_, ?_, ?_, ?_, ?_⟩
  · simpa [addA, u2, va_up] using w1
  · simpa [addA, u2, va_up] using w2
  · simpa [addA, u2, va_up] using w3
  · simpa [addA, u2, va_up] using w4
  · simp [addA, u2, va_up]; omega
  · simpa [addA, u2, va_up] using w6
  · simpa [addA, u2, va_up] using w7
  · simpa [addA, u2, va_up] using wS
  · simpa [addA, u2, va_up] using wL
  · simpa [addA, u2, va_up] using wB
  · simpa [addA, u2, va_up] using wK
  · simpa [addA, u2, va_up] using wTk
  · simpa [addA, u2, va_up] using wT0
theorem WF_setS {T : Nat → Nat → Nat} {s n : Nat} (h : WF T) (h1 : n ≤ 1000000) (h2 : ∀ l, l < T 0 1 → T 4 l = s → T 5 l ≤ n) (h3 : ∀ b, b < T 0 2 → T 6 b = s → T 7 b < n) : WF (setS T s n) := by
  obtain ⟨⟨w1, w2, w3, w4, w5, w6, w7⟩, wS, wL, wB, wK, wTk, wT0⟩ := h
  refine ⟨⟨?_, ?_, ?_, ?_, ?_, ?_, ?_⟩, ?_, ?_, ?_, ?_, ?_, ?_⟩
  · simpa [setS, u2, va_up] using w1
  · simpa [setS, u2, va_up] using w2
  · simpa [setS, u2, va_up] using w3
  · simpa [setS, u2, va_up] using w4
  · simpa [setS, u2, va_up] using w5
  · simpa [setS, u2, va_up] using w6
  · simpa [setS, u2, va_up] using w7
  · intro j hj
    have := wS j (by simpa [setS, u2, va_up] using hj)
    by_cases hne : j = s
    · simp [setS, u2, va_up, hne] at *; omega
    · simp [setS, u2, va_up, hne]; omega
  · intro l hl
    have hl2 : l < T 0 1 := by simpa [setS, u2, va_up] using hl
    have g := wL l hl2
    by_cases hne : T 4 l = s
    · have := h2 l hl2 hne
      rw [hne] at g
      simp [setS, u2, va_up, hne]; omega
    · simp [setS, u2, va_up, hne]; omega
  · intro b hb
    have hb2 : b < T 0 2 := by simpa [setS, u2, va_up] using hb
    have g := wB b hb2
    by_cases hne : T 6 b = s
    · have := h3 b hb2 hne
      rw [hne] at g
      simp [setS, u2, va_up, hne]; omega
    · simp [setS, u2, va_up, hne]; omega
  · simpa [setS, u2, va_up] using wK
  · simpa [setS, u2, va_up] using wTk
  · simpa [setS, u2, va_up] using wT0
theorem WF_setB {T : Nat → Nat → Nat} {b t : Nat} (h : WF T) (h1 : t < T 0 1) : WF (setB T b t) := by
  obtain ⟨⟨w1, w2, w3, w4, w5, w6, w7⟩, wS, wL, wB, wK, wTk, wT0⟩ := h
  refine ⟨⟨?_, ?_, ?_, ?_, ?_, ?_, ?_⟩, ?_, ?_, ?_, ?_, ?_, ?_⟩
  · simpa [setB, u2, va_up] using w1
  · simpa [setB, u2, va_up] using w2
  · simpa [setB, u2, va_up] using w3
  · simpa [setB, u2, va_up] using w4
  · simpa [setB, u2, va_up] using w5
  · simpa [setB, u2, va_up] using w6
  · simpa [setB, u2, va_up] using w7
  · simpa [setB, u2, va_up] using wS
  · simpa [setB, u2, va_up] using wL
  · intro j hj
    have hj2 : j < T 0 2 := by simpa [setB, u2, va_up] using hj
    have g := wB j hj2
    by_cases hne : j = b
    · subst hne
      simp [setB, u2, va_up]; omega
    · simp [setB, u2, va_up, hne]; omega
  · simpa [setB, u2, va_up] using wK
  · simpa [setB, u2, va_up] using wTk
  · simpa [setB, u2, va_up] using wT0
end
