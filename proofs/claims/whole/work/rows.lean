section
-- ===== PART A: goes FIRST, ahead of the names: the tables' words, and 'selects' of the private methods out of them =====
/-- a private method of a class that the tables say can be made, by its rows of tables_1 -/
def lw_okq (q : MethodName × Nat) : Prop := (q.1.cls ≠ "java/lang/invoke/MethodHandle" ∧ q.1.cls ≠ "java/lang/invoke/VarHandle") ∧ Cond.instantiable q.1.cls q.2 ∈ tables_1 ∧ Cond.privateMethod q.1 ∈ tables_1 ∧ Cond.instanceMethod q.1 ∈ tables_1
theorem lw_p0 : lw_okq (⟨"CheeseCellar", "areMilksThere", "()Z"⟩, 16) := ⟨⟨by decide +kernel, by decide +kernel⟩, List.mem_of_getElem? (i := 21) (by decide +kernel), List.mem_of_getElem? (i := 369) (by decide +kernel), List.mem_of_getElem? (i := 370) (by decide +kernel)⟩
theorem lw_p1 : lw_okq (⟨"CheeseCellar", "isMilkThere", "(I)Z"⟩, 16) := ⟨⟨by decide +kernel, by decide +kernel⟩, List.mem_of_getElem? (i := 21) (by decide +kernel), List.mem_of_getElem? (i := 373) (by decide +kernel), List.mem_of_getElem? (i := 374) (by decide +kernel)⟩
theorem lw_p2 : lw_okq (⟨"CheeseCellar", "milkAt", "(I)LCheeseCellar$Milk;"⟩, 16) := ⟨⟨by decide +kernel, by decide +kernel⟩, List.mem_of_getElem? (i := 21) (by decide +kernel), List.mem_of_getElem? (i := 377) (by decide +kernel), List.mem_of_getElem? (i := 378) (by decide +kernel)⟩
theorem lw_p3 : lw_okq (⟨"CheeseCellar", "makeWheel", "(II)I"⟩, 16) := ⟨⟨by decide +kernel, by decide +kernel⟩, List.mem_of_getElem? (i := 21) (by decide +kernel), List.mem_of_getElem? (i := 385) (by decide +kernel), List.mem_of_getElem? (i := 386) (by decide +kernel)⟩
theorem lw_p4 : lw_okq (⟨"CheeseCellar", "layOn", "(LCheeseCellar$Wheel;I)V"⟩, 16) := ⟨⟨by decide +kernel, by decide +kernel⟩, List.mem_of_getElem? (i := 21) (by decide +kernel), List.mem_of_getElem? (i := 441) (by decide +kernel), List.mem_of_getElem? (i := 442) (by decide +kernel)⟩
theorem lw_p5 : lw_okq (⟨"CheeseCellar", "lyingWheel", "(I)LCheeseCellar$Wheel;"⟩, 16) := ⟨⟨by decide +kernel, by decide +kernel⟩, List.mem_of_getElem? (i := 21) (by decide +kernel), List.mem_of_getElem? (i := 457) (by decide +kernel), List.mem_of_getElem? (i := 458) (by decide +kernel)⟩
theorem lw_p6 : lw_okq (⟨"CheeseCellar", "wheelAt", "(I)LCheeseCellar$Wheel;"⟩, 16) := ⟨⟨by decide +kernel, by decide +kernel⟩, List.mem_of_getElem? (i := 21) (by decide +kernel), List.mem_of_getElem? (i := 461) (by decide +kernel), List.mem_of_getElem? (i := 462) (by decide +kernel)⟩
theorem lw_p7 : lw_okq (⟨"CheeseCellar$Tokens", "keepOne", "(LCheeseCellar$Tape;I)I"⟩, 4) := ⟨⟨by decide +kernel, by decide +kernel⟩, List.mem_of_getElem? (i := 189) (by decide +kernel), List.mem_of_getElem? (i := 504) (by decide +kernel), List.mem_of_getElem? (i := 505) (by decide +kernel)⟩
theorem lw_p8 : lw_okq (⟨"CheeseCellar$Reader", "step", "()V"⟩, 8) := ⟨⟨by decide +kernel, by decide +kernel⟩, List.mem_of_getElem? (i := 183) (by decide +kernel), List.mem_of_getElem? (i := 576) (by decide +kernel), List.mem_of_getElem? (i := 577) (by decide +kernel)⟩
theorem lw_p9 : lw_okq (⟨"CheeseCellar$Reader", "readLine", "(LCheeseCellar$Orders;)Z"⟩, 8) := ⟨⟨by decide +kernel, by decide +kernel⟩, List.mem_of_getElem? (i := 183) (by decide +kernel), List.mem_of_getElem? (i := 584) (by decide +kernel), List.mem_of_getElem? (i := 585) (by decide +kernel)⟩
theorem lw_p10 : lw_okq (⟨"CheeseCellar$Reader", "pass", "(I)Z"⟩, 8) := ⟨⟨by decide +kernel, by decide +kernel⟩, List.mem_of_getElem? (i := 183) (by decide +kernel), List.mem_of_getElem? (i := 588) (by decide +kernel), List.mem_of_getElem? (i := 589) (by decide +kernel)⟩
theorem lw_p11 : lw_okq (⟨"CheeseCellar$Reader", "refuse", "(I)Z"⟩, 8) := ⟨⟨by decide +kernel, by decide +kernel⟩, List.mem_of_getElem? (i := 183) (by decide +kernel), List.mem_of_getElem? (i := 592) (by decide +kernel), List.mem_of_getElem? (i := 593) (by decide +kernel)⟩
theorem lw_p12 : lw_okq (⟨"CheeseCellar$Reader", "readJoined", "(IILCheeseCellar$Orders;)Z"⟩, 8) := ⟨⟨by decide +kernel, by decide +kernel⟩, List.mem_of_getElem? (i := 183) (by decide +kernel), List.mem_of_getElem? (i := 596) (by decide +kernel), List.mem_of_getElem? (i := 597) (by decide +kernel)⟩
theorem lw_p13 : lw_okq (⟨"CheeseCellar$Reader", "readOne", "(ILCheeseCellar$Orders;)Z"⟩, 8) := ⟨⟨by decide +kernel, by decide +kernel⟩, List.mem_of_getElem? (i := 183) (by decide +kernel), List.mem_of_getElem? (i := 600) (by decide +kernel), List.mem_of_getElem? (i := 601) (by decide +kernel)⟩
theorem lw_p14 : lw_okq (⟨"CheeseCellar$Reader", "readComparison", "(ILCheeseCellar$Orders;)Z"⟩, 8) := ⟨⟨by decide +kernel, by decide +kernel⟩, List.mem_of_getElem? (i := 183) (by decide +kernel), List.mem_of_getElem? (i := 608) (by decide +kernel), List.mem_of_getElem? (i := 609) (by decide +kernel)⟩
theorem lw_p15 : lw_okq (⟨"CheeseCellar$Reader", "readTerm", "(ILCheeseCellar$Orders;)Z"⟩, 8) := ⟨⟨by decide +kernel, by decide +kernel⟩, List.mem_of_getElem? (i := 183) (by decide +kernel), List.mem_of_getElem? (i := 612) (by decide +kernel), List.mem_of_getElem? (i := 613) (by decide +kernel)⟩
def lw_privs_1 : List (MethodName × Nat) := [(⟨"CheeseCellar", "areMilksThere", "()Z"⟩, 16), (⟨"CheeseCellar", "isMilkThere", "(I)Z"⟩, 16), (⟨"CheeseCellar", "milkAt", "(I)LCheeseCellar$Milk;"⟩, 16), (⟨"CheeseCellar", "makeWheel", "(II)I"⟩, 16), (⟨"CheeseCellar", "layOn", "(LCheeseCellar$Wheel;I)V"⟩, 16), (⟨"CheeseCellar", "lyingWheel", "(I)LCheeseCellar$Wheel;"⟩, 16), (⟨"CheeseCellar", "wheelAt", "(I)LCheeseCellar$Wheel;"⟩, 16), (⟨"CheeseCellar$Tokens", "keepOne", "(LCheeseCellar$Tape;I)I"⟩, 4), (⟨"CheeseCellar$Reader", "step", "()V"⟩, 8), (⟨"CheeseCellar$Reader", "readLine", "(LCheeseCellar$Orders;)Z"⟩, 8), (⟨"CheeseCellar$Reader", "pass", "(I)Z"⟩, 8), (⟨"CheeseCellar$Reader", "refuse", "(I)Z"⟩, 8), (⟨"CheeseCellar$Reader", "readJoined", "(IILCheeseCellar$Orders;)Z"⟩, 8), (⟨"CheeseCellar$Reader", "readOne", "(ILCheeseCellar$Orders;)Z"⟩, 8), (⟨"CheeseCellar$Reader", "readComparison", "(ILCheeseCellar$Orders;)Z"⟩, 8), (⟨"CheeseCellar$Reader", "readTerm", "(ILCheeseCellar$Orders;)Z"⟩, 8)]
theorem lw_r1 : ∀ q ∈ lw_privs_1, lw_okq q := List.forall_mem_cons.mpr ⟨lw_p0, List.forall_mem_cons.mpr ⟨lw_p1, List.forall_mem_cons.mpr ⟨lw_p2, List.forall_mem_cons.mpr ⟨lw_p3, List.forall_mem_cons.mpr ⟨lw_p4, List.forall_mem_cons.mpr ⟨lw_p5, List.forall_mem_cons.mpr ⟨lw_p6, List.forall_mem_cons.mpr ⟨lw_p7, List.forall_mem_cons.mpr ⟨lw_p8, List.forall_mem_cons.mpr ⟨lw_p9, List.forall_mem_cons.mpr ⟨lw_p10, List.forall_mem_cons.mpr ⟨lw_p11, List.forall_mem_cons.mpr ⟨lw_p12, List.forall_mem_cons.mpr ⟨lw_p13, List.forall_mem_cons.mpr ⟨lw_p14, List.forall_mem_cons.mpr ⟨lw_p15, fun _ h => absurd h List.not_mem_nil⟩⟩⟩⟩⟩⟩⟩⟩⟩⟩⟩⟩⟩⟩⟩⟩
theorem lw_p16 : lw_okq (⟨"CheeseCellar$Reader", "isJoint", "(I)Z"⟩, 8) := ⟨⟨by decide +kernel, by decide +kernel⟩, List.mem_of_getElem? (i := 183) (by decide +kernel), List.mem_of_getElem? (i := 616) (by decide +kernel), List.mem_of_getElem? (i := 617) (by decide +kernel)⟩
theorem lw_p17 : lw_okq (⟨"CheeseCellar", "passDay", "()V"⟩, 16) := ⟨⟨by decide +kernel, by decide +kernel⟩, List.mem_of_getElem? (i := 21) (by decide +kernel), List.mem_of_getElem? (i := 637) (by decide +kernel), List.mem_of_getElem? (i := 638) (by decide +kernel)⟩
theorem lw_p18 : lw_okq (⟨"CheeseCellar$Orders", "nameThings", "(LCheeseCellar$Wheel;I)V"⟩, 8) := ⟨⟨by decide +kernel, by decide +kernel⟩, List.mem_of_getElem? (i := 239) (by decide +kernel), List.mem_of_getElem? (i := 653) (by decide +kernel), List.mem_of_getElem? (i := 654) (by decide +kernel)⟩
theorem lw_p19 : lw_okq (⟨"CheeseCellar$Orders", "workOut", "(II)I"⟩, 8) := ⟨⟨by decide +kernel, by decide +kernel⟩, List.mem_of_getElem? (i := 239) (by decide +kernel), List.mem_of_getElem? (i := 657) (by decide +kernel), List.mem_of_getElem? (i := 658) (by decide +kernel)⟩
theorem lw_p20 : lw_okq (⟨"CheeseCellar$Orders", "put", "(I)V"⟩, 8) := ⟨⟨by decide +kernel, by decide +kernel⟩, List.mem_of_getElem? (i := 239) (by decide +kernel), List.mem_of_getElem? (i := 661) (by decide +kernel), List.mem_of_getElem? (i := 662) (by decide +kernel)⟩
theorem lw_p21 : lw_okq (⟨"CheeseCellar$Orders", "applyToken", "(I)V"⟩, 8) := ⟨⟨by decide +kernel, by decide +kernel⟩, List.mem_of_getElem? (i := 239) (by decide +kernel), List.mem_of_getElem? (i := 665) (by decide +kernel), List.mem_of_getElem? (i := 666) (by decide +kernel)⟩
theorem lw_p22 : lw_okq (⟨"CheeseCellar$Orders", "pick", "()I"⟩, 8) := ⟨⟨by decide +kernel, by decide +kernel⟩, List.mem_of_getElem? (i := 239) (by decide +kernel), List.mem_of_getElem? (i := 669) (by decide +kernel), List.mem_of_getElem? (i := 670) (by decide +kernel)⟩
theorem lw_p23 : lw_okq (⟨"CheeseCellar$Wheel", "ripeningBy", "(II)I"⟩, 10) := ⟨⟨by decide +kernel, by decide +kernel⟩, List.mem_of_getElem? (i := 388) (by decide +kernel), List.mem_of_getElem? (i := 692) (by decide +kernel), List.mem_of_getElem? (i := 693) (by decide +kernel)⟩
theorem lw_p24 : lw_okq (⟨"CheeseCellar", "ageOf", "(LCheeseCellar$Wheel;)I"⟩, 16) := ⟨⟨by decide +kernel, by decide +kernel⟩, List.mem_of_getElem? (i := 21) (by decide +kernel), List.mem_of_getElem? (i := 700) (by decide +kernel), List.mem_of_getElem? (i := 701) (by decide +kernel)⟩
theorem lw_p25 : lw_okq (⟨"CheeseCellar", "isSuited", "(LCheeseCellar$Wheel;I)Z"⟩, 16) := ⟨⟨by decide +kernel, by decide +kernel⟩, List.mem_of_getElem? (i := 21) (by decide +kernel), List.mem_of_getElem? (i := 704) (by decide +kernel), List.mem_of_getElem? (i := 705) (by decide +kernel)⟩
theorem lw_p26 : lw_okq (⟨"CheeseCellar$Bands", "placeFor", "(II)I"⟩, 4) := ⟨⟨by decide +kernel, by decide +kernel⟩, List.mem_of_getElem? (i := 52) (by decide +kernel), List.mem_of_getElem? (i := 712) (by decide +kernel), List.mem_of_getElem? (i := 713) (by decide +kernel)⟩
theorem lw_p27 : lw_okq (⟨"CheeseCellar", "takeTo", "(LCheeseCellar$Wheel;I)V"⟩, 16) := ⟨⟨by decide +kernel, by decide +kernel⟩, List.mem_of_getElem? (i := 21) (by decide +kernel), List.mem_of_getElem? (i := 742) (by decide +kernel), List.mem_of_getElem? (i := 743) (by decide +kernel)⟩
theorem lw_p28 : lw_okq (⟨"CheeseCellar", "askPlanFor", "(LCheeseCellar$Wheel;)V"⟩, 16) := ⟨⟨by decide +kernel, by decide +kernel⟩, List.mem_of_getElem? (i := 21) (by decide +kernel), List.mem_of_getElem? (i := 763) (by decide +kernel), List.mem_of_getElem? (i := 764) (by decide +kernel)⟩
theorem lw_p29 : lw_okq (⟨"CheeseCellar$Planner", "placeRow", "(I)Z"⟩, 12) := ⟨⟨by decide +kernel, by decide +kernel⟩, List.mem_of_getElem? (i := 123) (by decide +kernel), List.mem_of_getElem? (i := 789) (by decide +kernel), List.mem_of_getElem? (i := 790) (by decide +kernel)⟩
theorem lw_p30 : lw_okq (⟨"CheeseCellar$Planner", "spread", "(I)Z"⟩, 12) := ⟨⟨by decide +kernel, by decide +kernel⟩, List.mem_of_getElem? (i := 123) (by decide +kernel), List.mem_of_getElem? (i := 793) (by decide +kernel), List.mem_of_getElem? (i := 794) (by decide +kernel)⟩
theorem lw_p31 : lw_okq (⟨"CheeseCellar$Planner", "cheapestWithRoom", "()I"⟩, 12) := ⟨⟨by decide +kernel, by decide +kernel⟩, List.mem_of_getElem? (i := 123) (by decide +kernel), List.mem_of_getElem? (i := 797) (by decide +kernel), List.mem_of_getElem? (i := 798) (by decide +kernel)⟩
def lw_privs_2 : List (MethodName × Nat) := [(⟨"CheeseCellar$Reader", "isJoint", "(I)Z"⟩, 8), (⟨"CheeseCellar", "passDay", "()V"⟩, 16), (⟨"CheeseCellar$Orders", "nameThings", "(LCheeseCellar$Wheel;I)V"⟩, 8), (⟨"CheeseCellar$Orders", "workOut", "(II)I"⟩, 8), (⟨"CheeseCellar$Orders", "put", "(I)V"⟩, 8), (⟨"CheeseCellar$Orders", "applyToken", "(I)V"⟩, 8), (⟨"CheeseCellar$Orders", "pick", "()I"⟩, 8), (⟨"CheeseCellar$Wheel", "ripeningBy", "(II)I"⟩, 10), (⟨"CheeseCellar", "ageOf", "(LCheeseCellar$Wheel;)I"⟩, 16), (⟨"CheeseCellar", "isSuited", "(LCheeseCellar$Wheel;I)Z"⟩, 16), (⟨"CheeseCellar$Bands", "placeFor", "(II)I"⟩, 4), (⟨"CheeseCellar", "takeTo", "(LCheeseCellar$Wheel;I)V"⟩, 16), (⟨"CheeseCellar", "askPlanFor", "(LCheeseCellar$Wheel;)V"⟩, 16), (⟨"CheeseCellar$Planner", "placeRow", "(I)Z"⟩, 12), (⟨"CheeseCellar$Planner", "spread", "(I)Z"⟩, 12), (⟨"CheeseCellar$Planner", "cheapestWithRoom", "()I"⟩, 12)]
theorem lw_r2 : ∀ q ∈ lw_privs_2, lw_okq q := List.forall_mem_cons.mpr ⟨lw_p16, List.forall_mem_cons.mpr ⟨lw_p17, List.forall_mem_cons.mpr ⟨lw_p18, List.forall_mem_cons.mpr ⟨lw_p19, List.forall_mem_cons.mpr ⟨lw_p20, List.forall_mem_cons.mpr ⟨lw_p21, List.forall_mem_cons.mpr ⟨lw_p22, List.forall_mem_cons.mpr ⟨lw_p23, List.forall_mem_cons.mpr ⟨lw_p24, List.forall_mem_cons.mpr ⟨lw_p25, List.forall_mem_cons.mpr ⟨lw_p26, List.forall_mem_cons.mpr ⟨lw_p27, List.forall_mem_cons.mpr ⟨lw_p28, List.forall_mem_cons.mpr ⟨lw_p29, List.forall_mem_cons.mpr ⟨lw_p30, List.forall_mem_cons.mpr ⟨lw_p31, fun _ h => absurd h List.not_mem_nil⟩⟩⟩⟩⟩⟩⟩⟩⟩⟩⟩⟩⟩⟩⟩⟩
theorem lw_p32 : lw_okq (⟨"CheeseCellar$Planner", "shiftChain", "(II)V"⟩, 12) := ⟨⟨by decide +kernel, by decide +kernel⟩, List.mem_of_getElem? (i := 123) (by decide +kernel), List.mem_of_getElem? (i := 801) (by decide +kernel), List.mem_of_getElem? (i := 802) (by decide +kernel)⟩
theorem lw_p33 : lw_okq (⟨"CheeseCellar$Planner", "keepPlan", "()V"⟩, 12) := ⟨⟨by decide +kernel, by decide +kernel⟩, List.mem_of_getElem? (i := 123) (by decide +kernel), List.mem_of_getElem? (i := 805) (by decide +kernel), List.mem_of_getElem? (i := 806) (by decide +kernel)⟩
theorem lw_p34 : lw_okq (⟨"CheeseCellar$Marks", "gatherLast", "(II)I"⟩, 7) := ⟨⟨by decide +kernel, by decide +kernel⟩, List.mem_of_getElem? (i := 94) (by decide +kernel), List.mem_of_getElem? (i := 861) (by decide +kernel), List.mem_of_getElem? (i := 862) (by decide +kernel)⟩
theorem lw_p35 : lw_okq (⟨"CheeseCellar$Marks", "isKnown", "(II)Z"⟩, 7) := ⟨⟨by decide +kernel, by decide +kernel⟩, List.mem_of_getElem? (i := 94) (by decide +kernel), List.mem_of_getElem? (i := 866) (by decide +kernel), List.mem_of_getElem? (i := 867) (by decide +kernel)⟩
theorem lw_p36 : lw_okq (⟨"CheeseCellar$Marks", "gradersWith", "(I)I"⟩, 7) := ⟨⟨by decide +kernel, by decide +kernel⟩, List.mem_of_getElem? (i := 94) (by decide +kernel), List.mem_of_getElem? (i := 871) (by decide +kernel), List.mem_of_getElem? (i := 872) (by decide +kernel)⟩
theorem lw_p37 : lw_okq (⟨"CheeseCellar$Stays", "besideStay", "(II)J"⟩, 5) := ⟨⟨by decide +kernel, by decide +kernel⟩, List.mem_of_getElem? (i := 71) (by decide +kernel), List.mem_of_getElem? (i := 883) (by decide +kernel), List.mem_of_getElem? (i := 884) (by decide +kernel)⟩
theorem lw_p38 : lw_okq (⟨"CheeseCellar$Stays", "shareNight", "(III)Z"⟩, 5) := ⟨⟨by decide +kernel, by decide +kernel⟩, List.mem_of_getElem? (i := 71) (by decide +kernel), List.mem_of_getElem? (i := 887) (by decide +kernel), List.mem_of_getElem? (i := 888) (by decide +kernel)⟩
theorem lw_p39 : lw_okq (⟨"CheeseCellar$Stays", "nightsUpTo", "(II)I"⟩, 5) := ⟨⟨by decide +kernel, by decide +kernel⟩, List.mem_of_getElem? (i := 71) (by decide +kernel), List.mem_of_getElem? (i := 892) (by decide +kernel), List.mem_of_getElem? (i := 893) (by decide +kernel)⟩
theorem lw_p40 : lw_okq (⟨"CheeseCellar", "wheelsFrom", "(I)J"⟩, 16) := ⟨⟨by decide +kernel, by decide +kernel⟩, List.mem_of_getElem? (i := 21) (by decide +kernel), List.mem_of_getElem? (i := 902) (by decide +kernel), List.mem_of_getElem? (i := 903) (by decide +kernel)⟩
theorem lw_p41 : lw_okq (⟨"CheeseCellarModel", "lying", "(I)I"⟩, 69) := ⟨⟨by decide +kernel, by decide +kernel⟩, List.mem_of_getElem? (i := 910) (by decide +kernel), List.mem_of_getElem? (i := 1144) (by decide +kernel), List.mem_of_getElem? (i := 1145) (by decide +kernel)⟩
theorem lw_p42 : lw_okq (⟨"CheeseCellarModel", "canGive", "(II)Z"⟩, 69) := ⟨⟨by decide +kernel, by decide +kernel⟩, List.mem_of_getElem? (i := 910) (by decide +kernel), List.mem_of_getElem? (i := 1148) (by decide +kernel), List.mem_of_getElem? (i := 1149) (by decide +kernel)⟩
theorem lw_p43 : lw_okq (⟨"CheeseCellarModel", "give", "(III)V"⟩, 69) := ⟨⟨by decide +kernel, by decide +kernel⟩, List.mem_of_getElem? (i := 910) (by decide +kernel), List.mem_of_getElem? (i := 1152) (by decide +kernel), List.mem_of_getElem? (i := 1153) (by decide +kernel)⟩
theorem lw_p44 : lw_okq (⟨"CheeseCellarModel", "lay", "(II)V"⟩, 69) := ⟨⟨by decide +kernel, by decide +kernel⟩, List.mem_of_getElem? (i := 910) (by decide +kernel), List.mem_of_getElem? (i := 1156) (by decide +kernel), List.mem_of_getElem? (i := 1157) (by decide +kernel)⟩
theorem lw_p45 : lw_okq (⟨"CheeseCellarModel", "lies", "(I)Z"⟩, 69) := ⟨⟨by decide +kernel, by decide +kernel⟩, List.mem_of_getElem? (i := 910) (by decide +kernel), List.mem_of_getElem? (i := 1164) (by decide +kernel), List.mem_of_getElem? (i := 1165) (by decide +kernel)⟩
theorem lw_p46 : lw_okq (⟨"CheeseCellarModel", "isWheel", "(I)Z"⟩, 69) := ⟨⟨by decide +kernel, by decide +kernel⟩, List.mem_of_getElem? (i := 910) (by decide +kernel), List.mem_of_getElem? (i := 1168) (by decide +kernel), List.mem_of_getElem? (i := 1169) (by decide +kernel)⟩
theorem lw_p47 : lw_okq (⟨"CheeseCellarModel", "four", "(I)V"⟩, 69) := ⟨⟨by decide +kernel, by decide +kernel⟩, List.mem_of_getElem? (i := 910) (by decide +kernel), List.mem_of_getElem? (i := 1176) (by decide +kernel), List.mem_of_getElem? (i := 1177) (by decide +kernel)⟩
def lw_privs_3 : List (MethodName × Nat) := [(⟨"CheeseCellar$Planner", "shiftChain", "(II)V"⟩, 12), (⟨"CheeseCellar$Planner", "keepPlan", "()V"⟩, 12), (⟨"CheeseCellar$Marks", "gatherLast", "(II)I"⟩, 7), (⟨"CheeseCellar$Marks", "isKnown", "(II)Z"⟩, 7), (⟨"CheeseCellar$Marks", "gradersWith", "(I)I"⟩, 7), (⟨"CheeseCellar$Stays", "besideStay", "(II)J"⟩, 5), (⟨"CheeseCellar$Stays", "shareNight", "(III)Z"⟩, 5), (⟨"CheeseCellar$Stays", "nightsUpTo", "(II)I"⟩, 5), (⟨"CheeseCellar", "wheelsFrom", "(I)J"⟩, 16), (⟨"CheeseCellarModel", "lying", "(I)I"⟩, 69), (⟨"CheeseCellarModel", "canGive", "(II)Z"⟩, 69), (⟨"CheeseCellarModel", "give", "(III)V"⟩, 69), (⟨"CheeseCellarModel", "lay", "(II)V"⟩, 69), (⟨"CheeseCellarModel", "lies", "(I)Z"⟩, 69), (⟨"CheeseCellarModel", "isWheel", "(I)Z"⟩, 69), (⟨"CheeseCellarModel", "four", "(I)V"⟩, 69)]
theorem lw_r3 : ∀ q ∈ lw_privs_3, lw_okq q := List.forall_mem_cons.mpr ⟨lw_p32, List.forall_mem_cons.mpr ⟨lw_p33, List.forall_mem_cons.mpr ⟨lw_p34, List.forall_mem_cons.mpr ⟨lw_p35, List.forall_mem_cons.mpr ⟨lw_p36, List.forall_mem_cons.mpr ⟨lw_p37, List.forall_mem_cons.mpr ⟨lw_p38, List.forall_mem_cons.mpr ⟨lw_p39, List.forall_mem_cons.mpr ⟨lw_p40, List.forall_mem_cons.mpr ⟨lw_p41, List.forall_mem_cons.mpr ⟨lw_p42, List.forall_mem_cons.mpr ⟨lw_p43, List.forall_mem_cons.mpr ⟨lw_p44, List.forall_mem_cons.mpr ⟨lw_p45, List.forall_mem_cons.mpr ⟨lw_p46, List.forall_mem_cons.mpr ⟨lw_p47, fun _ h => absurd h List.not_mem_nil⟩⟩⟩⟩⟩⟩⟩⟩⟩⟩⟩⟩⟩⟩⟩⟩
theorem lw_p48 : lw_okq (⟨"CheeseCellarModel", "next", "()V"⟩, 69) := ⟨⟨by decide +kernel, by decide +kernel⟩, List.mem_of_getElem? (i := 910) (by decide +kernel), List.mem_of_getElem? (i := 1188) (by decide +kernel), List.mem_of_getElem? (i := 1189) (by decide +kernel)⟩
theorem lw_p49 : lw_okq (⟨"CheeseCellarModel", "here", "(I)I"⟩, 69) := ⟨⟨by decide +kernel, by decide +kernel⟩, List.mem_of_getElem? (i := 910) (by decide +kernel), List.mem_of_getElem? (i := 1192) (by decide +kernel), List.mem_of_getElem? (i := 1193) (by decide +kernel)⟩
theorem lw_p50 : lw_okq (⟨"CheeseCellarModel", "isWord", "(J)Z"⟩, 69) := ⟨⟨by decide +kernel, by decide +kernel⟩, List.mem_of_getElem? (i := 910) (by decide +kernel), List.mem_of_getElem? (i := 1206) (by decide +kernel), List.mem_of_getElem? (i := 1207) (by decide +kernel)⟩
theorem lw_p51 : lw_okq (⟨"CheeseCellarModel", "wrong", "(I)V"⟩, 69) := ⟨⟨by decide +kernel, by decide +kernel⟩, List.mem_of_getElem? (i := 910) (by decide +kernel), List.mem_of_getElem? (i := 1210) (by decide +kernel), List.mem_of_getElem? (i := 1211) (by decide +kernel)⟩
theorem lw_p52 : lw_okq (⟨"CheeseCellarModel", "readE", "()V"⟩, 69) := ⟨⟨by decide +kernel, by decide +kernel⟩, List.mem_of_getElem? (i := 910) (by decide +kernel), List.mem_of_getElem? (i := 1214) (by decide +kernel), List.mem_of_getElem? (i := 1215) (by decide +kernel)⟩
theorem lw_p53 : lw_okq (⟨"CheeseCellarModel", "isOpen", "()Z"⟩, 69) := ⟨⟨by decide +kernel, by decide +kernel⟩, List.mem_of_getElem? (i := 910) (by decide +kernel), List.mem_of_getElem? (i := 1219) (by decide +kernel), List.mem_of_getElem? (i := 1220) (by decide +kernel)⟩
theorem lw_p54 : lw_okq (⟨"CheeseCellarModel", "sign", "()I"⟩, 69) := ⟨⟨by decide +kernel, by decide +kernel⟩, List.mem_of_getElem? (i := 910) (by decide +kernel), List.mem_of_getElem? (i := 1223) (by decide +kernel), List.mem_of_getElem? (i := 1224) (by decide +kernel)⟩
theorem lw_p55 : lw_okq (⟨"CheeseCellarModel", "settle", "(I)V"⟩, 69) := ⟨⟨by decide +kernel, by decide +kernel⟩, List.mem_of_getElem? (i := 910) (by decide +kernel), List.mem_of_getElem? (i := 1227) (by decide +kernel), List.mem_of_getElem? (i := 1228) (by decide +kernel)⟩
theorem lw_p56 : lw_okq (⟨"CheeseCellarModel", "pop", "()V"⟩, 69) := ⟨⟨by decide +kernel, by decide +kernel⟩, List.mem_of_getElem? (i := 910) (by decide +kernel), List.mem_of_getElem? (i := 1231) (by decide +kernel), List.mem_of_getElem? (i := 1232) (by decide +kernel)⟩
theorem lw_p57 : lw_okq (⟨"CheeseCellarModel", "step", "(II)V"⟩, 69) := ⟨⟨by decide +kernel, by decide +kernel⟩, List.mem_of_getElem? (i := 910) (by decide +kernel), List.mem_of_getElem? (i := 1235) (by decide +kernel), List.mem_of_getElem? (i := 1236) (by decide +kernel)⟩
theorem lw_p58 : lw_okq (⟨"CheeseCellarModel", "hold", "(I)V"⟩, 69) := ⟨⟨by decide +kernel, by decide +kernel⟩, List.mem_of_getElem? (i := 910) (by decide +kernel), List.mem_of_getElem? (i := 1239) (by decide +kernel), List.mem_of_getElem? (i := 1240) (by decide +kernel)⟩
theorem lw_p59 : lw_okq (⟨"CheeseCellarModel", "settleOnes", "(Z)V"⟩, 69) := ⟨⟨by decide +kernel, by decide +kernel⟩, List.mem_of_getElem? (i := 910) (by decide +kernel), List.mem_of_getElem? (i := 1245) (by decide +kernel), List.mem_of_getElem? (i := 1246) (by decide +kernel)⟩
theorem lw_p60 : lw_okq (⟨"CheeseCellarModel", "operand", "(I)I"⟩, 69) := ⟨⟨by decide +kernel, by decide +kernel⟩, List.mem_of_getElem? (i := 910) (by decide +kernel), List.mem_of_getElem? (i := 1249) (by decide +kernel), List.mem_of_getElem? (i := 1250) (by decide +kernel)⟩
theorem lw_p61 : lw_okq (⟨"CheeseCellarModel", "isKey", "()Z"⟩, 69) := ⟨⟨by decide +kernel, by decide +kernel⟩, List.mem_of_getElem? (i := 910) (by decide +kernel), List.mem_of_getElem? (i := 1253) (by decide +kernel), List.mem_of_getElem? (i := 1254) (by decide +kernel)⟩
theorem lw_p62 : lw_okq (⟨"CheeseCellarModel", "named", "()I"⟩, 69) := ⟨⟨by decide +kernel, by decide +kernel⟩, List.mem_of_getElem? (i := 910) (by decide +kernel), List.mem_of_getElem? (i := 1261) (by decide +kernel), List.mem_of_getElem? (i := 1262) (by decide +kernel)⟩
theorem lw_p63 : lw_okq (⟨"CheeseCellarModel", "care", "(I)V"⟩, 69) := ⟨⟨by decide +kernel, by decide +kernel⟩, List.mem_of_getElem? (i := 910) (by decide +kernel), List.mem_of_getElem? (i := 1284) (by decide +kernel), List.mem_of_getElem? (i := 1285) (by decide +kernel)⟩
def lw_privs_4 : List (MethodName × Nat) := [(⟨"CheeseCellarModel", "next", "()V"⟩, 69), (⟨"CheeseCellarModel", "here", "(I)I"⟩, 69), (⟨"CheeseCellarModel", "isWord", "(J)Z"⟩, 69), (⟨"CheeseCellarModel", "wrong", "(I)V"⟩, 69), (⟨"CheeseCellarModel", "readE", "()V"⟩, 69), (⟨"CheeseCellarModel", "isOpen", "()Z"⟩, 69), (⟨"CheeseCellarModel", "sign", "()I"⟩, 69), (⟨"CheeseCellarModel", "settle", "(I)V"⟩, 69), (⟨"CheeseCellarModel", "pop", "()V"⟩, 69), (⟨"CheeseCellarModel", "step", "(II)V"⟩, 69), (⟨"CheeseCellarModel", "hold", "(I)V"⟩, 69), (⟨"CheeseCellarModel", "settleOnes", "(Z)V"⟩, 69), (⟨"CheeseCellarModel", "operand", "(I)I"⟩, 69), (⟨"CheeseCellarModel", "isKey", "()Z"⟩, 69), (⟨"CheeseCellarModel", "named", "()I"⟩, 69), (⟨"CheeseCellarModel", "care", "(I)V"⟩, 69)]
theorem lw_r4 : ∀ q ∈ lw_privs_4, lw_okq q := List.forall_mem_cons.mpr ⟨lw_p48, List.forall_mem_cons.mpr ⟨lw_p49, List.forall_mem_cons.mpr ⟨lw_p50, List.forall_mem_cons.mpr ⟨lw_p51, List.forall_mem_cons.mpr ⟨lw_p52, List.forall_mem_cons.mpr ⟨lw_p53, List.forall_mem_cons.mpr ⟨lw_p54, List.forall_mem_cons.mpr ⟨lw_p55, List.forall_mem_cons.mpr ⟨lw_p56, List.forall_mem_cons.mpr ⟨lw_p57, List.forall_mem_cons.mpr ⟨lw_p58, List.forall_mem_cons.mpr ⟨lw_p59, List.forall_mem_cons.mpr ⟨lw_p60, List.forall_mem_cons.mpr ⟨lw_p61, List.forall_mem_cons.mpr ⟨lw_p62, List.forall_mem_cons.mpr ⟨lw_p63, fun _ h => absurd h List.not_mem_nil⟩⟩⟩⟩⟩⟩⟩⟩⟩⟩⟩⟩⟩⟩⟩⟩
theorem lw_p64 : lw_okq (⟨"CheeseCellarModel", "tell", "(I)V"⟩, 69) := ⟨⟨by decide +kernel, by decide +kernel⟩, List.mem_of_getElem? (i := 910) (by decide +kernel), List.mem_of_getElem? (i := 1288) (by decide +kernel), List.mem_of_getElem? (i := 1289) (by decide +kernel)⟩
theorem lw_p65 : lw_okq (⟨"CheeseCellarModel", "holds", "(I)Z"⟩, 69) := ⟨⟨by decide +kernel, by decide +kernel⟩, List.mem_of_getElem? (i := 910) (by decide +kernel), List.mem_of_getElem? (i := 1292) (by decide +kernel), List.mem_of_getElem? (i := 1293) (by decide +kernel)⟩
theorem lw_p66 : lw_okq (⟨"CheeseCellarModel", "doesSuit", "(II)Z"⟩, 69) := ⟨⟨by decide +kernel, by decide +kernel⟩, List.mem_of_getElem? (i := 910) (by decide +kernel), List.mem_of_getElem? (i := 1304) (by decide +kernel), List.mem_of_getElem? (i := 1305) (by decide +kernel)⟩
theorem lw_p67 : lw_okq (⟨"CheeseCellarModel", "go", "(II)V"⟩, 69) := ⟨⟨by decide +kernel, by decide +kernel⟩, List.mem_of_getElem? (i := 910) (by decide +kernel), List.mem_of_getElem? (i := 1324) (by decide +kernel), List.mem_of_getElem? (i := 1325) (by decide +kernel)⟩
theorem lw_p68 : lw_okq (⟨"CheeseCellarModel", "seek", "()Z"⟩, 69) := ⟨⟨by decide +kernel, by decide +kernel⟩, List.mem_of_getElem? (i := 910) (by decide +kernel), List.mem_of_getElem? (i := 1332) (by decide +kernel), List.mem_of_getElem? (i := 1333) (by decide +kernel)⟩
theorem lw_p69 : lw_okq (⟨"CheeseCellarModel", "costOf", "(II)J"⟩, 69) := ⟨⟨by decide +kernel, by decide +kernel⟩, List.mem_of_getElem? (i := 910) (by decide +kernel), List.mem_of_getElem? (i := 1336) (by decide +kernel), List.mem_of_getElem? (i := 1337) (by decide +kernel)⟩
theorem lw_p70 : lw_okq (⟨"CheeseCellarModel", "onOne", "(II)J"⟩, 69) := ⟨⟨by decide +kernel, by decide +kernel⟩, List.mem_of_getElem? (i := 910) (by decide +kernel), List.mem_of_getElem? (i := 1349) (by decide +kernel), List.mem_of_getElem? (i := 1350) (by decide +kernel)⟩
theorem lw_p71 : lw_okq (⟨"CheeseCellarModel", "isIn", "(II)Z"⟩, 69) := ⟨⟨by decide +kernel, by decide +kernel⟩, List.mem_of_getElem? (i := 910) (by decide +kernel), List.mem_of_getElem? (i := 1353) (by decide +kernel), List.mem_of_getElem? (i := 1354) (by decide +kernel)⟩
theorem lw_p72 : lw_okq (⟨"CheeseCellarModel", "layBeside", "(II)Z"⟩, 69) := ⟨⟨by decide +kernel, by decide +kernel⟩, List.mem_of_getElem? (i := 910) (by decide +kernel), List.mem_of_getElem? (i := 1381) (by decide +kernel), List.mem_of_getElem? (i := 1382) (by decide +kernel)⟩
def lw_privs_5 : List (MethodName × Nat) := [(⟨"CheeseCellarModel", "tell", "(I)V"⟩, 69), (⟨"CheeseCellarModel", "holds", "(I)Z"⟩, 69), (⟨"CheeseCellarModel", "doesSuit", "(II)Z"⟩, 69), (⟨"CheeseCellarModel", "go", "(II)V"⟩, 69), (⟨"CheeseCellarModel", "seek", "()Z"⟩, 69), (⟨"CheeseCellarModel", "costOf", "(II)J"⟩, 69), (⟨"CheeseCellarModel", "onOne", "(II)J"⟩, 69), (⟨"CheeseCellarModel", "isIn", "(II)Z"⟩, 69), (⟨"CheeseCellarModel", "layBeside", "(II)Z"⟩, 69)]
theorem lw_r5 : ∀ q ∈ lw_privs_5, lw_okq q := List.forall_mem_cons.mpr ⟨lw_p64, List.forall_mem_cons.mpr ⟨lw_p65, List.forall_mem_cons.mpr ⟨lw_p66, List.forall_mem_cons.mpr ⟨lw_p67, List.forall_mem_cons.mpr ⟨lw_p68, List.forall_mem_cons.mpr ⟨lw_p69, List.forall_mem_cons.mpr ⟨lw_p70, List.forall_mem_cons.mpr ⟨lw_p71, List.forall_mem_cons.mpr ⟨lw_p72, fun _ h => absurd h List.not_mem_nil⟩⟩⟩⟩⟩⟩⟩⟩⟩
def lw_privs : List (MethodName × Nat) := lw_privs_1 ++ (lw_privs_2 ++ (lw_privs_3 ++ (lw_privs_4 ++ (lw_privs_5))))
def lw_tbl : List Cond := k2_sels lw_privs ++ tables_1
theorem lw_privs_ok : ∀ q ∈ lw_privs, lw_okq q := by
  show ∀ q ∈ lw_privs_1 ++ (lw_privs_2 ++ (lw_privs_3 ++ (lw_privs_4 ++ (lw_privs_5)))), lw_okq q
  exact List.forall_mem_append.mpr ⟨lw_r1, List.forall_mem_append.mpr ⟨lw_r2, List.forall_mem_append.mpr ⟨lw_r3, List.forall_mem_append.mpr ⟨lw_r4, lw_r5⟩⟩⟩⟩
-- ===== end of PART A; then your names; then what follows =====
/-- every word of the tables that a callee may be handed on -/
def gw_all : List Cond := lw_tbl.filter (fun w => goodWord w || k2_isCode w)
end
section
/-! names of this program: class tables, methods, words (printed by wip/gen/names.py from the turned claim) -/
theorem gw_of {w : Cond} (h : w ∈ lw_tbl) (hg : (goodWord w || k2_isCode w) = true) : w ∈ gw_all := List.mem_filter.mpr ⟨h, hg⟩
theorem gw_t {w : Cond} {i : Nat} (h : tables_1[i]? = some w) (hg : (goodWord w || k2_isCode w) = true) : w ∈ gw_all := gw_of (List.mem_append_right _ (List.mem_of_getElem? h)) hg
theorem gw_s {w : Cond} {i : Nat} (h : (k2_sels lw_privs)[i]? = some w) (hg : (goodWord w || k2_isCode w) = true) : w ∈ gw_all := gw_of (List.mem_append_left _ (List.mem_of_getElem? h)) hg
theorem gw_good {w : Cond} (h : w ∈ gw_all) : (w.onTables && w.keeps) = true ∨ ∃ ty, w = .arrayClass ty := by
  have h2 := (List.mem_filter.mp h).2
  by_cases hc : k2_isCode w = true
  · cases w <;> first | (simp [k2_isCode] at hc; done) | exact Or.inl rfl
  · simp [hc] at h2
    exact good_of_word h2
theorem gw_in {c : Cond} (hc : c ∈ gw_all) {c0 : Cond} : GoodIn (c0 :: gw_all) (c :: gw_all) := by
  intro w hw
  have hm : w ∈ gw_all := by
    rcases List.mem_cons.mp hw with rfl | h
    · exact hc
    · exact h
  exact ⟨List.mem_cons_of_mem _ hm, gw_good hm⟩
def ct_0 : u_T := fun k => match k with
  | 0 => ("CheeseCellar$Bands", "counts", "[I", true)
  | 1 => ("CheeseCellar$Bands", "ages", "[I", true)
  | 2 => ("CheeseCellar$Bands", "leasts", "[I", true)
  | _ => ("CheeseCellar$Bands", "mosts", "[I", true)
def cf_0 : Nat → FieldType := fun k => match k with
  | 0 => .array .int
  | 1 => .array .int
  | 2 => .array .int
  | _ => .array .int
theorem cfo_0 : ∀ k, k < 4 → parseFieldDescriptor (ct_0 k).2.2.1 = some (cf_0 k) := by decide +kernel
theorem cn_0 : ∀ a, a < 4 → ∀ b, b < 4 → a ≠ b → (ct_0 a).2.1 ≠ (ct_0 b).2.1 := by decide +kernel
theorem cl_0_0 : Cond.laysFinal "CheeseCellar$Bands" "CheeseCellar$Bands" "counts" "[I" ∈ gw_all := gw_t (i := 61) (by decide +kernel) (by decide +kernel)
theorem cl_0_1 : Cond.laysFinal "CheeseCellar$Bands" "CheeseCellar$Bands" "ages" "[I" ∈ gw_all := gw_t (i := 63) (by decide +kernel) (by decide +kernel)
theorem cl_0_2 : Cond.laysFinal "CheeseCellar$Bands" "CheeseCellar$Bands" "leasts" "[I" ∈ gw_all := gw_t (i := 65) (by decide +kernel) (by decide +kernel)
theorem cl_0_3 : Cond.laysFinal "CheeseCellar$Bands" "CheeseCellar$Bands" "mosts" "[I" ∈ gw_all := gw_t (i := 67) (by decide +kernel) (by decide +kernel)
theorem cw_0 : ∀ w ∈ u_ws "CheeseCellar$Bands" ct_0 4, w ∈ gw_all := by
  intro w hw
  obtain ⟨k, hk, rfl⟩ := List.mem_map.mp hw
  have hk := List.mem_range.mp hk
  match k, hk with
  | 0, _ => exact cl_0_0
  | 1, _ => exact cl_0_1
  | 2, _ => exact cl_0_2
  | 3, _ => exact cl_0_3
  | k + 4, h => exact absurd h (by omega)
def ct_1 : u_T := fun k => match k with
  | 0 => ("CheeseCellar$Marks", "graderOf", "[I", true)
  | 1 => ("CheeseCellar$Marks", "wheelOf", "[I", true)
  | 2 => ("CheeseCellar$Marks", "valueOf", "[I", true)
  | 3 => ("CheeseCellar$Marks", "toldOn", "[I", true)
  | 4 => ("CheeseCellar$Marks", "untoldOn", "[I", true)
  | 5 => ("CheeseCellar$Marks", "lastBy", "[I", true)
  | _ => ("CheeseCellar$Marks", "count", "I", false)
def cf_1 : Nat → FieldType := fun k => match k with
  | 0 => .array .int
  | 1 => .array .int
  | 2 => .array .int
  | 3 => .array .int
  | 4 => .array .int
  | 5 => .array .int
  | _ => .int
theorem cfo_1 : ∀ k, k < 7 → parseFieldDescriptor (ct_1 k).2.2.1 = some (cf_1 k) := by decide +kernel
theorem cn_1 : ∀ a, a < 7 → ∀ b, b < 7 → a ≠ b → (ct_1 a).2.1 ≠ (ct_1 b).2.1 := by decide +kernel
theorem cl_1_0 : Cond.laysFinal "CheeseCellar$Marks" "CheeseCellar$Marks" "graderOf" "[I" ∈ gw_all := gw_t (i := 107) (by decide +kernel) (by decide +kernel)
theorem cl_1_1 : Cond.laysFinal "CheeseCellar$Marks" "CheeseCellar$Marks" "wheelOf" "[I" ∈ gw_all := gw_t (i := 109) (by decide +kernel) (by decide +kernel)
theorem cl_1_2 : Cond.laysFinal "CheeseCellar$Marks" "CheeseCellar$Marks" "valueOf" "[I" ∈ gw_all := gw_t (i := 111) (by decide +kernel) (by decide +kernel)
theorem cl_1_3 : Cond.laysFinal "CheeseCellar$Marks" "CheeseCellar$Marks" "toldOn" "[I" ∈ gw_all := gw_t (i := 113) (by decide +kernel) (by decide +kernel)
theorem cl_1_4 : Cond.laysFinal "CheeseCellar$Marks" "CheeseCellar$Marks" "untoldOn" "[I" ∈ gw_all := gw_t (i := 115) (by decide +kernel) (by decide +kernel)
theorem cl_1_5 : Cond.laysFinal "CheeseCellar$Marks" "CheeseCellar$Marks" "lastBy" "[I" ∈ gw_all := gw_t (i := 117) (by decide +kernel) (by decide +kernel)
theorem cl_1_6 : Cond.lays "CheeseCellar$Marks" "CheeseCellar$Marks" "count" "I" ∈ gw_all := gw_t (i := 119) (by decide +kernel) (by decide +kernel)
theorem cw_1 : ∀ w ∈ u_ws "CheeseCellar$Marks" ct_1 7, w ∈ gw_all := by
  intro w hw
  obtain ⟨k, hk, rfl⟩ := List.mem_map.mp hw
  have hk := List.mem_range.mp hk
  match k, hk with
  | 0, _ => exact cl_1_0
  | 1, _ => exact cl_1_1
  | 2, _ => exact cl_1_2
  | 3, _ => exact cl_1_3
  | 4, _ => exact cl_1_4
  | 5, _ => exact cl_1_5
  | 6, _ => exact cl_1_6
  | k + 7, h => exact absurd h (by omega)
def ct_2 : u_T := fun k => match k with
  | 0 => ("CheeseCellar$Milk", "farm", "I", true)
  | 1 => ("CheeseCellar$Milk", "left", "I", false)
  | _ => ("CheeseCellar$Milk", "wheelsMade", "I", false)
def cf_2 : Nat → FieldType := fun k => match k with
  | 0 => .int
  | 1 => .int
  | _ => .int
theorem cfo_2 : ∀ k, k < 3 → parseFieldDescriptor (ct_2 k).2.2.1 = some (cf_2 k) := by decide +kernel
theorem cn_2 : ∀ a, a < 3 → ∀ b, b < 3 → a ≠ b → (ct_2 a).2.1 ≠ (ct_2 b).2.1 := by decide +kernel
theorem cl_2_0 : Cond.laysFinal "CheeseCellar$Milk" "CheeseCellar$Milk" "farm" "I" ∈ gw_all := gw_t (i := 348) (by decide +kernel) (by decide +kernel)
theorem cl_2_1 : Cond.lays "CheeseCellar$Milk" "CheeseCellar$Milk" "left" "I" ∈ gw_all := gw_t (i := 350) (by decide +kernel) (by decide +kernel)
theorem cl_2_2 : Cond.lays "CheeseCellar$Milk" "CheeseCellar$Milk" "wheelsMade" "I" ∈ gw_all := gw_t (i := 352) (by decide +kernel) (by decide +kernel)
theorem cw_2 : ∀ w ∈ u_ws "CheeseCellar$Milk" ct_2 3, w ∈ gw_all := by
  intro w hw
  obtain ⟨k, hk, rfl⟩ := List.mem_map.mp hw
  have hk := List.mem_range.mp hk
  match k, hk with
  | 0, _ => exact cl_2_0
  | 1, _ => exact cl_2_1
  | 2, _ => exact cl_2_2
  | k + 3, h => exact absurd h (by omega)
def ct_3 : u_T := fun k => match k with
  | 0 => ("CheeseCellar$Orders", "items", "[I", true)
  | 1 => ("CheeseCellar$Orders", "lineEnds", "[I", true)
  | 2 => ("CheeseCellar$Orders", "deeds", "[I", true)
  | 3 => ("CheeseCellar$Orders", "named", "[I", true)
  | 4 => ("CheeseCellar$Orders", "pile", "[I", true)
  | 5 => ("CheeseCellar$Orders", "itemCount", "I", false)
  | 6 => ("CheeseCellar$Orders", "lines", "I", false)
  | _ => ("CheeseCellar$Orders", "height", "I", false)
def cf_3 : Nat → FieldType := fun k => match k with
  | 0 => .array .int
  | 1 => .array .int
  | 2 => .array .int
  | 3 => .array .int
  | 4 => .array .int
  | 5 => .int
  | 6 => .int
  | _ => .int
theorem cfo_3 : ∀ k, k < 8 → parseFieldDescriptor (ct_3 k).2.2.1 = some (cf_3 k) := by decide +kernel
theorem cn_3 : ∀ a, a < 8 → ∀ b, b < 8 → a ≠ b → (ct_3 a).2.1 ≠ (ct_3 b).2.1 := by decide +kernel
theorem cl_3_0 : Cond.laysFinal "CheeseCellar$Orders" "CheeseCellar$Orders" "items" "[I" ∈ gw_all := gw_t (i := 253) (by decide +kernel) (by decide +kernel)
theorem cl_3_1 : Cond.laysFinal "CheeseCellar$Orders" "CheeseCellar$Orders" "lineEnds" "[I" ∈ gw_all := gw_t (i := 255) (by decide +kernel) (by decide +kernel)
theorem cl_3_2 : Cond.laysFinal "CheeseCellar$Orders" "CheeseCellar$Orders" "deeds" "[I" ∈ gw_all := gw_t (i := 257) (by decide +kernel) (by decide +kernel)
theorem cl_3_3 : Cond.laysFinal "CheeseCellar$Orders" "CheeseCellar$Orders" "named" "[I" ∈ gw_all := gw_t (i := 259) (by decide +kernel) (by decide +kernel)
theorem cl_3_4 : Cond.laysFinal "CheeseCellar$Orders" "CheeseCellar$Orders" "pile" "[I" ∈ gw_all := gw_t (i := 261) (by decide +kernel) (by decide +kernel)
theorem cl_3_5 : Cond.lays "CheeseCellar$Orders" "CheeseCellar$Orders" "itemCount" "I" ∈ gw_all := gw_t (i := 263) (by decide +kernel) (by decide +kernel)
theorem cl_3_6 : Cond.lays "CheeseCellar$Orders" "CheeseCellar$Orders" "lines" "I" ∈ gw_all := gw_t (i := 265) (by decide +kernel) (by decide +kernel)
theorem cl_3_7 : Cond.lays "CheeseCellar$Orders" "CheeseCellar$Orders" "height" "I" ∈ gw_all := gw_t (i := 267) (by decide +kernel) (by decide +kernel)
theorem cw_3 : ∀ w ∈ u_ws "CheeseCellar$Orders" ct_3 8, w ∈ gw_all := by
  intro w hw
  obtain ⟨k, hk, rfl⟩ := List.mem_map.mp hw
  have hk := List.mem_range.mp hk
  match k, hk with
  | 0, _ => exact cl_3_0
  | 1, _ => exact cl_3_1
  | 2, _ => exact cl_3_2
  | 3, _ => exact cl_3_3
  | 4, _ => exact cl_3_4
  | 5, _ => exact cl_3_5
  | 6, _ => exact cl_3_6
  | 7, _ => exact cl_3_7
  | k + 8, h => exact absurd h (by omega)
def ct_4 : u_T := fun k => match k with
  | 0 => ("CheeseCellar$Planner", "wheelOf", "[I", true)
  | 1 => ("CheeseCellar$Planner", "homeOf", "[I", true)
  | 2 => ("CheeseCellar$Planner", "shelfOf", "[I", true)
  | 3 => ("CheeseCellar$Planner", "prices", "[J", true)
  | 4 => ("CheeseCellar$Planner", "rooms", "[I", true)
  | 5 => ("CheeseCellar$Planner", "reach", "[J", true)
  | 6 => ("CheeseCellar$Planner", "comer", "[I", true)
  | 7 => ("CheeseCellar$Planner", "kept", "[I", true)
  | 8 => ("CheeseCellar$Planner", "count", "I", false)
  | 9 => ("CheeseCellar$Planner", "keptCount", "I", false)
  | 10 => ("CheeseCellar$Planner", "isKept", "Z", false)
  | _ => ("CheeseCellar$Planner", "isSpoilt", "Z", false)
def cf_4 : Nat → FieldType := fun k => match k with
  | 0 => .array .int
  | 1 => .array .int
  | 2 => .array .int
  | 3 => .array .long
  | 4 => .array .int
  | 5 => .array .long
  | 6 => .array .int
  | 7 => .array .int
  | 8 => .int
  | 9 => .int
  | 10 => .boolean
  | _ => .boolean
theorem cfo_4 : ∀ k, k < 12 → parseFieldDescriptor (ct_4 k).2.2.1 = some (cf_4 k) := by decide +kernel
theorem cn_4 : ∀ a, a < 12 → ∀ b, b < 12 → a ≠ b → (ct_4 a).2.1 ≠ (ct_4 b).2.1 := by decide +kernel
theorem cl_4_0 : Cond.laysFinal "CheeseCellar$Planner" "CheeseCellar$Planner" "wheelOf" "[I" ∈ gw_all := gw_t (i := 141) (by decide +kernel) (by decide +kernel)
theorem cl_4_1 : Cond.laysFinal "CheeseCellar$Planner" "CheeseCellar$Planner" "homeOf" "[I" ∈ gw_all := gw_t (i := 143) (by decide +kernel) (by decide +kernel)
theorem cl_4_2 : Cond.laysFinal "CheeseCellar$Planner" "CheeseCellar$Planner" "shelfOf" "[I" ∈ gw_all := gw_t (i := 145) (by decide +kernel) (by decide +kernel)
theorem cl_4_3 : Cond.laysFinal "CheeseCellar$Planner" "CheeseCellar$Planner" "prices" "[J" ∈ gw_all := gw_t (i := 147) (by decide +kernel) (by decide +kernel)
theorem cl_4_4 : Cond.laysFinal "CheeseCellar$Planner" "CheeseCellar$Planner" "rooms" "[I" ∈ gw_all := gw_t (i := 149) (by decide +kernel) (by decide +kernel)
theorem cl_4_5 : Cond.laysFinal "CheeseCellar$Planner" "CheeseCellar$Planner" "reach" "[J" ∈ gw_all := gw_t (i := 151) (by decide +kernel) (by decide +kernel)
theorem cl_4_6 : Cond.laysFinal "CheeseCellar$Planner" "CheeseCellar$Planner" "comer" "[I" ∈ gw_all := gw_t (i := 153) (by decide +kernel) (by decide +kernel)
theorem cl_4_7 : Cond.laysFinal "CheeseCellar$Planner" "CheeseCellar$Planner" "kept" "[I" ∈ gw_all := gw_t (i := 155) (by decide +kernel) (by decide +kernel)
theorem cl_4_8 : Cond.lays "CheeseCellar$Planner" "CheeseCellar$Planner" "count" "I" ∈ gw_all := gw_t (i := 157) (by decide +kernel) (by decide +kernel)
theorem cl_4_9 : Cond.lays "CheeseCellar$Planner" "CheeseCellar$Planner" "keptCount" "I" ∈ gw_all := gw_t (i := 159) (by decide +kernel) (by decide +kernel)
theorem cl_4_10 : Cond.lays "CheeseCellar$Planner" "CheeseCellar$Planner" "isKept" "Z" ∈ gw_all := gw_t (i := 161) (by decide +kernel) (by decide +kernel)
theorem cl_4_11 : Cond.lays "CheeseCellar$Planner" "CheeseCellar$Planner" "isSpoilt" "Z" ∈ gw_all := gw_t (i := 163) (by decide +kernel) (by decide +kernel)
theorem cw_4 : ∀ w ∈ u_ws "CheeseCellar$Planner" ct_4 12, w ∈ gw_all := by
  intro w hw
  obtain ⟨k, hk, rfl⟩ := List.mem_map.mp hw
  have hk := List.mem_range.mp hk
  match k, hk with
  | 0, _ => exact cl_4_0
  | 1, _ => exact cl_4_1
  | 2, _ => exact cl_4_2
  | 3, _ => exact cl_4_3
  | 4, _ => exact cl_4_4
  | 5, _ => exact cl_4_5
  | 6, _ => exact cl_4_6
  | 7, _ => exact cl_4_7
  | 8, _ => exact cl_4_8
  | 9, _ => exact cl_4_9
  | 10, _ => exact cl_4_10
  | 11, _ => exact cl_4_11
  | k + 12, h => exact absurd h (by omega)
def ct_5 : u_T := fun k => match k with
  | 0 => ("CheeseCellar$Reader", "tokens", "LCheeseCellar$Tokens;", true)
  | 1 => ("CheeseCellar$Reader", "next", "I", false)
  | 2 => ("CheeseCellar$Reader", "token", "I", false)
  | 3 => ("CheeseCellar$Reader", "place", "I", false)
  | 4 => ("CheeseCellar$Reader", "number", "I", false)
  | 5 => ("CheeseCellar$Reader", "operands", "I", false)
  | 6 => ("CheeseCellar$Reader", "faultKind", "I", false)
  | _ => ("CheeseCellar$Reader", "faultPlace", "I", false)
def cf_5 : Nat → FieldType := fun k => match k with
  | 0 => .object "CheeseCellar$Tokens"
  | 1 => .int
  | 2 => .int
  | 3 => .int
  | 4 => .int
  | 5 => .int
  | 6 => .int
  | _ => .int
theorem cfo_5 : ∀ k, k < 8 → parseFieldDescriptor (ct_5 k).2.2.1 = some (cf_5 k) := by decide +kernel
theorem cn_5 : ∀ a, a < 8 → ∀ b, b < 8 → a ≠ b → (ct_5 a).2.1 ≠ (ct_5 b).2.1 := by decide +kernel
theorem cl_5_0 : Cond.laysFinal "CheeseCellar$Reader" "CheeseCellar$Reader" "tokens" "LCheeseCellar$Tokens;" ∈ gw_all := gw_t (i := 221) (by decide +kernel) (by decide +kernel)
theorem cl_5_1 : Cond.lays "CheeseCellar$Reader" "CheeseCellar$Reader" "next" "I" ∈ gw_all := gw_t (i := 223) (by decide +kernel) (by decide +kernel)
theorem cl_5_2 : Cond.lays "CheeseCellar$Reader" "CheeseCellar$Reader" "token" "I" ∈ gw_all := gw_t (i := 225) (by decide +kernel) (by decide +kernel)
theorem cl_5_3 : Cond.lays "CheeseCellar$Reader" "CheeseCellar$Reader" "place" "I" ∈ gw_all := gw_t (i := 227) (by decide +kernel) (by decide +kernel)
theorem cl_5_4 : Cond.lays "CheeseCellar$Reader" "CheeseCellar$Reader" "number" "I" ∈ gw_all := gw_t (i := 229) (by decide +kernel) (by decide +kernel)
theorem cl_5_5 : Cond.lays "CheeseCellar$Reader" "CheeseCellar$Reader" "operands" "I" ∈ gw_all := gw_t (i := 231) (by decide +kernel) (by decide +kernel)
theorem cl_5_6 : Cond.lays "CheeseCellar$Reader" "CheeseCellar$Reader" "faultKind" "I" ∈ gw_all := gw_t (i := 233) (by decide +kernel) (by decide +kernel)
theorem cl_5_7 : Cond.lays "CheeseCellar$Reader" "CheeseCellar$Reader" "faultPlace" "I" ∈ gw_all := gw_t (i := 235) (by decide +kernel) (by decide +kernel)
theorem cw_5 : ∀ w ∈ u_ws "CheeseCellar$Reader" ct_5 8, w ∈ gw_all := by
  intro w hw
  obtain ⟨k, hk, rfl⟩ := List.mem_map.mp hw
  have hk := List.mem_range.mp hk
  match k, hk with
  | 0, _ => exact cl_5_0
  | 1, _ => exact cl_5_1
  | 2, _ => exact cl_5_2
  | 3, _ => exact cl_5_3
  | 4, _ => exact cl_5_4
  | 5, _ => exact cl_5_5
  | 6, _ => exact cl_5_6
  | 7, _ => exact cl_5_7
  | k + 8, h => exact absurd h (by omega)
def ct_6 : u_T := fun k => match k with
  | 0 => ("CheeseCellar$Shelves", "airs", "[I", true)
  | 1 => ("CheeseCellar$Shelves", "damps", "[I", true)
  | _ => ("CheeseCellar$Shelves", "lying", "[I", true)
def cf_6 : Nat → FieldType := fun k => match k with
  | 0 => .array .int
  | 1 => .array .int
  | _ => .array .int
theorem cfo_6 : ∀ k, k < 3 → parseFieldDescriptor (ct_6 k).2.2.1 = some (cf_6 k) := by decide +kernel
theorem cn_6 : ∀ a, a < 3 → ∀ b, b < 3 → a ≠ b → (ct_6 a).2.1 ≠ (ct_6 b).2.1 := by decide +kernel
theorem cl_6_0 : Cond.laysFinal "CheeseCellar$Shelves" "CheeseCellar$Shelves" "airs" "[I" ∈ gw_all := gw_t (i := 39) (by decide +kernel) (by decide +kernel)
theorem cl_6_1 : Cond.laysFinal "CheeseCellar$Shelves" "CheeseCellar$Shelves" "damps" "[I" ∈ gw_all := gw_t (i := 41) (by decide +kernel) (by decide +kernel)
theorem cl_6_2 : Cond.laysFinal "CheeseCellar$Shelves" "CheeseCellar$Shelves" "lying" "[I" ∈ gw_all := gw_t (i := 43) (by decide +kernel) (by decide +kernel)
theorem cw_6 : ∀ w ∈ u_ws "CheeseCellar$Shelves" ct_6 3, w ∈ gw_all := by
  intro w hw
  obtain ⟨k, hk, rfl⟩ := List.mem_map.mp hw
  have hk := List.mem_range.mp hk
  match k, hk with
  | 0, _ => exact cl_6_0
  | 1, _ => exact cl_6_1
  | 2, _ => exact cl_6_2
  | k + 3, h => exact absurd h (by omega)
def ct_7 : u_T := fun k => match k with
  | 0 => ("CheeseCellar$Stays", "wheelOf", "[I", true)
  | 1 => ("CheeseCellar$Stays", "shelfOf", "[I", true)
  | 2 => ("CheeseCellar$Stays", "beganOn", "[I", true)
  | 3 => ("CheeseCellar$Stays", "leftOn", "[I", true)
  | _ => ("CheeseCellar$Stays", "count", "I", false)
def cf_7 : Nat → FieldType := fun k => match k with
  | 0 => .array .int
  | 1 => .array .int
  | 2 => .array .int
  | 3 => .array .int
  | _ => .int
theorem cfo_7 : ∀ k, k < 5 → parseFieldDescriptor (ct_7 k).2.2.1 = some (cf_7 k) := by decide +kernel
theorem cn_7 : ∀ a, a < 5 → ∀ b, b < 5 → a ≠ b → (ct_7 a).2.1 ≠ (ct_7 b).2.1 := by decide +kernel
theorem cl_7_0 : Cond.laysFinal "CheeseCellar$Stays" "CheeseCellar$Stays" "wheelOf" "[I" ∈ gw_all := gw_t (i := 82) (by decide +kernel) (by decide +kernel)
theorem cl_7_1 : Cond.laysFinal "CheeseCellar$Stays" "CheeseCellar$Stays" "shelfOf" "[I" ∈ gw_all := gw_t (i := 84) (by decide +kernel) (by decide +kernel)
theorem cl_7_2 : Cond.laysFinal "CheeseCellar$Stays" "CheeseCellar$Stays" "beganOn" "[I" ∈ gw_all := gw_t (i := 86) (by decide +kernel) (by decide +kernel)
theorem cl_7_3 : Cond.laysFinal "CheeseCellar$Stays" "CheeseCellar$Stays" "leftOn" "[I" ∈ gw_all := gw_t (i := 88) (by decide +kernel) (by decide +kernel)
theorem cl_7_4 : Cond.lays "CheeseCellar$Stays" "CheeseCellar$Stays" "count" "I" ∈ gw_all := gw_t (i := 90) (by decide +kernel) (by decide +kernel)
theorem cw_7 : ∀ w ∈ u_ws "CheeseCellar$Stays" ct_7 5, w ∈ gw_all := by
  intro w hw
  obtain ⟨k, hk, rfl⟩ := List.mem_map.mp hw
  have hk := List.mem_range.mp hk
  match k, hk with
  | 0, _ => exact cl_7_0
  | 1, _ => exact cl_7_1
  | 2, _ => exact cl_7_2
  | 3, _ => exact cl_7_3
  | 4, _ => exact cl_7_4
  | k + 5, h => exact absurd h (by omega)
def ct_8 : u_T := fun k => match k with
  | 0 => ("CheeseCellar$Tape", "bytes", "[I", true)
  | _ => ("CheeseCellar$Tape", "size", "I", false)
def cf_8 : Nat → FieldType := fun k => match k with
  | 0 => .array .int
  | _ => .int
theorem cfo_8 : ∀ k, k < 2 → parseFieldDescriptor (ct_8 k).2.2.1 = some (cf_8 k) := by decide +kernel
theorem cn_8 : ∀ a, a < 2 → ∀ b, b < 2 → a ≠ b → (ct_8 a).2.1 ≠ (ct_8 b).2.1 := by decide +kernel
theorem cl_8_0 : Cond.laysFinal "CheeseCellar$Tape" "CheeseCellar$Tape" "bytes" "[I" ∈ gw_all := gw_t (i := 177) (by decide +kernel) (by decide +kernel)
theorem cl_8_1 : Cond.lays "CheeseCellar$Tape" "CheeseCellar$Tape" "size" "I" ∈ gw_all := gw_t (i := 179) (by decide +kernel) (by decide +kernel)
theorem cw_8 : ∀ w ∈ u_ws "CheeseCellar$Tape" ct_8 2, w ∈ gw_all := by
  intro w hw
  obtain ⟨k, hk, rfl⟩ := List.mem_map.mp hw
  have hk := List.mem_range.mp hk
  match k, hk with
  | 0, _ => exact cl_8_0
  | 1, _ => exact cl_8_1
  | k + 2, h => exact absurd h (by omega)
def ct_9 : u_T := fun k => match k with
  | 0 => ("CheeseCellar$Tokens", "kinds", "[I", true)
  | 1 => ("CheeseCellar$Tokens", "places", "[I", true)
  | 2 => ("CheeseCellar$Tokens", "numbers", "[I", true)
  | _ => ("CheeseCellar$Tokens", "count", "I", false)
def cf_9 : Nat → FieldType := fun k => match k with
  | 0 => .array .int
  | 1 => .array .int
  | 2 => .array .int
  | _ => .int
theorem cfo_9 : ∀ k, k < 4 → parseFieldDescriptor (ct_9 k).2.2.1 = some (cf_9 k) := by decide +kernel
theorem cn_9 : ∀ a, a < 4 → ∀ b, b < 4 → a ≠ b → (ct_9 a).2.1 ≠ (ct_9 b).2.1 := by decide +kernel
theorem cl_9_0 : Cond.laysFinal "CheeseCellar$Tokens" "CheeseCellar$Tokens" "kinds" "[I" ∈ gw_all := gw_t (i := 202) (by decide +kernel) (by decide +kernel)
theorem cl_9_1 : Cond.laysFinal "CheeseCellar$Tokens" "CheeseCellar$Tokens" "places" "[I" ∈ gw_all := gw_t (i := 204) (by decide +kernel) (by decide +kernel)
theorem cl_9_2 : Cond.laysFinal "CheeseCellar$Tokens" "CheeseCellar$Tokens" "numbers" "[I" ∈ gw_all := gw_t (i := 206) (by decide +kernel) (by decide +kernel)
theorem cl_9_3 : Cond.lays "CheeseCellar$Tokens" "CheeseCellar$Tokens" "count" "I" ∈ gw_all := gw_t (i := 208) (by decide +kernel) (by decide +kernel)
theorem cw_9 : ∀ w ∈ u_ws "CheeseCellar$Tokens" ct_9 4, w ∈ gw_all := by
  intro w hw
  obtain ⟨k, hk, rfl⟩ := List.mem_map.mp hw
  have hk := List.mem_range.mp hk
  match k, hk with
  | 0, _ => exact cl_9_0
  | 1, _ => exact cl_9_1
  | 2, _ => exact cl_9_2
  | 3, _ => exact cl_9_3
  | k + 4, h => exact absurd h (by omega)
def ct_10 : u_T := fun k => match k with
  | 0 => ("CheeseCellar$Wheel", "number", "I", true)
  | 1 => ("CheeseCellar$Wheel", "kind", "I", true)
  | 2 => ("CheeseCellar$Wheel", "madeOn", "I", true)
  | 3 => ("CheeseCellar$Wheel", "milkBits", "I", false)
  | 4 => ("CheeseCellar$Wheel", "shelf", "I", false)
  | 5 => ("CheeseCellar$Wheel", "stay", "I", false)
  | 6 => ("CheeseCellar$Wheel", "ripeness", "I", false)
  | 7 => ("CheeseCellar$Wheel", "mould", "I", false)
  | 8 => ("CheeseCellar$Wheel", "weight", "I", false)
  | _ => ("CheeseCellar$Wheel", "side", "I", false)
def cf_10 : Nat → FieldType := fun k => match k with
  | 0 => .int
  | 1 => .int
  | 2 => .int
  | 3 => .int
  | 4 => .int
  | 5 => .int
  | 6 => .int
  | 7 => .int
  | 8 => .int
  | _ => .int
theorem cfo_10 : ∀ k, k < 10 → parseFieldDescriptor (ct_10 k).2.2.1 = some (cf_10 k) := by decide +kernel
theorem cn_10 : ∀ a, a < 10 → ∀ b, b < 10 → a ≠ b → (ct_10 a).2.1 ≠ (ct_10 b).2.1 := by decide +kernel
theorem cl_10_0 : Cond.laysFinal "CheeseCellar$Wheel" "CheeseCellar$Wheel" "number" "I" ∈ gw_all := gw_t (i := 419) (by decide +kernel) (by decide +kernel)
theorem cl_10_1 : Cond.laysFinal "CheeseCellar$Wheel" "CheeseCellar$Wheel" "kind" "I" ∈ gw_all := gw_t (i := 421) (by decide +kernel) (by decide +kernel)
theorem cl_10_2 : Cond.laysFinal "CheeseCellar$Wheel" "CheeseCellar$Wheel" "madeOn" "I" ∈ gw_all := gw_t (i := 423) (by decide +kernel) (by decide +kernel)
theorem cl_10_3 : Cond.lays "CheeseCellar$Wheel" "CheeseCellar$Wheel" "milkBits" "I" ∈ gw_all := gw_t (i := 425) (by decide +kernel) (by decide +kernel)
theorem cl_10_4 : Cond.lays "CheeseCellar$Wheel" "CheeseCellar$Wheel" "shelf" "I" ∈ gw_all := gw_t (i := 427) (by decide +kernel) (by decide +kernel)
theorem cl_10_5 : Cond.lays "CheeseCellar$Wheel" "CheeseCellar$Wheel" "stay" "I" ∈ gw_all := gw_t (i := 429) (by decide +kernel) (by decide +kernel)
theorem cl_10_6 : Cond.lays "CheeseCellar$Wheel" "CheeseCellar$Wheel" "ripeness" "I" ∈ gw_all := gw_t (i := 431) (by decide +kernel) (by decide +kernel)
theorem cl_10_7 : Cond.lays "CheeseCellar$Wheel" "CheeseCellar$Wheel" "mould" "I" ∈ gw_all := gw_t (i := 433) (by decide +kernel) (by decide +kernel)
theorem cl_10_8 : Cond.lays "CheeseCellar$Wheel" "CheeseCellar$Wheel" "weight" "I" ∈ gw_all := gw_t (i := 435) (by decide +kernel) (by decide +kernel)
theorem cl_10_9 : Cond.lays "CheeseCellar$Wheel" "CheeseCellar$Wheel" "side" "I" ∈ gw_all := gw_t (i := 437) (by decide +kernel) (by decide +kernel)
theorem cw_10 : ∀ w ∈ u_ws "CheeseCellar$Wheel" ct_10 10, w ∈ gw_all := by
  intro w hw
  obtain ⟨k, hk, rfl⟩ := List.mem_map.mp hw
  have hk := List.mem_range.mp hk
  match k, hk with
  | 0, _ => exact cl_10_0
  | 1, _ => exact cl_10_1
  | 2, _ => exact cl_10_2
  | 3, _ => exact cl_10_3
  | 4, _ => exact cl_10_4
  | 5, _ => exact cl_10_5
  | 6, _ => exact cl_10_6
  | 7, _ => exact cl_10_7
  | 8, _ => exact cl_10_8
  | 9, _ => exact cl_10_9
  | k + 10, h => exact absurd h (by omega)
def ct_11 : u_T := fun k => match k with
  | 0 => ("CheeseCellar", "shelves", "LCheeseCellar$Shelves;", true)
  | 1 => ("CheeseCellar", "milks", "[LCheeseCellar$Milk;", true)
  | 2 => ("CheeseCellar", "wheels", "[LCheeseCellar$Wheel;", true)
  | 3 => ("CheeseCellar", "bands", "LCheeseCellar$Bands;", true)
  | 4 => ("CheeseCellar", "stays", "LCheeseCellar$Stays;", true)
  | 5 => ("CheeseCellar", "marks", "LCheeseCellar$Marks;", true)
  | 6 => ("CheeseCellar", "planner", "LCheeseCellar$Planner;", true)
  | 7 => ("CheeseCellar", "tape", "LCheeseCellar$Tape;", true)
  | 8 => ("CheeseCellar", "reader", "LCheeseCellar$Reader;", true)
  | 9 => ("CheeseCellar", "usedMilks", "[I", true)
  | 10 => ("CheeseCellar", "usedLitres", "[I", true)
  | 11 => ("CheeseCellar", "ordersNow", "LCheeseCellar$Orders;", false)
  | 12 => ("CheeseCellar", "ordersNext", "LCheeseCellar$Orders;", false)
  | 13 => ("CheeseCellar", "milkCount", "I", false)
  | 14 => ("CheeseCellar", "wheelCount", "I", false)
  | _ => ("CheeseCellar", "today", "I", false)
def cf_11 : Nat → FieldType := fun k => match k with
  | 0 => .object "CheeseCellar$Shelves"
  | 1 => .array (.object "CheeseCellar$Milk")
  | 2 => .array (.object "CheeseCellar$Wheel")
  | 3 => .object "CheeseCellar$Bands"
  | 4 => .object "CheeseCellar$Stays"
  | 5 => .object "CheeseCellar$Marks"
  | 6 => .object "CheeseCellar$Planner"
  | 7 => .object "CheeseCellar$Tape"
  | 8 => .object "CheeseCellar$Reader"
  | 9 => .array .int
  | 10 => .array .int
  | 11 => .object "CheeseCellar$Orders"
  | 12 => .object "CheeseCellar$Orders"
  | 13 => .int
  | 14 => .int
  | _ => .int
theorem cfo_11 : ∀ k, k < 16 → parseFieldDescriptor (ct_11 k).2.2.1 = some (cf_11 k) := by decide +kernel
theorem cn_11 : ∀ a, a < 16 → ∀ b, b < 16 → a ≠ b → (ct_11 a).2.1 ≠ (ct_11 b).2.1 := by decide +kernel
theorem cl_11_0 : Cond.laysFinal "CheeseCellar" "CheeseCellar" "shelves" "LCheeseCellar$Shelves;" ∈ gw_all := gw_t (i := 286) (by decide +kernel) (by decide +kernel)
theorem cl_11_1 : Cond.laysFinal "CheeseCellar" "CheeseCellar" "milks" "[LCheeseCellar$Milk;" ∈ gw_all := gw_t (i := 288) (by decide +kernel) (by decide +kernel)
theorem cl_11_2 : Cond.laysFinal "CheeseCellar" "CheeseCellar" "wheels" "[LCheeseCellar$Wheel;" ∈ gw_all := gw_t (i := 290) (by decide +kernel) (by decide +kernel)
theorem cl_11_3 : Cond.laysFinal "CheeseCellar" "CheeseCellar" "bands" "LCheeseCellar$Bands;" ∈ gw_all := gw_t (i := 292) (by decide +kernel) (by decide +kernel)
theorem cl_11_4 : Cond.laysFinal "CheeseCellar" "CheeseCellar" "stays" "LCheeseCellar$Stays;" ∈ gw_all := gw_t (i := 294) (by decide +kernel) (by decide +kernel)
theorem cl_11_5 : Cond.laysFinal "CheeseCellar" "CheeseCellar" "marks" "LCheeseCellar$Marks;" ∈ gw_all := gw_t (i := 296) (by decide +kernel) (by decide +kernel)
theorem cl_11_6 : Cond.laysFinal "CheeseCellar" "CheeseCellar" "planner" "LCheeseCellar$Planner;" ∈ gw_all := gw_t (i := 298) (by decide +kernel) (by decide +kernel)
theorem cl_11_7 : Cond.laysFinal "CheeseCellar" "CheeseCellar" "tape" "LCheeseCellar$Tape;" ∈ gw_all := gw_t (i := 300) (by decide +kernel) (by decide +kernel)
theorem cl_11_8 : Cond.laysFinal "CheeseCellar" "CheeseCellar" "reader" "LCheeseCellar$Reader;" ∈ gw_all := gw_t (i := 302) (by decide +kernel) (by decide +kernel)
theorem cl_11_9 : Cond.laysFinal "CheeseCellar" "CheeseCellar" "usedMilks" "[I" ∈ gw_all := gw_t (i := 304) (by decide +kernel) (by decide +kernel)
theorem cl_11_10 : Cond.laysFinal "CheeseCellar" "CheeseCellar" "usedLitres" "[I" ∈ gw_all := gw_t (i := 306) (by decide +kernel) (by decide +kernel)
theorem cl_11_11 : Cond.lays "CheeseCellar" "CheeseCellar" "ordersNow" "LCheeseCellar$Orders;" ∈ gw_all := gw_t (i := 308) (by decide +kernel) (by decide +kernel)
theorem cl_11_12 : Cond.lays "CheeseCellar" "CheeseCellar" "ordersNext" "LCheeseCellar$Orders;" ∈ gw_all := gw_t (i := 310) (by decide +kernel) (by decide +kernel)
theorem cl_11_13 : Cond.lays "CheeseCellar" "CheeseCellar" "milkCount" "I" ∈ gw_all := gw_t (i := 312) (by decide +kernel) (by decide +kernel)
theorem cl_11_14 : Cond.lays "CheeseCellar" "CheeseCellar" "wheelCount" "I" ∈ gw_all := gw_t (i := 314) (by decide +kernel) (by decide +kernel)
theorem cl_11_15 : Cond.lays "CheeseCellar" "CheeseCellar" "today" "I" ∈ gw_all := gw_t (i := 316) (by decide +kernel) (by decide +kernel)
theorem cw_11 : ∀ w ∈ u_ws "CheeseCellar" ct_11 16, w ∈ gw_all := by
  intro w hw
  obtain ⟨k, hk, rfl⟩ := List.mem_map.mp hw
  have hk := List.mem_range.mp hk
  match k, hk with
  | 0, _ => exact cl_11_0
  | 1, _ => exact cl_11_1
  | 2, _ => exact cl_11_2
  | 3, _ => exact cl_11_3
  | 4, _ => exact cl_11_4
  | 5, _ => exact cl_11_5
  | 6, _ => exact cl_11_6
  | 7, _ => exact cl_11_7
  | 8, _ => exact cl_11_8
  | 9, _ => exact cl_11_9
  | 10, _ => exact cl_11_10
  | 11, _ => exact cl_11_11
  | 12, _ => exact cl_11_12
  | 13, _ => exact cl_11_13
  | 14, _ => exact cl_11_14
  | 15, _ => exact cl_11_15
  | k + 16, h => exact absurd h (by omega)
def ct_12 : u_T := fun k => match k with
  | 0 => ("CheeseCellarModel", "today", "I", false)
  | 1 => ("CheeseCellarModel", "air", "[I", true)
  | 2 => ("CheeseCellarModel", "damp", "[I", true)
  | 3 => ("CheeseCellarModel", "milks", "I", false)
  | 4 => ("CheeseCellarModel", "wheels", "I", false)
  | 5 => ("CheeseCellarModel", "stays", "I", false)
  | 6 => ("CheeseCellarModel", "farm", "[I", true)
  | 7 => ("CheeseCellarModel", "left", "[I", true)
  | 8 => ("CheeseCellarModel", "madeFrom", "[I", true)
  | 9 => ("CheeseCellarModel", "kind", "[I", true)
  | 10 => ("CheeseCellarModel", "shelf", "[I", true)
  | 11 => ("CheeseCellarModel", "ripe", "[I", true)
  | 12 => ("CheeseCellarModel", "mould", "[I", true)
  | 13 => ("CheeseCellarModel", "weight", "[I", true)
  | 14 => ("CheeseCellarModel", "made", "[I", true)
  | 15 => ("CheeseCellarModel", "side", "[I", true)
  | 16 => ("CheeseCellarModel", "stayOf", "[I", true)
  | 17 => ("CheeseCellarModel", "isOf", "[Z", true)
  | 18 => ("CheeseCellarModel", "stayWheel", "[I", true)
  | 19 => ("CheeseCellarModel", "stayShelf", "[I", true)
  | 20 => ("CheeseCellarModel", "stayFrom", "[I", true)
  | 21 => ("CheeseCellarModel", "stayTo", "[I", true)
  | 22 => ("CheeseCellarModel", "steps", "[I", true)
  | 23 => ("CheeseCellarModel", "numbers", "[I", true)
  | 24 => ("CheeseCellarModel", "lineAt", "[I", true)
  | 25 => ("CheeseCellarModel", "does", "[I", true)
  | 26 => ("CheeseCellarModel", "lines", "I", false)
  | 27 => ("CheeseCellarModel", "newSteps", "[I", true)
  | 28 => ("CheeseCellarModel", "newNumbers", "[I", true)
  | 29 => ("CheeseCellarModel", "newAt", "[I", true)
  | 30 => ("CheeseCellarModel", "newDoes", "[I", true)
  | 31 => ("CheeseCellarModel", "newLines", "I", false)
  | 32 => ("CheeseCellarModel", "newMany", "I", false)
  | 33 => ("CheeseCellarModel", "values", "I", false)
  | 34 => ("CheeseCellarModel", "tape", "[I", true)
  | 35 => ("CheeseCellarModel", "taped", "I", false)
  | 36 => ("CheeseCellarModel", "fault", "I", false)
  | 37 => ("CheeseCellarModel", "faultPlace", "I", false)
  | 38 => ("CheeseCellarModel", "at", "I", false)
  | 39 => ("CheeseCellarModel", "size", "I", false)
  | 40 => ("CheeseCellarModel", "sort", "I", false)
  | 41 => ("CheeseCellarModel", "place", "I", false)
  | 42 => ("CheeseCellarModel", "number", "I", false)
  | 43 => ("CheeseCellarModel", "word", "J", false)
  | 44 => ("CheeseCellarModel", "waits", "[I", true)
  | 45 => ("CheeseCellarModel", "waiting", "I", false)
  | 46 => ("CheeseCellarModel", "deep", "I", false)
  | 47 => ("CheeseCellarModel", "pile", "[I", true)
  | 48 => ("CheeseCellarModel", "names", "[I", true)
  | 49 => ("CheeseCellarModel", "bandMany", "[I", true)
  | 50 => ("CheeseCellarModel", "bandAge", "[I", true)
  | 51 => ("CheeseCellarModel", "bandLeast", "[I", true)
  | 52 => ("CheeseCellarModel", "bandMost", "[I", true)
  | 53 => ("CheeseCellarModel", "isPlanned", "Z", false)
  | 54 => ("CheeseCellarModel", "goers", "I", false)
  | 55 => ("CheeseCellarModel", "plannedMany", "I", false)
  | 56 => ("CheeseCellarModel", "goer", "[I", true)
  | 57 => ("CheeseCellarModel", "plannedWheel", "[I", true)
  | 58 => ("CheeseCellarModel", "plannedShelf", "[I", true)
  | 59 => ("CheeseCellarModel", "best", "[I", true)
  | 60 => ("CheeseCellarModel", "costs", "[J", true)
  | 61 => ("CheeseCellarModel", "price", "[J", true)
  | 62 => ("CheeseCellarModel", "marks", "I", false)
  | 63 => ("CheeseCellarModel", "marker", "[I", true)
  | 64 => ("CheeseCellarModel", "marked", "[I", true)
  | 65 => ("CheeseCellarModel", "markOf", "[I", true)
  | 66 => ("CheeseCellarModel", "toldOn", "[I", true)
  | 67 => ("CheeseCellarModel", "untoldOn", "[I", true)
  | _ => ("CheeseCellarModel", "row", "[I", true)
def cf_12 : Nat → FieldType := fun k => match k with
  | 0 => .int
  | 1 => .array .int
  | 2 => .array .int
  | 3 => .int
  | 4 => .int
  | 5 => .int
  | 6 => .array .int
  | 7 => .array .int
  | 8 => .array .int
  | 9 => .array .int
  | 10 => .array .int
  | 11 => .array .int
  | 12 => .array .int
  | 13 => .array .int
  | 14 => .array .int
  | 15 => .array .int
  | 16 => .array .int
  | 17 => .array .boolean
  | 18 => .array .int
  | 19 => .array .int
  | 20 => .array .int
  | 21 => .array .int
  | 22 => .array .int
  | 23 => .array .int
  | 24 => .array .int
  | 25 => .array .int
  | 26 => .int
  | 27 => .array .int
  | 28 => .array .int
  | 29 => .array .int
  | 30 => .array .int
  | 31 => .int
  | 32 => .int
  | 33 => .int
  | 34 => .array .int
  | 35 => .int
  | 36 => .int
  | 37 => .int
  | 38 => .int
  | 39 => .int
  | 40 => .int
  | 41 => .int
  | 42 => .int
  | 43 => .long
  | 44 => .array .int
  | 45 => .int
  | 46 => .int
  | 47 => .array .int
  | 48 => .array .int
  | 49 => .array .int
  | 50 => .array .int
  | 51 => .array .int
  | 52 => .array .int
  | 53 => .boolean
  | 54 => .int
  | 55 => .int
  | 56 => .array .int
  | 57 => .array .int
  | 58 => .array .int
  | 59 => .array .int
  | 60 => .array .long
  | 61 => .array .long
  | 62 => .int
  | 63 => .array .int
  | 64 => .array .int
  | 65 => .array .int
  | 66 => .array .int
  | 67 => .array .int
  | _ => .array .int
theorem cfo_12 : ∀ k, k < 69 → parseFieldDescriptor (ct_12 k).2.2.1 = some (cf_12 k) := by decide +kernel
theorem cn_12 : ∀ a, a < 69 → ∀ b, b < 69 → a ≠ b → (ct_12 a).2.1 ≠ (ct_12 b).2.1 := by decide +kernel
theorem cl_12_0 : Cond.lays "CheeseCellarModel" "CheeseCellarModel" "today" "I" ∈ gw_all := gw_t (i := 984) (by decide +kernel) (by decide +kernel)
theorem cl_12_1 : Cond.laysFinal "CheeseCellarModel" "CheeseCellarModel" "air" "[I" ∈ gw_all := gw_t (i := 986) (by decide +kernel) (by decide +kernel)
theorem cl_12_2 : Cond.laysFinal "CheeseCellarModel" "CheeseCellarModel" "damp" "[I" ∈ gw_all := gw_t (i := 988) (by decide +kernel) (by decide +kernel)
theorem cl_12_3 : Cond.lays "CheeseCellarModel" "CheeseCellarModel" "milks" "I" ∈ gw_all := gw_t (i := 990) (by decide +kernel) (by decide +kernel)
theorem cl_12_4 : Cond.lays "CheeseCellarModel" "CheeseCellarModel" "wheels" "I" ∈ gw_all := gw_t (i := 992) (by decide +kernel) (by decide +kernel)
theorem cl_12_5 : Cond.lays "CheeseCellarModel" "CheeseCellarModel" "stays" "I" ∈ gw_all := gw_t (i := 994) (by decide +kernel) (by decide +kernel)
theorem cl_12_6 : Cond.laysFinal "CheeseCellarModel" "CheeseCellarModel" "farm" "[I" ∈ gw_all := gw_t (i := 996) (by decide +kernel) (by decide +kernel)
theorem cl_12_7 : Cond.laysFinal "CheeseCellarModel" "CheeseCellarModel" "left" "[I" ∈ gw_all := gw_t (i := 998) (by decide +kernel) (by decide +kernel)
theorem cl_12_8 : Cond.laysFinal "CheeseCellarModel" "CheeseCellarModel" "madeFrom" "[I" ∈ gw_all := gw_t (i := 1000) (by decide +kernel) (by decide +kernel)
theorem cl_12_9 : Cond.laysFinal "CheeseCellarModel" "CheeseCellarModel" "kind" "[I" ∈ gw_all := gw_t (i := 1002) (by decide +kernel) (by decide +kernel)
theorem cl_12_10 : Cond.laysFinal "CheeseCellarModel" "CheeseCellarModel" "shelf" "[I" ∈ gw_all := gw_t (i := 1004) (by decide +kernel) (by decide +kernel)
theorem cl_12_11 : Cond.laysFinal "CheeseCellarModel" "CheeseCellarModel" "ripe" "[I" ∈ gw_all := gw_t (i := 1006) (by decide +kernel) (by decide +kernel)
theorem cl_12_12 : Cond.laysFinal "CheeseCellarModel" "CheeseCellarModel" "mould" "[I" ∈ gw_all := gw_t (i := 1008) (by decide +kernel) (by decide +kernel)
theorem cl_12_13 : Cond.laysFinal "CheeseCellarModel" "CheeseCellarModel" "weight" "[I" ∈ gw_all := gw_t (i := 1010) (by decide +kernel) (by decide +kernel)
theorem cl_12_14 : Cond.laysFinal "CheeseCellarModel" "CheeseCellarModel" "made" "[I" ∈ gw_all := gw_t (i := 1012) (by decide +kernel) (by decide +kernel)
theorem cl_12_15 : Cond.laysFinal "CheeseCellarModel" "CheeseCellarModel" "side" "[I" ∈ gw_all := gw_t (i := 1014) (by decide +kernel) (by decide +kernel)
theorem cl_12_16 : Cond.laysFinal "CheeseCellarModel" "CheeseCellarModel" "stayOf" "[I" ∈ gw_all := gw_t (i := 1016) (by decide +kernel) (by decide +kernel)
theorem cl_12_17 : Cond.laysFinal "CheeseCellarModel" "CheeseCellarModel" "isOf" "[Z" ∈ gw_all := gw_t (i := 1018) (by decide +kernel) (by decide +kernel)
theorem cl_12_18 : Cond.laysFinal "CheeseCellarModel" "CheeseCellarModel" "stayWheel" "[I" ∈ gw_all := gw_t (i := 1020) (by decide +kernel) (by decide +kernel)
theorem cl_12_19 : Cond.laysFinal "CheeseCellarModel" "CheeseCellarModel" "stayShelf" "[I" ∈ gw_all := gw_t (i := 1022) (by decide +kernel) (by decide +kernel)
theorem cl_12_20 : Cond.laysFinal "CheeseCellarModel" "CheeseCellarModel" "stayFrom" "[I" ∈ gw_all := gw_t (i := 1024) (by decide +kernel) (by decide +kernel)
theorem cl_12_21 : Cond.laysFinal "CheeseCellarModel" "CheeseCellarModel" "stayTo" "[I" ∈ gw_all := gw_t (i := 1026) (by decide +kernel) (by decide +kernel)
theorem cl_12_22 : Cond.laysFinal "CheeseCellarModel" "CheeseCellarModel" "steps" "[I" ∈ gw_all := gw_t (i := 1028) (by decide +kernel) (by decide +kernel)
theorem cl_12_23 : Cond.laysFinal "CheeseCellarModel" "CheeseCellarModel" "numbers" "[I" ∈ gw_all := gw_t (i := 1030) (by decide +kernel) (by decide +kernel)
theorem cl_12_24 : Cond.laysFinal "CheeseCellarModel" "CheeseCellarModel" "lineAt" "[I" ∈ gw_all := gw_t (i := 1032) (by decide +kernel) (by decide +kernel)
theorem cl_12_25 : Cond.laysFinal "CheeseCellarModel" "CheeseCellarModel" "does" "[I" ∈ gw_all := gw_t (i := 1034) (by decide +kernel) (by decide +kernel)
theorem cl_12_26 : Cond.lays "CheeseCellarModel" "CheeseCellarModel" "lines" "I" ∈ gw_all := gw_t (i := 1036) (by decide +kernel) (by decide +kernel)
theorem cl_12_27 : Cond.laysFinal "CheeseCellarModel" "CheeseCellarModel" "newSteps" "[I" ∈ gw_all := gw_t (i := 1038) (by decide +kernel) (by decide +kernel)
theorem cl_12_28 : Cond.laysFinal "CheeseCellarModel" "CheeseCellarModel" "newNumbers" "[I" ∈ gw_all := gw_t (i := 1040) (by decide +kernel) (by decide +kernel)
theorem cl_12_29 : Cond.laysFinal "CheeseCellarModel" "CheeseCellarModel" "newAt" "[I" ∈ gw_all := gw_t (i := 1042) (by decide +kernel) (by decide +kernel)
theorem cl_12_30 : Cond.laysFinal "CheeseCellarModel" "CheeseCellarModel" "newDoes" "[I" ∈ gw_all := gw_t (i := 1044) (by decide +kernel) (by decide +kernel)
theorem cl_12_31 : Cond.lays "CheeseCellarModel" "CheeseCellarModel" "newLines" "I" ∈ gw_all := gw_t (i := 1046) (by decide +kernel) (by decide +kernel)
theorem cl_12_32 : Cond.lays "CheeseCellarModel" "CheeseCellarModel" "newMany" "I" ∈ gw_all := gw_t (i := 1048) (by decide +kernel) (by decide +kernel)
theorem cl_12_33 : Cond.lays "CheeseCellarModel" "CheeseCellarModel" "values" "I" ∈ gw_all := gw_t (i := 1050) (by decide +kernel) (by decide +kernel)
theorem cl_12_34 : Cond.laysFinal "CheeseCellarModel" "CheeseCellarModel" "tape" "[I" ∈ gw_all := gw_t (i := 1052) (by decide +kernel) (by decide +kernel)
theorem cl_12_35 : Cond.lays "CheeseCellarModel" "CheeseCellarModel" "taped" "I" ∈ gw_all := gw_t (i := 1054) (by decide +kernel) (by decide +kernel)
theorem cl_12_36 : Cond.lays "CheeseCellarModel" "CheeseCellarModel" "fault" "I" ∈ gw_all := gw_t (i := 1056) (by decide +kernel) (by decide +kernel)
theorem cl_12_37 : Cond.lays "CheeseCellarModel" "CheeseCellarModel" "faultPlace" "I" ∈ gw_all := gw_t (i := 1058) (by decide +kernel) (by decide +kernel)
theorem cl_12_38 : Cond.lays "CheeseCellarModel" "CheeseCellarModel" "at" "I" ∈ gw_all := gw_t (i := 1060) (by decide +kernel) (by decide +kernel)
theorem cl_12_39 : Cond.lays "CheeseCellarModel" "CheeseCellarModel" "size" "I" ∈ gw_all := gw_t (i := 1062) (by decide +kernel) (by decide +kernel)
theorem cl_12_40 : Cond.lays "CheeseCellarModel" "CheeseCellarModel" "sort" "I" ∈ gw_all := gw_t (i := 1064) (by decide +kernel) (by decide +kernel)
theorem cl_12_41 : Cond.lays "CheeseCellarModel" "CheeseCellarModel" "place" "I" ∈ gw_all := gw_t (i := 1066) (by decide +kernel) (by decide +kernel)
theorem cl_12_42 : Cond.lays "CheeseCellarModel" "CheeseCellarModel" "number" "I" ∈ gw_all := gw_t (i := 1068) (by decide +kernel) (by decide +kernel)
theorem cl_12_43 : Cond.lays "CheeseCellarModel" "CheeseCellarModel" "word" "J" ∈ gw_all := gw_t (i := 1070) (by decide +kernel) (by decide +kernel)
theorem cl_12_44 : Cond.laysFinal "CheeseCellarModel" "CheeseCellarModel" "waits" "[I" ∈ gw_all := gw_t (i := 1072) (by decide +kernel) (by decide +kernel)
theorem cl_12_45 : Cond.lays "CheeseCellarModel" "CheeseCellarModel" "waiting" "I" ∈ gw_all := gw_t (i := 1074) (by decide +kernel) (by decide +kernel)
theorem cl_12_46 : Cond.lays "CheeseCellarModel" "CheeseCellarModel" "deep" "I" ∈ gw_all := gw_t (i := 1076) (by decide +kernel) (by decide +kernel)
theorem cl_12_47 : Cond.laysFinal "CheeseCellarModel" "CheeseCellarModel" "pile" "[I" ∈ gw_all := gw_t (i := 1078) (by decide +kernel) (by decide +kernel)
theorem cl_12_48 : Cond.laysFinal "CheeseCellarModel" "CheeseCellarModel" "names" "[I" ∈ gw_all := gw_t (i := 1080) (by decide +kernel) (by decide +kernel)
theorem cl_12_49 : Cond.laysFinal "CheeseCellarModel" "CheeseCellarModel" "bandMany" "[I" ∈ gw_all := gw_t (i := 1082) (by decide +kernel) (by decide +kernel)
theorem cl_12_50 : Cond.laysFinal "CheeseCellarModel" "CheeseCellarModel" "bandAge" "[I" ∈ gw_all := gw_t (i := 1084) (by decide +kernel) (by decide +kernel)
theorem cl_12_51 : Cond.laysFinal "CheeseCellarModel" "CheeseCellarModel" "bandLeast" "[I" ∈ gw_all := gw_t (i := 1086) (by decide +kernel) (by decide +kernel)
theorem cl_12_52 : Cond.laysFinal "CheeseCellarModel" "CheeseCellarModel" "bandMost" "[I" ∈ gw_all := gw_t (i := 1088) (by decide +kernel) (by decide +kernel)
theorem cl_12_53 : Cond.lays "CheeseCellarModel" "CheeseCellarModel" "isPlanned" "Z" ∈ gw_all := gw_t (i := 1090) (by decide +kernel) (by decide +kernel)
theorem cl_12_54 : Cond.lays "CheeseCellarModel" "CheeseCellarModel" "goers" "I" ∈ gw_all := gw_t (i := 1092) (by decide +kernel) (by decide +kernel)
theorem cl_12_55 : Cond.lays "CheeseCellarModel" "CheeseCellarModel" "plannedMany" "I" ∈ gw_all := gw_t (i := 1094) (by decide +kernel) (by decide +kernel)
theorem cl_12_56 : Cond.laysFinal "CheeseCellarModel" "CheeseCellarModel" "goer" "[I" ∈ gw_all := gw_t (i := 1096) (by decide +kernel) (by decide +kernel)
theorem cl_12_57 : Cond.laysFinal "CheeseCellarModel" "CheeseCellarModel" "plannedWheel" "[I" ∈ gw_all := gw_t (i := 1098) (by decide +kernel) (by decide +kernel)
theorem cl_12_58 : Cond.laysFinal "CheeseCellarModel" "CheeseCellarModel" "plannedShelf" "[I" ∈ gw_all := gw_t (i := 1100) (by decide +kernel) (by decide +kernel)
theorem cl_12_59 : Cond.laysFinal "CheeseCellarModel" "CheeseCellarModel" "best" "[I" ∈ gw_all := gw_t (i := 1102) (by decide +kernel) (by decide +kernel)
theorem cl_12_60 : Cond.laysFinal "CheeseCellarModel" "CheeseCellarModel" "costs" "[J" ∈ gw_all := gw_t (i := 1104) (by decide +kernel) (by decide +kernel)
theorem cl_12_61 : Cond.laysFinal "CheeseCellarModel" "CheeseCellarModel" "price" "[J" ∈ gw_all := gw_t (i := 1106) (by decide +kernel) (by decide +kernel)
theorem cl_12_62 : Cond.lays "CheeseCellarModel" "CheeseCellarModel" "marks" "I" ∈ gw_all := gw_t (i := 1108) (by decide +kernel) (by decide +kernel)
theorem cl_12_63 : Cond.laysFinal "CheeseCellarModel" "CheeseCellarModel" "marker" "[I" ∈ gw_all := gw_t (i := 1110) (by decide +kernel) (by decide +kernel)
theorem cl_12_64 : Cond.laysFinal "CheeseCellarModel" "CheeseCellarModel" "marked" "[I" ∈ gw_all := gw_t (i := 1112) (by decide +kernel) (by decide +kernel)
theorem cl_12_65 : Cond.laysFinal "CheeseCellarModel" "CheeseCellarModel" "markOf" "[I" ∈ gw_all := gw_t (i := 1114) (by decide +kernel) (by decide +kernel)
theorem cl_12_66 : Cond.laysFinal "CheeseCellarModel" "CheeseCellarModel" "toldOn" "[I" ∈ gw_all := gw_t (i := 1116) (by decide +kernel) (by decide +kernel)
theorem cl_12_67 : Cond.laysFinal "CheeseCellarModel" "CheeseCellarModel" "untoldOn" "[I" ∈ gw_all := gw_t (i := 1118) (by decide +kernel) (by decide +kernel)
theorem cl_12_68 : Cond.laysFinal "CheeseCellarModel" "CheeseCellarModel" "row" "[I" ∈ gw_all := gw_t (i := 1120) (by decide +kernel) (by decide +kernel)
theorem cw_12 : ∀ w ∈ u_ws "CheeseCellarModel" ct_12 69, w ∈ gw_all := by
  intro w hw
  obtain ⟨k, hk, rfl⟩ := List.mem_map.mp hw
  have hk := List.mem_range.mp hk
  match k, hk with
  | 0, _ => exact cl_12_0
  | 1, _ => exact cl_12_1
  | 2, _ => exact cl_12_2
  | 3, _ => exact cl_12_3
  | 4, _ => exact cl_12_4
  | 5, _ => exact cl_12_5
  | 6, _ => exact cl_12_6
  | 7, _ => exact cl_12_7
  | 8, _ => exact cl_12_8
  | 9, _ => exact cl_12_9
  | 10, _ => exact cl_12_10
  | 11, _ => exact cl_12_11
  | 12, _ => exact cl_12_12
  | 13, _ => exact cl_12_13
  | 14, _ => exact cl_12_14
  | 15, _ => exact cl_12_15
  | 16, _ => exact cl_12_16
  | 17, _ => exact cl_12_17
  | 18, _ => exact cl_12_18
  | 19, _ => exact cl_12_19
  | 20, _ => exact cl_12_20
  | 21, _ => exact cl_12_21
  | 22, _ => exact cl_12_22
  | 23, _ => exact cl_12_23
  | 24, _ => exact cl_12_24
  | 25, _ => exact cl_12_25
  | 26, _ => exact cl_12_26
  | 27, _ => exact cl_12_27
  | 28, _ => exact cl_12_28
  | 29, _ => exact cl_12_29
  | 30, _ => exact cl_12_30
  | 31, _ => exact cl_12_31
  | 32, _ => exact cl_12_32
  | 33, _ => exact cl_12_33
  | 34, _ => exact cl_12_34
  | 35, _ => exact cl_12_35
  | 36, _ => exact cl_12_36
  | 37, _ => exact cl_12_37
  | 38, _ => exact cl_12_38
  | 39, _ => exact cl_12_39
  | 40, _ => exact cl_12_40
  | 41, _ => exact cl_12_41
  | 42, _ => exact cl_12_42
  | 43, _ => exact cl_12_43
  | 44, _ => exact cl_12_44
  | 45, _ => exact cl_12_45
  | 46, _ => exact cl_12_46
  | 47, _ => exact cl_12_47
  | 48, _ => exact cl_12_48
  | 49, _ => exact cl_12_49
  | 50, _ => exact cl_12_50
  | 51, _ => exact cl_12_51
  | 52, _ => exact cl_12_52
  | 53, _ => exact cl_12_53
  | 54, _ => exact cl_12_54
  | 55, _ => exact cl_12_55
  | 56, _ => exact cl_12_56
  | 57, _ => exact cl_12_57
  | 58, _ => exact cl_12_58
  | 59, _ => exact cl_12_59
  | 60, _ => exact cl_12_60
  | 61, _ => exact cl_12_61
  | 62, _ => exact cl_12_62
  | 63, _ => exact cl_12_63
  | 64, _ => exact cl_12_64
  | 65, _ => exact cl_12_65
  | 66, _ => exact cl_12_66
  | 67, _ => exact cl_12_67
  | 68, _ => exact cl_12_68
  | k + 69, h => exact absurd h (by omega)
abbrev cl_all : List vw_C := [("CheeseCellar$Bands", ct_0, 4), ("CheeseCellar$Marks", ct_1, 7), ("CheeseCellar$Milk", ct_2, 3), ("CheeseCellar$Orders", ct_3, 8), ("CheeseCellar$Planner", ct_4, 12), ("CheeseCellar$Reader", ct_5, 8), ("CheeseCellar$Shelves", ct_6, 3), ("CheeseCellar$Stays", ct_7, 5), ("CheeseCellar$Tape", ct_8, 2), ("CheeseCellar$Tokens", ct_9, 4), ("CheeseCellar$Wheel", ct_10, 10), ("CheeseCellar", ct_11, 16), ("CheeseCellarModel", ct_12, 69)]
/-- a method: its name, bytes, locals, answer -/
abbrev mt_T : Type := MethodName × ByteArray × Nat × Option FieldType
def mt_K_init : mt_T := (⟨"CheeseCellar", "<init>", "()V"⟩, prog_1_method_1_code, 1, none)
def mt_Sh_init : mt_T := (⟨"CheeseCellar$Shelves", "<init>", "()V"⟩, prog_8_method_1_code, 1, none)
def mt_Ba_init : mt_T := (⟨"CheeseCellar$Bands", "<init>", "()V"⟩, prog_2_method_1_code, 1, none)
def mt_St_init : mt_T := (⟨"CheeseCellar$Stays", "<init>", "()V"⟩, prog_9_method_1_code, 1, none)
def mt_Ma_init : mt_T := (⟨"CheeseCellar$Marks", "<init>", "()V"⟩, prog_3_method_1_code, 1, none)
def mt_Pl_init : mt_T := (⟨"CheeseCellar$Planner", "<init>", "()V"⟩, prog_6_method_1_code, 1, none)
def mt_Ta_init : mt_T := (⟨"CheeseCellar$Tape", "<init>", "()V"⟩, prog_10_method_1_code, 1, none)
def mt_Re_init : mt_T := (⟨"CheeseCellar$Reader", "<init>", "()V"⟩, prog_7_method_1_code, 1, none)
def mt_To_init : mt_T := (⟨"CheeseCellar$Tokens", "<init>", "()V"⟩, prog_11_method_1_code, 1, none)
def mt_Or_init : mt_T := (⟨"CheeseCellar$Orders", "<init>", "()V"⟩, prog_5_method_1_code, 1, none)
def mt_K_air : mt_T := (⟨"CheeseCellar", "air", "(II)Z"⟩, prog_1_method_2_code, 3, (some .boolean))
def mt_K_isUpTo : mt_T := (⟨"CheeseCellar", "isUpTo", "(II)Z"⟩, prog_1_method_26_code, 2, (some .boolean))
def mt_Pl_spoil : mt_T := (⟨"CheeseCellar$Planner", "spoil", "()V"⟩, prog_6_method_9_code, 1, none)
def mt_K_damp : mt_T := (⟨"CheeseCellar", "damp", "(II)Z"⟩, prog_1_method_3_code, 3, (some .boolean))
def mt_K_milk : mt_T := (⟨"CheeseCellar", "milk", "(II)I"⟩, prog_1_method_4_code, 4, (some .int))
def mt_Mi_init : mt_T := (⟨"CheeseCellar$Milk", "<init>", "(II)V"⟩, prog_4_method_1_code, 3, none)
def mt_K_wheel : mt_T := (⟨"CheeseCellar", "wheel", "(IIIIIIII)I"⟩, prog_1_method_5_code, 10, (some .int))
def mt_Sh_hasRoom : mt_T := (⟨"CheeseCellar$Shelves", "hasRoom", "(I)Z"⟩, prog_8_method_5_code, 2, (some .boolean))
def mt_Sh_roomAt : mt_T := (⟨"CheeseCellar$Shelves", "roomAt", "(I)I"⟩, prog_8_method_4_code, 2, (some .int))
def mt_K_areMilksThere : mt_T := (⟨"CheeseCellar", "areMilksThere", "()Z"⟩, prog_1_method_32_code, 2, (some .boolean))
def mt_K_isMilkThere : mt_T := (⟨"CheeseCellar", "isMilkThere", "(I)Z"⟩, prog_1_method_33_code, 3, (some .boolean))
def mt_K_milkAt : mt_T := (⟨"CheeseCellar", "milkAt", "(I)LCheeseCellar$Milk;"⟩, prog_1_method_27_code, 2, (some (.object "CheeseCellar$Milk")))
def mt_St_haveRoomFor : mt_T := (⟨"CheeseCellar$Stays", "haveRoomFor", "(I)Z"⟩, prog_9_method_2_code, 2, (some .boolean))
def mt_K_makeWheel : mt_T := (⟨"CheeseCellar", "makeWheel", "(II)I"⟩, prog_1_method_34_code, 7, (some .int))
def mt_Wh_init : mt_T := (⟨"CheeseCellar$Wheel", "<init>", "(III)V"⟩, prog_12_method_1_code, 4, none)
def mt_K_layOn : mt_T := (⟨"CheeseCellar", "layOn", "(LCheeseCellar$Wheel;I)V"⟩, prog_1_method_35_code, 3, none)
def mt_St_begin : mt_T := (⟨"CheeseCellar$Stays", "begin", "(III)I"⟩, prog_9_method_3_code, 4, (some .int))
def mt_Sh_lay : mt_T := (⟨"CheeseCellar$Shelves", "lay", "(I)V"⟩, prog_8_method_6_code, 2, none)
def mt_K_sell : mt_T := (⟨"CheeseCellar", "sell", "(I)Z"⟩, prog_1_method_6_code, 3, (some .boolean))
def mt_K_lyingWheel : mt_T := (⟨"CheeseCellar", "lyingWheel", "(I)LCheeseCellar$Wheel;"⟩, prog_1_method_29_code, 3, (some (.object "CheeseCellar$Wheel")))
def mt_K_wheelAt : mt_T := (⟨"CheeseCellar", "wheelAt", "(I)LCheeseCellar$Wheel;"⟩, prog_1_method_28_code, 2, (some (.object "CheeseCellar$Wheel")))
def mt_St_finish : mt_T := (⟨"CheeseCellar$Stays", "finish", "(II)V"⟩, prog_9_method_4_code, 3, none)
def mt_Sh_lift : mt_T := (⟨"CheeseCellar$Shelves", "lift", "(I)V"⟩, prog_8_method_7_code, 2, none)
def mt_K_feed : mt_T := (⟨"CheeseCellar", "feed", "(IIIII)I"⟩, prog_1_method_7_code, 6, (some .int))
def mt_Ta_take : mt_T := (⟨"CheeseCellar$Tape", "take", "(I)V"⟩, prog_10_method_2_code, 3, none)
def mt_K_end : mt_T := (⟨"CheeseCellar", "end", "(I)I"⟩, prog_1_method_8_code, 2, (some .int))
def mt_K_orders : mt_T := (⟨"CheeseCellar", "orders", "()I"⟩, prog_1_method_9_code, 3, (some .int))
def mt_Re_read : mt_T := (⟨"CheeseCellar$Reader", "read", "(LCheeseCellar$Tape;LCheeseCellar$Orders;)Z"⟩, prog_7_method_2_code, 4, (some .boolean))
def mt_To_cut : mt_T := (⟨"CheeseCellar$Tokens", "cut", "(LCheeseCellar$Tape;)V"⟩, prog_11_method_2_code, 5, none)
def mt_To_behindBlanks : mt_T := (⟨"CheeseCellar$Tokens", "behindBlanks", "(LCheeseCellar$Tape;I)I"⟩, prog_11_method_4_code, 3, (some .int))
def mt_Ta_byteAt : mt_T := (⟨"CheeseCellar$Tape", "byteAt", "(I)I"⟩, prog_10_method_3_code, 2, (some .int))
def mt_To_keepOne : mt_T := (⟨"CheeseCellar$Tokens", "keepOne", "(LCheeseCellar$Tape;I)I"⟩, prog_11_method_3_code, 3, (some .int))
def mt_To_kindOf : mt_T := (⟨"CheeseCellar$Tokens", "kindOf", "(LCheeseCellar$Tape;I)I"⟩, prog_11_method_5_code, 4, (some .int))
def mt_To_lengthAt : mt_T := (⟨"CheeseCellar$Tokens", "lengthAt", "(LCheeseCellar$Tape;I)I"⟩, prog_11_method_6_code, 4, (some .int))
def mt_To_isSameSort : mt_T := (⟨"CheeseCellar$Tokens", "isSameSort", "(II)Z"⟩, prog_11_method_7_code, 2, (some .boolean))
def mt_To_isLetter : mt_T := (⟨"CheeseCellar$Tokens", "isLetter", "(I)Z"⟩, prog_11_method_11_code, 1, (some .boolean))
def mt_To_isDigit : mt_T := (⟨"CheeseCellar$Tokens", "isDigit", "(I)Z"⟩, prog_11_method_12_code, 1, (some .boolean))
def mt_To_wordAt : mt_T := (⟨"CheeseCellar$Tokens", "wordAt", "(LCheeseCellar$Tape;II)I"⟩, prog_11_method_9_code, 4, (some .int))
def mt_To_isWord : mt_T := (⟨"CheeseCellar$Tokens", "isWord", "(ILCheeseCellar$Tape;II)Z"⟩, prog_11_method_10_code, 6, (some .boolean))
def mt_To_isSign : mt_T := (⟨"CheeseCellar$Tokens", "isSign", "(I)Z"⟩, prog_11_method_13_code, 1, (some .boolean))
def mt_To_numberOf : mt_T := (⟨"CheeseCellar$Tokens", "numberOf", "(LCheeseCellar$Tape;I)I"⟩, prog_11_method_8_code, 4, (some .int))
def mt_Re_step : mt_T := (⟨"CheeseCellar$Reader", "step", "()V"⟩, prog_7_method_3_code, 1, none)
def mt_Or_clear : mt_T := (⟨"CheeseCellar$Orders", "clear", "()V"⟩, prog_5_method_2_code, 1, none)
def mt_Re_readLine : mt_T := (⟨"CheeseCellar$Reader", "readLine", "(LCheeseCellar$Orders;)Z"⟩, prog_7_method_6_code, 2, (some .boolean))
def mt_Re_pass : mt_T := (⟨"CheeseCellar$Reader", "pass", "(I)Z"⟩, prog_7_method_5_code, 2, (some .boolean))
def mt_Re_refuse : mt_T := (⟨"CheeseCellar$Reader", "refuse", "(I)Z"⟩, prog_7_method_4_code, 2, (some .boolean))
def mt_Re_readJoined : mt_T := (⟨"CheeseCellar$Reader", "readJoined", "(IILCheeseCellar$Orders;)Z"⟩, prog_7_method_7_code, 7, (some .boolean))
def mt_Re_readOne : mt_T := (⟨"CheeseCellar$Reader", "readOne", "(ILCheeseCellar$Orders;)Z"⟩, prog_7_method_9_code, 3, (some .boolean))
def mt_Or_addItem : mt_T := (⟨"CheeseCellar$Orders", "addItem", "(I)V"⟩, prog_5_method_3_code, 2, none)
def mt_Re_readComparison : mt_T := (⟨"CheeseCellar$Reader", "readComparison", "(ILCheeseCellar$Orders;)Z"⟩, prog_7_method_10_code, 4, (some .boolean))
def mt_Re_readTerm : mt_T := (⟨"CheeseCellar$Reader", "readTerm", "(ILCheeseCellar$Orders;)Z"⟩, prog_7_method_11_code, 5, (some .boolean))
def mt_Re_isJoint : mt_T := (⟨"CheeseCellar$Reader", "isJoint", "(I)Z"⟩, prog_7_method_8_code, 2, (some .boolean))
def mt_Or_closeLine : mt_T := (⟨"CheeseCellar$Orders", "closeLine", "(I)V"⟩, prog_5_method_4_code, 2, none)
def mt_K_fault : mt_T := (⟨"CheeseCellar", "fault", "(I)I"⟩, prog_1_method_10_code, 2, (some .int))
def mt_K_days : mt_T := (⟨"CheeseCellar", "days", "(I)I"⟩, prog_1_method_11_code, 4, (some .int))
def mt_JM_min : mt_T := (⟨"java/lang/Math", "min", "(II)I"⟩, prog_15_method_69_code, 2, (some .int))
def mt_K_passDay : mt_T := (⟨"CheeseCellar", "passDay", "()V"⟩, prog_1_method_37_code, 5, none)
def mt_Sh_airAt : mt_T := (⟨"CheeseCellar$Shelves", "airAt", "(I)I"⟩, prog_8_method_2_code, 2, (some .int))
def mt_Sh_dampAt : mt_T := (⟨"CheeseCellar$Shelves", "dampAt", "(I)I"⟩, prog_8_method_3_code, 2, (some .int))
def mt_Or_obeyFor : mt_T := (⟨"CheeseCellar$Orders", "obeyFor", "(LCheeseCellar$Wheel;III)V"⟩, prog_5_method_5_code, 7, none)
def mt_Or_nameThings : mt_T := (⟨"CheeseCellar$Orders", "nameThings", "(LCheeseCellar$Wheel;I)V"⟩, prog_5_method_6_code, 3, none)
def mt_Or_workOut : mt_T := (⟨"CheeseCellar$Orders", "workOut", "(II)I"⟩, prog_5_method_7_code, 5, (some .int))
def mt_Or_put : mt_T := (⟨"CheeseCellar$Orders", "put", "(I)V"⟩, prog_5_method_10_code, 2, none)
def mt_Or_applyToken : mt_T := (⟨"CheeseCellar$Orders", "applyToken", "(I)V"⟩, prog_5_method_8_code, 4, none)
def mt_Or_pick : mt_T := (⟨"CheeseCellar$Orders", "pick", "()I"⟩, prog_5_method_11_code, 1, (some .int))
def mt_Or_join : mt_T := (⟨"CheeseCellar$Orders", "join", "(III)I"⟩, prog_5_method_9_code, 3, (some .int))
def mt_Wh_doDeed : mt_T := (⟨"CheeseCellar$Wheel", "doDeed", "(I)V"⟩, prog_12_method_2_code, 2, none)
def mt_Wh_within : mt_T := (⟨"CheeseCellar$Wheel", "within", "(I)I"⟩, prog_12_method_5_code, 1, (some .int))
def mt_JM_max : mt_T := (⟨"java/lang/Math", "max", "(II)I"⟩, prog_15_method_65_code, 2, (some .int))
def mt_Wh_ripen : mt_T := (⟨"CheeseCellar$Wheel", "ripen", "(II)V"⟩, prog_12_method_3_code, 3, none)
def mt_Wh_ripeningBy : mt_T := (⟨"CheeseCellar$Wheel", "ripeningBy", "(II)I"⟩, prog_12_method_4_code, 3, (some .int))
def mt_K_of : mt_T := (⟨"CheeseCellar", "of", "(II)I"⟩, prog_1_method_12_code, 4, (some .int))
def mt_K_ageOf : mt_T := (⟨"CheeseCellar", "ageOf", "(LCheeseCellar$Wheel;)I"⟩, prog_1_method_30_code, 2, (some .int))
def mt_K_isSuited : mt_T := (⟨"CheeseCellar", "isSuited", "(LCheeseCellar$Wheel;I)Z"⟩, prog_1_method_31_code, 3, (some .boolean))
def mt_Ba_allow : mt_T := (⟨"CheeseCellar$Bands", "allow", "(III)Z"⟩, prog_2_method_4_code, 5, (some .boolean))
def mt_Ba_placeFor : mt_T := (⟨"CheeseCellar$Bands", "placeFor", "(II)I"⟩, prog_2_method_5_code, 6, (some .int))
def mt_K_from : mt_T := (⟨"CheeseCellar", "from", "(II)I"⟩, prog_1_method_13_code, 4, (some .int))
def mt_K_band : mt_T := (⟨"CheeseCellar", "band", "(IIII)I"⟩, prog_1_method_14_code, 6, (some .int))
def mt_Ba_haveRoomFor : mt_T := (⟨"CheeseCellar$Bands", "haveRoomFor", "(I)Z"⟩, prog_2_method_2_code, 2, (some .boolean))
def mt_Ba_keep : mt_T := (⟨"CheeseCellar$Bands", "keep", "(IIII)I"⟩, prog_2_method_3_code, 6, (some .int))
def mt_K_suits : mt_T := (⟨"CheeseCellar", "suits", "(II)I"⟩, prog_1_method_15_code, 4, (some .int))
def mt_K_move : mt_T := (⟨"CheeseCellar", "move", "(II)Z"⟩, prog_1_method_16_code, 4, (some .boolean))
def mt_K_takeTo : mt_T := (⟨"CheeseCellar", "takeTo", "(LCheeseCellar$Wheel;I)V"⟩, prog_1_method_36_code, 3, none)
def mt_K_plan : mt_T := (⟨"CheeseCellar", "plan", "()I"⟩, prog_1_method_17_code, 3, (some .int))
def mt_Pl_start : mt_T := (⟨"CheeseCellar$Planner", "start", "(LCheeseCellar$Shelves;)V"⟩, prog_6_method_2_code, 3, none)
def mt_JA_fill_J : mt_T := (⟨"java/util/Arrays", "fill", "([JJ)V"⟩, prog_19_method_101_code, 5, none)
def mt_Pl_isFull : mt_T := (⟨"CheeseCellar$Planner", "isFull", "()Z"⟩, prog_6_method_3_code, 1, (some .boolean))
def mt_K_askPlanFor : mt_T := (⟨"CheeseCellar", "askPlanFor", "(LCheeseCellar$Wheel;)V"⟩, prog_1_method_38_code, 3, none)
def mt_Pl_ask : mt_T := (⟨"CheeseCellar$Planner", "ask", "(II)V"⟩, prog_6_method_4_code, 3, none)
def mt_Pl_allowLast : mt_T := (⟨"CheeseCellar$Planner", "allowLast", "(I)V"⟩, prog_6_method_5_code, 6, none)
def mt_Pl_wayBetween : mt_T := (⟨"CheeseCellar$Planner", "wayBetween", "(II)I"⟩, prog_6_method_11_code, 4, (some .int))
def mt_JM_abs : mt_T := (⟨"java/lang/Math", "abs", "(I)I"⟩, prog_15_method_59_code, 1, (some .int))
def mt_Pl_findBest : mt_T := (⟨"CheeseCellar$Planner", "findBest", "()I"⟩, prog_6_method_6_code, 3, (some .int))
def mt_Pl_placeRow : mt_T := (⟨"CheeseCellar$Planner", "placeRow", "(I)Z"⟩, prog_6_method_13_code, 4, (some .boolean))
def mt_Pl_spread : mt_T := (⟨"CheeseCellar$Planner", "spread", "(I)Z"⟩, prog_6_method_14_code, 8, (some .boolean))
def mt_Pl_cheapestWithRoom : mt_T := (⟨"CheeseCellar$Planner", "cheapestWithRoom", "()I"⟩, prog_6_method_15_code, 3, (some .int))
def mt_Pl_shiftChain : mt_T := (⟨"CheeseCellar$Planner", "shiftChain", "(II)V"⟩, prog_6_method_16_code, 7, none)
def mt_Pl_keepPlan : mt_T := (⟨"CheeseCellar$Planner", "keepPlan", "()V"⟩, prog_6_method_12_code, 2, none)
def mt_JA_fill_I : mt_T := (⟨"java/util/Arrays", "fill", "([II)V"⟩, prog_19_method_103_code, 4, none)
def mt_K_planned : mt_T := (⟨"CheeseCellar", "planned", "(I)I"⟩, prog_1_method_18_code, 2, (some .int))
def mt_Pl_shelfFor : mt_T := (⟨"CheeseCellar$Planner", "shelfFor", "(I)I"⟩, prog_6_method_7_code, 2, (some .int))
def mt_K_carry : mt_T := (⟨"CheeseCellar", "carry", "()I"⟩, prog_1_method_19_code, 5, (some .int))
def mt_Pl_canBeCarried : mt_T := (⟨"CheeseCellar$Planner", "canBeCarried", "()Z"⟩, prog_6_method_8_code, 1, (some .boolean))
def mt_Pl_forget : mt_T := (⟨"CheeseCellar$Planner", "forget", "()V"⟩, prog_6_method_10_code, 1, none)
def mt_K_mark : mt_T := (⟨"CheeseCellar", "mark", "(III)I"⟩, prog_1_method_20_code, 5, (some .int))
def mt_Ma_areFull : mt_T := (⟨"CheeseCellar$Marks", "areFull", "()Z"⟩, prog_3_method_2_code, 1, (some .boolean))
def mt_Ma_keep : mt_T := (⟨"CheeseCellar$Marks", "keep", "(IIII)I"⟩, prog_3_method_3_code, 5, (some .int))
def mt_K_untell : mt_T := (⟨"CheeseCellar", "untell", "(I)Z"⟩, prog_1_method_21_code, 2, (some .boolean))
def mt_Ma_takeBack : mt_T := (⟨"CheeseCellar$Marks", "takeBack", "(II)Z"⟩, prog_3_method_4_code, 3, (some .boolean))
def mt_K_grade : mt_T := (⟨"CheeseCellar", "grade", "(II)I"⟩, prog_1_method_22_code, 3, (some .int))
def mt_Ma_middleOf : mt_T := (⟨"CheeseCellar$Marks", "middleOf", "(II)I"⟩, prog_3_method_5_code, 7, (some .int))
def mt_Ma_gatherLast : mt_T := (⟨"CheeseCellar$Marks", "gatherLast", "(II)I"⟩, prog_3_method_6_code, 5, (some .int))
def mt_Ma_isKnown : mt_T := (⟨"CheeseCellar$Marks", "isKnown", "(II)Z"⟩, prog_3_method_7_code, 3, (some .boolean))
def mt_Ma_gradersWith : mt_T := (⟨"CheeseCellar$Marks", "gradersWith", "(I)I"⟩, prog_3_method_8_code, 4, (some .int))
def mt_K_beside : mt_T := (⟨"CheeseCellar", "beside", "(II)I"⟩, prog_1_method_23_code, 5, (some .int))
def mt_St_besideAny : mt_T := (⟨"CheeseCellar$Stays", "besideAny", "(JI)J"⟩, prog_9_method_5_code, 7, (some .long))
def mt_St_besideStay : mt_T := (⟨"CheeseCellar$Stays", "besideStay", "(II)J"⟩, prog_9_method_6_code, 6, (some .long))
def mt_St_shareNight : mt_T := (⟨"CheeseCellar$Stays", "shareNight", "(III)Z"⟩, prog_9_method_7_code, 4, (some .boolean))
def mt_St_nightsUpTo : mt_T := (⟨"CheeseCellar$Stays", "nightsUpTo", "(II)I"⟩, prog_9_method_8_code, 3, (some .int))
def mt_K_reached : mt_T := (⟨"CheeseCellar", "reached", "(I)J"⟩, prog_1_method_24_code, 4, (some .long))
def mt_K_wheelsFrom : mt_T := (⟨"CheeseCellar", "wheelsFrom", "(I)J"⟩, prog_1_method_39_code, 6, (some .long))
def mt_K_about : mt_T := (⟨"CheeseCellar", "about", "(I)I"⟩, prog_1_method_25_code, 2, (some .int))
def mt_Mo_init : mt_T := (⟨"CheeseCellarModel", "<init>", "()V"⟩, prog_14_method_1_code, 1, none)
def mt_Mo_air : mt_T := (⟨"CheeseCellarModel", "air", "(II)Z"⟩, prog_14_method_3_code, 3, (some .boolean))
def mt_Mo_isShelf : mt_T := (⟨"CheeseCellarModel", "isShelf", "(I)Z"⟩, prog_14_method_2_code, 1, (some .boolean))
def mt_Mo_damp : mt_T := (⟨"CheeseCellarModel", "damp", "(II)Z"⟩, prog_14_method_4_code, 3, (some .boolean))
def mt_Mo_milk : mt_T := (⟨"CheeseCellarModel", "milk", "(II)I"⟩, prog_14_method_5_code, 3, (some .int))
def mt_Mo_wheel : mt_T := (⟨"CheeseCellarModel", "wheel", "(IIIIIIII)I"⟩, prog_14_method_10_code, 11, (some .int))
def mt_Mo_lying : mt_T := (⟨"CheeseCellarModel", "lying", "(I)I"⟩, prog_14_method_7_code, 4, (some .int))
def mt_Mo_canGive : mt_T := (⟨"CheeseCellarModel", "canGive", "(II)Z"⟩, prog_14_method_6_code, 3, (some .boolean))
def mt_Mo_give : mt_T := (⟨"CheeseCellarModel", "give", "(III)V"⟩, prog_14_method_8_code, 4, none)
def mt_Mo_lay : mt_T := (⟨"CheeseCellarModel", "lay", "(II)V"⟩, prog_14_method_9_code, 3, none)
def mt_Mo_sell : mt_T := (⟨"CheeseCellarModel", "sell", "(I)Z"⟩, prog_14_method_13_code, 2, (some .boolean))
def mt_Mo_lies : mt_T := (⟨"CheeseCellarModel", "lies", "(I)Z"⟩, prog_14_method_12_code, 2, (some .boolean))
def mt_Mo_isWheel : mt_T := (⟨"CheeseCellarModel", "isWheel", "(I)Z"⟩, prog_14_method_11_code, 2, (some .boolean))
def mt_Mo_feed : mt_T := (⟨"CheeseCellarModel", "feed", "(IIIII)I"⟩, prog_14_method_14_code, 6, (some .int))
def mt_Mo_four : mt_T := (⟨"CheeseCellarModel", "four", "(I)V"⟩, prog_14_method_15_code, 3, none)
def mt_Mo_end : mt_T := (⟨"CheeseCellarModel", "end", "(I)I"⟩, prog_14_method_16_code, 2, (some .int))
def mt_Mo_orders : mt_T := (⟨"CheeseCellarModel", "orders", "()I"⟩, prog_14_method_35_code, 2, (some .int))
def mt_Mo_next : mt_T := (⟨"CheeseCellarModel", "next", "()V"⟩, prog_14_method_21_code, 3, none)
def mt_Mo_here : mt_T := (⟨"CheeseCellarModel", "here", "(I)I"⟩, prog_14_method_17_code, 2, (some .int))
def mt_Mo_isLetter : mt_T := (⟨"CheeseCellarModel", "isLetter", "(I)Z"⟩, prog_14_method_18_code, 1, (some .boolean))
def mt_Mo_isDigit : mt_T := (⟨"CheeseCellarModel", "isDigit", "(I)Z"⟩, prog_14_method_19_code, 1, (some .boolean))
def mt_Mo_isSign : mt_T := (⟨"CheeseCellarModel", "isSign", "(I)Z"⟩, prog_14_method_20_code, 1, (some .boolean))
def mt_Mo_isWord : mt_T := (⟨"CheeseCellarModel", "isWord", "(J)Z"⟩, prog_14_method_23_code, 3, (some .boolean))
def mt_Mo_wrong : mt_T := (⟨"CheeseCellarModel", "wrong", "(I)V"⟩, prog_14_method_22_code, 2, none)
def mt_Mo_readE : mt_T := (⟨"CheeseCellarModel", "readE", "()V"⟩, prog_14_method_31_code, 2, none)
def mt_Mo_isOpen : mt_T := (⟨"CheeseCellarModel", "isOpen", "()Z"⟩, prog_14_method_30_code, 3, (some .boolean))
def mt_Mo_sign : mt_T := (⟨"CheeseCellarModel", "sign", "()I"⟩, prog_14_method_33_code, 2, (some .int))
def mt_Mo_settle : mt_T := (⟨"CheeseCellarModel", "settle", "(I)V"⟩, prog_14_method_29_code, 2, none)
def mt_Mo_pop : mt_T := (⟨"CheeseCellarModel", "pop", "()V"⟩, prog_14_method_28_code, 1, none)
def mt_Mo_step : mt_T := (⟨"CheeseCellarModel", "step", "(II)V"⟩, prog_14_method_26_code, 3, none)
def mt_Mo_hold : mt_T := (⟨"CheeseCellarModel", "hold", "(I)V"⟩, prog_14_method_27_code, 2, none)
def mt_Mo_settleOnes : mt_T := (⟨"CheeseCellarModel", "settleOnes", "(Z)V"⟩, prog_14_method_34_code, 4, none)
def mt_Mo_operand : mt_T := (⟨"CheeseCellarModel", "operand", "(I)I"⟩, prog_14_method_32_code, 4, (some .int))
def mt_Mo_isKey : mt_T := (⟨"CheeseCellarModel", "isKey", "()Z"⟩, prog_14_method_24_code, 1, (some .boolean))
def mt_Mo_named : mt_T := (⟨"CheeseCellarModel", "named", "()I"⟩, prog_14_method_25_code, 1, (some .int))
def mt_Mo_fault : mt_T := (⟨"CheeseCellarModel", "fault", "(I)I"⟩, prog_14_method_36_code, 2, (some .int))
def mt_Mo_days : mt_T := (⟨"CheeseCellarModel", "days", "(I)I"⟩, prog_14_method_41_code, 4, (some .int))
def mt_Mo_care : mt_T := (⟨"CheeseCellarModel", "care", "(I)V"⟩, prog_14_method_40_code, 4, none)
def mt_Mo_tell : mt_T := (⟨"CheeseCellarModel", "tell", "(I)V"⟩, prog_14_method_38_code, 3, none)
def mt_Mo_holds : mt_T := (⟨"CheeseCellarModel", "holds", "(I)Z"⟩, prog_14_method_37_code, 7, (some .boolean))
def mt_Mo_within : mt_T := (⟨"CheeseCellarModel", "within", "(I)I"⟩, prog_14_method_39_code, 1, (some .int))
def mt_Mo_of : mt_T := (⟨"CheeseCellarModel", "of", "(II)I"⟩, prog_14_method_42_code, 3, (some .int))
def mt_Mo_doesSuit : mt_T := (⟨"CheeseCellarModel", "doesSuit", "(II)Z"⟩, prog_14_method_45_code, 6, (some .boolean))
def mt_Mo_from : mt_T := (⟨"CheeseCellarModel", "from", "(II)I"⟩, prog_14_method_43_code, 3, (some .int))
def mt_Mo_band : mt_T := (⟨"CheeseCellarModel", "band", "(IIII)I"⟩, prog_14_method_44_code, 6, (some .int))
def mt_Mo_suits : mt_T := (⟨"CheeseCellarModel", "suits", "(II)I"⟩, prog_14_method_46_code, 3, (some .int))
def mt_Mo_move : mt_T := (⟨"CheeseCellarModel", "move", "(II)Z"⟩, prog_14_method_48_code, 3, (some .boolean))
def mt_Mo_go : mt_T := (⟨"CheeseCellarModel", "go", "(II)V"⟩, prog_14_method_47_code, 3, none)
def mt_Mo_plan : mt_T := (⟨"CheeseCellarModel", "plan", "()I"⟩, prog_14_method_55_code, 8, (some .int))
def mt_Mo_seek : mt_T := (⟨"CheeseCellarModel", "seek", "()Z"⟩, prog_14_method_54_code, 12, (some .boolean))
def mt_Mo_costOf : mt_T := (⟨"CheeseCellarModel", "costOf", "(II)J"⟩, prog_14_method_50_code, 9, (some .long))
def mt_Mo_far : mt_T := (⟨"CheeseCellarModel", "far", "(II)I"⟩, prog_14_method_49_code, 2, (some .int))
def mt_Mo_many : mt_T := (⟨"CheeseCellarModel", "many", "(I)I"⟩, prog_14_method_52_code, 3, (some .int))
def mt_Mo_onOne : mt_T := (⟨"CheeseCellarModel", "onOne", "(II)J"⟩, prog_14_method_53_code, 8, (some .long))
def mt_Mo_isIn : mt_T := (⟨"CheeseCellarModel", "isIn", "(II)Z"⟩, prog_14_method_51_code, 3, (some .boolean))
def mt_Mo_planned : mt_T := (⟨"CheeseCellarModel", "planned", "(I)I"⟩, prog_14_method_56_code, 3, (some .int))
def mt_Mo_carry : mt_T := (⟨"CheeseCellarModel", "carry", "()I"⟩, prog_14_method_57_code, 2, (some .int))
def mt_Mo_mark : mt_T := (⟨"CheeseCellarModel", "mark", "(III)I"⟩, prog_14_method_58_code, 4, (some .int))
def mt_Mo_untell : mt_T := (⟨"CheeseCellarModel", "untell", "(I)Z"⟩, prog_14_method_59_code, 2, (some .boolean))
def mt_Mo_grade : mt_T := (⟨"CheeseCellarModel", "grade", "(II)I"⟩, prog_14_method_60_code, 7, (some .int))
def mt_Mo_beside : mt_T := (⟨"CheeseCellarModel", "beside", "(II)I"⟩, prog_14_method_62_code, 3, (some .int))
def mt_Mo_layBeside : mt_T := (⟨"CheeseCellarModel", "layBeside", "(II)Z"⟩, prog_14_method_61_code, 8, (some .boolean))
def mt_Mo_reached : mt_T := (⟨"CheeseCellarModel", "reached", "(I)J"⟩, prog_14_method_63_code, 7, (some .long))
def mt_Mo_about : mt_T := (⟨"CheeseCellarModel", "about", "(I)I"⟩, prog_14_method_64_code, 2, (some .int))
def mt_Law : mt_T := (x, code, 4, ret)
end
section
/-! words of this program (printed by wip/gen/names.py) -/
theorem it_Law : Cond.initialized "CheeseCellarLaw" ∈ gw_all := gw_t (i := 0) (by decide +kernel) (by decide +kernel)
theorem it_K : Cond.initialized "CheeseCellar" ∈ gw_all := gw_t (i := 1) (by decide +kernel) (by decide +kernel)
theorem it_Sh : Cond.initialized "CheeseCellar$Shelves" ∈ gw_all := gw_t (i := 2) (by decide +kernel) (by decide +kernel)
theorem it_Ba : Cond.initialized "CheeseCellar$Bands" ∈ gw_all := gw_t (i := 3) (by decide +kernel) (by decide +kernel)
theorem it_St : Cond.initialized "CheeseCellar$Stays" ∈ gw_all := gw_t (i := 4) (by decide +kernel) (by decide +kernel)
theorem it_Ma : Cond.initialized "CheeseCellar$Marks" ∈ gw_all := gw_t (i := 5) (by decide +kernel) (by decide +kernel)
theorem it_Pl : Cond.initialized "CheeseCellar$Planner" ∈ gw_all := gw_t (i := 6) (by decide +kernel) (by decide +kernel)
theorem it_Ta : Cond.initialized "CheeseCellar$Tape" ∈ gw_all := gw_t (i := 7) (by decide +kernel) (by decide +kernel)
theorem it_Re : Cond.initialized "CheeseCellar$Reader" ∈ gw_all := gw_t (i := 8) (by decide +kernel) (by decide +kernel)
theorem it_To : Cond.initialized "CheeseCellar$Tokens" ∈ gw_all := gw_t (i := 9) (by decide +kernel) (by decide +kernel)
theorem it_Or : Cond.initialized "CheeseCellar$Orders" ∈ gw_all := gw_t (i := 10) (by decide +kernel) (by decide +kernel)
theorem it_Mo : Cond.initialized "CheeseCellarModel" ∈ gw_all := gw_t (i := 11) (by decide +kernel) (by decide +kernel)
theorem it_Mi : Cond.initialized "CheeseCellar$Milk" ∈ gw_all := gw_t (i := 12) (by decide +kernel) (by decide +kernel)
theorem it_Wh : Cond.initialized "CheeseCellar$Wheel" ∈ gw_all := gw_t (i := 13) (by decide +kernel) (by decide +kernel)
theorem it_JS : Cond.initialized "java/lang/String" ∈ gw_all := gw_t (i := 14) (by decide +kernel) (by decide +kernel)
theorem it_JL : Cond.initialized "java/lang/StringLatin1" ∈ gw_all := gw_t (i := 15) (by decide +kernel) (by decide +kernel)
theorem it_JP : Cond.initialized "jdk/internal/util/Preconditions" ∈ gw_all := gw_t (i := 16) (by decide +kernel) (by decide +kernel)
theorem it_JU : Cond.initialized "java/lang/StringUTF16" ∈ gw_all := gw_t (i := 17) (by decide +kernel) (by decide +kernel)
theorem it_JM : Cond.initialized "java/lang/Math" ∈ gw_all := gw_t (i := 18) (by decide +kernel) (by decide +kernel)
theorem it_JA : Cond.initialized "java/util/Arrays" ∈ gw_all := gw_t (i := 19) (by decide +kernel) (by decide +kernel)
theorem kl_Law_7 : Cond.classLink "CheeseCellarLaw" 7 "CheeseCellar" ∈ gw_all := gw_t (i := 20) (by decide +kernel) (by decide +kernel)
theorem in_K : Cond.instantiable "CheeseCellar" 16 ∈ gw_all := gw_t (i := 21) (by decide +kernel) (by decide +kernel)
theorem ml_Law_9 : Cond.methodLink "CheeseCellarLaw" 9 ⟨"CheeseCellar","<init>","()V"⟩ ∈ gw_all := gw_t (i := 22) (by decide +kernel) (by decide +kernel)
theorem im_K_init : Cond.instanceMethod ⟨"CheeseCellar","<init>","()V"⟩ ∈ gw_all := gw_t (i := 23) (by decide +kernel) (by decide +kernel)
theorem co_K_init : Cond.code ⟨"CheeseCellar","<init>","()V"⟩ prog_1_method_1_code 1 (Option.none : Option FieldType) ∈ gw_all := gw_t (i := 24) (by decide +kernel) (by decide +kernel)
theorem ml_K_1 : Cond.methodLink "CheeseCellar" 1 ⟨"java/lang/Object","<init>","()V"⟩ ∈ gw_all := gw_t (i := 25) (by decide +kernel) (by decide +kernel)
theorem im_JO_init : Cond.instanceMethod ⟨"java/lang/Object","<init>","()V"⟩ ∈ gw_all := gw_t (i := 26) (by decide +kernel) (by decide +kernel)
theorem co_JO_init : Cond.code ⟨"java/lang/Object","<init>","()V"⟩ object_method_1_code 1 (Option.none : Option FieldType) ∈ gw_all := gw_t (i := 27) (by decide +kernel) (by decide +kernel)
theorem kl_K_7 : Cond.classLink "CheeseCellar" 7 "CheeseCellar$Shelves" ∈ gw_all := gw_t (i := 28) (by decide +kernel) (by decide +kernel)
theorem in_Sh : Cond.instantiable "CheeseCellar$Shelves" 3 ∈ gw_all := gw_t (i := 29) (by decide +kernel) (by decide +kernel)
theorem im_Sh_init : Cond.instanceMethod ⟨"CheeseCellar$Shelves","<init>","()V"⟩ ∈ gw_all := gw_t (i := 31) (by decide +kernel) (by decide +kernel)
theorem co_Sh_init : Cond.code ⟨"CheeseCellar$Shelves","<init>","()V"⟩ prog_8_method_1_code 1 (Option.none : Option FieldType) ∈ gw_all := gw_t (i := 32) (by decide +kernel) (by decide +kernel)
theorem ml_Sh_3 : Cond.methodLink "CheeseCellar$Shelves" 3 ⟨"java/lang/Object","<init>","()V"⟩ ∈ gw_all := gw_t (i := 33) (by decide +kernel) (by decide +kernel)
theorem fl_Sh_9 : Cond.fieldLink "CheeseCellar$Shelves" 9 "CheeseCellar$Shelves" "airs" "[I" ∈ gw_all := gw_t (i := 34) (by decide +kernel) (by decide +kernel)
theorem fl_K_91 : Cond.fieldLink "CheeseCellar" 91 "CheeseCellar$Shelves" "airs" "[I" ∈ gw_all := gw_t (i := 35) (by decide +kernel) (by decide +kernel)
theorem fl_Sh_15 : Cond.fieldLink "CheeseCellar$Shelves" 15 "CheeseCellar$Shelves" "damps" "[I" ∈ gw_all := gw_t (i := 36) (by decide +kernel) (by decide +kernel)
theorem fl_K_97 : Cond.fieldLink "CheeseCellar" 97 "CheeseCellar$Shelves" "damps" "[I" ∈ gw_all := gw_t (i := 37) (by decide +kernel) (by decide +kernel)
theorem fl_Sh_18 : Cond.fieldLink "CheeseCellar$Shelves" 18 "CheeseCellar$Shelves" "lying" "[I" ∈ gw_all := gw_t (i := 38) (by decide +kernel) (by decide +kernel)
theorem ac_int : Cond.arrayClass FieldType.int ∈ gw_all := gw_t (i := 46) (by decide +kernel) (by decide +kernel)
theorem kl_K_16 : Cond.classLink "CheeseCellar" 16 "CheeseCellar$Milk" ∈ gw_all := gw_t (i := 47) (by decide +kernel) (by decide +kernel)
theorem kl_K_22 : Cond.classLink "CheeseCellar" 22 "CheeseCellar$Wheel" ∈ gw_all := gw_t (i := 49) (by decide +kernel) (by decide +kernel)
theorem kl_K_28 : Cond.classLink "CheeseCellar" 28 "CheeseCellar$Bands" ∈ gw_all := gw_t (i := 51) (by decide +kernel) (by decide +kernel)
theorem in_Ba : Cond.instantiable "CheeseCellar$Bands" 4 ∈ gw_all := gw_t (i := 52) (by decide +kernel) (by decide +kernel)
theorem im_Ba_init : Cond.instanceMethod ⟨"CheeseCellar$Bands","<init>","()V"⟩ ∈ gw_all := gw_t (i := 54) (by decide +kernel) (by decide +kernel)
theorem co_Ba_init : Cond.code ⟨"CheeseCellar$Bands","<init>","()V"⟩ prog_2_method_1_code 1 (Option.none : Option FieldType) ∈ gw_all := gw_t (i := 55) (by decide +kernel) (by decide +kernel)
theorem ml_Ba_3 : Cond.methodLink "CheeseCellar$Bands" 3 ⟨"java/lang/Object","<init>","()V"⟩ ∈ gw_all := gw_t (i := 56) (by decide +kernel) (by decide +kernel)
theorem fl_Ba_9 : Cond.fieldLink "CheeseCellar$Bands" 9 "CheeseCellar$Bands" "counts" "[I" ∈ gw_all := gw_t (i := 57) (by decide +kernel) (by decide +kernel)
theorem fl_Ba_15 : Cond.fieldLink "CheeseCellar$Bands" 15 "CheeseCellar$Bands" "ages" "[I" ∈ gw_all := gw_t (i := 58) (by decide +kernel) (by decide +kernel)
theorem fl_Ba_18 : Cond.fieldLink "CheeseCellar$Bands" 18 "CheeseCellar$Bands" "leasts" "[I" ∈ gw_all := gw_t (i := 59) (by decide +kernel) (by decide +kernel)
theorem fl_Ba_21 : Cond.fieldLink "CheeseCellar$Bands" 21 "CheeseCellar$Bands" "mosts" "[I" ∈ gw_all := gw_t (i := 60) (by decide +kernel) (by decide +kernel)
theorem kl_K_35 : Cond.classLink "CheeseCellar" 35 "CheeseCellar$Stays" ∈ gw_all := gw_t (i := 70) (by decide +kernel) (by decide +kernel)
theorem in_St : Cond.instantiable "CheeseCellar$Stays" 5 ∈ gw_all := gw_t (i := 71) (by decide +kernel) (by decide +kernel)
theorem im_St_init : Cond.instanceMethod ⟨"CheeseCellar$Stays","<init>","()V"⟩ ∈ gw_all := gw_t (i := 73) (by decide +kernel) (by decide +kernel)
theorem co_St_init : Cond.code ⟨"CheeseCellar$Stays","<init>","()V"⟩ prog_9_method_1_code 1 (Option.none : Option FieldType) ∈ gw_all := gw_t (i := 74) (by decide +kernel) (by decide +kernel)
theorem ml_St_3 : Cond.methodLink "CheeseCellar$Stays" 3 ⟨"java/lang/Object","<init>","()V"⟩ ∈ gw_all := gw_t (i := 75) (by decide +kernel) (by decide +kernel)
theorem fl_St_9 : Cond.fieldLink "CheeseCellar$Stays" 9 "CheeseCellar$Stays" "wheelOf" "[I" ∈ gw_all := gw_t (i := 76) (by decide +kernel) (by decide +kernel)
theorem fl_St_15 : Cond.fieldLink "CheeseCellar$Stays" 15 "CheeseCellar$Stays" "shelfOf" "[I" ∈ gw_all := gw_t (i := 77) (by decide +kernel) (by decide +kernel)
theorem fl_St_18 : Cond.fieldLink "CheeseCellar$Stays" 18 "CheeseCellar$Stays" "beganOn" "[I" ∈ gw_all := gw_t (i := 78) (by decide +kernel) (by decide +kernel)
theorem fl_St_21 : Cond.fieldLink "CheeseCellar$Stays" 21 "CheeseCellar$Stays" "leftOn" "[I" ∈ gw_all := gw_t (i := 79) (by decide +kernel) (by decide +kernel)
theorem fl_St_24 : Cond.fieldLink "CheeseCellar$Stays" 24 "CheeseCellar$Stays" "count" "I" ∈ gw_all := gw_t (i := 80) (by decide +kernel) (by decide +kernel)
theorem fl_K_272 : Cond.fieldLink "CheeseCellar" 272 "CheeseCellar$Stays" "count" "I" ∈ gw_all := gw_t (i := 81) (by decide +kernel) (by decide +kernel)
theorem kl_K_42 : Cond.classLink "CheeseCellar" 42 "CheeseCellar$Marks" ∈ gw_all := gw_t (i := 93) (by decide +kernel) (by decide +kernel)
theorem in_Ma : Cond.instantiable "CheeseCellar$Marks" 7 ∈ gw_all := gw_t (i := 94) (by decide +kernel) (by decide +kernel)
theorem im_Ma_init : Cond.instanceMethod ⟨"CheeseCellar$Marks","<init>","()V"⟩ ∈ gw_all := gw_t (i := 96) (by decide +kernel) (by decide +kernel)
theorem co_Ma_init : Cond.code ⟨"CheeseCellar$Marks","<init>","()V"⟩ prog_3_method_1_code 1 (Option.none : Option FieldType) ∈ gw_all := gw_t (i := 97) (by decide +kernel) (by decide +kernel)
theorem ml_Ma_3 : Cond.methodLink "CheeseCellar$Marks" 3 ⟨"java/lang/Object","<init>","()V"⟩ ∈ gw_all := gw_t (i := 98) (by decide +kernel) (by decide +kernel)
theorem fl_Ma_9 : Cond.fieldLink "CheeseCellar$Marks" 9 "CheeseCellar$Marks" "graderOf" "[I" ∈ gw_all := gw_t (i := 99) (by decide +kernel) (by decide +kernel)
theorem fl_Ma_15 : Cond.fieldLink "CheeseCellar$Marks" 15 "CheeseCellar$Marks" "wheelOf" "[I" ∈ gw_all := gw_t (i := 100) (by decide +kernel) (by decide +kernel)
theorem fl_Ma_18 : Cond.fieldLink "CheeseCellar$Marks" 18 "CheeseCellar$Marks" "valueOf" "[I" ∈ gw_all := gw_t (i := 101) (by decide +kernel) (by decide +kernel)
theorem fl_Ma_21 : Cond.fieldLink "CheeseCellar$Marks" 21 "CheeseCellar$Marks" "toldOn" "[I" ∈ gw_all := gw_t (i := 102) (by decide +kernel) (by decide +kernel)
theorem fl_Ma_24 : Cond.fieldLink "CheeseCellar$Marks" 24 "CheeseCellar$Marks" "untoldOn" "[I" ∈ gw_all := gw_t (i := 103) (by decide +kernel) (by decide +kernel)
theorem fl_Ma_27 : Cond.fieldLink "CheeseCellar$Marks" 27 "CheeseCellar$Marks" "lastBy" "[I" ∈ gw_all := gw_t (i := 104) (by decide +kernel) (by decide +kernel)
theorem fl_Ma_30 : Cond.fieldLink "CheeseCellar$Marks" 30 "CheeseCellar$Marks" "count" "I" ∈ gw_all := gw_t (i := 105) (by decide +kernel) (by decide +kernel)
theorem fl_K_269 : Cond.fieldLink "CheeseCellar" 269 "CheeseCellar$Marks" "count" "I" ∈ gw_all := gw_t (i := 106) (by decide +kernel) (by decide +kernel)
theorem kl_K_49 : Cond.classLink "CheeseCellar" 49 "CheeseCellar$Planner" ∈ gw_all := gw_t (i := 122) (by decide +kernel) (by decide +kernel)
theorem in_Pl : Cond.instantiable "CheeseCellar$Planner" 12 ∈ gw_all := gw_t (i := 123) (by decide +kernel) (by decide +kernel)
theorem im_Pl_init : Cond.instanceMethod ⟨"CheeseCellar$Planner","<init>","()V"⟩ ∈ gw_all := gw_t (i := 125) (by decide +kernel) (by decide +kernel)
theorem co_Pl_init : Cond.code ⟨"CheeseCellar$Planner","<init>","()V"⟩ prog_6_method_1_code 1 (Option.none : Option FieldType) ∈ gw_all := gw_t (i := 126) (by decide +kernel) (by decide +kernel)
theorem ml_Pl_5 : Cond.methodLink "CheeseCellar$Planner" 5 ⟨"java/lang/Object","<init>","()V"⟩ ∈ gw_all := gw_t (i := 127) (by decide +kernel) (by decide +kernel)
theorem fl_Pl_11 : Cond.fieldLink "CheeseCellar$Planner" 11 "CheeseCellar$Planner" "wheelOf" "[I" ∈ gw_all := gw_t (i := 128) (by decide +kernel) (by decide +kernel)
theorem fl_Pl_17 : Cond.fieldLink "CheeseCellar$Planner" 17 "CheeseCellar$Planner" "homeOf" "[I" ∈ gw_all := gw_t (i := 129) (by decide +kernel) (by decide +kernel)
theorem fl_Pl_20 : Cond.fieldLink "CheeseCellar$Planner" 20 "CheeseCellar$Planner" "shelfOf" "[I" ∈ gw_all := gw_t (i := 130) (by decide +kernel) (by decide +kernel)
theorem fl_Pl_23 : Cond.fieldLink "CheeseCellar$Planner" 23 "CheeseCellar$Planner" "prices" "[J" ∈ gw_all := gw_t (i := 131) (by decide +kernel) (by decide +kernel)
theorem fl_Pl_27 : Cond.fieldLink "CheeseCellar$Planner" 27 "CheeseCellar$Planner" "rooms" "[I" ∈ gw_all := gw_t (i := 132) (by decide +kernel) (by decide +kernel)
theorem fl_Pl_30 : Cond.fieldLink "CheeseCellar$Planner" 30 "CheeseCellar$Planner" "reach" "[J" ∈ gw_all := gw_t (i := 133) (by decide +kernel) (by decide +kernel)
theorem fl_Pl_33 : Cond.fieldLink "CheeseCellar$Planner" 33 "CheeseCellar$Planner" "comer" "[I" ∈ gw_all := gw_t (i := 134) (by decide +kernel) (by decide +kernel)
theorem fl_Pl_36 : Cond.fieldLink "CheeseCellar$Planner" 36 "CheeseCellar$Planner" "kept" "[I" ∈ gw_all := gw_t (i := 135) (by decide +kernel) (by decide +kernel)
theorem fl_Pl_39 : Cond.fieldLink "CheeseCellar$Planner" 39 "CheeseCellar$Planner" "count" "I" ∈ gw_all := gw_t (i := 136) (by decide +kernel) (by decide +kernel)
theorem fl_Pl_87 : Cond.fieldLink "CheeseCellar$Planner" 87 "CheeseCellar$Planner" "keptCount" "I" ∈ gw_all := gw_t (i := 137) (by decide +kernel) (by decide +kernel)
theorem fl_K_243 : Cond.fieldLink "CheeseCellar" 243 "CheeseCellar$Planner" "keptCount" "I" ∈ gw_all := gw_t (i := 138) (by decide +kernel) (by decide +kernel)
theorem fl_Pl_80 : Cond.fieldLink "CheeseCellar$Planner" 80 "CheeseCellar$Planner" "isKept" "Z" ∈ gw_all := gw_t (i := 139) (by decide +kernel) (by decide +kernel)
theorem fl_Pl_84 : Cond.fieldLink "CheeseCellar$Planner" 84 "CheeseCellar$Planner" "isSpoilt" "Z" ∈ gw_all := gw_t (i := 140) (by decide +kernel) (by decide +kernel)
theorem ac_long : Cond.arrayClass FieldType.long ∈ gw_all := gw_t (i := 166) (by decide +kernel) (by decide +kernel)
theorem kl_K_56 : Cond.classLink "CheeseCellar" 56 "CheeseCellar$Tape" ∈ gw_all := gw_t (i := 167) (by decide +kernel) (by decide +kernel)
theorem in_Ta : Cond.instantiable "CheeseCellar$Tape" 2 ∈ gw_all := gw_t (i := 168) (by decide +kernel) (by decide +kernel)
theorem im_Ta_init : Cond.instanceMethod ⟨"CheeseCellar$Tape","<init>","()V"⟩ ∈ gw_all := gw_t (i := 170) (by decide +kernel) (by decide +kernel)
theorem co_Ta_init : Cond.code ⟨"CheeseCellar$Tape","<init>","()V"⟩ prog_10_method_1_code 1 (Option.none : Option FieldType) ∈ gw_all := gw_t (i := 171) (by decide +kernel) (by decide +kernel)
theorem ml_Ta_3 : Cond.methodLink "CheeseCellar$Tape" 3 ⟨"java/lang/Object","<init>","()V"⟩ ∈ gw_all := gw_t (i := 172) (by decide +kernel) (by decide +kernel)
theorem fl_Ta_9 : Cond.fieldLink "CheeseCellar$Tape" 9 "CheeseCellar$Tape" "bytes" "[I" ∈ gw_all := gw_t (i := 173) (by decide +kernel) (by decide +kernel)
theorem fl_Ta_15 : Cond.fieldLink "CheeseCellar$Tape" 15 "CheeseCellar$Tape" "size" "I" ∈ gw_all := gw_t (i := 174) (by decide +kernel) (by decide +kernel)
theorem fl_To_41 : Cond.fieldLink "CheeseCellar$Tokens" 41 "CheeseCellar$Tape" "size" "I" ∈ gw_all := gw_t (i := 175) (by decide +kernel) (by decide +kernel)
theorem fl_K_145 : Cond.fieldLink "CheeseCellar" 145 "CheeseCellar$Tape" "size" "I" ∈ gw_all := gw_t (i := 176) (by decide +kernel) (by decide +kernel)
theorem kl_K_63 : Cond.classLink "CheeseCellar" 63 "CheeseCellar$Reader" ∈ gw_all := gw_t (i := 182) (by decide +kernel) (by decide +kernel)
theorem in_Re : Cond.instantiable "CheeseCellar$Reader" 8 ∈ gw_all := gw_t (i := 183) (by decide +kernel) (by decide +kernel)
theorem im_Re_init : Cond.instanceMethod ⟨"CheeseCellar$Reader","<init>","()V"⟩ ∈ gw_all := gw_t (i := 185) (by decide +kernel) (by decide +kernel)
theorem co_Re_init : Cond.code ⟨"CheeseCellar$Reader","<init>","()V"⟩ prog_7_method_1_code 1 (Option.none : Option FieldType) ∈ gw_all := gw_t (i := 186) (by decide +kernel) (by decide +kernel)
theorem ml_Re_3 : Cond.methodLink "CheeseCellar$Reader" 3 ⟨"java/lang/Object","<init>","()V"⟩ ∈ gw_all := gw_t (i := 187) (by decide +kernel) (by decide +kernel)
theorem kl_Re_9 : Cond.classLink "CheeseCellar$Reader" 9 "CheeseCellar$Tokens" ∈ gw_all := gw_t (i := 188) (by decide +kernel) (by decide +kernel)
theorem in_To : Cond.instantiable "CheeseCellar$Tokens" 4 ∈ gw_all := gw_t (i := 189) (by decide +kernel) (by decide +kernel)
theorem im_To_init : Cond.instanceMethod ⟨"CheeseCellar$Tokens","<init>","()V"⟩ ∈ gw_all := gw_t (i := 191) (by decide +kernel) (by decide +kernel)
theorem co_To_init : Cond.code ⟨"CheeseCellar$Tokens","<init>","()V"⟩ prog_11_method_1_code 1 (Option.none : Option FieldType) ∈ gw_all := gw_t (i := 192) (by decide +kernel) (by decide +kernel)
theorem ml_To_3 : Cond.methodLink "CheeseCellar$Tokens" 3 ⟨"java/lang/Object","<init>","()V"⟩ ∈ gw_all := gw_t (i := 193) (by decide +kernel) (by decide +kernel)
theorem fl_To_9 : Cond.fieldLink "CheeseCellar$Tokens" 9 "CheeseCellar$Tokens" "kinds" "[I" ∈ gw_all := gw_t (i := 194) (by decide +kernel) (by decide +kernel)
theorem fl_Re_57 : Cond.fieldLink "CheeseCellar$Reader" 57 "CheeseCellar$Tokens" "kinds" "[I" ∈ gw_all := gw_t (i := 195) (by decide +kernel) (by decide +kernel)
theorem fl_To_15 : Cond.fieldLink "CheeseCellar$Tokens" 15 "CheeseCellar$Tokens" "places" "[I" ∈ gw_all := gw_t (i := 196) (by decide +kernel) (by decide +kernel)
theorem fl_Re_61 : Cond.fieldLink "CheeseCellar$Reader" 61 "CheeseCellar$Tokens" "places" "[I" ∈ gw_all := gw_t (i := 197) (by decide +kernel) (by decide +kernel)
theorem fl_To_18 : Cond.fieldLink "CheeseCellar$Tokens" 18 "CheeseCellar$Tokens" "numbers" "[I" ∈ gw_all := gw_t (i := 198) (by decide +kernel) (by decide +kernel)
theorem fl_Re_67 : Cond.fieldLink "CheeseCellar$Reader" 67 "CheeseCellar$Tokens" "numbers" "[I" ∈ gw_all := gw_t (i := 199) (by decide +kernel) (by decide +kernel)
theorem fl_To_21 : Cond.fieldLink "CheeseCellar$Tokens" 21 "CheeseCellar$Tokens" "count" "I" ∈ gw_all := gw_t (i := 200) (by decide +kernel) (by decide +kernel)
theorem fl_Re_54 : Cond.fieldLink "CheeseCellar$Reader" 54 "CheeseCellar$Tokens" "count" "I" ∈ gw_all := gw_t (i := 201) (by decide +kernel) (by decide +kernel)
theorem fl_Re_12 : Cond.fieldLink "CheeseCellar$Reader" 12 "CheeseCellar$Reader" "tokens" "LCheeseCellar$Tokens;" ∈ gw_all := gw_t (i := 211) (by decide +kernel) (by decide +kernel)
theorem fl_Re_29 : Cond.fieldLink "CheeseCellar$Reader" 29 "CheeseCellar$Reader" "next" "I" ∈ gw_all := gw_t (i := 212) (by decide +kernel) (by decide +kernel)
theorem fl_Re_43 : Cond.fieldLink "CheeseCellar$Reader" 43 "CheeseCellar$Reader" "token" "I" ∈ gw_all := gw_t (i := 213) (by decide +kernel) (by decide +kernel)
theorem fl_Re_64 : Cond.fieldLink "CheeseCellar$Reader" 64 "CheeseCellar$Reader" "place" "I" ∈ gw_all := gw_t (i := 214) (by decide +kernel) (by decide +kernel)
theorem fl_Re_70 : Cond.fieldLink "CheeseCellar$Reader" 70 "CheeseCellar$Reader" "number" "I" ∈ gw_all := gw_t (i := 215) (by decide +kernel) (by decide +kernel)
theorem fl_Re_35 : Cond.fieldLink "CheeseCellar$Reader" 35 "CheeseCellar$Reader" "operands" "I" ∈ gw_all := gw_t (i := 216) (by decide +kernel) (by decide +kernel)
theorem fl_Re_18 : Cond.fieldLink "CheeseCellar$Reader" 18 "CheeseCellar$Reader" "faultKind" "I" ∈ gw_all := gw_t (i := 217) (by decide +kernel) (by decide +kernel)
theorem fl_K_158 : Cond.fieldLink "CheeseCellar" 158 "CheeseCellar$Reader" "faultKind" "I" ∈ gw_all := gw_t (i := 218) (by decide +kernel) (by decide +kernel)
theorem fl_Re_22 : Cond.fieldLink "CheeseCellar$Reader" 22 "CheeseCellar$Reader" "faultPlace" "I" ∈ gw_all := gw_t (i := 219) (by decide +kernel) (by decide +kernel)
theorem fl_K_161 : Cond.fieldLink "CheeseCellar" 161 "CheeseCellar$Reader" "faultPlace" "I" ∈ gw_all := gw_t (i := 220) (by decide +kernel) (by decide +kernel)
theorem kl_K_77 : Cond.classLink "CheeseCellar" 77 "CheeseCellar$Orders" ∈ gw_all := gw_t (i := 238) (by decide +kernel) (by decide +kernel)
theorem in_Or : Cond.instantiable "CheeseCellar$Orders" 8 ∈ gw_all := gw_t (i := 239) (by decide +kernel) (by decide +kernel)
theorem im_Or_init : Cond.instanceMethod ⟨"CheeseCellar$Orders","<init>","()V"⟩ ∈ gw_all := gw_t (i := 241) (by decide +kernel) (by decide +kernel)
theorem co_Or_init : Cond.code ⟨"CheeseCellar$Orders","<init>","()V"⟩ prog_5_method_1_code 1 (Option.none : Option FieldType) ∈ gw_all := gw_t (i := 242) (by decide +kernel) (by decide +kernel)
theorem ml_Or_3 : Cond.methodLink "CheeseCellar$Orders" 3 ⟨"java/lang/Object","<init>","()V"⟩ ∈ gw_all := gw_t (i := 243) (by decide +kernel) (by decide +kernel)
theorem fl_Or_9 : Cond.fieldLink "CheeseCellar$Orders" 9 "CheeseCellar$Orders" "items" "[I" ∈ gw_all := gw_t (i := 244) (by decide +kernel) (by decide +kernel)
theorem fl_Or_15 : Cond.fieldLink "CheeseCellar$Orders" 15 "CheeseCellar$Orders" "lineEnds" "[I" ∈ gw_all := gw_t (i := 245) (by decide +kernel) (by decide +kernel)
theorem fl_Or_18 : Cond.fieldLink "CheeseCellar$Orders" 18 "CheeseCellar$Orders" "deeds" "[I" ∈ gw_all := gw_t (i := 246) (by decide +kernel) (by decide +kernel)
theorem fl_Or_21 : Cond.fieldLink "CheeseCellar$Orders" 21 "CheeseCellar$Orders" "named" "[I" ∈ gw_all := gw_t (i := 247) (by decide +kernel) (by decide +kernel)
theorem fl_Or_24 : Cond.fieldLink "CheeseCellar$Orders" 24 "CheeseCellar$Orders" "pile" "[I" ∈ gw_all := gw_t (i := 248) (by decide +kernel) (by decide +kernel)
theorem fl_Or_27 : Cond.fieldLink "CheeseCellar$Orders" 27 "CheeseCellar$Orders" "itemCount" "I" ∈ gw_all := gw_t (i := 249) (by decide +kernel) (by decide +kernel)
theorem fl_Or_31 : Cond.fieldLink "CheeseCellar$Orders" 31 "CheeseCellar$Orders" "lines" "I" ∈ gw_all := gw_t (i := 250) (by decide +kernel) (by decide +kernel)
theorem fl_K_155 : Cond.fieldLink "CheeseCellar" 155 "CheeseCellar$Orders" "lines" "I" ∈ gw_all := gw_t (i := 251) (by decide +kernel) (by decide +kernel)
theorem fl_Or_69 : Cond.fieldLink "CheeseCellar$Orders" 69 "CheeseCellar$Orders" "height" "I" ∈ gw_all := gw_t (i := 252) (by decide +kernel) (by decide +kernel)
theorem fl_K_10 : Cond.fieldLink "CheeseCellar" 10 "CheeseCellar" "shelves" "LCheeseCellar$Shelves;" ∈ gw_all := gw_t (i := 270) (by decide +kernel) (by decide +kernel)
theorem fl_K_18 : Cond.fieldLink "CheeseCellar" 18 "CheeseCellar" "milks" "[LCheeseCellar$Milk;" ∈ gw_all := gw_t (i := 271) (by decide +kernel) (by decide +kernel)
theorem fl_K_24 : Cond.fieldLink "CheeseCellar" 24 "CheeseCellar" "wheels" "[LCheeseCellar$Wheel;" ∈ gw_all := gw_t (i := 272) (by decide +kernel) (by decide +kernel)
theorem fl_K_31 : Cond.fieldLink "CheeseCellar" 31 "CheeseCellar" "bands" "LCheeseCellar$Bands;" ∈ gw_all := gw_t (i := 273) (by decide +kernel) (by decide +kernel)
theorem fl_K_38 : Cond.fieldLink "CheeseCellar" 38 "CheeseCellar" "stays" "LCheeseCellar$Stays;" ∈ gw_all := gw_t (i := 274) (by decide +kernel) (by decide +kernel)
theorem fl_K_45 : Cond.fieldLink "CheeseCellar" 45 "CheeseCellar" "marks" "LCheeseCellar$Marks;" ∈ gw_all := gw_t (i := 275) (by decide +kernel) (by decide +kernel)
theorem fl_K_52 : Cond.fieldLink "CheeseCellar" 52 "CheeseCellar" "planner" "LCheeseCellar$Planner;" ∈ gw_all := gw_t (i := 276) (by decide +kernel) (by decide +kernel)
theorem fl_K_59 : Cond.fieldLink "CheeseCellar" 59 "CheeseCellar" "tape" "LCheeseCellar$Tape;" ∈ gw_all := gw_t (i := 277) (by decide +kernel) (by decide +kernel)
theorem fl_K_66 : Cond.fieldLink "CheeseCellar" 66 "CheeseCellar" "reader" "LCheeseCellar$Reader;" ∈ gw_all := gw_t (i := 278) (by decide +kernel) (by decide +kernel)
theorem fl_K_70 : Cond.fieldLink "CheeseCellar" 70 "CheeseCellar" "usedMilks" "[I" ∈ gw_all := gw_t (i := 279) (by decide +kernel) (by decide +kernel)
theorem fl_K_74 : Cond.fieldLink "CheeseCellar" 74 "CheeseCellar" "usedLitres" "[I" ∈ gw_all := gw_t (i := 280) (by decide +kernel) (by decide +kernel)
theorem fl_K_80 : Cond.fieldLink "CheeseCellar" 80 "CheeseCellar" "ordersNow" "LCheeseCellar$Orders;" ∈ gw_all := gw_t (i := 281) (by decide +kernel) (by decide +kernel)
theorem fl_K_84 : Cond.fieldLink "CheeseCellar" 84 "CheeseCellar" "ordersNext" "LCheeseCellar$Orders;" ∈ gw_all := gw_t (i := 282) (by decide +kernel) (by decide +kernel)
theorem fl_K_100 : Cond.fieldLink "CheeseCellar" 100 "CheeseCellar" "milkCount" "I" ∈ gw_all := gw_t (i := 283) (by decide +kernel) (by decide +kernel)
theorem fl_K_115 : Cond.fieldLink "CheeseCellar" 115 "CheeseCellar" "wheelCount" "I" ∈ gw_all := gw_t (i := 284) (by decide +kernel) (by decide +kernel)
theorem fl_K_132 : Cond.fieldLink "CheeseCellar" 132 "CheeseCellar" "today" "I" ∈ gw_all := gw_t (i := 285) (by decide +kernel) (by decide +kernel)
theorem ml_Law_13 : Cond.methodLink "CheeseCellarLaw" 13 ⟨"CheeseCellar","air","(II)Z"⟩ ∈ gw_all := gw_t (i := 319) (by decide +kernel) (by decide +kernel)
theorem im_K_air : Cond.instanceMethod ⟨"CheeseCellar","air","(II)Z"⟩ ∈ gw_all := gw_t (i := 320) (by decide +kernel) (by decide +kernel)
theorem se_K_air : Cond.selects "CheeseCellar" ⟨"CheeseCellar","air","(II)Z"⟩ ⟨"CheeseCellar","air","(II)Z"⟩ ∈ gw_all := gw_t (i := 321) (by decide +kernel) (by decide +kernel)
theorem co_K_air : Cond.code ⟨"CheeseCellar","air","(II)Z"⟩ prog_1_method_2_code 3 (Option.some FieldType.boolean) ∈ gw_all := gw_t (i := 322) (by decide +kernel) (by decide +kernel)
theorem ml_K_87 : Cond.methodLink "CheeseCellar" 87 ⟨"CheeseCellar","isUpTo","(II)Z"⟩ ∈ gw_all := gw_t (i := 323) (by decide +kernel) (by decide +kernel)
theorem sm_K_isUpTo : Cond.static ⟨"CheeseCellar","isUpTo","(II)Z"⟩ ∈ gw_all := gw_t (i := 324) (by decide +kernel) (by decide +kernel)
theorem co_K_isUpTo : Cond.code ⟨"CheeseCellar","isUpTo","(II)Z"⟩ prog_1_method_26_code 2 (Option.some FieldType.boolean) ∈ gw_all := gw_t (i := 325) (by decide +kernel) (by decide +kernel)
theorem ml_K_94 : Cond.methodLink "CheeseCellar" 94 ⟨"CheeseCellar$Planner","spoil","()V"⟩ ∈ gw_all := gw_t (i := 326) (by decide +kernel) (by decide +kernel)
theorem im_Pl_spoil : Cond.instanceMethod ⟨"CheeseCellar$Planner","spoil","()V"⟩ ∈ gw_all := gw_t (i := 327) (by decide +kernel) (by decide +kernel)
theorem se_Pl_spoil : Cond.selects "CheeseCellar$Planner" ⟨"CheeseCellar$Planner","spoil","()V"⟩ ⟨"CheeseCellar$Planner","spoil","()V"⟩ ∈ gw_all := gw_t (i := 328) (by decide +kernel) (by decide +kernel)
theorem co_Pl_spoil : Cond.code ⟨"CheeseCellar$Planner","spoil","()V"⟩ prog_6_method_9_code 1 (Option.none : Option FieldType) ∈ gw_all := gw_t (i := 329) (by decide +kernel) (by decide +kernel)
theorem ml_Law_18 : Cond.methodLink "CheeseCellarLaw" 18 ⟨"CheeseCellar","damp","(II)Z"⟩ ∈ gw_all := gw_t (i := 330) (by decide +kernel) (by decide +kernel)
theorem im_K_damp : Cond.instanceMethod ⟨"CheeseCellar","damp","(II)Z"⟩ ∈ gw_all := gw_t (i := 331) (by decide +kernel) (by decide +kernel)
theorem se_K_damp : Cond.selects "CheeseCellar" ⟨"CheeseCellar","damp","(II)Z"⟩ ⟨"CheeseCellar","damp","(II)Z"⟩ ∈ gw_all := gw_t (i := 332) (by decide +kernel) (by decide +kernel)
theorem co_K_damp : Cond.code ⟨"CheeseCellar","damp","(II)Z"⟩ prog_1_method_3_code 3 (Option.some FieldType.boolean) ∈ gw_all := gw_t (i := 333) (by decide +kernel) (by decide +kernel)
theorem ml_Law_22 : Cond.methodLink "CheeseCellarLaw" 22 ⟨"CheeseCellar","milk","(II)I"⟩ ∈ gw_all := gw_t (i := 334) (by decide +kernel) (by decide +kernel)
theorem im_K_milk : Cond.instanceMethod ⟨"CheeseCellar","milk","(II)I"⟩ ∈ gw_all := gw_t (i := 335) (by decide +kernel) (by decide +kernel)
theorem se_K_milk : Cond.selects "CheeseCellar" ⟨"CheeseCellar","milk","(II)I"⟩ ⟨"CheeseCellar","milk","(II)I"⟩ ∈ gw_all := gw_t (i := 336) (by decide +kernel) (by decide +kernel)
theorem co_K_milk : Cond.code ⟨"CheeseCellar","milk","(II)I"⟩ prog_1_method_4_code 4 (Option.some FieldType.int) ∈ gw_all := gw_t (i := 337) (by decide +kernel) (by decide +kernel)
theorem in_Mi : Cond.instantiable "CheeseCellar$Milk" 3 ∈ gw_all := gw_t (i := 338) (by decide +kernel) (by decide +kernel)
theorem ml_K_104 : Cond.methodLink "CheeseCellar" 104 ⟨"CheeseCellar$Milk","<init>","(II)V"⟩ ∈ gw_all := gw_t (i := 339) (by decide +kernel) (by decide +kernel)
theorem im_Mi_init : Cond.instanceMethod ⟨"CheeseCellar$Milk","<init>","(II)V"⟩ ∈ gw_all := gw_t (i := 340) (by decide +kernel) (by decide +kernel)
theorem co_Mi_init : Cond.code ⟨"CheeseCellar$Milk","<init>","(II)V"⟩ prog_4_method_1_code 3 (Option.none : Option FieldType) ∈ gw_all := gw_t (i := 341) (by decide +kernel) (by decide +kernel)
theorem ml_Mi_1 : Cond.methodLink "CheeseCellar$Milk" 1 ⟨"java/lang/Object","<init>","()V"⟩ ∈ gw_all := gw_t (i := 342) (by decide +kernel) (by decide +kernel)
theorem fl_Mi_7 : Cond.fieldLink "CheeseCellar$Milk" 7 "CheeseCellar$Milk" "farm" "I" ∈ gw_all := gw_t (i := 343) (by decide +kernel) (by decide +kernel)
theorem fl_K_203 : Cond.fieldLink "CheeseCellar" 203 "CheeseCellar$Milk" "farm" "I" ∈ gw_all := gw_t (i := 344) (by decide +kernel) (by decide +kernel)
theorem fl_Mi_13 : Cond.fieldLink "CheeseCellar$Milk" 13 "CheeseCellar$Milk" "left" "I" ∈ gw_all := gw_t (i := 345) (by decide +kernel) (by decide +kernel)
theorem fl_K_206 : Cond.fieldLink "CheeseCellar" 206 "CheeseCellar$Milk" "left" "I" ∈ gw_all := gw_t (i := 346) (by decide +kernel) (by decide +kernel)
theorem fl_K_209 : Cond.fieldLink "CheeseCellar" 209 "CheeseCellar$Milk" "wheelsMade" "I" ∈ gw_all := gw_t (i := 347) (by decide +kernel) (by decide +kernel)
theorem ml_Law_27 : Cond.methodLink "CheeseCellarLaw" 27 ⟨"CheeseCellar","wheel","(IIIIIIII)I"⟩ ∈ gw_all := gw_t (i := 355) (by decide +kernel) (by decide +kernel)
theorem im_K_wheel : Cond.instanceMethod ⟨"CheeseCellar","wheel","(IIIIIIII)I"⟩ ∈ gw_all := gw_t (i := 356) (by decide +kernel) (by decide +kernel)
theorem se_K_wheel : Cond.selects "CheeseCellar" ⟨"CheeseCellar","wheel","(IIIIIIII)I"⟩ ⟨"CheeseCellar","wheel","(IIIIIIII)I"⟩ ∈ gw_all := gw_t (i := 357) (by decide +kernel) (by decide +kernel)
theorem co_K_wheel : Cond.code ⟨"CheeseCellar","wheel","(IIIIIIII)I"⟩ prog_1_method_5_code 10 (Option.some FieldType.int) ∈ gw_all := gw_t (i := 358) (by decide +kernel) (by decide +kernel)
theorem ml_K_107 : Cond.methodLink "CheeseCellar" 107 ⟨"CheeseCellar$Shelves","hasRoom","(I)Z"⟩ ∈ gw_all := gw_t (i := 359) (by decide +kernel) (by decide +kernel)
theorem im_Sh_hasRoom : Cond.instanceMethod ⟨"CheeseCellar$Shelves","hasRoom","(I)Z"⟩ ∈ gw_all := gw_t (i := 360) (by decide +kernel) (by decide +kernel)
theorem se_Sh_hasRoom : Cond.selects "CheeseCellar$Shelves" ⟨"CheeseCellar$Shelves","hasRoom","(I)Z"⟩ ⟨"CheeseCellar$Shelves","hasRoom","(I)Z"⟩ ∈ gw_all := gw_t (i := 361) (by decide +kernel) (by decide +kernel)
theorem co_Sh_hasRoom : Cond.code ⟨"CheeseCellar$Shelves","hasRoom","(I)Z"⟩ prog_8_method_5_code 2 (Option.some FieldType.boolean) ∈ gw_all := gw_t (i := 362) (by decide +kernel) (by decide +kernel)
theorem ml_Sh_25 : Cond.methodLink "CheeseCellar$Shelves" 25 ⟨"CheeseCellar$Shelves","roomAt","(I)I"⟩ ∈ gw_all := gw_t (i := 363) (by decide +kernel) (by decide +kernel)
theorem im_Sh_roomAt : Cond.instanceMethod ⟨"CheeseCellar$Shelves","roomAt","(I)I"⟩ ∈ gw_all := gw_t (i := 364) (by decide +kernel) (by decide +kernel)
theorem se_Sh_roomAt : Cond.selects "CheeseCellar$Shelves" ⟨"CheeseCellar$Shelves","roomAt","(I)I"⟩ ⟨"CheeseCellar$Shelves","roomAt","(I)I"⟩ ∈ gw_all := gw_t (i := 365) (by decide +kernel) (by decide +kernel)
theorem co_Sh_roomAt : Cond.code ⟨"CheeseCellar$Shelves","roomAt","(I)I"⟩ prog_8_method_4_code 2 (Option.some FieldType.int) ∈ gw_all := gw_t (i := 366) (by decide +kernel) (by decide +kernel)
theorem ml_K_111 : Cond.methodLink "CheeseCellar" 111 ⟨"CheeseCellar","areMilksThere","()Z"⟩ ∈ gw_all := gw_t (i := 368) (by decide +kernel) (by decide +kernel)
theorem im_K_areMilksThere : Cond.instanceMethod ⟨"CheeseCellar","areMilksThere","()Z"⟩ ∈ gw_all := gw_t (i := 370) (by decide +kernel) (by decide +kernel)
theorem co_K_areMilksThere : Cond.code ⟨"CheeseCellar","areMilksThere","()Z"⟩ prog_1_method_32_code 2 (Option.some FieldType.boolean) ∈ gw_all := gw_t (i := 371) (by decide +kernel) (by decide +kernel)
theorem ml_K_280 : Cond.methodLink "CheeseCellar" 280 ⟨"CheeseCellar","isMilkThere","(I)Z"⟩ ∈ gw_all := gw_t (i := 372) (by decide +kernel) (by decide +kernel)
theorem im_K_isMilkThere : Cond.instanceMethod ⟨"CheeseCellar","isMilkThere","(I)Z"⟩ ∈ gw_all := gw_t (i := 374) (by decide +kernel) (by decide +kernel)
theorem co_K_isMilkThere : Cond.code ⟨"CheeseCellar","isMilkThere","(I)Z"⟩ prog_1_method_33_code 3 (Option.some FieldType.boolean) ∈ gw_all := gw_t (i := 375) (by decide +kernel) (by decide +kernel)
theorem ml_K_199 : Cond.methodLink "CheeseCellar" 199 ⟨"CheeseCellar","milkAt","(I)LCheeseCellar$Milk;"⟩ ∈ gw_all := gw_t (i := 376) (by decide +kernel) (by decide +kernel)
theorem im_K_milkAt : Cond.instanceMethod ⟨"CheeseCellar","milkAt","(I)LCheeseCellar$Milk;"⟩ ∈ gw_all := gw_t (i := 378) (by decide +kernel) (by decide +kernel)
theorem co_K_milkAt : Cond.code ⟨"CheeseCellar","milkAt","(I)LCheeseCellar$Milk;"⟩ prog_1_method_27_code 2 (Option.some (FieldType.object "CheeseCellar$Milk")) ∈ gw_all := gw_t (i := 379) (by decide +kernel) (by decide +kernel)
theorem ml_K_118 : Cond.methodLink "CheeseCellar" 118 ⟨"CheeseCellar$Stays","haveRoomFor","(I)Z"⟩ ∈ gw_all := gw_t (i := 380) (by decide +kernel) (by decide +kernel)
theorem im_St_haveRoomFor : Cond.instanceMethod ⟨"CheeseCellar$Stays","haveRoomFor","(I)Z"⟩ ∈ gw_all := gw_t (i := 381) (by decide +kernel) (by decide +kernel)
theorem se_St_haveRoomFor : Cond.selects "CheeseCellar$Stays" ⟨"CheeseCellar$Stays","haveRoomFor","(I)Z"⟩ ⟨"CheeseCellar$Stays","haveRoomFor","(I)Z"⟩ ∈ gw_all := gw_t (i := 382) (by decide +kernel) (by decide +kernel)
theorem co_St_haveRoomFor : Cond.code ⟨"CheeseCellar$Stays","haveRoomFor","(I)Z"⟩ prog_9_method_2_code 2 (Option.some FieldType.boolean) ∈ gw_all := gw_t (i := 383) (by decide +kernel) (by decide +kernel)
theorem ml_K_121 : Cond.methodLink "CheeseCellar" 121 ⟨"CheeseCellar","makeWheel","(II)I"⟩ ∈ gw_all := gw_t (i := 384) (by decide +kernel) (by decide +kernel)
theorem im_K_makeWheel : Cond.instanceMethod ⟨"CheeseCellar","makeWheel","(II)I"⟩ ∈ gw_all := gw_t (i := 386) (by decide +kernel) (by decide +kernel)
theorem co_K_makeWheel : Cond.code ⟨"CheeseCellar","makeWheel","(II)I"⟩ prog_1_method_34_code 7 (Option.some FieldType.int) ∈ gw_all := gw_t (i := 387) (by decide +kernel) (by decide +kernel)
theorem in_Wh : Cond.instantiable "CheeseCellar$Wheel" 10 ∈ gw_all := gw_t (i := 388) (by decide +kernel) (by decide +kernel)
theorem ml_K_283 : Cond.methodLink "CheeseCellar" 283 ⟨"CheeseCellar$Wheel","<init>","(III)V"⟩ ∈ gw_all := gw_t (i := 389) (by decide +kernel) (by decide +kernel)
theorem im_Wh_init : Cond.instanceMethod ⟨"CheeseCellar$Wheel","<init>","(III)V"⟩ ∈ gw_all := gw_t (i := 390) (by decide +kernel) (by decide +kernel)
theorem co_Wh_init : Cond.code ⟨"CheeseCellar$Wheel","<init>","(III)V"⟩ prog_12_method_1_code 4 (Option.none : Option FieldType) ∈ gw_all := gw_t (i := 391) (by decide +kernel) (by decide +kernel)
theorem ml_Wh_3 : Cond.methodLink "CheeseCellar$Wheel" 3 ⟨"java/lang/Object","<init>","()V"⟩ ∈ gw_all := gw_t (i := 392) (by decide +kernel) (by decide +kernel)
theorem fl_Wh_18 : Cond.fieldLink "CheeseCellar$Wheel" 18 "CheeseCellar$Wheel" "number" "I" ∈ gw_all := gw_t (i := 393) (by decide +kernel) (by decide +kernel)
theorem fl_K_292 : Cond.fieldLink "CheeseCellar" 292 "CheeseCellar$Wheel" "number" "I" ∈ gw_all := gw_t (i := 394) (by decide +kernel) (by decide +kernel)
theorem fl_Wh_21 : Cond.fieldLink "CheeseCellar$Wheel" 21 "CheeseCellar$Wheel" "kind" "I" ∈ gw_all := gw_t (i := 395) (by decide +kernel) (by decide +kernel)
theorem fl_Or_48 : Cond.fieldLink "CheeseCellar$Orders" 48 "CheeseCellar$Wheel" "kind" "I" ∈ gw_all := gw_t (i := 396) (by decide +kernel) (by decide +kernel)
theorem fl_K_176 : Cond.fieldLink "CheeseCellar" 176 "CheeseCellar$Wheel" "kind" "I" ∈ gw_all := gw_t (i := 397) (by decide +kernel) (by decide +kernel)
theorem fl_Wh_24 : Cond.fieldLink "CheeseCellar$Wheel" 24 "CheeseCellar$Wheel" "madeOn" "I" ∈ gw_all := gw_t (i := 398) (by decide +kernel) (by decide +kernel)
theorem fl_Or_51 : Cond.fieldLink "CheeseCellar$Orders" 51 "CheeseCellar$Wheel" "madeOn" "I" ∈ gw_all := gw_t (i := 399) (by decide +kernel) (by decide +kernel)
theorem fl_K_273 : Cond.fieldLink "CheeseCellar" 273 "CheeseCellar$Wheel" "madeOn" "I" ∈ gw_all := gw_t (i := 400) (by decide +kernel) (by decide +kernel)
theorem fl_K_286 : Cond.fieldLink "CheeseCellar" 286 "CheeseCellar$Wheel" "milkBits" "I" ∈ gw_all := gw_t (i := 401) (by decide +kernel) (by decide +kernel)
theorem fl_Wh_9 : Cond.fieldLink "CheeseCellar$Wheel" 9 "CheeseCellar$Wheel" "shelf" "I" ∈ gw_all := gw_t (i := 402) (by decide +kernel) (by decide +kernel)
theorem fl_K_138 : Cond.fieldLink "CheeseCellar" 138 "CheeseCellar$Wheel" "shelf" "I" ∈ gw_all := gw_t (i := 403) (by decide +kernel) (by decide +kernel)
theorem fl_Or_66 : Cond.fieldLink "CheeseCellar$Orders" 66 "CheeseCellar$Wheel" "shelf" "I" ∈ gw_all := gw_t (i := 404) (by decide +kernel) (by decide +kernel)
theorem fl_Wh_15 : Cond.fieldLink "CheeseCellar$Wheel" 15 "CheeseCellar$Wheel" "stay" "I" ∈ gw_all := gw_t (i := 405) (by decide +kernel) (by decide +kernel)
theorem fl_K_129 : Cond.fieldLink "CheeseCellar" 129 "CheeseCellar$Wheel" "stay" "I" ∈ gw_all := gw_t (i := 406) (by decide +kernel) (by decide +kernel)
theorem fl_Wh_40 : Cond.fieldLink "CheeseCellar$Wheel" 40 "CheeseCellar$Wheel" "ripeness" "I" ∈ gw_all := gw_t (i := 407) (by decide +kernel) (by decide +kernel)
theorem fl_Or_54 : Cond.fieldLink "CheeseCellar$Orders" 54 "CheeseCellar$Wheel" "ripeness" "I" ∈ gw_all := gw_t (i := 408) (by decide +kernel) (by decide +kernel)
theorem fl_K_179 : Cond.fieldLink "CheeseCellar" 179 "CheeseCellar$Wheel" "ripeness" "I" ∈ gw_all := gw_t (i := 409) (by decide +kernel) (by decide +kernel)
theorem fl_Wh_30 : Cond.fieldLink "CheeseCellar$Wheel" 30 "CheeseCellar$Wheel" "mould" "I" ∈ gw_all := gw_t (i := 410) (by decide +kernel) (by decide +kernel)
theorem fl_Or_57 : Cond.fieldLink "CheeseCellar$Orders" 57 "CheeseCellar$Wheel" "mould" "I" ∈ gw_all := gw_t (i := 411) (by decide +kernel) (by decide +kernel)
theorem fl_K_182 : Cond.fieldLink "CheeseCellar" 182 "CheeseCellar$Wheel" "mould" "I" ∈ gw_all := gw_t (i := 412) (by decide +kernel) (by decide +kernel)
theorem fl_Wh_37 : Cond.fieldLink "CheeseCellar$Wheel" 37 "CheeseCellar$Wheel" "weight" "I" ∈ gw_all := gw_t (i := 413) (by decide +kernel) (by decide +kernel)
theorem fl_Or_60 : Cond.fieldLink "CheeseCellar$Orders" 60 "CheeseCellar$Wheel" "weight" "I" ∈ gw_all := gw_t (i := 414) (by decide +kernel) (by decide +kernel)
theorem fl_K_185 : Cond.fieldLink "CheeseCellar" 185 "CheeseCellar$Wheel" "weight" "I" ∈ gw_all := gw_t (i := 415) (by decide +kernel) (by decide +kernel)
theorem fl_Wh_27 : Cond.fieldLink "CheeseCellar$Wheel" 27 "CheeseCellar$Wheel" "side" "I" ∈ gw_all := gw_t (i := 416) (by decide +kernel) (by decide +kernel)
theorem fl_Or_63 : Cond.fieldLink "CheeseCellar$Orders" 63 "CheeseCellar$Wheel" "side" "I" ∈ gw_all := gw_t (i := 417) (by decide +kernel) (by decide +kernel)
theorem fl_K_192 : Cond.fieldLink "CheeseCellar" 192 "CheeseCellar$Wheel" "side" "I" ∈ gw_all := gw_t (i := 418) (by decide +kernel) (by decide +kernel)
theorem ml_K_289 : Cond.methodLink "CheeseCellar" 289 ⟨"CheeseCellar","layOn","(LCheeseCellar$Wheel;I)V"⟩ ∈ gw_all := gw_t (i := 440) (by decide +kernel) (by decide +kernel)
theorem im_K_layOn : Cond.instanceMethod ⟨"CheeseCellar","layOn","(LCheeseCellar$Wheel;I)V"⟩ ∈ gw_all := gw_t (i := 442) (by decide +kernel) (by decide +kernel)
theorem co_K_layOn : Cond.code ⟨"CheeseCellar","layOn","(LCheeseCellar$Wheel;I)V"⟩ prog_1_method_35_code 3 (Option.none : Option FieldType) ∈ gw_all := gw_t (i := 443) (by decide +kernel) (by decide +kernel)
theorem ml_K_295 : Cond.methodLink "CheeseCellar" 295 ⟨"CheeseCellar$Stays","begin","(III)I"⟩ ∈ gw_all := gw_t (i := 444) (by decide +kernel) (by decide +kernel)
theorem im_St_begin : Cond.instanceMethod ⟨"CheeseCellar$Stays","begin","(III)I"⟩ ∈ gw_all := gw_t (i := 445) (by decide +kernel) (by decide +kernel)
theorem se_St_begin : Cond.selects "CheeseCellar$Stays" ⟨"CheeseCellar$Stays","begin","(III)I"⟩ ⟨"CheeseCellar$Stays","begin","(III)I"⟩ ∈ gw_all := gw_t (i := 446) (by decide +kernel) (by decide +kernel)
theorem co_St_begin : Cond.code ⟨"CheeseCellar$Stays","begin","(III)I"⟩ prog_9_method_3_code 4 (Option.some FieldType.int) ∈ gw_all := gw_t (i := 447) (by decide +kernel) (by decide +kernel)
theorem ml_K_299 : Cond.methodLink "CheeseCellar" 299 ⟨"CheeseCellar$Shelves","lay","(I)V"⟩ ∈ gw_all := gw_t (i := 448) (by decide +kernel) (by decide +kernel)
theorem im_Sh_lay : Cond.instanceMethod ⟨"CheeseCellar$Shelves","lay","(I)V"⟩ ∈ gw_all := gw_t (i := 449) (by decide +kernel) (by decide +kernel)
theorem se_Sh_lay : Cond.selects "CheeseCellar$Shelves" ⟨"CheeseCellar$Shelves","lay","(I)V"⟩ ⟨"CheeseCellar$Shelves","lay","(I)V"⟩ ∈ gw_all := gw_t (i := 450) (by decide +kernel) (by decide +kernel)
theorem co_Sh_lay : Cond.code ⟨"CheeseCellar$Shelves","lay","(I)V"⟩ prog_8_method_6_code 2 (Option.none : Option FieldType) ∈ gw_all := gw_t (i := 451) (by decide +kernel) (by decide +kernel)
theorem ml_Law_32 : Cond.methodLink "CheeseCellarLaw" 32 ⟨"CheeseCellar","sell","(I)Z"⟩ ∈ gw_all := gw_t (i := 452) (by decide +kernel) (by decide +kernel)
theorem im_K_sell : Cond.instanceMethod ⟨"CheeseCellar","sell","(I)Z"⟩ ∈ gw_all := gw_t (i := 453) (by decide +kernel) (by decide +kernel)
theorem se_K_sell : Cond.selects "CheeseCellar" ⟨"CheeseCellar","sell","(I)Z"⟩ ⟨"CheeseCellar","sell","(I)Z"⟩ ∈ gw_all := gw_t (i := 454) (by decide +kernel) (by decide +kernel)
theorem co_K_sell : Cond.code ⟨"CheeseCellar","sell","(I)Z"⟩ prog_1_method_6_code 3 (Option.some FieldType.boolean) ∈ gw_all := gw_t (i := 455) (by decide +kernel) (by decide +kernel)
theorem ml_K_125 : Cond.methodLink "CheeseCellar" 125 ⟨"CheeseCellar","lyingWheel","(I)LCheeseCellar$Wheel;"⟩ ∈ gw_all := gw_t (i := 456) (by decide +kernel) (by decide +kernel)
theorem im_K_lyingWheel : Cond.instanceMethod ⟨"CheeseCellar","lyingWheel","(I)LCheeseCellar$Wheel;"⟩ ∈ gw_all := gw_t (i := 458) (by decide +kernel) (by decide +kernel)
theorem co_K_lyingWheel : Cond.code ⟨"CheeseCellar","lyingWheel","(I)LCheeseCellar$Wheel;"⟩ prog_1_method_29_code 3 (Option.some (FieldType.object "CheeseCellar$Wheel")) ∈ gw_all := gw_t (i := 459) (by decide +kernel) (by decide +kernel)
theorem ml_K_173 : Cond.methodLink "CheeseCellar" 173 ⟨"CheeseCellar","wheelAt","(I)LCheeseCellar$Wheel;"⟩ ∈ gw_all := gw_t (i := 460) (by decide +kernel) (by decide +kernel)
theorem im_K_wheelAt : Cond.instanceMethod ⟨"CheeseCellar","wheelAt","(I)LCheeseCellar$Wheel;"⟩ ∈ gw_all := gw_t (i := 462) (by decide +kernel) (by decide +kernel)
theorem co_K_wheelAt : Cond.code ⟨"CheeseCellar","wheelAt","(I)LCheeseCellar$Wheel;"⟩ prog_1_method_28_code 2 (Option.some (FieldType.object "CheeseCellar$Wheel")) ∈ gw_all := gw_t (i := 463) (by decide +kernel) (by decide +kernel)
theorem ml_K_135 : Cond.methodLink "CheeseCellar" 135 ⟨"CheeseCellar$Stays","finish","(II)V"⟩ ∈ gw_all := gw_t (i := 464) (by decide +kernel) (by decide +kernel)
theorem im_St_finish : Cond.instanceMethod ⟨"CheeseCellar$Stays","finish","(II)V"⟩ ∈ gw_all := gw_t (i := 465) (by decide +kernel) (by decide +kernel)
theorem se_St_finish : Cond.selects "CheeseCellar$Stays" ⟨"CheeseCellar$Stays","finish","(II)V"⟩ ⟨"CheeseCellar$Stays","finish","(II)V"⟩ ∈ gw_all := gw_t (i := 466) (by decide +kernel) (by decide +kernel)
theorem co_St_finish : Cond.code ⟨"CheeseCellar$Stays","finish","(II)V"⟩ prog_9_method_4_code 3 (Option.none : Option FieldType) ∈ gw_all := gw_t (i := 467) (by decide +kernel) (by decide +kernel)
theorem ml_K_141 : Cond.methodLink "CheeseCellar" 141 ⟨"CheeseCellar$Shelves","lift","(I)V"⟩ ∈ gw_all := gw_t (i := 468) (by decide +kernel) (by decide +kernel)
theorem im_Sh_lift : Cond.instanceMethod ⟨"CheeseCellar$Shelves","lift","(I)V"⟩ ∈ gw_all := gw_t (i := 469) (by decide +kernel) (by decide +kernel)
theorem se_Sh_lift : Cond.selects "CheeseCellar$Shelves" ⟨"CheeseCellar$Shelves","lift","(I)V"⟩ ⟨"CheeseCellar$Shelves","lift","(I)V"⟩ ∈ gw_all := gw_t (i := 470) (by decide +kernel) (by decide +kernel)
theorem co_Sh_lift : Cond.code ⟨"CheeseCellar$Shelves","lift","(I)V"⟩ prog_8_method_7_code 2 (Option.none : Option FieldType) ∈ gw_all := gw_t (i := 471) (by decide +kernel) (by decide +kernel)
theorem ml_Law_37 : Cond.methodLink "CheeseCellarLaw" 37 ⟨"CheeseCellar","feed","(IIIII)I"⟩ ∈ gw_all := gw_t (i := 472) (by decide +kernel) (by decide +kernel)
theorem im_K_feed : Cond.instanceMethod ⟨"CheeseCellar","feed","(IIIII)I"⟩ ∈ gw_all := gw_t (i := 473) (by decide +kernel) (by decide +kernel)
theorem se_K_feed : Cond.selects "CheeseCellar" ⟨"CheeseCellar","feed","(IIIII)I"⟩ ⟨"CheeseCellar","feed","(IIIII)I"⟩ ∈ gw_all := gw_t (i := 474) (by decide +kernel) (by decide +kernel)
theorem co_K_feed : Cond.code ⟨"CheeseCellar","feed","(IIIII)I"⟩ prog_1_method_7_code 6 (Option.some FieldType.int) ∈ gw_all := gw_t (i := 475) (by decide +kernel) (by decide +kernel)
theorem ml_K_148 : Cond.methodLink "CheeseCellar" 148 ⟨"CheeseCellar$Tape","take","(I)V"⟩ ∈ gw_all := gw_t (i := 476) (by decide +kernel) (by decide +kernel)
theorem im_Ta_take : Cond.instanceMethod ⟨"CheeseCellar$Tape","take","(I)V"⟩ ∈ gw_all := gw_t (i := 477) (by decide +kernel) (by decide +kernel)
theorem se_Ta_take : Cond.selects "CheeseCellar$Tape" ⟨"CheeseCellar$Tape","take","(I)V"⟩ ⟨"CheeseCellar$Tape","take","(I)V"⟩ ∈ gw_all := gw_t (i := 478) (by decide +kernel) (by decide +kernel)
theorem co_Ta_take : Cond.code ⟨"CheeseCellar$Tape","take","(I)V"⟩ prog_10_method_2_code 3 (Option.none : Option FieldType) ∈ gw_all := gw_t (i := 479) (by decide +kernel) (by decide +kernel)
theorem ml_Law_42 : Cond.methodLink "CheeseCellarLaw" 42 ⟨"CheeseCellar","end","(I)I"⟩ ∈ gw_all := gw_t (i := 480) (by decide +kernel) (by decide +kernel)
theorem im_K_end : Cond.instanceMethod ⟨"CheeseCellar","end","(I)I"⟩ ∈ gw_all := gw_t (i := 481) (by decide +kernel) (by decide +kernel)
theorem se_K_end : Cond.selects "CheeseCellar" ⟨"CheeseCellar","end","(I)I"⟩ ⟨"CheeseCellar","end","(I)I"⟩ ∈ gw_all := gw_t (i := 482) (by decide +kernel) (by decide +kernel)
theorem co_K_end : Cond.code ⟨"CheeseCellar","end","(I)I"⟩ prog_1_method_8_code 2 (Option.some FieldType.int) ∈ gw_all := gw_t (i := 483) (by decide +kernel) (by decide +kernel)
theorem ml_Law_47 : Cond.methodLink "CheeseCellarLaw" 47 ⟨"CheeseCellar","orders","()I"⟩ ∈ gw_all := gw_t (i := 484) (by decide +kernel) (by decide +kernel)
theorem im_K_orders : Cond.instanceMethod ⟨"CheeseCellar","orders","()I"⟩ ∈ gw_all := gw_t (i := 485) (by decide +kernel) (by decide +kernel)
theorem se_K_orders : Cond.selects "CheeseCellar" ⟨"CheeseCellar","orders","()I"⟩ ⟨"CheeseCellar","orders","()I"⟩ ∈ gw_all := gw_t (i := 486) (by decide +kernel) (by decide +kernel)
theorem co_K_orders : Cond.code ⟨"CheeseCellar","orders","()I"⟩ prog_1_method_9_code 3 (Option.some FieldType.int) ∈ gw_all := gw_t (i := 487) (by decide +kernel) (by decide +kernel)
theorem ml_K_151 : Cond.methodLink "CheeseCellar" 151 ⟨"CheeseCellar$Reader","read","(LCheeseCellar$Tape;LCheeseCellar$Orders;)Z"⟩ ∈ gw_all := gw_t (i := 488) (by decide +kernel) (by decide +kernel)
theorem im_Re_read : Cond.instanceMethod ⟨"CheeseCellar$Reader","read","(LCheeseCellar$Tape;LCheeseCellar$Orders;)Z"⟩ ∈ gw_all := gw_t (i := 489) (by decide +kernel) (by decide +kernel)
theorem se_Re_read : Cond.selects "CheeseCellar$Reader" ⟨"CheeseCellar$Reader","read","(LCheeseCellar$Tape;LCheeseCellar$Orders;)Z"⟩ ⟨"CheeseCellar$Reader","read","(LCheeseCellar$Tape;LCheeseCellar$Orders;)Z"⟩ ∈ gw_all := gw_t (i := 490) (by decide +kernel) (by decide +kernel)
theorem co_Re_read : Cond.code ⟨"CheeseCellar$Reader","read","(LCheeseCellar$Tape;LCheeseCellar$Orders;)Z"⟩ prog_7_method_2_code 4 (Option.some FieldType.boolean) ∈ gw_all := gw_t (i := 491) (by decide +kernel) (by decide +kernel)
theorem ml_Re_25 : Cond.methodLink "CheeseCellar$Reader" 25 ⟨"CheeseCellar$Tokens","cut","(LCheeseCellar$Tape;)V"⟩ ∈ gw_all := gw_t (i := 492) (by decide +kernel) (by decide +kernel)
theorem im_To_cut : Cond.instanceMethod ⟨"CheeseCellar$Tokens","cut","(LCheeseCellar$Tape;)V"⟩ ∈ gw_all := gw_t (i := 493) (by decide +kernel) (by decide +kernel)
theorem se_To_cut : Cond.selects "CheeseCellar$Tokens" ⟨"CheeseCellar$Tokens","cut","(LCheeseCellar$Tape;)V"⟩ ⟨"CheeseCellar$Tokens","cut","(LCheeseCellar$Tape;)V"⟩ ∈ gw_all := gw_t (i := 494) (by decide +kernel) (by decide +kernel)
theorem co_To_cut : Cond.code ⟨"CheeseCellar$Tokens","cut","(LCheeseCellar$Tape;)V"⟩ prog_11_method_2_code 5 (Option.none : Option FieldType) ∈ gw_all := gw_t (i := 495) (by decide +kernel) (by decide +kernel)
theorem ml_To_25 : Cond.methodLink "CheeseCellar$Tokens" 25 ⟨"CheeseCellar$Tokens","behindBlanks","(LCheeseCellar$Tape;I)I"⟩ ∈ gw_all := gw_t (i := 496) (by decide +kernel) (by decide +kernel)
theorem sm_To_behindBlanks : Cond.static ⟨"CheeseCellar$Tokens","behindBlanks","(LCheeseCellar$Tape;I)I"⟩ ∈ gw_all := gw_t (i := 497) (by decide +kernel) (by decide +kernel)
theorem co_To_behindBlanks : Cond.code ⟨"CheeseCellar$Tokens","behindBlanks","(LCheeseCellar$Tape;I)I"⟩ prog_11_method_4_code 3 (Option.some FieldType.int) ∈ gw_all := gw_t (i := 498) (by decide +kernel) (by decide +kernel)
theorem ml_To_46 : Cond.methodLink "CheeseCellar$Tokens" 46 ⟨"CheeseCellar$Tape","byteAt","(I)I"⟩ ∈ gw_all := gw_t (i := 499) (by decide +kernel) (by decide +kernel)
theorem im_Ta_byteAt : Cond.instanceMethod ⟨"CheeseCellar$Tape","byteAt","(I)I"⟩ ∈ gw_all := gw_t (i := 500) (by decide +kernel) (by decide +kernel)
theorem se_Ta_byteAt : Cond.selects "CheeseCellar$Tape" ⟨"CheeseCellar$Tape","byteAt","(I)I"⟩ ⟨"CheeseCellar$Tape","byteAt","(I)I"⟩ ∈ gw_all := gw_t (i := 501) (by decide +kernel) (by decide +kernel)
theorem co_Ta_byteAt : Cond.code ⟨"CheeseCellar$Tape","byteAt","(I)I"⟩ prog_10_method_3_code 2 (Option.some FieldType.int) ∈ gw_all := gw_t (i := 502) (by decide +kernel) (by decide +kernel)
theorem ml_To_29 : Cond.methodLink "CheeseCellar$Tokens" 29 ⟨"CheeseCellar$Tokens","keepOne","(LCheeseCellar$Tape;I)I"⟩ ∈ gw_all := gw_t (i := 503) (by decide +kernel) (by decide +kernel)
theorem im_To_keepOne : Cond.instanceMethod ⟨"CheeseCellar$Tokens","keepOne","(LCheeseCellar$Tape;I)I"⟩ ∈ gw_all := gw_t (i := 505) (by decide +kernel) (by decide +kernel)
theorem co_To_keepOne : Cond.code ⟨"CheeseCellar$Tokens","keepOne","(LCheeseCellar$Tape;I)I"⟩ prog_11_method_3_code 3 (Option.some FieldType.int) ∈ gw_all := gw_t (i := 506) (by decide +kernel) (by decide +kernel)
theorem ml_To_35 : Cond.methodLink "CheeseCellar$Tokens" 35 ⟨"CheeseCellar$Tokens","kindOf","(LCheeseCellar$Tape;I)I"⟩ ∈ gw_all := gw_t (i := 507) (by decide +kernel) (by decide +kernel)
theorem sm_To_kindOf : Cond.static ⟨"CheeseCellar$Tokens","kindOf","(LCheeseCellar$Tape;I)I"⟩ ∈ gw_all := gw_t (i := 508) (by decide +kernel) (by decide +kernel)
theorem co_To_kindOf : Cond.code ⟨"CheeseCellar$Tokens","kindOf","(LCheeseCellar$Tape;I)I"⟩ prog_11_method_5_code 4 (Option.some FieldType.int) ∈ gw_all := gw_t (i := 509) (by decide +kernel) (by decide +kernel)
theorem ml_To_32 : Cond.methodLink "CheeseCellar$Tokens" 32 ⟨"CheeseCellar$Tokens","lengthAt","(LCheeseCellar$Tape;I)I"⟩ ∈ gw_all := gw_t (i := 510) (by decide +kernel) (by decide +kernel)
theorem sm_To_lengthAt : Cond.static ⟨"CheeseCellar$Tokens","lengthAt","(LCheeseCellar$Tape;I)I"⟩ ∈ gw_all := gw_t (i := 511) (by decide +kernel) (by decide +kernel)
theorem co_To_lengthAt : Cond.code ⟨"CheeseCellar$Tokens","lengthAt","(LCheeseCellar$Tape;I)I"⟩ prog_11_method_6_code 4 (Option.some FieldType.int) ∈ gw_all := gw_t (i := 512) (by decide +kernel) (by decide +kernel)
theorem ml_To_64 : Cond.methodLink "CheeseCellar$Tokens" 64 ⟨"CheeseCellar$Tokens","isSameSort","(II)Z"⟩ ∈ gw_all := gw_t (i := 513) (by decide +kernel) (by decide +kernel)
theorem sm_To_isSameSort : Cond.static ⟨"CheeseCellar$Tokens","isSameSort","(II)Z"⟩ ∈ gw_all := gw_t (i := 514) (by decide +kernel) (by decide +kernel)
theorem co_To_isSameSort : Cond.code ⟨"CheeseCellar$Tokens","isSameSort","(II)Z"⟩ prog_11_method_7_code 2 (Option.some FieldType.boolean) ∈ gw_all := gw_t (i := 515) (by decide +kernel) (by decide +kernel)
theorem ml_To_50 : Cond.methodLink "CheeseCellar$Tokens" 50 ⟨"CheeseCellar$Tokens","isLetter","(I)Z"⟩ ∈ gw_all := gw_t (i := 516) (by decide +kernel) (by decide +kernel)
theorem sm_To_isLetter : Cond.static ⟨"CheeseCellar$Tokens","isLetter","(I)Z"⟩ ∈ gw_all := gw_t (i := 517) (by decide +kernel) (by decide +kernel)
theorem co_To_isLetter : Cond.code ⟨"CheeseCellar$Tokens","isLetter","(I)Z"⟩ prog_11_method_11_code 1 (Option.some FieldType.boolean) ∈ gw_all := gw_t (i := 518) (by decide +kernel) (by decide +kernel)
theorem ml_To_58 : Cond.methodLink "CheeseCellar$Tokens" 58 ⟨"CheeseCellar$Tokens","isDigit","(I)Z"⟩ ∈ gw_all := gw_t (i := 519) (by decide +kernel) (by decide +kernel)
theorem sm_To_isDigit : Cond.static ⟨"CheeseCellar$Tokens","isDigit","(I)Z"⟩ ∈ gw_all := gw_t (i := 520) (by decide +kernel) (by decide +kernel)
theorem co_To_isDigit : Cond.code ⟨"CheeseCellar$Tokens","isDigit","(I)Z"⟩ prog_11_method_12_code 1 (Option.some FieldType.boolean) ∈ gw_all := gw_t (i := 521) (by decide +kernel) (by decide +kernel)
theorem ml_To_54 : Cond.methodLink "CheeseCellar$Tokens" 54 ⟨"CheeseCellar$Tokens","wordAt","(LCheeseCellar$Tape;II)I"⟩ ∈ gw_all := gw_t (i := 522) (by decide +kernel) (by decide +kernel)
theorem sm_To_wordAt : Cond.static ⟨"CheeseCellar$Tokens","wordAt","(LCheeseCellar$Tape;II)I"⟩ ∈ gw_all := gw_t (i := 523) (by decide +kernel) (by decide +kernel)
theorem co_To_wordAt : Cond.code ⟨"CheeseCellar$Tokens","wordAt","(LCheeseCellar$Tape;II)I"⟩ prog_11_method_9_code 4 (Option.some FieldType.int) ∈ gw_all := gw_t (i := 524) (by decide +kernel) (by decide +kernel)
theorem ml_To_68 : Cond.methodLink "CheeseCellar$Tokens" 68 ⟨"CheeseCellar$Tokens","isWord","(ILCheeseCellar$Tape;II)Z"⟩ ∈ gw_all := gw_t (i := 525) (by decide +kernel) (by decide +kernel)
theorem sm_To_isWord : Cond.static ⟨"CheeseCellar$Tokens","isWord","(ILCheeseCellar$Tape;II)Z"⟩ ∈ gw_all := gw_t (i := 526) (by decide +kernel) (by decide +kernel)
theorem co_To_isWord : Cond.code ⟨"CheeseCellar$Tokens","isWord","(ILCheeseCellar$Tape;II)Z"⟩ prog_11_method_10_code 6 (Option.some FieldType.boolean) ∈ gw_all := gw_t (i := 527) (by decide +kernel) (by decide +kernel)
theorem ml_To_74 : Cond.methodLink "CheeseCellar$Tokens" 74 ⟨"java/lang/String","charAt","(I)C"⟩ ∈ gw_all := gw_t (i := 529) (by decide +kernel) (by decide +kernel)
theorem ml_To_61 : Cond.methodLink "CheeseCellar$Tokens" 61 ⟨"CheeseCellar$Tokens","isSign","(I)Z"⟩ ∈ gw_all := gw_t (i := 569) (by decide +kernel) (by decide +kernel)
theorem sm_To_isSign : Cond.static ⟨"CheeseCellar$Tokens","isSign","(I)Z"⟩ ∈ gw_all := gw_t (i := 570) (by decide +kernel) (by decide +kernel)
theorem co_To_isSign : Cond.code ⟨"CheeseCellar$Tokens","isSign","(I)Z"⟩ prog_11_method_13_code 1 (Option.some FieldType.boolean) ∈ gw_all := gw_t (i := 571) (by decide +kernel) (by decide +kernel)
theorem ml_To_38 : Cond.methodLink "CheeseCellar$Tokens" 38 ⟨"CheeseCellar$Tokens","numberOf","(LCheeseCellar$Tape;I)I"⟩ ∈ gw_all := gw_t (i := 572) (by decide +kernel) (by decide +kernel)
theorem sm_To_numberOf : Cond.static ⟨"CheeseCellar$Tokens","numberOf","(LCheeseCellar$Tape;I)I"⟩ ∈ gw_all := gw_t (i := 573) (by decide +kernel) (by decide +kernel)
theorem co_To_numberOf : Cond.code ⟨"CheeseCellar$Tokens","numberOf","(LCheeseCellar$Tape;I)I"⟩ prog_11_method_8_code 4 (Option.some FieldType.int) ∈ gw_all := gw_t (i := 574) (by decide +kernel) (by decide +kernel)
theorem ml_Re_32 : Cond.methodLink "CheeseCellar$Reader" 32 ⟨"CheeseCellar$Reader","step","()V"⟩ ∈ gw_all := gw_t (i := 575) (by decide +kernel) (by decide +kernel)
theorem im_Re_step : Cond.instanceMethod ⟨"CheeseCellar$Reader","step","()V"⟩ ∈ gw_all := gw_t (i := 577) (by decide +kernel) (by decide +kernel)
theorem co_Re_step : Cond.code ⟨"CheeseCellar$Reader","step","()V"⟩ prog_7_method_3_code 1 (Option.none : Option FieldType) ∈ gw_all := gw_t (i := 578) (by decide +kernel) (by decide +kernel)
theorem ml_Re_38 : Cond.methodLink "CheeseCellar$Reader" 38 ⟨"CheeseCellar$Orders","clear","()V"⟩ ∈ gw_all := gw_t (i := 579) (by decide +kernel) (by decide +kernel)
theorem im_Or_clear : Cond.instanceMethod ⟨"CheeseCellar$Orders","clear","()V"⟩ ∈ gw_all := gw_t (i := 580) (by decide +kernel) (by decide +kernel)
theorem se_Or_clear : Cond.selects "CheeseCellar$Orders" ⟨"CheeseCellar$Orders","clear","()V"⟩ ⟨"CheeseCellar$Orders","clear","()V"⟩ ∈ gw_all := gw_t (i := 581) (by decide +kernel) (by decide +kernel)
theorem co_Or_clear : Cond.code ⟨"CheeseCellar$Orders","clear","()V"⟩ prog_5_method_2_code 1 (Option.none : Option FieldType) ∈ gw_all := gw_t (i := 582) (by decide +kernel) (by decide +kernel)
theorem ml_Re_46 : Cond.methodLink "CheeseCellar$Reader" 46 ⟨"CheeseCellar$Reader","readLine","(LCheeseCellar$Orders;)Z"⟩ ∈ gw_all := gw_t (i := 583) (by decide +kernel) (by decide +kernel)
theorem im_Re_readLine : Cond.instanceMethod ⟨"CheeseCellar$Reader","readLine","(LCheeseCellar$Orders;)Z"⟩ ∈ gw_all := gw_t (i := 585) (by decide +kernel) (by decide +kernel)
theorem co_Re_readLine : Cond.code ⟨"CheeseCellar$Reader","readLine","(LCheeseCellar$Orders;)Z"⟩ prog_7_method_6_code 2 (Option.some FieldType.boolean) ∈ gw_all := gw_t (i := 586) (by decide +kernel) (by decide +kernel)
theorem ml_Re_73 : Cond.methodLink "CheeseCellar$Reader" 73 ⟨"CheeseCellar$Reader","pass","(I)Z"⟩ ∈ gw_all := gw_t (i := 587) (by decide +kernel) (by decide +kernel)
theorem im_Re_pass : Cond.instanceMethod ⟨"CheeseCellar$Reader","pass","(I)Z"⟩ ∈ gw_all := gw_t (i := 589) (by decide +kernel) (by decide +kernel)
theorem co_Re_pass : Cond.code ⟨"CheeseCellar$Reader","pass","(I)Z"⟩ prog_7_method_5_code 2 (Option.some FieldType.boolean) ∈ gw_all := gw_t (i := 590) (by decide +kernel) (by decide +kernel)
theorem ml_Re_50 : Cond.methodLink "CheeseCellar$Reader" 50 ⟨"CheeseCellar$Reader","refuse","(I)Z"⟩ ∈ gw_all := gw_t (i := 591) (by decide +kernel) (by decide +kernel)
theorem im_Re_refuse : Cond.instanceMethod ⟨"CheeseCellar$Reader","refuse","(I)Z"⟩ ∈ gw_all := gw_t (i := 593) (by decide +kernel) (by decide +kernel)
theorem co_Re_refuse : Cond.code ⟨"CheeseCellar$Reader","refuse","(I)Z"⟩ prog_7_method_4_code 2 (Option.some FieldType.boolean) ∈ gw_all := gw_t (i := 594) (by decide +kernel) (by decide +kernel)
theorem ml_Re_76 : Cond.methodLink "CheeseCellar$Reader" 76 ⟨"CheeseCellar$Reader","readJoined","(IILCheeseCellar$Orders;)Z"⟩ ∈ gw_all := gw_t (i := 595) (by decide +kernel) (by decide +kernel)
theorem im_Re_readJoined : Cond.instanceMethod ⟨"CheeseCellar$Reader","readJoined","(IILCheeseCellar$Orders;)Z"⟩ ∈ gw_all := gw_t (i := 597) (by decide +kernel) (by decide +kernel)
theorem co_Re_readJoined : Cond.code ⟨"CheeseCellar$Reader","readJoined","(IILCheeseCellar$Orders;)Z"⟩ prog_7_method_7_code 7 (Option.some FieldType.boolean) ∈ gw_all := gw_t (i := 598) (by decide +kernel) (by decide +kernel)
theorem ml_Re_84 : Cond.methodLink "CheeseCellar$Reader" 84 ⟨"CheeseCellar$Reader","readOne","(ILCheeseCellar$Orders;)Z"⟩ ∈ gw_all := gw_t (i := 599) (by decide +kernel) (by decide +kernel)
theorem im_Re_readOne : Cond.instanceMethod ⟨"CheeseCellar$Reader","readOne","(ILCheeseCellar$Orders;)Z"⟩ ∈ gw_all := gw_t (i := 601) (by decide +kernel) (by decide +kernel)
theorem co_Re_readOne : Cond.code ⟨"CheeseCellar$Reader","readOne","(ILCheeseCellar$Orders;)Z"⟩ prog_7_method_9_code 3 (Option.some FieldType.boolean) ∈ gw_all := gw_t (i := 602) (by decide +kernel) (by decide +kernel)
theorem ml_Re_91 : Cond.methodLink "CheeseCellar$Reader" 91 ⟨"CheeseCellar$Orders","addItem","(I)V"⟩ ∈ gw_all := gw_t (i := 603) (by decide +kernel) (by decide +kernel)
theorem im_Or_addItem : Cond.instanceMethod ⟨"CheeseCellar$Orders","addItem","(I)V"⟩ ∈ gw_all := gw_t (i := 604) (by decide +kernel) (by decide +kernel)
theorem se_Or_addItem : Cond.selects "CheeseCellar$Orders" ⟨"CheeseCellar$Orders","addItem","(I)V"⟩ ⟨"CheeseCellar$Orders","addItem","(I)V"⟩ ∈ gw_all := gw_t (i := 605) (by decide +kernel) (by decide +kernel)
theorem co_Or_addItem : Cond.code ⟨"CheeseCellar$Orders","addItem","(I)V"⟩ prog_5_method_3_code 2 (Option.none : Option FieldType) ∈ gw_all := gw_t (i := 606) (by decide +kernel) (by decide +kernel)
theorem ml_Re_97 : Cond.methodLink "CheeseCellar$Reader" 97 ⟨"CheeseCellar$Reader","readComparison","(ILCheeseCellar$Orders;)Z"⟩ ∈ gw_all := gw_t (i := 607) (by decide +kernel) (by decide +kernel)
theorem im_Re_readComparison : Cond.instanceMethod ⟨"CheeseCellar$Reader","readComparison","(ILCheeseCellar$Orders;)Z"⟩ ∈ gw_all := gw_t (i := 609) (by decide +kernel) (by decide +kernel)
theorem co_Re_readComparison : Cond.code ⟨"CheeseCellar$Reader","readComparison","(ILCheeseCellar$Orders;)Z"⟩ prog_7_method_10_code 4 (Option.some FieldType.boolean) ∈ gw_all := gw_t (i := 610) (by decide +kernel) (by decide +kernel)
theorem ml_Re_88 : Cond.methodLink "CheeseCellar$Reader" 88 ⟨"CheeseCellar$Reader","readTerm","(ILCheeseCellar$Orders;)Z"⟩ ∈ gw_all := gw_t (i := 611) (by decide +kernel) (by decide +kernel)
theorem im_Re_readTerm : Cond.instanceMethod ⟨"CheeseCellar$Reader","readTerm","(ILCheeseCellar$Orders;)Z"⟩ ∈ gw_all := gw_t (i := 613) (by decide +kernel) (by decide +kernel)
theorem co_Re_readTerm : Cond.code ⟨"CheeseCellar$Reader","readTerm","(ILCheeseCellar$Orders;)Z"⟩ prog_7_method_11_code 5 (Option.some FieldType.boolean) ∈ gw_all := gw_t (i := 614) (by decide +kernel) (by decide +kernel)
theorem ml_Re_94 : Cond.methodLink "CheeseCellar$Reader" 94 ⟨"CheeseCellar$Reader","isJoint","(I)Z"⟩ ∈ gw_all := gw_t (i := 615) (by decide +kernel) (by decide +kernel)
theorem im_Re_isJoint : Cond.instanceMethod ⟨"CheeseCellar$Reader","isJoint","(I)Z"⟩ ∈ gw_all := gw_t (i := 617) (by decide +kernel) (by decide +kernel)
theorem co_Re_isJoint : Cond.code ⟨"CheeseCellar$Reader","isJoint","(I)Z"⟩ prog_7_method_8_code 2 (Option.some FieldType.boolean) ∈ gw_all := gw_t (i := 618) (by decide +kernel) (by decide +kernel)
theorem ml_Re_80 : Cond.methodLink "CheeseCellar$Reader" 80 ⟨"CheeseCellar$Orders","closeLine","(I)V"⟩ ∈ gw_all := gw_t (i := 619) (by decide +kernel) (by decide +kernel)
theorem im_Or_closeLine : Cond.instanceMethod ⟨"CheeseCellar$Orders","closeLine","(I)V"⟩ ∈ gw_all := gw_t (i := 620) (by decide +kernel) (by decide +kernel)
theorem se_Or_closeLine : Cond.selects "CheeseCellar$Orders" ⟨"CheeseCellar$Orders","closeLine","(I)V"⟩ ⟨"CheeseCellar$Orders","closeLine","(I)V"⟩ ∈ gw_all := gw_t (i := 621) (by decide +kernel) (by decide +kernel)
theorem co_Or_closeLine : Cond.code ⟨"CheeseCellar$Orders","closeLine","(I)V"⟩ prog_5_method_4_code 2 (Option.none : Option FieldType) ∈ gw_all := gw_t (i := 622) (by decide +kernel) (by decide +kernel)
theorem ac_byte : Cond.arrayClass FieldType.byte ∈ gw_all := gw_t (i := 623) (by decide +kernel) (by decide +kernel)
theorem ml_Law_52 : Cond.methodLink "CheeseCellarLaw" 52 ⟨"CheeseCellar","fault","(I)I"⟩ ∈ gw_all := gw_t (i := 624) (by decide +kernel) (by decide +kernel)
theorem im_K_fault : Cond.instanceMethod ⟨"CheeseCellar","fault","(I)I"⟩ ∈ gw_all := gw_t (i := 625) (by decide +kernel) (by decide +kernel)
theorem se_K_fault : Cond.selects "CheeseCellar" ⟨"CheeseCellar","fault","(I)I"⟩ ⟨"CheeseCellar","fault","(I)I"⟩ ∈ gw_all := gw_t (i := 626) (by decide +kernel) (by decide +kernel)
theorem co_K_fault : Cond.code ⟨"CheeseCellar","fault","(I)I"⟩ prog_1_method_10_code 2 (Option.some FieldType.int) ∈ gw_all := gw_t (i := 627) (by decide +kernel) (by decide +kernel)
theorem ml_Law_56 : Cond.methodLink "CheeseCellarLaw" 56 ⟨"CheeseCellar","days","(I)I"⟩ ∈ gw_all := gw_t (i := 628) (by decide +kernel) (by decide +kernel)
theorem im_K_days : Cond.instanceMethod ⟨"CheeseCellar","days","(I)I"⟩ ∈ gw_all := gw_t (i := 629) (by decide +kernel) (by decide +kernel)
theorem se_K_days : Cond.selects "CheeseCellar" ⟨"CheeseCellar","days","(I)I"⟩ ⟨"CheeseCellar","days","(I)I"⟩ ∈ gw_all := gw_t (i := 630) (by decide +kernel) (by decide +kernel)
theorem co_K_days : Cond.code ⟨"CheeseCellar","days","(I)I"⟩ prog_1_method_11_code 4 (Option.some FieldType.int) ∈ gw_all := gw_t (i := 631) (by decide +kernel) (by decide +kernel)
theorem ki_K_164 : Cond.constant "CheeseCellar" 164 (100000 : Int32) ∈ gw_all := gw_t (i := 632) (by decide +kernel) (by decide +kernel)
theorem ml_K_165 : Cond.methodLink "CheeseCellar" 165 ⟨"java/lang/Math","min","(II)I"⟩ ∈ gw_all := gw_t (i := 633) (by decide +kernel) (by decide +kernel)
theorem sm_JM_min : Cond.static ⟨"java/lang/Math","min","(II)I"⟩ ∈ gw_all := gw_t (i := 634) (by decide +kernel) (by decide +kernel)
theorem co_JM_min : Cond.code ⟨"java/lang/Math","min","(II)I"⟩ prog_15_method_69_code 2 (Option.some FieldType.int) ∈ gw_all := gw_t (i := 635) (by decide +kernel) (by decide +kernel)
theorem ml_K_170 : Cond.methodLink "CheeseCellar" 170 ⟨"CheeseCellar","passDay","()V"⟩ ∈ gw_all := gw_t (i := 636) (by decide +kernel) (by decide +kernel)
theorem im_K_passDay : Cond.instanceMethod ⟨"CheeseCellar","passDay","()V"⟩ ∈ gw_all := gw_t (i := 638) (by decide +kernel) (by decide +kernel)
theorem co_K_passDay : Cond.code ⟨"CheeseCellar","passDay","()V"⟩ prog_1_method_37_code 5 (Option.none : Option FieldType) ∈ gw_all := gw_t (i := 639) (by decide +kernel) (by decide +kernel)
theorem ml_K_302 : Cond.methodLink "CheeseCellar" 302 ⟨"CheeseCellar$Shelves","airAt","(I)I"⟩ ∈ gw_all := gw_t (i := 640) (by decide +kernel) (by decide +kernel)
theorem im_Sh_airAt : Cond.instanceMethod ⟨"CheeseCellar$Shelves","airAt","(I)I"⟩ ∈ gw_all := gw_t (i := 641) (by decide +kernel) (by decide +kernel)
theorem se_Sh_airAt : Cond.selects "CheeseCellar$Shelves" ⟨"CheeseCellar$Shelves","airAt","(I)I"⟩ ⟨"CheeseCellar$Shelves","airAt","(I)I"⟩ ∈ gw_all := gw_t (i := 642) (by decide +kernel) (by decide +kernel)
theorem co_Sh_airAt : Cond.code ⟨"CheeseCellar$Shelves","airAt","(I)I"⟩ prog_8_method_2_code 2 (Option.some FieldType.int) ∈ gw_all := gw_t (i := 643) (by decide +kernel) (by decide +kernel)
theorem ml_K_305 : Cond.methodLink "CheeseCellar" 305 ⟨"CheeseCellar$Shelves","dampAt","(I)I"⟩ ∈ gw_all := gw_t (i := 644) (by decide +kernel) (by decide +kernel)
theorem im_Sh_dampAt : Cond.instanceMethod ⟨"CheeseCellar$Shelves","dampAt","(I)I"⟩ ∈ gw_all := gw_t (i := 645) (by decide +kernel) (by decide +kernel)
theorem se_Sh_dampAt : Cond.selects "CheeseCellar$Shelves" ⟨"CheeseCellar$Shelves","dampAt","(I)I"⟩ ⟨"CheeseCellar$Shelves","dampAt","(I)I"⟩ ∈ gw_all := gw_t (i := 646) (by decide +kernel) (by decide +kernel)
theorem co_Sh_dampAt : Cond.code ⟨"CheeseCellar$Shelves","dampAt","(I)I"⟩ prog_8_method_3_code 2 (Option.some FieldType.int) ∈ gw_all := gw_t (i := 647) (by decide +kernel) (by decide +kernel)
theorem ml_K_308 : Cond.methodLink "CheeseCellar" 308 ⟨"CheeseCellar$Orders","obeyFor","(LCheeseCellar$Wheel;III)V"⟩ ∈ gw_all := gw_t (i := 648) (by decide +kernel) (by decide +kernel)
theorem im_Or_obeyFor : Cond.instanceMethod ⟨"CheeseCellar$Orders","obeyFor","(LCheeseCellar$Wheel;III)V"⟩ ∈ gw_all := gw_t (i := 649) (by decide +kernel) (by decide +kernel)
theorem se_Or_obeyFor : Cond.selects "CheeseCellar$Orders" ⟨"CheeseCellar$Orders","obeyFor","(LCheeseCellar$Wheel;III)V"⟩ ⟨"CheeseCellar$Orders","obeyFor","(LCheeseCellar$Wheel;III)V"⟩ ∈ gw_all := gw_t (i := 650) (by decide +kernel) (by decide +kernel)
theorem co_Or_obeyFor : Cond.code ⟨"CheeseCellar$Orders","obeyFor","(LCheeseCellar$Wheel;III)V"⟩ prog_5_method_5_code 7 (Option.none : Option FieldType) ∈ gw_all := gw_t (i := 651) (by decide +kernel) (by decide +kernel)
theorem ml_Or_34 : Cond.methodLink "CheeseCellar$Orders" 34 ⟨"CheeseCellar$Orders","nameThings","(LCheeseCellar$Wheel;I)V"⟩ ∈ gw_all := gw_t (i := 652) (by decide +kernel) (by decide +kernel)
theorem im_Or_nameThings : Cond.instanceMethod ⟨"CheeseCellar$Orders","nameThings","(LCheeseCellar$Wheel;I)V"⟩ ∈ gw_all := gw_t (i := 654) (by decide +kernel) (by decide +kernel)
theorem co_Or_nameThings : Cond.code ⟨"CheeseCellar$Orders","nameThings","(LCheeseCellar$Wheel;I)V"⟩ prog_5_method_6_code 3 (Option.none : Option FieldType) ∈ gw_all := gw_t (i := 655) (by decide +kernel) (by decide +kernel)
theorem ml_Or_38 : Cond.methodLink "CheeseCellar$Orders" 38 ⟨"CheeseCellar$Orders","workOut","(II)I"⟩ ∈ gw_all := gw_t (i := 656) (by decide +kernel) (by decide +kernel)
theorem im_Or_workOut : Cond.instanceMethod ⟨"CheeseCellar$Orders","workOut","(II)I"⟩ ∈ gw_all := gw_t (i := 658) (by decide +kernel) (by decide +kernel)
theorem co_Or_workOut : Cond.code ⟨"CheeseCellar$Orders","workOut","(II)I"⟩ prog_5_method_7_code 5 (Option.some FieldType.int) ∈ gw_all := gw_t (i := 659) (by decide +kernel) (by decide +kernel)
theorem ml_Or_72 : Cond.methodLink "CheeseCellar$Orders" 72 ⟨"CheeseCellar$Orders","put","(I)V"⟩ ∈ gw_all := gw_t (i := 660) (by decide +kernel) (by decide +kernel)
theorem im_Or_put : Cond.instanceMethod ⟨"CheeseCellar$Orders","put","(I)V"⟩ ∈ gw_all := gw_t (i := 662) (by decide +kernel) (by decide +kernel)
theorem co_Or_put : Cond.code ⟨"CheeseCellar$Orders","put","(I)V"⟩ prog_5_method_10_code 2 (Option.none : Option FieldType) ∈ gw_all := gw_t (i := 663) (by decide +kernel) (by decide +kernel)
theorem ml_Or_75 : Cond.methodLink "CheeseCellar$Orders" 75 ⟨"CheeseCellar$Orders","applyToken","(I)V"⟩ ∈ gw_all := gw_t (i := 664) (by decide +kernel) (by decide +kernel)
theorem im_Or_applyToken : Cond.instanceMethod ⟨"CheeseCellar$Orders","applyToken","(I)V"⟩ ∈ gw_all := gw_t (i := 666) (by decide +kernel) (by decide +kernel)
theorem co_Or_applyToken : Cond.code ⟨"CheeseCellar$Orders","applyToken","(I)V"⟩ prog_5_method_8_code 4 (Option.none : Option FieldType) ∈ gw_all := gw_t (i := 667) (by decide +kernel) (by decide +kernel)
theorem ml_Or_78 : Cond.methodLink "CheeseCellar$Orders" 78 ⟨"CheeseCellar$Orders","pick","()I"⟩ ∈ gw_all := gw_t (i := 668) (by decide +kernel) (by decide +kernel)
theorem im_Or_pick : Cond.instanceMethod ⟨"CheeseCellar$Orders","pick","()I"⟩ ∈ gw_all := gw_t (i := 670) (by decide +kernel) (by decide +kernel)
theorem co_Or_pick : Cond.code ⟨"CheeseCellar$Orders","pick","()I"⟩ prog_5_method_11_code 1 (Option.some FieldType.int) ∈ gw_all := gw_t (i := 671) (by decide +kernel) (by decide +kernel)
theorem ml_Or_82 : Cond.methodLink "CheeseCellar$Orders" 82 ⟨"CheeseCellar$Orders","join","(III)I"⟩ ∈ gw_all := gw_t (i := 672) (by decide +kernel) (by decide +kernel)
theorem sm_Or_join : Cond.static ⟨"CheeseCellar$Orders","join","(III)I"⟩ ∈ gw_all := gw_t (i := 673) (by decide +kernel) (by decide +kernel)
theorem co_Or_join : Cond.code ⟨"CheeseCellar$Orders","join","(III)I"⟩ prog_5_method_9_code 3 (Option.some FieldType.int) ∈ gw_all := gw_t (i := 674) (by decide +kernel) (by decide +kernel)
theorem ml_Or_42 : Cond.methodLink "CheeseCellar$Orders" 42 ⟨"CheeseCellar$Wheel","doDeed","(I)V"⟩ ∈ gw_all := gw_t (i := 675) (by decide +kernel) (by decide +kernel)
theorem im_Wh_doDeed : Cond.instanceMethod ⟨"CheeseCellar$Wheel","doDeed","(I)V"⟩ ∈ gw_all := gw_t (i := 676) (by decide +kernel) (by decide +kernel)
theorem se_Wh_doDeed : Cond.selects "CheeseCellar$Wheel" ⟨"CheeseCellar$Wheel","doDeed","(I)V"⟩ ⟨"CheeseCellar$Wheel","doDeed","(I)V"⟩ ∈ gw_all := gw_t (i := 677) (by decide +kernel) (by decide +kernel)
theorem co_Wh_doDeed : Cond.code ⟨"CheeseCellar$Wheel","doDeed","(I)V"⟩ prog_12_method_2_code 2 (Option.none : Option FieldType) ∈ gw_all := gw_t (i := 678) (by decide +kernel) (by decide +kernel)
theorem ml_Wh_33 : Cond.methodLink "CheeseCellar$Wheel" 33 ⟨"CheeseCellar$Wheel","within","(I)I"⟩ ∈ gw_all := gw_t (i := 679) (by decide +kernel) (by decide +kernel)
theorem sm_Wh_within : Cond.static ⟨"CheeseCellar$Wheel","within","(I)I"⟩ ∈ gw_all := gw_t (i := 680) (by decide +kernel) (by decide +kernel)
theorem co_Wh_within : Cond.code ⟨"CheeseCellar$Wheel","within","(I)I"⟩ prog_12_method_5_code 1 (Option.some FieldType.int) ∈ gw_all := gw_t (i := 681) (by decide +kernel) (by decide +kernel)
theorem ki_Wh_47 : Cond.constant "CheeseCellar$Wheel" 47 (1000000 : Int32) ∈ gw_all := gw_t (i := 682) (by decide +kernel) (by decide +kernel)
theorem ml_Wh_48 : Cond.methodLink "CheeseCellar$Wheel" 48 ⟨"java/lang/Math","min","(II)I"⟩ ∈ gw_all := gw_t (i := 683) (by decide +kernel) (by decide +kernel)
theorem ml_Wh_53 : Cond.methodLink "CheeseCellar$Wheel" 53 ⟨"java/lang/Math","max","(II)I"⟩ ∈ gw_all := gw_t (i := 684) (by decide +kernel) (by decide +kernel)
theorem sm_JM_max : Cond.static ⟨"java/lang/Math","max","(II)I"⟩ ∈ gw_all := gw_t (i := 685) (by decide +kernel) (by decide +kernel)
theorem co_JM_max : Cond.code ⟨"java/lang/Math","max","(II)I"⟩ prog_15_method_65_code 2 (Option.some FieldType.int) ∈ gw_all := gw_t (i := 686) (by decide +kernel) (by decide +kernel)
theorem ml_K_312 : Cond.methodLink "CheeseCellar" 312 ⟨"CheeseCellar$Wheel","ripen","(II)V"⟩ ∈ gw_all := gw_t (i := 687) (by decide +kernel) (by decide +kernel)
theorem im_Wh_ripen : Cond.instanceMethod ⟨"CheeseCellar$Wheel","ripen","(II)V"⟩ ∈ gw_all := gw_t (i := 688) (by decide +kernel) (by decide +kernel)
theorem se_Wh_ripen : Cond.selects "CheeseCellar$Wheel" ⟨"CheeseCellar$Wheel","ripen","(II)V"⟩ ⟨"CheeseCellar$Wheel","ripen","(II)V"⟩ ∈ gw_all := gw_t (i := 689) (by decide +kernel) (by decide +kernel)
theorem co_Wh_ripen : Cond.code ⟨"CheeseCellar$Wheel","ripen","(II)V"⟩ prog_12_method_3_code 3 (Option.none : Option FieldType) ∈ gw_all := gw_t (i := 690) (by decide +kernel) (by decide +kernel)
theorem ml_Wh_43 : Cond.methodLink "CheeseCellar$Wheel" 43 ⟨"CheeseCellar$Wheel","ripeningBy","(II)I"⟩ ∈ gw_all := gw_t (i := 691) (by decide +kernel) (by decide +kernel)
theorem im_Wh_ripeningBy : Cond.instanceMethod ⟨"CheeseCellar$Wheel","ripeningBy","(II)I"⟩ ∈ gw_all := gw_t (i := 693) (by decide +kernel) (by decide +kernel)
theorem co_Wh_ripeningBy : Cond.code ⟨"CheeseCellar$Wheel","ripeningBy","(II)I"⟩ prog_12_method_4_code 3 (Option.some FieldType.int) ∈ gw_all := gw_t (i := 694) (by decide +kernel) (by decide +kernel)
theorem ml_Law_60 : Cond.methodLink "CheeseCellarLaw" 60 ⟨"CheeseCellar","of","(II)I"⟩ ∈ gw_all := gw_t (i := 695) (by decide +kernel) (by decide +kernel)
theorem im_K_of : Cond.instanceMethod ⟨"CheeseCellar","of","(II)I"⟩ ∈ gw_all := gw_t (i := 696) (by decide +kernel) (by decide +kernel)
theorem se_K_of : Cond.selects "CheeseCellar" ⟨"CheeseCellar","of","(II)I"⟩ ⟨"CheeseCellar","of","(II)I"⟩ ∈ gw_all := gw_t (i := 697) (by decide +kernel) (by decide +kernel)
theorem co_K_of : Cond.code ⟨"CheeseCellar","of","(II)I"⟩ prog_1_method_12_code 4 (Option.some FieldType.int) ∈ gw_all := gw_t (i := 698) (by decide +kernel) (by decide +kernel)
theorem ml_K_188 : Cond.methodLink "CheeseCellar" 188 ⟨"CheeseCellar","ageOf","(LCheeseCellar$Wheel;)I"⟩ ∈ gw_all := gw_t (i := 699) (by decide +kernel) (by decide +kernel)
theorem im_K_ageOf : Cond.instanceMethod ⟨"CheeseCellar","ageOf","(LCheeseCellar$Wheel;)I"⟩ ∈ gw_all := gw_t (i := 701) (by decide +kernel) (by decide +kernel)
theorem co_K_ageOf : Cond.code ⟨"CheeseCellar","ageOf","(LCheeseCellar$Wheel;)I"⟩ prog_1_method_30_code 2 (Option.some FieldType.int) ∈ gw_all := gw_t (i := 702) (by decide +kernel) (by decide +kernel)
theorem ml_K_195 : Cond.methodLink "CheeseCellar" 195 ⟨"CheeseCellar","isSuited","(LCheeseCellar$Wheel;I)Z"⟩ ∈ gw_all := gw_t (i := 703) (by decide +kernel) (by decide +kernel)
theorem im_K_isSuited : Cond.instanceMethod ⟨"CheeseCellar","isSuited","(LCheeseCellar$Wheel;I)Z"⟩ ∈ gw_all := gw_t (i := 705) (by decide +kernel) (by decide +kernel)
theorem co_K_isSuited : Cond.code ⟨"CheeseCellar","isSuited","(LCheeseCellar$Wheel;I)Z"⟩ prog_1_method_31_code 3 (Option.some FieldType.boolean) ∈ gw_all := gw_t (i := 706) (by decide +kernel) (by decide +kernel)
theorem ml_K_276 : Cond.methodLink "CheeseCellar" 276 ⟨"CheeseCellar$Bands","allow","(III)Z"⟩ ∈ gw_all := gw_t (i := 707) (by decide +kernel) (by decide +kernel)
theorem im_Ba_allow : Cond.instanceMethod ⟨"CheeseCellar$Bands","allow","(III)Z"⟩ ∈ gw_all := gw_t (i := 708) (by decide +kernel) (by decide +kernel)
theorem se_Ba_allow : Cond.selects "CheeseCellar$Bands" ⟨"CheeseCellar$Bands","allow","(III)Z"⟩ ⟨"CheeseCellar$Bands","allow","(III)Z"⟩ ∈ gw_all := gw_t (i := 709) (by decide +kernel) (by decide +kernel)
theorem co_Ba_allow : Cond.code ⟨"CheeseCellar$Bands","allow","(III)Z"⟩ prog_2_method_4_code 5 (Option.some FieldType.boolean) ∈ gw_all := gw_t (i := 710) (by decide +kernel) (by decide +kernel)
theorem ml_Ba_32 : Cond.methodLink "CheeseCellar$Bands" 32 ⟨"CheeseCellar$Bands","placeFor","(II)I"⟩ ∈ gw_all := gw_t (i := 711) (by decide +kernel) (by decide +kernel)
theorem im_Ba_placeFor : Cond.instanceMethod ⟨"CheeseCellar$Bands","placeFor","(II)I"⟩ ∈ gw_all := gw_t (i := 713) (by decide +kernel) (by decide +kernel)
theorem co_Ba_placeFor : Cond.code ⟨"CheeseCellar$Bands","placeFor","(II)I"⟩ prog_2_method_5_code 6 (Option.some FieldType.int) ∈ gw_all := gw_t (i := 714) (by decide +kernel) (by decide +kernel)
theorem ml_Law_64 : Cond.methodLink "CheeseCellarLaw" 64 ⟨"CheeseCellar","from","(II)I"⟩ ∈ gw_all := gw_t (i := 716) (by decide +kernel) (by decide +kernel)
theorem im_K_from : Cond.instanceMethod ⟨"CheeseCellar","from","(II)I"⟩ ∈ gw_all := gw_t (i := 717) (by decide +kernel) (by decide +kernel)
theorem se_K_from : Cond.selects "CheeseCellar" ⟨"CheeseCellar","from","(II)I"⟩ ⟨"CheeseCellar","from","(II)I"⟩ ∈ gw_all := gw_t (i := 718) (by decide +kernel) (by decide +kernel)
theorem co_K_from : Cond.code ⟨"CheeseCellar","from","(II)I"⟩ prog_1_method_13_code 4 (Option.some FieldType.int) ∈ gw_all := gw_t (i := 719) (by decide +kernel) (by decide +kernel)
theorem ml_Law_68 : Cond.methodLink "CheeseCellarLaw" 68 ⟨"CheeseCellar","band","(IIII)I"⟩ ∈ gw_all := gw_t (i := 720) (by decide +kernel) (by decide +kernel)
theorem im_K_band : Cond.instanceMethod ⟨"CheeseCellar","band","(IIII)I"⟩ ∈ gw_all := gw_t (i := 721) (by decide +kernel) (by decide +kernel)
theorem se_K_band : Cond.selects "CheeseCellar" ⟨"CheeseCellar","band","(IIII)I"⟩ ⟨"CheeseCellar","band","(IIII)I"⟩ ∈ gw_all := gw_t (i := 722) (by decide +kernel) (by decide +kernel)
theorem co_K_band : Cond.code ⟨"CheeseCellar","band","(IIII)I"⟩ prog_1_method_14_code 6 (Option.some FieldType.int) ∈ gw_all := gw_t (i := 723) (by decide +kernel) (by decide +kernel)
theorem ml_K_212 : Cond.methodLink "CheeseCellar" 212 ⟨"CheeseCellar$Bands","haveRoomFor","(I)Z"⟩ ∈ gw_all := gw_t (i := 724) (by decide +kernel) (by decide +kernel)
theorem im_Ba_haveRoomFor : Cond.instanceMethod ⟨"CheeseCellar$Bands","haveRoomFor","(I)Z"⟩ ∈ gw_all := gw_t (i := 725) (by decide +kernel) (by decide +kernel)
theorem se_Ba_haveRoomFor : Cond.selects "CheeseCellar$Bands" ⟨"CheeseCellar$Bands","haveRoomFor","(I)Z"⟩ ⟨"CheeseCellar$Bands","haveRoomFor","(I)Z"⟩ ∈ gw_all := gw_t (i := 726) (by decide +kernel) (by decide +kernel)
theorem co_Ba_haveRoomFor : Cond.code ⟨"CheeseCellar$Bands","haveRoomFor","(I)Z"⟩ prog_2_method_2_code 2 (Option.some FieldType.boolean) ∈ gw_all := gw_t (i := 727) (by decide +kernel) (by decide +kernel)
theorem ml_K_213 : Cond.methodLink "CheeseCellar" 213 ⟨"CheeseCellar$Bands","keep","(IIII)I"⟩ ∈ gw_all := gw_t (i := 728) (by decide +kernel) (by decide +kernel)
theorem im_Ba_keep : Cond.instanceMethod ⟨"CheeseCellar$Bands","keep","(IIII)I"⟩ ∈ gw_all := gw_t (i := 729) (by decide +kernel) (by decide +kernel)
theorem se_Ba_keep : Cond.selects "CheeseCellar$Bands" ⟨"CheeseCellar$Bands","keep","(IIII)I"⟩ ⟨"CheeseCellar$Bands","keep","(IIII)I"⟩ ∈ gw_all := gw_t (i := 730) (by decide +kernel) (by decide +kernel)
theorem co_Ba_keep : Cond.code ⟨"CheeseCellar$Bands","keep","(IIII)I"⟩ prog_2_method_3_code 6 (Option.some FieldType.int) ∈ gw_all := gw_t (i := 731) (by decide +kernel) (by decide +kernel)
theorem ml_Ba_28 : Cond.methodLink "CheeseCellar$Bands" 28 ⟨"CheeseCellar$Bands","haveRoomFor","(I)Z"⟩ ∈ gw_all := gw_t (i := 732) (by decide +kernel) (by decide +kernel)
theorem ml_Law_73 : Cond.methodLink "CheeseCellarLaw" 73 ⟨"CheeseCellar","suits","(II)I"⟩ ∈ gw_all := gw_t (i := 733) (by decide +kernel) (by decide +kernel)
theorem im_K_suits : Cond.instanceMethod ⟨"CheeseCellar","suits","(II)I"⟩ ∈ gw_all := gw_t (i := 734) (by decide +kernel) (by decide +kernel)
theorem se_K_suits : Cond.selects "CheeseCellar" ⟨"CheeseCellar","suits","(II)I"⟩ ⟨"CheeseCellar","suits","(II)I"⟩ ∈ gw_all := gw_t (i := 735) (by decide +kernel) (by decide +kernel)
theorem co_K_suits : Cond.code ⟨"CheeseCellar","suits","(II)I"⟩ prog_1_method_15_code 4 (Option.some FieldType.int) ∈ gw_all := gw_t (i := 736) (by decide +kernel) (by decide +kernel)
theorem ml_Law_77 : Cond.methodLink "CheeseCellarLaw" 77 ⟨"CheeseCellar","move","(II)Z"⟩ ∈ gw_all := gw_t (i := 737) (by decide +kernel) (by decide +kernel)
theorem im_K_move : Cond.instanceMethod ⟨"CheeseCellar","move","(II)Z"⟩ ∈ gw_all := gw_t (i := 738) (by decide +kernel) (by decide +kernel)
theorem se_K_move : Cond.selects "CheeseCellar" ⟨"CheeseCellar","move","(II)Z"⟩ ⟨"CheeseCellar","move","(II)Z"⟩ ∈ gw_all := gw_t (i := 739) (by decide +kernel) (by decide +kernel)
theorem co_K_move : Cond.code ⟨"CheeseCellar","move","(II)Z"⟩ prog_1_method_16_code 4 (Option.some FieldType.boolean) ∈ gw_all := gw_t (i := 740) (by decide +kernel) (by decide +kernel)
theorem ml_K_217 : Cond.methodLink "CheeseCellar" 217 ⟨"CheeseCellar","takeTo","(LCheeseCellar$Wheel;I)V"⟩ ∈ gw_all := gw_t (i := 741) (by decide +kernel) (by decide +kernel)
theorem im_K_takeTo : Cond.instanceMethod ⟨"CheeseCellar","takeTo","(LCheeseCellar$Wheel;I)V"⟩ ∈ gw_all := gw_t (i := 743) (by decide +kernel) (by decide +kernel)
theorem co_K_takeTo : Cond.code ⟨"CheeseCellar","takeTo","(LCheeseCellar$Wheel;I)V"⟩ prog_1_method_36_code 3 (Option.none : Option FieldType) ∈ gw_all := gw_t (i := 744) (by decide +kernel) (by decide +kernel)
theorem ml_Law_81 : Cond.methodLink "CheeseCellarLaw" 81 ⟨"CheeseCellar","plan","()I"⟩ ∈ gw_all := gw_t (i := 745) (by decide +kernel) (by decide +kernel)
theorem im_K_plan : Cond.instanceMethod ⟨"CheeseCellar","plan","()I"⟩ ∈ gw_all := gw_t (i := 746) (by decide +kernel) (by decide +kernel)
theorem se_K_plan : Cond.selects "CheeseCellar" ⟨"CheeseCellar","plan","()I"⟩ ⟨"CheeseCellar","plan","()I"⟩ ∈ gw_all := gw_t (i := 747) (by decide +kernel) (by decide +kernel)
theorem co_K_plan : Cond.code ⟨"CheeseCellar","plan","()I"⟩ prog_1_method_17_code 3 (Option.some FieldType.int) ∈ gw_all := gw_t (i := 748) (by decide +kernel) (by decide +kernel)
theorem ml_K_221 : Cond.methodLink "CheeseCellar" 221 ⟨"CheeseCellar$Planner","start","(LCheeseCellar$Shelves;)V"⟩ ∈ gw_all := gw_t (i := 749) (by decide +kernel) (by decide +kernel)
theorem im_Pl_start : Cond.instanceMethod ⟨"CheeseCellar$Planner","start","(LCheeseCellar$Shelves;)V"⟩ ∈ gw_all := gw_t (i := 750) (by decide +kernel) (by decide +kernel)
theorem se_Pl_start : Cond.selects "CheeseCellar$Planner" ⟨"CheeseCellar$Planner","start","(LCheeseCellar$Shelves;)V"⟩ ⟨"CheeseCellar$Planner","start","(LCheeseCellar$Shelves;)V"⟩ ∈ gw_all := gw_t (i := 751) (by decide +kernel) (by decide +kernel)
theorem co_Pl_start : Cond.code ⟨"CheeseCellar$Planner","start","(LCheeseCellar$Shelves;)V"⟩ prog_6_method_2_code 3 (Option.none : Option FieldType) ∈ gw_all := gw_t (i := 752) (by decide +kernel) (by decide +kernel)
theorem kj_Pl_43 : Cond.constantLong "CheeseCellar$Planner" 43 (9223372036854775807 : Int64) ∈ gw_all := gw_t (i := 753) (by decide +kernel) (by decide +kernel)
theorem ml_Pl_45 : Cond.methodLink "CheeseCellar$Planner" 45 ⟨"java/util/Arrays","fill","([JJ)V"⟩ ∈ gw_all := gw_t (i := 754) (by decide +kernel) (by decide +kernel)
theorem sm_JA_fill_J : Cond.static ⟨"java/util/Arrays","fill","([JJ)V"⟩ ∈ gw_all := gw_t (i := 755) (by decide +kernel) (by decide +kernel)
theorem co_JA_fill_J : Cond.code ⟨"java/util/Arrays","fill","([JJ)V"⟩ prog_19_method_101_code 5 (Option.none : Option FieldType) ∈ gw_all := gw_t (i := 756) (by decide +kernel) (by decide +kernel)
theorem ml_Pl_51 : Cond.methodLink "CheeseCellar$Planner" 51 ⟨"CheeseCellar$Shelves","roomAt","(I)I"⟩ ∈ gw_all := gw_t (i := 757) (by decide +kernel) (by decide +kernel)
theorem ml_K_225 : Cond.methodLink "CheeseCellar" 225 ⟨"CheeseCellar$Planner","isFull","()Z"⟩ ∈ gw_all := gw_t (i := 758) (by decide +kernel) (by decide +kernel)
theorem im_Pl_isFull : Cond.instanceMethod ⟨"CheeseCellar$Planner","isFull","()Z"⟩ ∈ gw_all := gw_t (i := 759) (by decide +kernel) (by decide +kernel)
theorem se_Pl_isFull : Cond.selects "CheeseCellar$Planner" ⟨"CheeseCellar$Planner","isFull","()Z"⟩ ⟨"CheeseCellar$Planner","isFull","()Z"⟩ ∈ gw_all := gw_t (i := 760) (by decide +kernel) (by decide +kernel)
theorem co_Pl_isFull : Cond.code ⟨"CheeseCellar$Planner","isFull","()Z"⟩ prog_6_method_3_code 1 (Option.some FieldType.boolean) ∈ gw_all := gw_t (i := 761) (by decide +kernel) (by decide +kernel)
theorem ml_K_228 : Cond.methodLink "CheeseCellar" 228 ⟨"CheeseCellar","askPlanFor","(LCheeseCellar$Wheel;)V"⟩ ∈ gw_all := gw_t (i := 762) (by decide +kernel) (by decide +kernel)
theorem im_K_askPlanFor : Cond.instanceMethod ⟨"CheeseCellar","askPlanFor","(LCheeseCellar$Wheel;)V"⟩ ∈ gw_all := gw_t (i := 764) (by decide +kernel) (by decide +kernel)
theorem co_K_askPlanFor : Cond.code ⟨"CheeseCellar","askPlanFor","(LCheeseCellar$Wheel;)V"⟩ prog_1_method_38_code 3 (Option.none : Option FieldType) ∈ gw_all := gw_t (i := 765) (by decide +kernel) (by decide +kernel)
theorem ml_K_315 : Cond.methodLink "CheeseCellar" 315 ⟨"CheeseCellar$Planner","ask","(II)V"⟩ ∈ gw_all := gw_t (i := 766) (by decide +kernel) (by decide +kernel)
theorem im_Pl_ask : Cond.instanceMethod ⟨"CheeseCellar$Planner","ask","(II)V"⟩ ∈ gw_all := gw_t (i := 767) (by decide +kernel) (by decide +kernel)
theorem se_Pl_ask : Cond.selects "CheeseCellar$Planner" ⟨"CheeseCellar$Planner","ask","(II)V"⟩ ⟨"CheeseCellar$Planner","ask","(II)V"⟩ ∈ gw_all := gw_t (i := 768) (by decide +kernel) (by decide +kernel)
theorem co_Pl_ask : Cond.code ⟨"CheeseCellar$Planner","ask","(II)V"⟩ prog_6_method_4_code 3 (Option.none : Option FieldType) ∈ gw_all := gw_t (i := 769) (by decide +kernel) (by decide +kernel)
theorem ml_Pl_57 : Cond.methodLink "CheeseCellar$Planner" 57 ⟨"CheeseCellar$Planner","isFull","()Z"⟩ ∈ gw_all := gw_t (i := 770) (by decide +kernel) (by decide +kernel)
theorem ml_K_318 : Cond.methodLink "CheeseCellar" 318 ⟨"CheeseCellar$Planner","allowLast","(I)V"⟩ ∈ gw_all := gw_t (i := 772) (by decide +kernel) (by decide +kernel)
theorem im_Pl_allowLast : Cond.instanceMethod ⟨"CheeseCellar$Planner","allowLast","(I)V"⟩ ∈ gw_all := gw_t (i := 773) (by decide +kernel) (by decide +kernel)
theorem se_Pl_allowLast : Cond.selects "CheeseCellar$Planner" ⟨"CheeseCellar$Planner","allowLast","(I)V"⟩ ⟨"CheeseCellar$Planner","allowLast","(I)V"⟩ ∈ gw_all := gw_t (i := 774) (by decide +kernel) (by decide +kernel)
theorem co_Pl_allowLast : Cond.code ⟨"CheeseCellar$Planner","allowLast","(I)V"⟩ prog_6_method_5_code 6 (Option.none : Option FieldType) ∈ gw_all := gw_t (i := 775) (by decide +kernel) (by decide +kernel)
theorem kj_Pl_65 : Cond.constantLong "CheeseCellar$Planner" 65 (63403380965376 : Int64) ∈ gw_all := gw_t (i := 776) (by decide +kernel) (by decide +kernel)
theorem kj_Pl_67 : Cond.constantLong "CheeseCellar$Planner" 67 (24 : Int64) ∈ gw_all := gw_t (i := 777) (by decide +kernel) (by decide +kernel)
theorem ml_Pl_69 : Cond.methodLink "CheeseCellar$Planner" 69 ⟨"CheeseCellar$Planner","wayBetween","(II)I"⟩ ∈ gw_all := gw_t (i := 778) (by decide +kernel) (by decide +kernel)
theorem sm_Pl_wayBetween : Cond.static ⟨"CheeseCellar$Planner","wayBetween","(II)I"⟩ ∈ gw_all := gw_t (i := 779) (by decide +kernel) (by decide +kernel)
theorem co_Pl_wayBetween : Cond.code ⟨"CheeseCellar$Planner","wayBetween","(II)I"⟩ prog_6_method_11_code 4 (Option.some FieldType.int) ∈ gw_all := gw_t (i := 780) (by decide +kernel) (by decide +kernel)
theorem ml_Pl_90 : Cond.methodLink "CheeseCellar$Planner" 90 ⟨"java/lang/Math","abs","(I)I"⟩ ∈ gw_all := gw_t (i := 781) (by decide +kernel) (by decide +kernel)
theorem sm_JM_abs : Cond.static ⟨"java/lang/Math","abs","(I)I"⟩ ∈ gw_all := gw_t (i := 782) (by decide +kernel) (by decide +kernel)
theorem co_JM_abs : Cond.code ⟨"java/lang/Math","abs","(I)I"⟩ prog_15_method_59_code 1 (Option.some FieldType.int) ∈ gw_all := gw_t (i := 783) (by decide +kernel) (by decide +kernel)
theorem ml_K_232 : Cond.methodLink "CheeseCellar" 232 ⟨"CheeseCellar$Planner","findBest","()I"⟩ ∈ gw_all := gw_t (i := 784) (by decide +kernel) (by decide +kernel)
theorem im_Pl_findBest : Cond.instanceMethod ⟨"CheeseCellar$Planner","findBest","()I"⟩ ∈ gw_all := gw_t (i := 785) (by decide +kernel) (by decide +kernel)
theorem se_Pl_findBest : Cond.selects "CheeseCellar$Planner" ⟨"CheeseCellar$Planner","findBest","()I"⟩ ⟨"CheeseCellar$Planner","findBest","()I"⟩ ∈ gw_all := gw_t (i := 786) (by decide +kernel) (by decide +kernel)
theorem co_Pl_findBest : Cond.code ⟨"CheeseCellar$Planner","findBest","()I"⟩ prog_6_method_6_code 3 (Option.some FieldType.int) ∈ gw_all := gw_t (i := 787) (by decide +kernel) (by decide +kernel)
theorem ml_Pl_73 : Cond.methodLink "CheeseCellar$Planner" 73 ⟨"CheeseCellar$Planner","placeRow","(I)Z"⟩ ∈ gw_all := gw_t (i := 788) (by decide +kernel) (by decide +kernel)
theorem im_Pl_placeRow : Cond.instanceMethod ⟨"CheeseCellar$Planner","placeRow","(I)Z"⟩ ∈ gw_all := gw_t (i := 790) (by decide +kernel) (by decide +kernel)
theorem co_Pl_placeRow : Cond.code ⟨"CheeseCellar$Planner","placeRow","(I)Z"⟩ prog_6_method_13_code 4 (Option.some FieldType.boolean) ∈ gw_all := gw_t (i := 791) (by decide +kernel) (by decide +kernel)
theorem ml_Pl_98 : Cond.methodLink "CheeseCellar$Planner" 98 ⟨"CheeseCellar$Planner","spread","(I)Z"⟩ ∈ gw_all := gw_t (i := 792) (by decide +kernel) (by decide +kernel)
theorem im_Pl_spread : Cond.instanceMethod ⟨"CheeseCellar$Planner","spread","(I)Z"⟩ ∈ gw_all := gw_t (i := 794) (by decide +kernel) (by decide +kernel)
theorem co_Pl_spread : Cond.code ⟨"CheeseCellar$Planner","spread","(I)Z"⟩ prog_6_method_14_code 8 (Option.some FieldType.boolean) ∈ gw_all := gw_t (i := 795) (by decide +kernel) (by decide +kernel)
theorem ml_Pl_101 : Cond.methodLink "CheeseCellar$Planner" 101 ⟨"CheeseCellar$Planner","cheapestWithRoom","()I"⟩ ∈ gw_all := gw_t (i := 796) (by decide +kernel) (by decide +kernel)
theorem im_Pl_cheapestWithRoom : Cond.instanceMethod ⟨"CheeseCellar$Planner","cheapestWithRoom","()I"⟩ ∈ gw_all := gw_t (i := 798) (by decide +kernel) (by decide +kernel)
theorem co_Pl_cheapestWithRoom : Cond.code ⟨"CheeseCellar$Planner","cheapestWithRoom","()I"⟩ prog_6_method_15_code 3 (Option.some FieldType.int) ∈ gw_all := gw_t (i := 799) (by decide +kernel) (by decide +kernel)
theorem ml_Pl_105 : Cond.methodLink "CheeseCellar$Planner" 105 ⟨"CheeseCellar$Planner","shiftChain","(II)V"⟩ ∈ gw_all := gw_t (i := 800) (by decide +kernel) (by decide +kernel)
theorem im_Pl_shiftChain : Cond.instanceMethod ⟨"CheeseCellar$Planner","shiftChain","(II)V"⟩ ∈ gw_all := gw_t (i := 802) (by decide +kernel) (by decide +kernel)
theorem co_Pl_shiftChain : Cond.code ⟨"CheeseCellar$Planner","shiftChain","(II)V"⟩ prog_6_method_16_code 7 (Option.none : Option FieldType) ∈ gw_all := gw_t (i := 803) (by decide +kernel) (by decide +kernel)
theorem ml_Pl_77 : Cond.methodLink "CheeseCellar$Planner" 77 ⟨"CheeseCellar$Planner","keepPlan","()V"⟩ ∈ gw_all := gw_t (i := 804) (by decide +kernel) (by decide +kernel)
theorem im_Pl_keepPlan : Cond.instanceMethod ⟨"CheeseCellar$Planner","keepPlan","()V"⟩ ∈ gw_all := gw_t (i := 806) (by decide +kernel) (by decide +kernel)
theorem co_Pl_keepPlan : Cond.code ⟨"CheeseCellar$Planner","keepPlan","()V"⟩ prog_6_method_12_code 2 (Option.none : Option FieldType) ∈ gw_all := gw_t (i := 807) (by decide +kernel) (by decide +kernel)
theorem ml_Pl_95 : Cond.methodLink "CheeseCellar$Planner" 95 ⟨"java/util/Arrays","fill","([II)V"⟩ ∈ gw_all := gw_t (i := 808) (by decide +kernel) (by decide +kernel)
theorem sm_JA_fill_I : Cond.static ⟨"java/util/Arrays","fill","([II)V"⟩ ∈ gw_all := gw_t (i := 809) (by decide +kernel) (by decide +kernel)
theorem co_JA_fill_I : Cond.code ⟨"java/util/Arrays","fill","([II)V"⟩ prog_19_method_103_code 4 (Option.none : Option FieldType) ∈ gw_all := gw_t (i := 810) (by decide +kernel) (by decide +kernel)
theorem ml_Law_85 : Cond.methodLink "CheeseCellarLaw" 85 ⟨"CheeseCellar","planned","(I)I"⟩ ∈ gw_all := gw_t (i := 811) (by decide +kernel) (by decide +kernel)
theorem im_K_planned : Cond.instanceMethod ⟨"CheeseCellar","planned","(I)I"⟩ ∈ gw_all := gw_t (i := 812) (by decide +kernel) (by decide +kernel)
theorem se_K_planned : Cond.selects "CheeseCellar" ⟨"CheeseCellar","planned","(I)I"⟩ ⟨"CheeseCellar","planned","(I)I"⟩ ∈ gw_all := gw_t (i := 813) (by decide +kernel) (by decide +kernel)
theorem co_K_planned : Cond.code ⟨"CheeseCellar","planned","(I)I"⟩ prog_1_method_18_code 2 (Option.some FieldType.int) ∈ gw_all := gw_t (i := 814) (by decide +kernel) (by decide +kernel)
theorem ml_K_236 : Cond.methodLink "CheeseCellar" 236 ⟨"CheeseCellar$Planner","shelfFor","(I)I"⟩ ∈ gw_all := gw_t (i := 815) (by decide +kernel) (by decide +kernel)
theorem im_Pl_shelfFor : Cond.instanceMethod ⟨"CheeseCellar$Planner","shelfFor","(I)I"⟩ ∈ gw_all := gw_t (i := 816) (by decide +kernel) (by decide +kernel)
theorem se_Pl_shelfFor : Cond.selects "CheeseCellar$Planner" ⟨"CheeseCellar$Planner","shelfFor","(I)I"⟩ ⟨"CheeseCellar$Planner","shelfFor","(I)I"⟩ ∈ gw_all := gw_t (i := 817) (by decide +kernel) (by decide +kernel)
theorem co_Pl_shelfFor : Cond.code ⟨"CheeseCellar$Planner","shelfFor","(I)I"⟩ prog_6_method_7_code 2 (Option.some FieldType.int) ∈ gw_all := gw_t (i := 818) (by decide +kernel) (by decide +kernel)
theorem ml_Law_89 : Cond.methodLink "CheeseCellarLaw" 89 ⟨"CheeseCellar","carry","()I"⟩ ∈ gw_all := gw_t (i := 819) (by decide +kernel) (by decide +kernel)
theorem im_K_carry : Cond.instanceMethod ⟨"CheeseCellar","carry","()I"⟩ ∈ gw_all := gw_t (i := 820) (by decide +kernel) (by decide +kernel)
theorem se_K_carry : Cond.selects "CheeseCellar" ⟨"CheeseCellar","carry","()I"⟩ ⟨"CheeseCellar","carry","()I"⟩ ∈ gw_all := gw_t (i := 821) (by decide +kernel) (by decide +kernel)
theorem co_K_carry : Cond.code ⟨"CheeseCellar","carry","()I"⟩ prog_1_method_19_code 5 (Option.some FieldType.int) ∈ gw_all := gw_t (i := 822) (by decide +kernel) (by decide +kernel)
theorem ml_K_240 : Cond.methodLink "CheeseCellar" 240 ⟨"CheeseCellar$Planner","canBeCarried","()Z"⟩ ∈ gw_all := gw_t (i := 823) (by decide +kernel) (by decide +kernel)
theorem im_Pl_canBeCarried : Cond.instanceMethod ⟨"CheeseCellar$Planner","canBeCarried","()Z"⟩ ∈ gw_all := gw_t (i := 824) (by decide +kernel) (by decide +kernel)
theorem se_Pl_canBeCarried : Cond.selects "CheeseCellar$Planner" ⟨"CheeseCellar$Planner","canBeCarried","()Z"⟩ ⟨"CheeseCellar$Planner","canBeCarried","()Z"⟩ ∈ gw_all := gw_t (i := 825) (by decide +kernel) (by decide +kernel)
theorem co_Pl_canBeCarried : Cond.code ⟨"CheeseCellar$Planner","canBeCarried","()Z"⟩ prog_6_method_8_code 1 (Option.some FieldType.boolean) ∈ gw_all := gw_t (i := 826) (by decide +kernel) (by decide +kernel)
theorem ml_K_246 : Cond.methodLink "CheeseCellar" 246 ⟨"CheeseCellar$Planner","forget","()V"⟩ ∈ gw_all := gw_t (i := 827) (by decide +kernel) (by decide +kernel)
theorem im_Pl_forget : Cond.instanceMethod ⟨"CheeseCellar$Planner","forget","()V"⟩ ∈ gw_all := gw_t (i := 828) (by decide +kernel) (by decide +kernel)
theorem se_Pl_forget : Cond.selects "CheeseCellar$Planner" ⟨"CheeseCellar$Planner","forget","()V"⟩ ⟨"CheeseCellar$Planner","forget","()V"⟩ ∈ gw_all := gw_t (i := 829) (by decide +kernel) (by decide +kernel)
theorem co_Pl_forget : Cond.code ⟨"CheeseCellar$Planner","forget","()V"⟩ prog_6_method_10_code 1 (Option.none : Option FieldType) ∈ gw_all := gw_t (i := 830) (by decide +kernel) (by decide +kernel)
theorem ml_Law_93 : Cond.methodLink "CheeseCellarLaw" 93 ⟨"CheeseCellar","mark","(III)I"⟩ ∈ gw_all := gw_t (i := 831) (by decide +kernel) (by decide +kernel)
theorem im_K_mark : Cond.instanceMethod ⟨"CheeseCellar","mark","(III)I"⟩ ∈ gw_all := gw_t (i := 832) (by decide +kernel) (by decide +kernel)
theorem se_K_mark : Cond.selects "CheeseCellar" ⟨"CheeseCellar","mark","(III)I"⟩ ⟨"CheeseCellar","mark","(III)I"⟩ ∈ gw_all := gw_t (i := 833) (by decide +kernel) (by decide +kernel)
theorem co_K_mark : Cond.code ⟨"CheeseCellar","mark","(III)I"⟩ prog_1_method_20_code 5 (Option.some FieldType.int) ∈ gw_all := gw_t (i := 834) (by decide +kernel) (by decide +kernel)
theorem ml_K_249 : Cond.methodLink "CheeseCellar" 249 ⟨"CheeseCellar$Marks","areFull","()Z"⟩ ∈ gw_all := gw_t (i := 835) (by decide +kernel) (by decide +kernel)
theorem im_Ma_areFull : Cond.instanceMethod ⟨"CheeseCellar$Marks","areFull","()Z"⟩ ∈ gw_all := gw_t (i := 836) (by decide +kernel) (by decide +kernel)
theorem se_Ma_areFull : Cond.selects "CheeseCellar$Marks" ⟨"CheeseCellar$Marks","areFull","()Z"⟩ ⟨"CheeseCellar$Marks","areFull","()Z"⟩ ∈ gw_all := gw_t (i := 837) (by decide +kernel) (by decide +kernel)
theorem co_Ma_areFull : Cond.code ⟨"CheeseCellar$Marks","areFull","()Z"⟩ prog_3_method_2_code 1 (Option.some FieldType.boolean) ∈ gw_all := gw_t (i := 838) (by decide +kernel) (by decide +kernel)
theorem ml_K_252 : Cond.methodLink "CheeseCellar" 252 ⟨"CheeseCellar$Marks","keep","(IIII)I"⟩ ∈ gw_all := gw_t (i := 839) (by decide +kernel) (by decide +kernel)
theorem im_Ma_keep : Cond.instanceMethod ⟨"CheeseCellar$Marks","keep","(IIII)I"⟩ ∈ gw_all := gw_t (i := 840) (by decide +kernel) (by decide +kernel)
theorem se_Ma_keep : Cond.selects "CheeseCellar$Marks" ⟨"CheeseCellar$Marks","keep","(IIII)I"⟩ ⟨"CheeseCellar$Marks","keep","(IIII)I"⟩ ∈ gw_all := gw_t (i := 841) (by decide +kernel) (by decide +kernel)
theorem co_Ma_keep : Cond.code ⟨"CheeseCellar$Marks","keep","(IIII)I"⟩ prog_3_method_3_code 5 (Option.some FieldType.int) ∈ gw_all := gw_t (i := 842) (by decide +kernel) (by decide +kernel)
theorem ml_Ma_34 : Cond.methodLink "CheeseCellar$Marks" 34 ⟨"CheeseCellar$Marks","areFull","()Z"⟩ ∈ gw_all := gw_t (i := 843) (by decide +kernel) (by decide +kernel)
theorem ml_Law_98 : Cond.methodLink "CheeseCellarLaw" 98 ⟨"CheeseCellar","untell","(I)Z"⟩ ∈ gw_all := gw_t (i := 844) (by decide +kernel) (by decide +kernel)
theorem im_K_untell : Cond.instanceMethod ⟨"CheeseCellar","untell","(I)Z"⟩ ∈ gw_all := gw_t (i := 845) (by decide +kernel) (by decide +kernel)
theorem se_K_untell : Cond.selects "CheeseCellar" ⟨"CheeseCellar","untell","(I)Z"⟩ ⟨"CheeseCellar","untell","(I)Z"⟩ ∈ gw_all := gw_t (i := 846) (by decide +kernel) (by decide +kernel)
theorem co_K_untell : Cond.code ⟨"CheeseCellar","untell","(I)Z"⟩ prog_1_method_21_code 2 (Option.some FieldType.boolean) ∈ gw_all := gw_t (i := 847) (by decide +kernel) (by decide +kernel)
theorem ml_K_253 : Cond.methodLink "CheeseCellar" 253 ⟨"CheeseCellar$Marks","takeBack","(II)Z"⟩ ∈ gw_all := gw_t (i := 848) (by decide +kernel) (by decide +kernel)
theorem im_Ma_takeBack : Cond.instanceMethod ⟨"CheeseCellar$Marks","takeBack","(II)Z"⟩ ∈ gw_all := gw_t (i := 849) (by decide +kernel) (by decide +kernel)
theorem se_Ma_takeBack : Cond.selects "CheeseCellar$Marks" ⟨"CheeseCellar$Marks","takeBack","(II)Z"⟩ ⟨"CheeseCellar$Marks","takeBack","(II)Z"⟩ ∈ gw_all := gw_t (i := 850) (by decide +kernel) (by decide +kernel)
theorem co_Ma_takeBack : Cond.code ⟨"CheeseCellar$Marks","takeBack","(II)Z"⟩ prog_3_method_4_code 3 (Option.some FieldType.boolean) ∈ gw_all := gw_t (i := 851) (by decide +kernel) (by decide +kernel)
theorem ml_Law_102 : Cond.methodLink "CheeseCellarLaw" 102 ⟨"CheeseCellar","grade","(II)I"⟩ ∈ gw_all := gw_t (i := 852) (by decide +kernel) (by decide +kernel)
theorem im_K_grade : Cond.instanceMethod ⟨"CheeseCellar","grade","(II)I"⟩ ∈ gw_all := gw_t (i := 853) (by decide +kernel) (by decide +kernel)
theorem se_K_grade : Cond.selects "CheeseCellar" ⟨"CheeseCellar","grade","(II)I"⟩ ⟨"CheeseCellar","grade","(II)I"⟩ ∈ gw_all := gw_t (i := 854) (by decide +kernel) (by decide +kernel)
theorem co_K_grade : Cond.code ⟨"CheeseCellar","grade","(II)I"⟩ prog_1_method_22_code 3 (Option.some FieldType.int) ∈ gw_all := gw_t (i := 855) (by decide +kernel) (by decide +kernel)
theorem ml_K_256 : Cond.methodLink "CheeseCellar" 256 ⟨"CheeseCellar$Marks","middleOf","(II)I"⟩ ∈ gw_all := gw_t (i := 856) (by decide +kernel) (by decide +kernel)
theorem im_Ma_middleOf : Cond.instanceMethod ⟨"CheeseCellar$Marks","middleOf","(II)I"⟩ ∈ gw_all := gw_t (i := 857) (by decide +kernel) (by decide +kernel)
theorem se_Ma_middleOf : Cond.selects "CheeseCellar$Marks" ⟨"CheeseCellar$Marks","middleOf","(II)I"⟩ ⟨"CheeseCellar$Marks","middleOf","(II)I"⟩ ∈ gw_all := gw_t (i := 858) (by decide +kernel) (by decide +kernel)
theorem co_Ma_middleOf : Cond.code ⟨"CheeseCellar$Marks","middleOf","(II)I"⟩ prog_3_method_5_code 7 (Option.some FieldType.int) ∈ gw_all := gw_t (i := 859) (by decide +kernel) (by decide +kernel)
theorem ml_Ma_38 : Cond.methodLink "CheeseCellar$Marks" 38 ⟨"CheeseCellar$Marks","gatherLast","(II)I"⟩ ∈ gw_all := gw_t (i := 860) (by decide +kernel) (by decide +kernel)
theorem im_Ma_gatherLast : Cond.instanceMethod ⟨"CheeseCellar$Marks","gatherLast","(II)I"⟩ ∈ gw_all := gw_t (i := 862) (by decide +kernel) (by decide +kernel)
theorem co_Ma_gatherLast : Cond.code ⟨"CheeseCellar$Marks","gatherLast","(II)I"⟩ prog_3_method_6_code 5 (Option.some FieldType.int) ∈ gw_all := gw_t (i := 863) (by decide +kernel) (by decide +kernel)
theorem ml_Ma_46 : Cond.methodLink "CheeseCellar$Marks" 46 ⟨"java/util/Arrays","fill","([II)V"⟩ ∈ gw_all := gw_t (i := 864) (by decide +kernel) (by decide +kernel)
theorem ml_Ma_52 : Cond.methodLink "CheeseCellar$Marks" 52 ⟨"CheeseCellar$Marks","isKnown","(II)Z"⟩ ∈ gw_all := gw_t (i := 865) (by decide +kernel) (by decide +kernel)
theorem im_Ma_isKnown : Cond.instanceMethod ⟨"CheeseCellar$Marks","isKnown","(II)Z"⟩ ∈ gw_all := gw_t (i := 867) (by decide +kernel) (by decide +kernel)
theorem co_Ma_isKnown : Cond.code ⟨"CheeseCellar$Marks","isKnown","(II)Z"⟩ prog_3_method_7_code 3 (Option.some FieldType.boolean) ∈ gw_all := gw_t (i := 868) (by decide +kernel) (by decide +kernel)
theorem ml_Ma_42 : Cond.methodLink "CheeseCellar$Marks" 42 ⟨"CheeseCellar$Marks","gradersWith","(I)I"⟩ ∈ gw_all := gw_t (i := 870) (by decide +kernel) (by decide +kernel)
theorem im_Ma_gradersWith : Cond.instanceMethod ⟨"CheeseCellar$Marks","gradersWith","(I)I"⟩ ∈ gw_all := gw_t (i := 872) (by decide +kernel) (by decide +kernel)
theorem co_Ma_gradersWith : Cond.code ⟨"CheeseCellar$Marks","gradersWith","(I)I"⟩ prog_3_method_8_code 4 (Option.some FieldType.int) ∈ gw_all := gw_t (i := 873) (by decide +kernel) (by decide +kernel)
theorem ml_Law_106 : Cond.methodLink "CheeseCellarLaw" 106 ⟨"CheeseCellar","beside","(II)I"⟩ ∈ gw_all := gw_t (i := 874) (by decide +kernel) (by decide +kernel)
theorem im_K_beside : Cond.instanceMethod ⟨"CheeseCellar","beside","(II)I"⟩ ∈ gw_all := gw_t (i := 875) (by decide +kernel) (by decide +kernel)
theorem se_K_beside : Cond.selects "CheeseCellar" ⟨"CheeseCellar","beside","(II)I"⟩ ⟨"CheeseCellar","beside","(II)I"⟩ ∈ gw_all := gw_t (i := 876) (by decide +kernel) (by decide +kernel)
theorem co_K_beside : Cond.code ⟨"CheeseCellar","beside","(II)I"⟩ prog_1_method_23_code 5 (Option.some FieldType.int) ∈ gw_all := gw_t (i := 877) (by decide +kernel) (by decide +kernel)
theorem ml_K_259 : Cond.methodLink "CheeseCellar" 259 ⟨"CheeseCellar$Stays","besideAny","(JI)J"⟩ ∈ gw_all := gw_t (i := 878) (by decide +kernel) (by decide +kernel)
theorem im_St_besideAny : Cond.instanceMethod ⟨"CheeseCellar$Stays","besideAny","(JI)J"⟩ ∈ gw_all := gw_t (i := 879) (by decide +kernel) (by decide +kernel)
theorem se_St_besideAny : Cond.selects "CheeseCellar$Stays" ⟨"CheeseCellar$Stays","besideAny","(JI)J"⟩ ⟨"CheeseCellar$Stays","besideAny","(JI)J"⟩ ∈ gw_all := gw_t (i := 880) (by decide +kernel) (by decide +kernel)
theorem co_St_besideAny : Cond.code ⟨"CheeseCellar$Stays","besideAny","(JI)J"⟩ prog_9_method_5_code 7 (Option.some FieldType.long) ∈ gw_all := gw_t (i := 881) (by decide +kernel) (by decide +kernel)
theorem ml_St_28 : Cond.methodLink "CheeseCellar$Stays" 28 ⟨"CheeseCellar$Stays","besideStay","(II)J"⟩ ∈ gw_all := gw_t (i := 882) (by decide +kernel) (by decide +kernel)
theorem im_St_besideStay : Cond.instanceMethod ⟨"CheeseCellar$Stays","besideStay","(II)J"⟩ ∈ gw_all := gw_t (i := 884) (by decide +kernel) (by decide +kernel)
theorem co_St_besideStay : Cond.code ⟨"CheeseCellar$Stays","besideStay","(II)J"⟩ prog_9_method_6_code 6 (Option.some FieldType.long) ∈ gw_all := gw_t (i := 885) (by decide +kernel) (by decide +kernel)
theorem ml_St_32 : Cond.methodLink "CheeseCellar$Stays" 32 ⟨"CheeseCellar$Stays","shareNight","(III)Z"⟩ ∈ gw_all := gw_t (i := 886) (by decide +kernel) (by decide +kernel)
theorem im_St_shareNight : Cond.instanceMethod ⟨"CheeseCellar$Stays","shareNight","(III)Z"⟩ ∈ gw_all := gw_t (i := 888) (by decide +kernel) (by decide +kernel)
theorem co_St_shareNight : Cond.code ⟨"CheeseCellar$Stays","shareNight","(III)Z"⟩ prog_9_method_7_code 4 (Option.some FieldType.boolean) ∈ gw_all := gw_t (i := 889) (by decide +kernel) (by decide +kernel)
theorem ml_St_36 : Cond.methodLink "CheeseCellar$Stays" 36 ⟨"java/lang/Math","max","(II)I"⟩ ∈ gw_all := gw_t (i := 890) (by decide +kernel) (by decide +kernel)
theorem ml_St_42 : Cond.methodLink "CheeseCellar$Stays" 42 ⟨"CheeseCellar$Stays","nightsUpTo","(II)I"⟩ ∈ gw_all := gw_t (i := 891) (by decide +kernel) (by decide +kernel)
theorem im_St_nightsUpTo : Cond.instanceMethod ⟨"CheeseCellar$Stays","nightsUpTo","(II)I"⟩ ∈ gw_all := gw_t (i := 893) (by decide +kernel) (by decide +kernel)
theorem co_St_nightsUpTo : Cond.code ⟨"CheeseCellar$Stays","nightsUpTo","(II)I"⟩ prog_9_method_8_code 3 (Option.some FieldType.int) ∈ gw_all := gw_t (i := 894) (by decide +kernel) (by decide +kernel)
theorem ml_St_45 : Cond.methodLink "CheeseCellar$Stays" 45 ⟨"java/lang/Math","min","(II)I"⟩ ∈ gw_all := gw_t (i := 895) (by decide +kernel) (by decide +kernel)
theorem ml_Law_110 : Cond.methodLink "CheeseCellarLaw" 110 ⟨"CheeseCellar","reached","(I)J"⟩ ∈ gw_all := gw_t (i := 896) (by decide +kernel) (by decide +kernel)
theorem im_K_reached : Cond.instanceMethod ⟨"CheeseCellar","reached","(I)J"⟩ ∈ gw_all := gw_t (i := 897) (by decide +kernel) (by decide +kernel)
theorem se_K_reached : Cond.selects "CheeseCellar" ⟨"CheeseCellar","reached","(I)J"⟩ ⟨"CheeseCellar","reached","(I)J"⟩ ∈ gw_all := gw_t (i := 898) (by decide +kernel) (by decide +kernel)
theorem co_K_reached : Cond.code ⟨"CheeseCellar","reached","(I)J"⟩ prog_1_method_24_code 4 (Option.some FieldType.long) ∈ gw_all := gw_t (i := 899) (by decide +kernel) (by decide +kernel)
theorem kj_K_263 : Cond.constantLong "CheeseCellar" 263 (-1 : Int64) ∈ gw_all := gw_t (i := 900) (by decide +kernel) (by decide +kernel)
theorem ml_K_265 : Cond.methodLink "CheeseCellar" 265 ⟨"CheeseCellar","wheelsFrom","(I)J"⟩ ∈ gw_all := gw_t (i := 901) (by decide +kernel) (by decide +kernel)
theorem im_K_wheelsFrom : Cond.instanceMethod ⟨"CheeseCellar","wheelsFrom","(I)J"⟩ ∈ gw_all := gw_t (i := 903) (by decide +kernel) (by decide +kernel)
theorem co_K_wheelsFrom : Cond.code ⟨"CheeseCellar","wheelsFrom","(I)J"⟩ prog_1_method_39_code 6 (Option.some FieldType.long) ∈ gw_all := gw_t (i := 904) (by decide +kernel) (by decide +kernel)
theorem ml_Law_115 : Cond.methodLink "CheeseCellarLaw" 115 ⟨"CheeseCellar","about","(I)I"⟩ ∈ gw_all := gw_t (i := 905) (by decide +kernel) (by decide +kernel)
theorem im_K_about : Cond.instanceMethod ⟨"CheeseCellar","about","(I)I"⟩ ∈ gw_all := gw_t (i := 906) (by decide +kernel) (by decide +kernel)
theorem se_K_about : Cond.selects "CheeseCellar" ⟨"CheeseCellar","about","(I)I"⟩ ⟨"CheeseCellar","about","(I)I"⟩ ∈ gw_all := gw_t (i := 907) (by decide +kernel) (by decide +kernel)
theorem co_K_about : Cond.code ⟨"CheeseCellar","about","(I)I"⟩ prog_1_method_25_code 2 (Option.some FieldType.int) ∈ gw_all := gw_t (i := 908) (by decide +kernel) (by decide +kernel)
theorem kl_Law_10 : Cond.classLink "CheeseCellarLaw" 10 "CheeseCellarModel" ∈ gw_all := gw_t (i := 909) (by decide +kernel) (by decide +kernel)
theorem in_Mo : Cond.instantiable "CheeseCellarModel" 69 ∈ gw_all := gw_t (i := 910) (by decide +kernel) (by decide +kernel)
theorem ml_Law_12 : Cond.methodLink "CheeseCellarLaw" 12 ⟨"CheeseCellarModel","<init>","()V"⟩ ∈ gw_all := gw_t (i := 911) (by decide +kernel) (by decide +kernel)
theorem im_Mo_init : Cond.instanceMethod ⟨"CheeseCellarModel","<init>","()V"⟩ ∈ gw_all := gw_t (i := 912) (by decide +kernel) (by decide +kernel)
theorem co_Mo_init : Cond.code ⟨"CheeseCellarModel","<init>","()V"⟩ prog_14_method_1_code 1 (Option.none : Option FieldType) ∈ gw_all := gw_t (i := 913) (by decide +kernel) (by decide +kernel)
theorem ml_Mo_1 : Cond.methodLink "CheeseCellarModel" 1 ⟨"java/lang/Object","<init>","()V"⟩ ∈ gw_all := gw_t (i := 914) (by decide +kernel) (by decide +kernel)
theorem fl_Mo_171 : Cond.fieldLink "CheeseCellarModel" 171 "CheeseCellarModel" "today" "I" ∈ gw_all := gw_t (i := 915) (by decide +kernel) (by decide +kernel)
theorem fl_Mo_7 : Cond.fieldLink "CheeseCellarModel" 7 "CheeseCellarModel" "air" "[I" ∈ gw_all := gw_t (i := 916) (by decide +kernel) (by decide +kernel)
theorem fl_Mo_13 : Cond.fieldLink "CheeseCellarModel" 13 "CheeseCellarModel" "damp" "[I" ∈ gw_all := gw_t (i := 917) (by decide +kernel) (by decide +kernel)
theorem fl_Mo_162 : Cond.fieldLink "CheeseCellarModel" 162 "CheeseCellarModel" "milks" "I" ∈ gw_all := gw_t (i := 918) (by decide +kernel) (by decide +kernel)
theorem fl_Mo_165 : Cond.fieldLink "CheeseCellarModel" 165 "CheeseCellarModel" "wheels" "I" ∈ gw_all := gw_t (i := 919) (by decide +kernel) (by decide +kernel)
theorem fl_Mo_168 : Cond.fieldLink "CheeseCellarModel" 168 "CheeseCellarModel" "stays" "I" ∈ gw_all := gw_t (i := 920) (by decide +kernel) (by decide +kernel)
theorem fl_Mo_16 : Cond.fieldLink "CheeseCellarModel" 16 "CheeseCellarModel" "farm" "[I" ∈ gw_all := gw_t (i := 921) (by decide +kernel) (by decide +kernel)
theorem fl_Mo_19 : Cond.fieldLink "CheeseCellarModel" 19 "CheeseCellarModel" "left" "[I" ∈ gw_all := gw_t (i := 922) (by decide +kernel) (by decide +kernel)
theorem fl_Mo_22 : Cond.fieldLink "CheeseCellarModel" 22 "CheeseCellarModel" "madeFrom" "[I" ∈ gw_all := gw_t (i := 923) (by decide +kernel) (by decide +kernel)
theorem fl_Mo_25 : Cond.fieldLink "CheeseCellarModel" 25 "CheeseCellarModel" "kind" "[I" ∈ gw_all := gw_t (i := 924) (by decide +kernel) (by decide +kernel)
theorem fl_Mo_28 : Cond.fieldLink "CheeseCellarModel" 28 "CheeseCellarModel" "shelf" "[I" ∈ gw_all := gw_t (i := 925) (by decide +kernel) (by decide +kernel)
theorem fl_Mo_31 : Cond.fieldLink "CheeseCellarModel" 31 "CheeseCellarModel" "ripe" "[I" ∈ gw_all := gw_t (i := 926) (by decide +kernel) (by decide +kernel)
theorem fl_Mo_34 : Cond.fieldLink "CheeseCellarModel" 34 "CheeseCellarModel" "mould" "[I" ∈ gw_all := gw_t (i := 927) (by decide +kernel) (by decide +kernel)
theorem fl_Mo_37 : Cond.fieldLink "CheeseCellarModel" 37 "CheeseCellarModel" "weight" "[I" ∈ gw_all := gw_t (i := 928) (by decide +kernel) (by decide +kernel)
theorem fl_Mo_40 : Cond.fieldLink "CheeseCellarModel" 40 "CheeseCellarModel" "made" "[I" ∈ gw_all := gw_t (i := 929) (by decide +kernel) (by decide +kernel)
theorem fl_Mo_43 : Cond.fieldLink "CheeseCellarModel" 43 "CheeseCellarModel" "side" "[I" ∈ gw_all := gw_t (i := 930) (by decide +kernel) (by decide +kernel)
theorem fl_Mo_46 : Cond.fieldLink "CheeseCellarModel" 46 "CheeseCellarModel" "stayOf" "[I" ∈ gw_all := gw_t (i := 931) (by decide +kernel) (by decide +kernel)
theorem fl_Mo_49 : Cond.fieldLink "CheeseCellarModel" 49 "CheeseCellarModel" "isOf" "[Z" ∈ gw_all := gw_t (i := 932) (by decide +kernel) (by decide +kernel)
theorem fl_Mo_53 : Cond.fieldLink "CheeseCellarModel" 53 "CheeseCellarModel" "stayWheel" "[I" ∈ gw_all := gw_t (i := 933) (by decide +kernel) (by decide +kernel)
theorem fl_Mo_56 : Cond.fieldLink "CheeseCellarModel" 56 "CheeseCellarModel" "stayShelf" "[I" ∈ gw_all := gw_t (i := 934) (by decide +kernel) (by decide +kernel)
theorem fl_Mo_59 : Cond.fieldLink "CheeseCellarModel" 59 "CheeseCellarModel" "stayFrom" "[I" ∈ gw_all := gw_t (i := 935) (by decide +kernel) (by decide +kernel)
theorem fl_Mo_62 : Cond.fieldLink "CheeseCellarModel" 62 "CheeseCellarModel" "stayTo" "[I" ∈ gw_all := gw_t (i := 936) (by decide +kernel) (by decide +kernel)
theorem fl_Mo_65 : Cond.fieldLink "CheeseCellarModel" 65 "CheeseCellarModel" "steps" "[I" ∈ gw_all := gw_t (i := 937) (by decide +kernel) (by decide +kernel)
theorem fl_Mo_68 : Cond.fieldLink "CheeseCellarModel" 68 "CheeseCellarModel" "numbers" "[I" ∈ gw_all := gw_t (i := 938) (by decide +kernel) (by decide +kernel)
theorem fl_Mo_71 : Cond.fieldLink "CheeseCellarModel" 71 "CheeseCellarModel" "lineAt" "[I" ∈ gw_all := gw_t (i := 939) (by decide +kernel) (by decide +kernel)
theorem fl_Mo_74 : Cond.fieldLink "CheeseCellarModel" 74 "CheeseCellarModel" "does" "[I" ∈ gw_all := gw_t (i := 940) (by decide +kernel) (by decide +kernel)
theorem fl_Mo_334 : Cond.fieldLink "CheeseCellarModel" 334 "CheeseCellarModel" "lines" "I" ∈ gw_all := gw_t (i := 941) (by decide +kernel) (by decide +kernel)
theorem fl_Mo_77 : Cond.fieldLink "CheeseCellarModel" 77 "CheeseCellarModel" "newSteps" "[I" ∈ gw_all := gw_t (i := 942) (by decide +kernel) (by decide +kernel)
theorem fl_Mo_80 : Cond.fieldLink "CheeseCellarModel" 80 "CheeseCellarModel" "newNumbers" "[I" ∈ gw_all := gw_t (i := 943) (by decide +kernel) (by decide +kernel)
theorem fl_Mo_83 : Cond.fieldLink "CheeseCellarModel" 83 "CheeseCellarModel" "newAt" "[I" ∈ gw_all := gw_t (i := 944) (by decide +kernel) (by decide +kernel)
theorem fl_Mo_86 : Cond.fieldLink "CheeseCellarModel" 86 "CheeseCellarModel" "newDoes" "[I" ∈ gw_all := gw_t (i := 945) (by decide +kernel) (by decide +kernel)
theorem fl_Mo_328 : Cond.fieldLink "CheeseCellarModel" 328 "CheeseCellarModel" "newLines" "I" ∈ gw_all := gw_t (i := 946) (by decide +kernel) (by decide +kernel)
theorem fl_Mo_273 : Cond.fieldLink "CheeseCellarModel" 273 "CheeseCellarModel" "newMany" "I" ∈ gw_all := gw_t (i := 947) (by decide +kernel) (by decide +kernel)
theorem fl_Mo_315 : Cond.fieldLink "CheeseCellarModel" 315 "CheeseCellarModel" "values" "I" ∈ gw_all := gw_t (i := 948) (by decide +kernel) (by decide +kernel)
theorem fl_Mo_89 : Cond.fieldLink "CheeseCellarModel" 89 "CheeseCellarModel" "tape" "[I" ∈ gw_all := gw_t (i := 949) (by decide +kernel) (by decide +kernel)
theorem fl_Mo_196 : Cond.fieldLink "CheeseCellarModel" 196 "CheeseCellarModel" "taped" "I" ∈ gw_all := gw_t (i := 950) (by decide +kernel) (by decide +kernel)
theorem fl_Mo_234 : Cond.fieldLink "CheeseCellarModel" 234 "CheeseCellarModel" "fault" "I" ∈ gw_all := gw_t (i := 951) (by decide +kernel) (by decide +kernel)
theorem fl_Mo_92 : Cond.fieldLink "CheeseCellarModel" 92 "CheeseCellarModel" "faultPlace" "I" ∈ gw_all := gw_t (i := 952) (by decide +kernel) (by decide +kernel)
theorem fl_Mo_203 : Cond.fieldLink "CheeseCellarModel" 203 "CheeseCellarModel" "at" "I" ∈ gw_all := gw_t (i := 953) (by decide +kernel) (by decide +kernel)
theorem fl_Mo_206 : Cond.fieldLink "CheeseCellarModel" 206 "CheeseCellarModel" "size" "I" ∈ gw_all := gw_t (i := 954) (by decide +kernel) (by decide +kernel)
theorem fl_Mo_222 : Cond.fieldLink "CheeseCellarModel" 222 "CheeseCellarModel" "sort" "I" ∈ gw_all := gw_t (i := 955) (by decide +kernel) (by decide +kernel)
theorem fl_Mo_212 : Cond.fieldLink "CheeseCellarModel" 212 "CheeseCellarModel" "place" "I" ∈ gw_all := gw_t (i := 956) (by decide +kernel) (by decide +kernel)
theorem fl_Mo_219 : Cond.fieldLink "CheeseCellarModel" 219 "CheeseCellarModel" "number" "I" ∈ gw_all := gw_t (i := 957) (by decide +kernel) (by decide +kernel)
theorem fl_Mo_215 : Cond.fieldLink "CheeseCellarModel" 215 "CheeseCellarModel" "word" "J" ∈ gw_all := gw_t (i := 958) (by decide +kernel) (by decide +kernel)
theorem fl_Mo_96 : Cond.fieldLink "CheeseCellarModel" 96 "CheeseCellarModel" "waits" "[I" ∈ gw_all := gw_t (i := 959) (by decide +kernel) (by decide +kernel)
theorem fl_Mo_276 : Cond.fieldLink "CheeseCellarModel" 276 "CheeseCellarModel" "waiting" "I" ∈ gw_all := gw_t (i := 960) (by decide +kernel) (by decide +kernel)
theorem fl_Mo_279 : Cond.fieldLink "CheeseCellarModel" 279 "CheeseCellarModel" "deep" "I" ∈ gw_all := gw_t (i := 961) (by decide +kernel) (by decide +kernel)
theorem fl_Mo_99 : Cond.fieldLink "CheeseCellarModel" 99 "CheeseCellarModel" "pile" "[I" ∈ gw_all := gw_t (i := 962) (by decide +kernel) (by decide +kernel)
theorem fl_Mo_102 : Cond.fieldLink "CheeseCellarModel" 102 "CheeseCellarModel" "names" "[I" ∈ gw_all := gw_t (i := 963) (by decide +kernel) (by decide +kernel)
theorem fl_Mo_105 : Cond.fieldLink "CheeseCellarModel" 105 "CheeseCellarModel" "bandMany" "[I" ∈ gw_all := gw_t (i := 964) (by decide +kernel) (by decide +kernel)
theorem fl_Mo_108 : Cond.fieldLink "CheeseCellarModel" 108 "CheeseCellarModel" "bandAge" "[I" ∈ gw_all := gw_t (i := 965) (by decide +kernel) (by decide +kernel)
theorem fl_Mo_111 : Cond.fieldLink "CheeseCellarModel" 111 "CheeseCellarModel" "bandLeast" "[I" ∈ gw_all := gw_t (i := 966) (by decide +kernel) (by decide +kernel)
theorem fl_Mo_114 : Cond.fieldLink "CheeseCellarModel" 114 "CheeseCellarModel" "bandMost" "[I" ∈ gw_all := gw_t (i := 967) (by decide +kernel) (by decide +kernel)
theorem fl_Mo_158 : Cond.fieldLink "CheeseCellarModel" 158 "CheeseCellarModel" "isPlanned" "Z" ∈ gw_all := gw_t (i := 968) (by decide +kernel) (by decide +kernel)
theorem fl_Mo_357 : Cond.fieldLink "CheeseCellarModel" 357 "CheeseCellarModel" "goers" "I" ∈ gw_all := gw_t (i := 969) (by decide +kernel) (by decide +kernel)
theorem fl_Mo_386 : Cond.fieldLink "CheeseCellarModel" 386 "CheeseCellarModel" "plannedMany" "I" ∈ gw_all := gw_t (i := 970) (by decide +kernel) (by decide +kernel)
theorem fl_Mo_117 : Cond.fieldLink "CheeseCellarModel" 117 "CheeseCellarModel" "goer" "[I" ∈ gw_all := gw_t (i := 971) (by decide +kernel) (by decide +kernel)
theorem fl_Mo_120 : Cond.fieldLink "CheeseCellarModel" 120 "CheeseCellarModel" "plannedWheel" "[I" ∈ gw_all := gw_t (i := 972) (by decide +kernel) (by decide +kernel)
theorem fl_Mo_123 : Cond.fieldLink "CheeseCellarModel" 123 "CheeseCellarModel" "plannedShelf" "[I" ∈ gw_all := gw_t (i := 973) (by decide +kernel) (by decide +kernel)
theorem fl_Mo_126 : Cond.fieldLink "CheeseCellarModel" 126 "CheeseCellarModel" "best" "[I" ∈ gw_all := gw_t (i := 974) (by decide +kernel) (by decide +kernel)
theorem fl_Mo_129 : Cond.fieldLink "CheeseCellarModel" 129 "CheeseCellarModel" "costs" "[J" ∈ gw_all := gw_t (i := 975) (by decide +kernel) (by decide +kernel)
theorem fl_Mo_133 : Cond.fieldLink "CheeseCellarModel" 133 "CheeseCellarModel" "price" "[J" ∈ gw_all := gw_t (i := 976) (by decide +kernel) (by decide +kernel)
theorem fl_Mo_389 : Cond.fieldLink "CheeseCellarModel" 389 "CheeseCellarModel" "marks" "I" ∈ gw_all := gw_t (i := 977) (by decide +kernel) (by decide +kernel)
theorem fl_Mo_136 : Cond.fieldLink "CheeseCellarModel" 136 "CheeseCellarModel" "marker" "[I" ∈ gw_all := gw_t (i := 978) (by decide +kernel) (by decide +kernel)
theorem fl_Mo_139 : Cond.fieldLink "CheeseCellarModel" 139 "CheeseCellarModel" "marked" "[I" ∈ gw_all := gw_t (i := 979) (by decide +kernel) (by decide +kernel)
theorem fl_Mo_142 : Cond.fieldLink "CheeseCellarModel" 142 "CheeseCellarModel" "markOf" "[I" ∈ gw_all := gw_t (i := 980) (by decide +kernel) (by decide +kernel)
theorem fl_Mo_145 : Cond.fieldLink "CheeseCellarModel" 145 "CheeseCellarModel" "toldOn" "[I" ∈ gw_all := gw_t (i := 981) (by decide +kernel) (by decide +kernel)
theorem fl_Mo_148 : Cond.fieldLink "CheeseCellarModel" 148 "CheeseCellarModel" "untoldOn" "[I" ∈ gw_all := gw_t (i := 982) (by decide +kernel) (by decide +kernel)
theorem fl_Mo_151 : Cond.fieldLink "CheeseCellarModel" 151 "CheeseCellarModel" "row" "[I" ∈ gw_all := gw_t (i := 983) (by decide +kernel) (by decide +kernel)
theorem ac_boolean : Cond.arrayClass FieldType.boolean ∈ gw_all := gw_t (i := 1123) (by decide +kernel) (by decide +kernel)
theorem ml_Law_17 : Cond.methodLink "CheeseCellarLaw" 17 ⟨"CheeseCellarModel","air","(II)Z"⟩ ∈ gw_all := gw_t (i := 1124) (by decide +kernel) (by decide +kernel)
theorem im_Mo_air : Cond.instanceMethod ⟨"CheeseCellarModel","air","(II)Z"⟩ ∈ gw_all := gw_t (i := 1125) (by decide +kernel) (by decide +kernel)
theorem se_Mo_air : Cond.selects "CheeseCellarModel" ⟨"CheeseCellarModel","air","(II)Z"⟩ ⟨"CheeseCellarModel","air","(II)Z"⟩ ∈ gw_all := gw_t (i := 1126) (by decide +kernel) (by decide +kernel)
theorem co_Mo_air : Cond.code ⟨"CheeseCellarModel","air","(II)Z"⟩ prog_14_method_3_code 3 (Option.some FieldType.boolean) ∈ gw_all := gw_t (i := 1127) (by decide +kernel) (by decide +kernel)
theorem ml_Mo_154 : Cond.methodLink "CheeseCellarModel" 154 ⟨"CheeseCellarModel","isShelf","(I)Z"⟩ ∈ gw_all := gw_t (i := 1128) (by decide +kernel) (by decide +kernel)
theorem sm_Mo_isShelf : Cond.static ⟨"CheeseCellarModel","isShelf","(I)Z"⟩ ∈ gw_all := gw_t (i := 1129) (by decide +kernel) (by decide +kernel)
theorem co_Mo_isShelf : Cond.code ⟨"CheeseCellarModel","isShelf","(I)Z"⟩ prog_14_method_2_code 1 (Option.some FieldType.boolean) ∈ gw_all := gw_t (i := 1130) (by decide +kernel) (by decide +kernel)
theorem ml_Law_21 : Cond.methodLink "CheeseCellarLaw" 21 ⟨"CheeseCellarModel","damp","(II)Z"⟩ ∈ gw_all := gw_t (i := 1131) (by decide +kernel) (by decide +kernel)
theorem im_Mo_damp : Cond.instanceMethod ⟨"CheeseCellarModel","damp","(II)Z"⟩ ∈ gw_all := gw_t (i := 1132) (by decide +kernel) (by decide +kernel)
theorem se_Mo_damp : Cond.selects "CheeseCellarModel" ⟨"CheeseCellarModel","damp","(II)Z"⟩ ⟨"CheeseCellarModel","damp","(II)Z"⟩ ∈ gw_all := gw_t (i := 1133) (by decide +kernel) (by decide +kernel)
theorem co_Mo_damp : Cond.code ⟨"CheeseCellarModel","damp","(II)Z"⟩ prog_14_method_4_code 3 (Option.some FieldType.boolean) ∈ gw_all := gw_t (i := 1134) (by decide +kernel) (by decide +kernel)
theorem ml_Law_26 : Cond.methodLink "CheeseCellarLaw" 26 ⟨"CheeseCellarModel","milk","(II)I"⟩ ∈ gw_all := gw_t (i := 1135) (by decide +kernel) (by decide +kernel)
theorem im_Mo_milk : Cond.instanceMethod ⟨"CheeseCellarModel","milk","(II)I"⟩ ∈ gw_all := gw_t (i := 1136) (by decide +kernel) (by decide +kernel)
theorem se_Mo_milk : Cond.selects "CheeseCellarModel" ⟨"CheeseCellarModel","milk","(II)I"⟩ ⟨"CheeseCellarModel","milk","(II)I"⟩ ∈ gw_all := gw_t (i := 1137) (by decide +kernel) (by decide +kernel)
theorem co_Mo_milk : Cond.code ⟨"CheeseCellarModel","milk","(II)I"⟩ prog_14_method_5_code 3 (Option.some FieldType.int) ∈ gw_all := gw_t (i := 1138) (by decide +kernel) (by decide +kernel)
theorem ml_Law_31 : Cond.methodLink "CheeseCellarLaw" 31 ⟨"CheeseCellarModel","wheel","(IIIIIIII)I"⟩ ∈ gw_all := gw_t (i := 1139) (by decide +kernel) (by decide +kernel)
theorem im_Mo_wheel : Cond.instanceMethod ⟨"CheeseCellarModel","wheel","(IIIIIIII)I"⟩ ∈ gw_all := gw_t (i := 1140) (by decide +kernel) (by decide +kernel)
theorem se_Mo_wheel : Cond.selects "CheeseCellarModel" ⟨"CheeseCellarModel","wheel","(IIIIIIII)I"⟩ ⟨"CheeseCellarModel","wheel","(IIIIIIII)I"⟩ ∈ gw_all := gw_t (i := 1141) (by decide +kernel) (by decide +kernel)
theorem co_Mo_wheel : Cond.code ⟨"CheeseCellarModel","wheel","(IIIIIIII)I"⟩ prog_14_method_10_code 11 (Option.some FieldType.int) ∈ gw_all := gw_t (i := 1142) (by decide +kernel) (by decide +kernel)
theorem ml_Mo_174 : Cond.methodLink "CheeseCellarModel" 174 ⟨"CheeseCellarModel","lying","(I)I"⟩ ∈ gw_all := gw_t (i := 1143) (by decide +kernel) (by decide +kernel)
theorem im_Mo_lying : Cond.instanceMethod ⟨"CheeseCellarModel","lying","(I)I"⟩ ∈ gw_all := gw_t (i := 1145) (by decide +kernel) (by decide +kernel)
theorem co_Mo_lying : Cond.code ⟨"CheeseCellarModel","lying","(I)I"⟩ prog_14_method_7_code 4 (Option.some FieldType.int) ∈ gw_all := gw_t (i := 1146) (by decide +kernel) (by decide +kernel)
theorem ml_Mo_178 : Cond.methodLink "CheeseCellarModel" 178 ⟨"CheeseCellarModel","canGive","(II)Z"⟩ ∈ gw_all := gw_t (i := 1147) (by decide +kernel) (by decide +kernel)
theorem im_Mo_canGive : Cond.instanceMethod ⟨"CheeseCellarModel","canGive","(II)Z"⟩ ∈ gw_all := gw_t (i := 1149) (by decide +kernel) (by decide +kernel)
theorem co_Mo_canGive : Cond.code ⟨"CheeseCellarModel","canGive","(II)Z"⟩ prog_14_method_6_code 3 (Option.some FieldType.boolean) ∈ gw_all := gw_t (i := 1150) (by decide +kernel) (by decide +kernel)
theorem ml_Mo_182 : Cond.methodLink "CheeseCellarModel" 182 ⟨"CheeseCellarModel","give","(III)V"⟩ ∈ gw_all := gw_t (i := 1151) (by decide +kernel) (by decide +kernel)
theorem im_Mo_give : Cond.instanceMethod ⟨"CheeseCellarModel","give","(III)V"⟩ ∈ gw_all := gw_t (i := 1153) (by decide +kernel) (by decide +kernel)
theorem co_Mo_give : Cond.code ⟨"CheeseCellarModel","give","(III)V"⟩ prog_14_method_8_code 4 (Option.none : Option FieldType) ∈ gw_all := gw_t (i := 1154) (by decide +kernel) (by decide +kernel)
theorem ml_Mo_186 : Cond.methodLink "CheeseCellarModel" 186 ⟨"CheeseCellarModel","lay","(II)V"⟩ ∈ gw_all := gw_t (i := 1155) (by decide +kernel) (by decide +kernel)
theorem im_Mo_lay : Cond.instanceMethod ⟨"CheeseCellarModel","lay","(II)V"⟩ ∈ gw_all := gw_t (i := 1157) (by decide +kernel) (by decide +kernel)
theorem co_Mo_lay : Cond.code ⟨"CheeseCellarModel","lay","(II)V"⟩ prog_14_method_9_code 3 (Option.none : Option FieldType) ∈ gw_all := gw_t (i := 1158) (by decide +kernel) (by decide +kernel)
theorem ml_Law_36 : Cond.methodLink "CheeseCellarLaw" 36 ⟨"CheeseCellarModel","sell","(I)Z"⟩ ∈ gw_all := gw_t (i := 1159) (by decide +kernel) (by decide +kernel)
theorem im_Mo_sell : Cond.instanceMethod ⟨"CheeseCellarModel","sell","(I)Z"⟩ ∈ gw_all := gw_t (i := 1160) (by decide +kernel) (by decide +kernel)
theorem se_Mo_sell : Cond.selects "CheeseCellarModel" ⟨"CheeseCellarModel","sell","(I)Z"⟩ ⟨"CheeseCellarModel","sell","(I)Z"⟩ ∈ gw_all := gw_t (i := 1161) (by decide +kernel) (by decide +kernel)
theorem co_Mo_sell : Cond.code ⟨"CheeseCellarModel","sell","(I)Z"⟩ prog_14_method_13_code 2 (Option.some FieldType.boolean) ∈ gw_all := gw_t (i := 1162) (by decide +kernel) (by decide +kernel)
theorem ml_Mo_193 : Cond.methodLink "CheeseCellarModel" 193 ⟨"CheeseCellarModel","lies","(I)Z"⟩ ∈ gw_all := gw_t (i := 1163) (by decide +kernel) (by decide +kernel)
theorem im_Mo_lies : Cond.instanceMethod ⟨"CheeseCellarModel","lies","(I)Z"⟩ ∈ gw_all := gw_t (i := 1165) (by decide +kernel) (by decide +kernel)
theorem co_Mo_lies : Cond.code ⟨"CheeseCellarModel","lies","(I)Z"⟩ prog_14_method_12_code 2 (Option.some FieldType.boolean) ∈ gw_all := gw_t (i := 1166) (by decide +kernel) (by decide +kernel)
theorem ml_Mo_190 : Cond.methodLink "CheeseCellarModel" 190 ⟨"CheeseCellarModel","isWheel","(I)Z"⟩ ∈ gw_all := gw_t (i := 1167) (by decide +kernel) (by decide +kernel)
theorem im_Mo_isWheel : Cond.instanceMethod ⟨"CheeseCellarModel","isWheel","(I)Z"⟩ ∈ gw_all := gw_t (i := 1169) (by decide +kernel) (by decide +kernel)
theorem co_Mo_isWheel : Cond.code ⟨"CheeseCellarModel","isWheel","(I)Z"⟩ prog_14_method_11_code 2 (Option.some FieldType.boolean) ∈ gw_all := gw_t (i := 1170) (by decide +kernel) (by decide +kernel)
theorem ml_Law_41 : Cond.methodLink "CheeseCellarLaw" 41 ⟨"CheeseCellarModel","feed","(IIIII)I"⟩ ∈ gw_all := gw_t (i := 1171) (by decide +kernel) (by decide +kernel)
theorem im_Mo_feed : Cond.instanceMethod ⟨"CheeseCellarModel","feed","(IIIII)I"⟩ ∈ gw_all := gw_t (i := 1172) (by decide +kernel) (by decide +kernel)
theorem se_Mo_feed : Cond.selects "CheeseCellarModel" ⟨"CheeseCellarModel","feed","(IIIII)I"⟩ ⟨"CheeseCellarModel","feed","(IIIII)I"⟩ ∈ gw_all := gw_t (i := 1173) (by decide +kernel) (by decide +kernel)
theorem co_Mo_feed : Cond.code ⟨"CheeseCellarModel","feed","(IIIII)I"⟩ prog_14_method_14_code 6 (Option.some FieldType.int) ∈ gw_all := gw_t (i := 1174) (by decide +kernel) (by decide +kernel)
theorem ml_Mo_199 : Cond.methodLink "CheeseCellarModel" 199 ⟨"CheeseCellarModel","four","(I)V"⟩ ∈ gw_all := gw_t (i := 1175) (by decide +kernel) (by decide +kernel)
theorem im_Mo_four : Cond.instanceMethod ⟨"CheeseCellarModel","four","(I)V"⟩ ∈ gw_all := gw_t (i := 1177) (by decide +kernel) (by decide +kernel)
theorem co_Mo_four : Cond.code ⟨"CheeseCellarModel","four","(I)V"⟩ prog_14_method_15_code 3 (Option.none : Option FieldType) ∈ gw_all := gw_t (i := 1178) (by decide +kernel) (by decide +kernel)
theorem ml_Law_46 : Cond.methodLink "CheeseCellarLaw" 46 ⟨"CheeseCellarModel","end","(I)I"⟩ ∈ gw_all := gw_t (i := 1179) (by decide +kernel) (by decide +kernel)
theorem im_Mo_end : Cond.instanceMethod ⟨"CheeseCellarModel","end","(I)I"⟩ ∈ gw_all := gw_t (i := 1180) (by decide +kernel) (by decide +kernel)
theorem se_Mo_end : Cond.selects "CheeseCellarModel" ⟨"CheeseCellarModel","end","(I)I"⟩ ⟨"CheeseCellarModel","end","(I)I"⟩ ∈ gw_all := gw_t (i := 1181) (by decide +kernel) (by decide +kernel)
theorem co_Mo_end : Cond.code ⟨"CheeseCellarModel","end","(I)I"⟩ prog_14_method_16_code 2 (Option.some FieldType.int) ∈ gw_all := gw_t (i := 1182) (by decide +kernel) (by decide +kernel)
theorem ml_Law_51 : Cond.methodLink "CheeseCellarLaw" 51 ⟨"CheeseCellarModel","orders","()I"⟩ ∈ gw_all := gw_t (i := 1183) (by decide +kernel) (by decide +kernel)
theorem im_Mo_orders : Cond.instanceMethod ⟨"CheeseCellarModel","orders","()I"⟩ ∈ gw_all := gw_t (i := 1184) (by decide +kernel) (by decide +kernel)
theorem se_Mo_orders : Cond.selects "CheeseCellarModel" ⟨"CheeseCellarModel","orders","()I"⟩ ⟨"CheeseCellarModel","orders","()I"⟩ ∈ gw_all := gw_t (i := 1185) (by decide +kernel) (by decide +kernel)
theorem co_Mo_orders : Cond.code ⟨"CheeseCellarModel","orders","()I"⟩ prog_14_method_35_code 2 (Option.some FieldType.int) ∈ gw_all := gw_t (i := 1186) (by decide +kernel) (by decide +kernel)
theorem ml_Mo_318 : Cond.methodLink "CheeseCellarModel" 318 ⟨"CheeseCellarModel","next","()V"⟩ ∈ gw_all := gw_t (i := 1187) (by decide +kernel) (by decide +kernel)
theorem im_Mo_next : Cond.instanceMethod ⟨"CheeseCellarModel","next","()V"⟩ ∈ gw_all := gw_t (i := 1189) (by decide +kernel) (by decide +kernel)
theorem co_Mo_next : Cond.code ⟨"CheeseCellarModel","next","()V"⟩ prog_14_method_21_code 3 (Option.none : Option FieldType) ∈ gw_all := gw_t (i := 1190) (by decide +kernel) (by decide +kernel)
theorem ml_Mo_209 : Cond.methodLink "CheeseCellarModel" 209 ⟨"CheeseCellarModel","here","(I)I"⟩ ∈ gw_all := gw_t (i := 1191) (by decide +kernel) (by decide +kernel)
theorem im_Mo_here : Cond.instanceMethod ⟨"CheeseCellarModel","here","(I)I"⟩ ∈ gw_all := gw_t (i := 1193) (by decide +kernel) (by decide +kernel)
theorem co_Mo_here : Cond.code ⟨"CheeseCellarModel","here","(I)I"⟩ prog_14_method_17_code 2 (Option.some FieldType.int) ∈ gw_all := gw_t (i := 1194) (by decide +kernel) (by decide +kernel)
theorem ml_Mo_225 : Cond.methodLink "CheeseCellarModel" 225 ⟨"CheeseCellarModel","isLetter","(I)Z"⟩ ∈ gw_all := gw_t (i := 1195) (by decide +kernel) (by decide +kernel)
theorem sm_Mo_isLetter : Cond.static ⟨"CheeseCellarModel","isLetter","(I)Z"⟩ ∈ gw_all := gw_t (i := 1196) (by decide +kernel) (by decide +kernel)
theorem co_Mo_isLetter : Cond.code ⟨"CheeseCellarModel","isLetter","(I)Z"⟩ prog_14_method_18_code 1 (Option.some FieldType.boolean) ∈ gw_all := gw_t (i := 1197) (by decide +kernel) (by decide +kernel)
theorem ml_Mo_228 : Cond.methodLink "CheeseCellarModel" 228 ⟨"CheeseCellarModel","isDigit","(I)Z"⟩ ∈ gw_all := gw_t (i := 1198) (by decide +kernel) (by decide +kernel)
theorem sm_Mo_isDigit : Cond.static ⟨"CheeseCellarModel","isDigit","(I)Z"⟩ ∈ gw_all := gw_t (i := 1199) (by decide +kernel) (by decide +kernel)
theorem co_Mo_isDigit : Cond.code ⟨"CheeseCellarModel","isDigit","(I)Z"⟩ prog_14_method_19_code 1 (Option.some FieldType.boolean) ∈ gw_all := gw_t (i := 1200) (by decide +kernel) (by decide +kernel)
theorem ml_Mo_231 : Cond.methodLink "CheeseCellarModel" 231 ⟨"CheeseCellarModel","isSign","(I)Z"⟩ ∈ gw_all := gw_t (i := 1201) (by decide +kernel) (by decide +kernel)
theorem sm_Mo_isSign : Cond.static ⟨"CheeseCellarModel","isSign","(I)Z"⟩ ∈ gw_all := gw_t (i := 1202) (by decide +kernel) (by decide +kernel)
theorem co_Mo_isSign : Cond.code ⟨"CheeseCellarModel","isSign","(I)Z"⟩ prog_14_method_20_code 1 (Option.some FieldType.boolean) ∈ gw_all := gw_t (i := 1203) (by decide +kernel) (by decide +kernel)
theorem kj_Mo_237 : Cond.constantLong "CheeseCellarModel" 237 (2003330414 : Int64) ∈ gw_all := gw_t (i := 1204) (by decide +kernel) (by decide +kernel)
theorem ml_Mo_288 : Cond.methodLink "CheeseCellarModel" 288 ⟨"CheeseCellarModel","isWord","(J)Z"⟩ ∈ gw_all := gw_t (i := 1205) (by decide +kernel) (by decide +kernel)
theorem im_Mo_isWord : Cond.instanceMethod ⟨"CheeseCellarModel","isWord","(J)Z"⟩ ∈ gw_all := gw_t (i := 1207) (by decide +kernel) (by decide +kernel)
theorem co_Mo_isWord : Cond.code ⟨"CheeseCellarModel","isWord","(J)Z"⟩ prog_14_method_23_code 3 (Option.some FieldType.boolean) ∈ gw_all := gw_t (i := 1208) (by decide +kernel) (by decide +kernel)
theorem ml_Mo_309 : Cond.methodLink "CheeseCellarModel" 309 ⟨"CheeseCellarModel","wrong","(I)V"⟩ ∈ gw_all := gw_t (i := 1209) (by decide +kernel) (by decide +kernel)
theorem im_Mo_wrong : Cond.instanceMethod ⟨"CheeseCellarModel","wrong","(I)V"⟩ ∈ gw_all := gw_t (i := 1211) (by decide +kernel) (by decide +kernel)
theorem co_Mo_wrong : Cond.code ⟨"CheeseCellarModel","wrong","(I)V"⟩ prog_14_method_22_code 2 (Option.none : Option FieldType) ∈ gw_all := gw_t (i := 1212) (by decide +kernel) (by decide +kernel)
theorem ml_Mo_331 : Cond.methodLink "CheeseCellarModel" 331 ⟨"CheeseCellarModel","readE","()V"⟩ ∈ gw_all := gw_t (i := 1213) (by decide +kernel) (by decide +kernel)
theorem im_Mo_readE : Cond.instanceMethod ⟨"CheeseCellarModel","readE","()V"⟩ ∈ gw_all := gw_t (i := 1215) (by decide +kernel) (by decide +kernel)
theorem co_Mo_readE : Cond.code ⟨"CheeseCellarModel","readE","()V"⟩ prog_14_method_31_code 2 (Option.none : Option FieldType) ∈ gw_all := gw_t (i := 1216) (by decide +kernel) (by decide +kernel)
theorem kj_Mo_239 : Cond.constantLong "CheeseCellarModel" 239 (25711 : Int64) ∈ gw_all := gw_t (i := 1217) (by decide +kernel) (by decide +kernel)
theorem ml_Mo_292 : Cond.methodLink "CheeseCellarModel" 292 ⟨"CheeseCellarModel","isOpen","()Z"⟩ ∈ gw_all := gw_t (i := 1218) (by decide +kernel) (by decide +kernel)
theorem im_Mo_isOpen : Cond.instanceMethod ⟨"CheeseCellarModel","isOpen","()Z"⟩ ∈ gw_all := gw_t (i := 1220) (by decide +kernel) (by decide +kernel)
theorem co_Mo_isOpen : Cond.code ⟨"CheeseCellarModel","isOpen","()Z"⟩ prog_14_method_30_code 3 (Option.some FieldType.boolean) ∈ gw_all := gw_t (i := 1221) (by decide +kernel) (by decide +kernel)
theorem ml_Mo_296 : Cond.methodLink "CheeseCellarModel" 296 ⟨"CheeseCellarModel","sign","()I"⟩ ∈ gw_all := gw_t (i := 1222) (by decide +kernel) (by decide +kernel)
theorem im_Mo_sign : Cond.instanceMethod ⟨"CheeseCellarModel","sign","()I"⟩ ∈ gw_all := gw_t (i := 1224) (by decide +kernel) (by decide +kernel)
theorem co_Mo_sign : Cond.code ⟨"CheeseCellarModel","sign","()I"⟩ prog_14_method_33_code 2 (Option.some FieldType.int) ∈ gw_all := gw_t (i := 1225) (by decide +kernel) (by decide +kernel)
theorem ml_Mo_303 : Cond.methodLink "CheeseCellarModel" 303 ⟨"CheeseCellarModel","settle","(I)V"⟩ ∈ gw_all := gw_t (i := 1226) (by decide +kernel) (by decide +kernel)
theorem im_Mo_settle : Cond.instanceMethod ⟨"CheeseCellarModel","settle","(I)V"⟩ ∈ gw_all := gw_t (i := 1228) (by decide +kernel) (by decide +kernel)
theorem co_Mo_settle : Cond.code ⟨"CheeseCellarModel","settle","(I)V"⟩ prog_14_method_29_code 2 (Option.none : Option FieldType) ∈ gw_all := gw_t (i := 1229) (by decide +kernel) (by decide +kernel)
theorem ml_Mo_285 : Cond.methodLink "CheeseCellarModel" 285 ⟨"CheeseCellarModel","pop","()V"⟩ ∈ gw_all := gw_t (i := 1230) (by decide +kernel) (by decide +kernel)
theorem im_Mo_pop : Cond.instanceMethod ⟨"CheeseCellarModel","pop","()V"⟩ ∈ gw_all := gw_t (i := 1232) (by decide +kernel) (by decide +kernel)
theorem co_Mo_pop : Cond.code ⟨"CheeseCellarModel","pop","()V"⟩ prog_14_method_28_code 1 (Option.none : Option FieldType) ∈ gw_all := gw_t (i := 1233) (by decide +kernel) (by decide +kernel)
theorem ml_Mo_282 : Cond.methodLink "CheeseCellarModel" 282 ⟨"CheeseCellarModel","step","(II)V"⟩ ∈ gw_all := gw_t (i := 1234) (by decide +kernel) (by decide +kernel)
theorem im_Mo_step : Cond.instanceMethod ⟨"CheeseCellarModel","step","(II)V"⟩ ∈ gw_all := gw_t (i := 1236) (by decide +kernel) (by decide +kernel)
theorem co_Mo_step : Cond.code ⟨"CheeseCellarModel","step","(II)V"⟩ prog_14_method_26_code 3 (Option.none : Option FieldType) ∈ gw_all := gw_t (i := 1237) (by decide +kernel) (by decide +kernel)
theorem ml_Mo_321 : Cond.methodLink "CheeseCellarModel" 321 ⟨"CheeseCellarModel","hold","(I)V"⟩ ∈ gw_all := gw_t (i := 1238) (by decide +kernel) (by decide +kernel)
theorem im_Mo_hold : Cond.instanceMethod ⟨"CheeseCellarModel","hold","(I)V"⟩ ∈ gw_all := gw_t (i := 1240) (by decide +kernel) (by decide +kernel)
theorem co_Mo_hold : Cond.code ⟨"CheeseCellarModel","hold","(I)V"⟩ prog_14_method_27_code 2 (Option.none : Option FieldType) ∈ gw_all := gw_t (i := 1241) (by decide +kernel) (by decide +kernel)
theorem kj_Mo_249 : Cond.constantLong "CheeseCellarModel" 249 (6385252 : Int64) ∈ gw_all := gw_t (i := 1242) (by decide +kernel) (by decide +kernel)
theorem kj_Mo_247 : Cond.constantLong "CheeseCellarModel" 247 (28530 : Int64) ∈ gw_all := gw_t (i := 1243) (by decide +kernel) (by decide +kernel)
theorem ml_Mo_324 : Cond.methodLink "CheeseCellarModel" 324 ⟨"CheeseCellarModel","settleOnes","(Z)V"⟩ ∈ gw_all := gw_t (i := 1244) (by decide +kernel) (by decide +kernel)
theorem im_Mo_settleOnes : Cond.instanceMethod ⟨"CheeseCellarModel","settleOnes","(Z)V"⟩ ∈ gw_all := gw_t (i := 1246) (by decide +kernel) (by decide +kernel)
theorem co_Mo_settleOnes : Cond.code ⟨"CheeseCellarModel","settleOnes","(Z)V"⟩ prog_14_method_34_code 4 (Option.none : Option FieldType) ∈ gw_all := gw_t (i := 1247) (by decide +kernel) (by decide +kernel)
theorem ml_Mo_300 : Cond.methodLink "CheeseCellarModel" 300 ⟨"CheeseCellarModel","operand","(I)I"⟩ ∈ gw_all := gw_t (i := 1248) (by decide +kernel) (by decide +kernel)
theorem im_Mo_operand : Cond.instanceMethod ⟨"CheeseCellarModel","operand","(I)I"⟩ ∈ gw_all := gw_t (i := 1250) (by decide +kernel) (by decide +kernel)
theorem co_Mo_operand : Cond.code ⟨"CheeseCellarModel","operand","(I)I"⟩ prog_14_method_32_code 4 (Option.some FieldType.int) ∈ gw_all := gw_t (i := 1251) (by decide +kernel) (by decide +kernel)
theorem ml_Mo_306 : Cond.methodLink "CheeseCellarModel" 306 ⟨"CheeseCellarModel","isKey","()Z"⟩ ∈ gw_all := gw_t (i := 1252) (by decide +kernel) (by decide +kernel)
theorem im_Mo_isKey : Cond.instanceMethod ⟨"CheeseCellarModel","isKey","()Z"⟩ ∈ gw_all := gw_t (i := 1254) (by decide +kernel) (by decide +kernel)
theorem co_Mo_isKey : Cond.code ⟨"CheeseCellarModel","isKey","()Z"⟩ prog_14_method_24_code 1 (Option.some FieldType.boolean) ∈ gw_all := gw_t (i := 1255) (by decide +kernel) (by decide +kernel)
theorem kj_Mo_241 : Cond.constantLong "CheeseCellarModel" 241 (1953854062 : Int64) ∈ gw_all := gw_t (i := 1256) (by decide +kernel) (by decide +kernel)
theorem kj_Mo_243 : Cond.constantLong "CheeseCellarModel" 243 (2002875240 : Int64) ∈ gw_all := gw_t (i := 1257) (by decide +kernel) (by decide +kernel)
theorem kj_Mo_245 : Cond.constantLong "CheeseCellarModel" 245 (422827094888 : Int64) ∈ gw_all := gw_t (i := 1258) (by decide +kernel) (by decide +kernel)
theorem kj_Mo_251 : Cond.constantLong "CheeseCellarModel" 251 (7237492 : Int64) ∈ gw_all := gw_t (i := 1259) (by decide +kernel) (by decide +kernel)
theorem ml_Mo_312 : Cond.methodLink "CheeseCellarModel" 312 ⟨"CheeseCellarModel","named","()I"⟩ ∈ gw_all := gw_t (i := 1260) (by decide +kernel) (by decide +kernel)
theorem im_Mo_named : Cond.instanceMethod ⟨"CheeseCellarModel","named","()I"⟩ ∈ gw_all := gw_t (i := 1262) (by decide +kernel) (by decide +kernel)
theorem co_Mo_named : Cond.code ⟨"CheeseCellarModel","named","()I"⟩ prog_14_method_25_code 1 (Option.some FieldType.int) ∈ gw_all := gw_t (i := 1263) (by decide +kernel) (by decide +kernel)
theorem kj_Mo_253 : Cond.constantLong "CheeseCellarModel" 253 (1802071652 : Int64) ∈ gw_all := gw_t (i := 1264) (by decide +kernel) (by decide +kernel)
theorem kj_Mo_255 : Cond.constantLong "CheeseCellarModel" 255 (6383461 : Int64) ∈ gw_all := gw_t (i := 1265) (by decide +kernel) (by decide +kernel)
theorem kj_Mo_257 : Cond.constantLong "CheeseCellarModel" 257 (1919512677 : Int64) ∈ gw_all := gw_t (i := 1266) (by decide +kernel) (by decide +kernel)
theorem kj_Mo_259 : Cond.constantLong "CheeseCellarModel" 259 (470021401700 : Int64) ∈ gw_all := gw_t (i := 1267) (by decide +kernel) (by decide +kernel)
theorem kj_Mo_261 : Cond.constantLong "CheeseCellarModel" 261 (131277443786868 : Int64) ∈ gw_all := gw_t (i := 1268) (by decide +kernel) (by decide +kernel)
theorem kj_Mo_263 : Cond.constantLong "CheeseCellarModel" 263 (6383986 : Int64) ∈ gw_all := gw_t (i := 1269) (by decide +kernel) (by decide +kernel)
theorem kj_Mo_265 : Cond.constantLong "CheeseCellarModel" 265 (1684106608 : Int64) ∈ gw_all := gw_t (i := 1270) (by decide +kernel) (by decide +kernel)
theorem kj_Mo_267 : Cond.constantLong "CheeseCellarModel" 267 (1936286821 : Int64) ∈ gw_all := gw_t (i := 1271) (by decide +kernel) (by decide +kernel)
theorem kj_Mo_269 : Cond.constantLong "CheeseCellarModel" 269 (495672716390 : Int64) ∈ gw_all := gw_t (i := 1272) (by decide +kernel) (by decide +kernel)
theorem kj_Mo_271 : Cond.constantLong "CheeseCellarModel" 271 (6578553 : Int64) ∈ gw_all := gw_t (i := 1273) (by decide +kernel) (by decide +kernel)
theorem ml_Law_55 : Cond.methodLink "CheeseCellarLaw" 55 ⟨"CheeseCellarModel","fault","(I)I"⟩ ∈ gw_all := gw_t (i := 1274) (by decide +kernel) (by decide +kernel)
theorem im_Mo_fault : Cond.instanceMethod ⟨"CheeseCellarModel","fault","(I)I"⟩ ∈ gw_all := gw_t (i := 1275) (by decide +kernel) (by decide +kernel)
theorem se_Mo_fault : Cond.selects "CheeseCellarModel" ⟨"CheeseCellarModel","fault","(I)I"⟩ ⟨"CheeseCellarModel","fault","(I)I"⟩ ∈ gw_all := gw_t (i := 1276) (by decide +kernel) (by decide +kernel)
theorem co_Mo_fault : Cond.code ⟨"CheeseCellarModel","fault","(I)I"⟩ prog_14_method_36_code 2 (Option.some FieldType.int) ∈ gw_all := gw_t (i := 1277) (by decide +kernel) (by decide +kernel)
theorem ml_Law_59 : Cond.methodLink "CheeseCellarLaw" 59 ⟨"CheeseCellarModel","days","(I)I"⟩ ∈ gw_all := gw_t (i := 1278) (by decide +kernel) (by decide +kernel)
theorem im_Mo_days : Cond.instanceMethod ⟨"CheeseCellarModel","days","(I)I"⟩ ∈ gw_all := gw_t (i := 1279) (by decide +kernel) (by decide +kernel)
theorem se_Mo_days : Cond.selects "CheeseCellarModel" ⟨"CheeseCellarModel","days","(I)I"⟩ ⟨"CheeseCellarModel","days","(I)I"⟩ ∈ gw_all := gw_t (i := 1280) (by decide +kernel) (by decide +kernel)
theorem co_Mo_days : Cond.code ⟨"CheeseCellarModel","days","(I)I"⟩ prog_14_method_41_code 4 (Option.some FieldType.int) ∈ gw_all := gw_t (i := 1281) (by decide +kernel) (by decide +kernel)
theorem ki_Mo_347 : Cond.constant "CheeseCellarModel" 347 (100000 : Int32) ∈ gw_all := gw_t (i := 1282) (by decide +kernel) (by decide +kernel)
theorem ml_Mo_348 : Cond.methodLink "CheeseCellarModel" 348 ⟨"CheeseCellarModel","care","(I)V"⟩ ∈ gw_all := gw_t (i := 1283) (by decide +kernel) (by decide +kernel)
theorem im_Mo_care : Cond.instanceMethod ⟨"CheeseCellarModel","care","(I)V"⟩ ∈ gw_all := gw_t (i := 1285) (by decide +kernel) (by decide +kernel)
theorem co_Mo_care : Cond.code ⟨"CheeseCellarModel","care","(I)V"⟩ prog_14_method_40_code 4 (Option.none : Option FieldType) ∈ gw_all := gw_t (i := 1286) (by decide +kernel) (by decide +kernel)
theorem ml_Mo_338 : Cond.methodLink "CheeseCellarModel" 338 ⟨"CheeseCellarModel","tell","(I)V"⟩ ∈ gw_all := gw_t (i := 1287) (by decide +kernel) (by decide +kernel)
theorem im_Mo_tell : Cond.instanceMethod ⟨"CheeseCellarModel","tell","(I)V"⟩ ∈ gw_all := gw_t (i := 1289) (by decide +kernel) (by decide +kernel)
theorem co_Mo_tell : Cond.code ⟨"CheeseCellarModel","tell","(I)V"⟩ prog_14_method_38_code 3 (Option.none : Option FieldType) ∈ gw_all := gw_t (i := 1290) (by decide +kernel) (by decide +kernel)
theorem ml_Mo_341 : Cond.methodLink "CheeseCellarModel" 341 ⟨"CheeseCellarModel","holds","(I)Z"⟩ ∈ gw_all := gw_t (i := 1291) (by decide +kernel) (by decide +kernel)
theorem im_Mo_holds : Cond.instanceMethod ⟨"CheeseCellarModel","holds","(I)Z"⟩ ∈ gw_all := gw_t (i := 1293) (by decide +kernel) (by decide +kernel)
theorem co_Mo_holds : Cond.code ⟨"CheeseCellarModel","holds","(I)Z"⟩ prog_14_method_37_code 7 (Option.some FieldType.boolean) ∈ gw_all := gw_t (i := 1294) (by decide +kernel) (by decide +kernel)
theorem ml_Mo_344 : Cond.methodLink "CheeseCellarModel" 344 ⟨"CheeseCellarModel","within","(I)I"⟩ ∈ gw_all := gw_t (i := 1295) (by decide +kernel) (by decide +kernel)
theorem sm_Mo_within : Cond.static ⟨"CheeseCellarModel","within","(I)I"⟩ ∈ gw_all := gw_t (i := 1296) (by decide +kernel) (by decide +kernel)
theorem co_Mo_within : Cond.code ⟨"CheeseCellarModel","within","(I)I"⟩ prog_14_method_39_code 1 (Option.some FieldType.int) ∈ gw_all := gw_t (i := 1297) (by decide +kernel) (by decide +kernel)
theorem ki_Mo_337 : Cond.constant "CheeseCellarModel" 337 (1000000 : Int32) ∈ gw_all := gw_t (i := 1298) (by decide +kernel) (by decide +kernel)
theorem ml_Law_63 : Cond.methodLink "CheeseCellarLaw" 63 ⟨"CheeseCellarModel","of","(II)I"⟩ ∈ gw_all := gw_t (i := 1299) (by decide +kernel) (by decide +kernel)
theorem im_Mo_of : Cond.instanceMethod ⟨"CheeseCellarModel","of","(II)I"⟩ ∈ gw_all := gw_t (i := 1300) (by decide +kernel) (by decide +kernel)
theorem se_Mo_of : Cond.selects "CheeseCellarModel" ⟨"CheeseCellarModel","of","(II)I"⟩ ⟨"CheeseCellarModel","of","(II)I"⟩ ∈ gw_all := gw_t (i := 1301) (by decide +kernel) (by decide +kernel)
theorem co_Mo_of : Cond.code ⟨"CheeseCellarModel","of","(II)I"⟩ prog_14_method_42_code 3 (Option.some FieldType.int) ∈ gw_all := gw_t (i := 1302) (by decide +kernel) (by decide +kernel)
theorem ml_Mo_351 : Cond.methodLink "CheeseCellarModel" 351 ⟨"CheeseCellarModel","doesSuit","(II)Z"⟩ ∈ gw_all := gw_t (i := 1303) (by decide +kernel) (by decide +kernel)
theorem im_Mo_doesSuit : Cond.instanceMethod ⟨"CheeseCellarModel","doesSuit","(II)Z"⟩ ∈ gw_all := gw_t (i := 1305) (by decide +kernel) (by decide +kernel)
theorem co_Mo_doesSuit : Cond.code ⟨"CheeseCellarModel","doesSuit","(II)Z"⟩ prog_14_method_45_code 6 (Option.some FieldType.boolean) ∈ gw_all := gw_t (i := 1306) (by decide +kernel) (by decide +kernel)
theorem ml_Law_67 : Cond.methodLink "CheeseCellarLaw" 67 ⟨"CheeseCellarModel","from","(II)I"⟩ ∈ gw_all := gw_t (i := 1307) (by decide +kernel) (by decide +kernel)
theorem im_Mo_from : Cond.instanceMethod ⟨"CheeseCellarModel","from","(II)I"⟩ ∈ gw_all := gw_t (i := 1308) (by decide +kernel) (by decide +kernel)
theorem se_Mo_from : Cond.selects "CheeseCellarModel" ⟨"CheeseCellarModel","from","(II)I"⟩ ⟨"CheeseCellarModel","from","(II)I"⟩ ∈ gw_all := gw_t (i := 1309) (by decide +kernel) (by decide +kernel)
theorem co_Mo_from : Cond.code ⟨"CheeseCellarModel","from","(II)I"⟩ prog_14_method_43_code 3 (Option.some FieldType.int) ∈ gw_all := gw_t (i := 1310) (by decide +kernel) (by decide +kernel)
theorem ml_Law_72 : Cond.methodLink "CheeseCellarLaw" 72 ⟨"CheeseCellarModel","band","(IIII)I"⟩ ∈ gw_all := gw_t (i := 1311) (by decide +kernel) (by decide +kernel)
theorem im_Mo_band : Cond.instanceMethod ⟨"CheeseCellarModel","band","(IIII)I"⟩ ∈ gw_all := gw_t (i := 1312) (by decide +kernel) (by decide +kernel)
theorem se_Mo_band : Cond.selects "CheeseCellarModel" ⟨"CheeseCellarModel","band","(IIII)I"⟩ ⟨"CheeseCellarModel","band","(IIII)I"⟩ ∈ gw_all := gw_t (i := 1313) (by decide +kernel) (by decide +kernel)
theorem co_Mo_band : Cond.code ⟨"CheeseCellarModel","band","(IIII)I"⟩ prog_14_method_44_code 6 (Option.some FieldType.int) ∈ gw_all := gw_t (i := 1314) (by decide +kernel) (by decide +kernel)
theorem ml_Law_76 : Cond.methodLink "CheeseCellarLaw" 76 ⟨"CheeseCellarModel","suits","(II)I"⟩ ∈ gw_all := gw_t (i := 1315) (by decide +kernel) (by decide +kernel)
theorem im_Mo_suits : Cond.instanceMethod ⟨"CheeseCellarModel","suits","(II)I"⟩ ∈ gw_all := gw_t (i := 1316) (by decide +kernel) (by decide +kernel)
theorem se_Mo_suits : Cond.selects "CheeseCellarModel" ⟨"CheeseCellarModel","suits","(II)I"⟩ ⟨"CheeseCellarModel","suits","(II)I"⟩ ∈ gw_all := gw_t (i := 1317) (by decide +kernel) (by decide +kernel)
theorem co_Mo_suits : Cond.code ⟨"CheeseCellarModel","suits","(II)I"⟩ prog_14_method_46_code 3 (Option.some FieldType.int) ∈ gw_all := gw_t (i := 1318) (by decide +kernel) (by decide +kernel)
theorem ml_Law_80 : Cond.methodLink "CheeseCellarLaw" 80 ⟨"CheeseCellarModel","move","(II)Z"⟩ ∈ gw_all := gw_t (i := 1319) (by decide +kernel) (by decide +kernel)
theorem im_Mo_move : Cond.instanceMethod ⟨"CheeseCellarModel","move","(II)Z"⟩ ∈ gw_all := gw_t (i := 1320) (by decide +kernel) (by decide +kernel)
theorem se_Mo_move : Cond.selects "CheeseCellarModel" ⟨"CheeseCellarModel","move","(II)Z"⟩ ⟨"CheeseCellarModel","move","(II)Z"⟩ ∈ gw_all := gw_t (i := 1321) (by decide +kernel) (by decide +kernel)
theorem co_Mo_move : Cond.code ⟨"CheeseCellarModel","move","(II)Z"⟩ prog_14_method_48_code 3 (Option.some FieldType.boolean) ∈ gw_all := gw_t (i := 1322) (by decide +kernel) (by decide +kernel)
theorem ml_Mo_354 : Cond.methodLink "CheeseCellarModel" 354 ⟨"CheeseCellarModel","go","(II)V"⟩ ∈ gw_all := gw_t (i := 1323) (by decide +kernel) (by decide +kernel)
theorem im_Mo_go : Cond.instanceMethod ⟨"CheeseCellarModel","go","(II)V"⟩ ∈ gw_all := gw_t (i := 1325) (by decide +kernel) (by decide +kernel)
theorem co_Mo_go : Cond.code ⟨"CheeseCellarModel","go","(II)V"⟩ prog_14_method_47_code 3 (Option.none : Option FieldType) ∈ gw_all := gw_t (i := 1326) (by decide +kernel) (by decide +kernel)
theorem ml_Law_84 : Cond.methodLink "CheeseCellarLaw" 84 ⟨"CheeseCellarModel","plan","()I"⟩ ∈ gw_all := gw_t (i := 1327) (by decide +kernel) (by decide +kernel)
theorem im_Mo_plan : Cond.instanceMethod ⟨"CheeseCellarModel","plan","()I"⟩ ∈ gw_all := gw_t (i := 1328) (by decide +kernel) (by decide +kernel)
theorem se_Mo_plan : Cond.selects "CheeseCellarModel" ⟨"CheeseCellarModel","plan","()I"⟩ ⟨"CheeseCellarModel","plan","()I"⟩ ∈ gw_all := gw_t (i := 1329) (by decide +kernel) (by decide +kernel)
theorem co_Mo_plan : Cond.code ⟨"CheeseCellarModel","plan","()I"⟩ prog_14_method_55_code 8 (Option.some FieldType.int) ∈ gw_all := gw_t (i := 1330) (by decide +kernel) (by decide +kernel)
theorem ml_Mo_383 : Cond.methodLink "CheeseCellarModel" 383 ⟨"CheeseCellarModel","seek","()Z"⟩ ∈ gw_all := gw_t (i := 1331) (by decide +kernel) (by decide +kernel)
theorem im_Mo_seek : Cond.instanceMethod ⟨"CheeseCellarModel","seek","()Z"⟩ ∈ gw_all := gw_t (i := 1333) (by decide +kernel) (by decide +kernel)
theorem co_Mo_seek : Cond.code ⟨"CheeseCellarModel","seek","()Z"⟩ prog_14_method_54_code 12 (Option.some FieldType.boolean) ∈ gw_all := gw_t (i := 1334) (by decide +kernel) (by decide +kernel)
theorem ml_Mo_371 : Cond.methodLink "CheeseCellarModel" 371 ⟨"CheeseCellarModel","costOf","(II)J"⟩ ∈ gw_all := gw_t (i := 1335) (by decide +kernel) (by decide +kernel)
theorem im_Mo_costOf : Cond.instanceMethod ⟨"CheeseCellarModel","costOf","(II)J"⟩ ∈ gw_all := gw_t (i := 1337) (by decide +kernel) (by decide +kernel)
theorem co_Mo_costOf : Cond.code ⟨"CheeseCellarModel","costOf","(II)J"⟩ prog_14_method_50_code 9 (Option.some FieldType.long) ∈ gw_all := gw_t (i := 1338) (by decide +kernel) (by decide +kernel)
theorem kj_Mo_360 : Cond.constantLong "CheeseCellarModel" 360 (24 : Int64) ∈ gw_all := gw_t (i := 1339) (by decide +kernel) (by decide +kernel)
theorem ml_Mo_362 : Cond.methodLink "CheeseCellarModel" 362 ⟨"CheeseCellarModel","far","(II)I"⟩ ∈ gw_all := gw_t (i := 1340) (by decide +kernel) (by decide +kernel)
theorem sm_Mo_far : Cond.static ⟨"CheeseCellarModel","far","(II)I"⟩ ∈ gw_all := gw_t (i := 1341) (by decide +kernel) (by decide +kernel)
theorem co_Mo_far : Cond.code ⟨"CheeseCellarModel","far","(II)I"⟩ prog_14_method_49_code 2 (Option.some FieldType.int) ∈ gw_all := gw_t (i := 1342) (by decide +kernel) (by decide +kernel)
theorem kj_Mo_369 : Cond.constantLong "CheeseCellarModel" 369 (-1 : Int64) ∈ gw_all := gw_t (i := 1343) (by decide +kernel) (by decide +kernel)
theorem kj_Mo_375 : Cond.constantLong "CheeseCellarModel" 375 (9223372036854775807 : Int64) ∈ gw_all := gw_t (i := 1344) (by decide +kernel) (by decide +kernel)
theorem ml_Mo_377 : Cond.methodLink "CheeseCellarModel" 377 ⟨"CheeseCellarModel","many","(I)I"⟩ ∈ gw_all := gw_t (i := 1345) (by decide +kernel) (by decide +kernel)
theorem sm_Mo_many : Cond.static ⟨"CheeseCellarModel","many","(I)I"⟩ ∈ gw_all := gw_t (i := 1346) (by decide +kernel) (by decide +kernel)
theorem co_Mo_many : Cond.code ⟨"CheeseCellarModel","many","(I)I"⟩ prog_14_method_52_code 3 (Option.some FieldType.int) ∈ gw_all := gw_t (i := 1347) (by decide +kernel) (by decide +kernel)
theorem ml_Mo_380 : Cond.methodLink "CheeseCellarModel" 380 ⟨"CheeseCellarModel","onOne","(II)J"⟩ ∈ gw_all := gw_t (i := 1348) (by decide +kernel) (by decide +kernel)
theorem im_Mo_onOne : Cond.instanceMethod ⟨"CheeseCellarModel","onOne","(II)J"⟩ ∈ gw_all := gw_t (i := 1350) (by decide +kernel) (by decide +kernel)
theorem co_Mo_onOne : Cond.code ⟨"CheeseCellarModel","onOne","(II)J"⟩ prog_14_method_53_code 8 (Option.some FieldType.long) ∈ gw_all := gw_t (i := 1351) (by decide +kernel) (by decide +kernel)
theorem ml_Mo_366 : Cond.methodLink "CheeseCellarModel" 366 ⟨"CheeseCellarModel","isIn","(II)Z"⟩ ∈ gw_all := gw_t (i := 1352) (by decide +kernel) (by decide +kernel)
theorem im_Mo_isIn : Cond.instanceMethod ⟨"CheeseCellarModel","isIn","(II)Z"⟩ ∈ gw_all := gw_t (i := 1354) (by decide +kernel) (by decide +kernel)
theorem co_Mo_isIn : Cond.code ⟨"CheeseCellarModel","isIn","(II)Z"⟩ prog_14_method_51_code 3 (Option.some FieldType.boolean) ∈ gw_all := gw_t (i := 1355) (by decide +kernel) (by decide +kernel)
theorem ml_Law_88 : Cond.methodLink "CheeseCellarLaw" 88 ⟨"CheeseCellarModel","planned","(I)I"⟩ ∈ gw_all := gw_t (i := 1356) (by decide +kernel) (by decide +kernel)
theorem im_Mo_planned : Cond.instanceMethod ⟨"CheeseCellarModel","planned","(I)I"⟩ ∈ gw_all := gw_t (i := 1357) (by decide +kernel) (by decide +kernel)
theorem se_Mo_planned : Cond.selects "CheeseCellarModel" ⟨"CheeseCellarModel","planned","(I)I"⟩ ⟨"CheeseCellarModel","planned","(I)I"⟩ ∈ gw_all := gw_t (i := 1358) (by decide +kernel) (by decide +kernel)
theorem co_Mo_planned : Cond.code ⟨"CheeseCellarModel","planned","(I)I"⟩ prog_14_method_56_code 3 (Option.some FieldType.int) ∈ gw_all := gw_t (i := 1359) (by decide +kernel) (by decide +kernel)
theorem ml_Law_92 : Cond.methodLink "CheeseCellarLaw" 92 ⟨"CheeseCellarModel","carry","()I"⟩ ∈ gw_all := gw_t (i := 1360) (by decide +kernel) (by decide +kernel)
theorem im_Mo_carry : Cond.instanceMethod ⟨"CheeseCellarModel","carry","()I"⟩ ∈ gw_all := gw_t (i := 1361) (by decide +kernel) (by decide +kernel)
theorem se_Mo_carry : Cond.selects "CheeseCellarModel" ⟨"CheeseCellarModel","carry","()I"⟩ ⟨"CheeseCellarModel","carry","()I"⟩ ∈ gw_all := gw_t (i := 1362) (by decide +kernel) (by decide +kernel)
theorem co_Mo_carry : Cond.code ⟨"CheeseCellarModel","carry","()I"⟩ prog_14_method_57_code 2 (Option.some FieldType.int) ∈ gw_all := gw_t (i := 1363) (by decide +kernel) (by decide +kernel)
theorem ml_Law_97 : Cond.methodLink "CheeseCellarLaw" 97 ⟨"CheeseCellarModel","mark","(III)I"⟩ ∈ gw_all := gw_t (i := 1364) (by decide +kernel) (by decide +kernel)
theorem im_Mo_mark : Cond.instanceMethod ⟨"CheeseCellarModel","mark","(III)I"⟩ ∈ gw_all := gw_t (i := 1365) (by decide +kernel) (by decide +kernel)
theorem se_Mo_mark : Cond.selects "CheeseCellarModel" ⟨"CheeseCellarModel","mark","(III)I"⟩ ⟨"CheeseCellarModel","mark","(III)I"⟩ ∈ gw_all := gw_t (i := 1366) (by decide +kernel) (by decide +kernel)
theorem co_Mo_mark : Cond.code ⟨"CheeseCellarModel","mark","(III)I"⟩ prog_14_method_58_code 4 (Option.some FieldType.int) ∈ gw_all := gw_t (i := 1367) (by decide +kernel) (by decide +kernel)
theorem ml_Law_101 : Cond.methodLink "CheeseCellarLaw" 101 ⟨"CheeseCellarModel","untell","(I)Z"⟩ ∈ gw_all := gw_t (i := 1368) (by decide +kernel) (by decide +kernel)
theorem im_Mo_untell : Cond.instanceMethod ⟨"CheeseCellarModel","untell","(I)Z"⟩ ∈ gw_all := gw_t (i := 1369) (by decide +kernel) (by decide +kernel)
theorem se_Mo_untell : Cond.selects "CheeseCellarModel" ⟨"CheeseCellarModel","untell","(I)Z"⟩ ⟨"CheeseCellarModel","untell","(I)Z"⟩ ∈ gw_all := gw_t (i := 1370) (by decide +kernel) (by decide +kernel)
theorem co_Mo_untell : Cond.code ⟨"CheeseCellarModel","untell","(I)Z"⟩ prog_14_method_59_code 2 (Option.some FieldType.boolean) ∈ gw_all := gw_t (i := 1371) (by decide +kernel) (by decide +kernel)
theorem ml_Law_105 : Cond.methodLink "CheeseCellarLaw" 105 ⟨"CheeseCellarModel","grade","(II)I"⟩ ∈ gw_all := gw_t (i := 1372) (by decide +kernel) (by decide +kernel)
theorem im_Mo_grade : Cond.instanceMethod ⟨"CheeseCellarModel","grade","(II)I"⟩ ∈ gw_all := gw_t (i := 1373) (by decide +kernel) (by decide +kernel)
theorem se_Mo_grade : Cond.selects "CheeseCellarModel" ⟨"CheeseCellarModel","grade","(II)I"⟩ ⟨"CheeseCellarModel","grade","(II)I"⟩ ∈ gw_all := gw_t (i := 1374) (by decide +kernel) (by decide +kernel)
theorem co_Mo_grade : Cond.code ⟨"CheeseCellarModel","grade","(II)I"⟩ prog_14_method_60_code 7 (Option.some FieldType.int) ∈ gw_all := gw_t (i := 1375) (by decide +kernel) (by decide +kernel)
theorem ml_Law_109 : Cond.methodLink "CheeseCellarLaw" 109 ⟨"CheeseCellarModel","beside","(II)I"⟩ ∈ gw_all := gw_t (i := 1376) (by decide +kernel) (by decide +kernel)
theorem im_Mo_beside : Cond.instanceMethod ⟨"CheeseCellarModel","beside","(II)I"⟩ ∈ gw_all := gw_t (i := 1377) (by decide +kernel) (by decide +kernel)
theorem se_Mo_beside : Cond.selects "CheeseCellarModel" ⟨"CheeseCellarModel","beside","(II)I"⟩ ⟨"CheeseCellarModel","beside","(II)I"⟩ ∈ gw_all := gw_t (i := 1378) (by decide +kernel) (by decide +kernel)
theorem co_Mo_beside : Cond.code ⟨"CheeseCellarModel","beside","(II)I"⟩ prog_14_method_62_code 3 (Option.some FieldType.int) ∈ gw_all := gw_t (i := 1379) (by decide +kernel) (by decide +kernel)
theorem ml_Mo_392 : Cond.methodLink "CheeseCellarModel" 392 ⟨"CheeseCellarModel","layBeside","(II)Z"⟩ ∈ gw_all := gw_t (i := 1380) (by decide +kernel) (by decide +kernel)
theorem im_Mo_layBeside : Cond.instanceMethod ⟨"CheeseCellarModel","layBeside","(II)Z"⟩ ∈ gw_all := gw_t (i := 1382) (by decide +kernel) (by decide +kernel)
theorem co_Mo_layBeside : Cond.code ⟨"CheeseCellarModel","layBeside","(II)Z"⟩ prog_14_method_61_code 8 (Option.some FieldType.boolean) ∈ gw_all := gw_t (i := 1383) (by decide +kernel) (by decide +kernel)
theorem ml_Law_114 : Cond.methodLink "CheeseCellarLaw" 114 ⟨"CheeseCellarModel","reached","(I)J"⟩ ∈ gw_all := gw_t (i := 1384) (by decide +kernel) (by decide +kernel)
theorem im_Mo_reached : Cond.instanceMethod ⟨"CheeseCellarModel","reached","(I)J"⟩ ∈ gw_all := gw_t (i := 1385) (by decide +kernel) (by decide +kernel)
theorem se_Mo_reached : Cond.selects "CheeseCellarModel" ⟨"CheeseCellarModel","reached","(I)J"⟩ ⟨"CheeseCellarModel","reached","(I)J"⟩ ∈ gw_all := gw_t (i := 1386) (by decide +kernel) (by decide +kernel)
theorem co_Mo_reached : Cond.code ⟨"CheeseCellarModel","reached","(I)J"⟩ prog_14_method_63_code 7 (Option.some FieldType.long) ∈ gw_all := gw_t (i := 1387) (by decide +kernel) (by decide +kernel)
theorem ml_Law_118 : Cond.methodLink "CheeseCellarLaw" 118 ⟨"CheeseCellarModel","about","(I)I"⟩ ∈ gw_all := gw_t (i := 1388) (by decide +kernel) (by decide +kernel)
theorem im_Mo_about : Cond.instanceMethod ⟨"CheeseCellarModel","about","(I)I"⟩ ∈ gw_all := gw_t (i := 1389) (by decide +kernel) (by decide +kernel)
theorem se_Mo_about : Cond.selects "CheeseCellarModel" ⟨"CheeseCellarModel","about","(I)I"⟩ ⟨"CheeseCellarModel","about","(I)I"⟩ ∈ gw_all := gw_t (i := 1390) (by decide +kernel) (by decide +kernel)
theorem co_Mo_about : Cond.code ⟨"CheeseCellarModel","about","(I)I"⟩ prog_14_method_64_code 2 (Option.some FieldType.int) ∈ gw_all := gw_t (i := 1391) (by decide +kernel) (by decide +kernel)
theorem se_K_areMilksThere : Cond.selects "CheeseCellar" ⟨"CheeseCellar","areMilksThere","()Z"⟩ ⟨"CheeseCellar","areMilksThere","()Z"⟩ ∈ gw_all := gw_s (i := 0) (by decide +kernel) (by decide +kernel)
theorem se_K_isMilkThere : Cond.selects "CheeseCellar" ⟨"CheeseCellar","isMilkThere","(I)Z"⟩ ⟨"CheeseCellar","isMilkThere","(I)Z"⟩ ∈ gw_all := gw_s (i := 1) (by decide +kernel) (by decide +kernel)
theorem se_K_milkAt : Cond.selects "CheeseCellar" ⟨"CheeseCellar","milkAt","(I)LCheeseCellar$Milk;"⟩ ⟨"CheeseCellar","milkAt","(I)LCheeseCellar$Milk;"⟩ ∈ gw_all := gw_s (i := 2) (by decide +kernel) (by decide +kernel)
theorem se_K_makeWheel : Cond.selects "CheeseCellar" ⟨"CheeseCellar","makeWheel","(II)I"⟩ ⟨"CheeseCellar","makeWheel","(II)I"⟩ ∈ gw_all := gw_s (i := 3) (by decide +kernel) (by decide +kernel)
theorem se_K_layOn : Cond.selects "CheeseCellar" ⟨"CheeseCellar","layOn","(LCheeseCellar$Wheel;I)V"⟩ ⟨"CheeseCellar","layOn","(LCheeseCellar$Wheel;I)V"⟩ ∈ gw_all := gw_s (i := 4) (by decide +kernel) (by decide +kernel)
theorem se_K_lyingWheel : Cond.selects "CheeseCellar" ⟨"CheeseCellar","lyingWheel","(I)LCheeseCellar$Wheel;"⟩ ⟨"CheeseCellar","lyingWheel","(I)LCheeseCellar$Wheel;"⟩ ∈ gw_all := gw_s (i := 5) (by decide +kernel) (by decide +kernel)
theorem se_K_wheelAt : Cond.selects "CheeseCellar" ⟨"CheeseCellar","wheelAt","(I)LCheeseCellar$Wheel;"⟩ ⟨"CheeseCellar","wheelAt","(I)LCheeseCellar$Wheel;"⟩ ∈ gw_all := gw_s (i := 6) (by decide +kernel) (by decide +kernel)
theorem se_To_keepOne : Cond.selects "CheeseCellar$Tokens" ⟨"CheeseCellar$Tokens","keepOne","(LCheeseCellar$Tape;I)I"⟩ ⟨"CheeseCellar$Tokens","keepOne","(LCheeseCellar$Tape;I)I"⟩ ∈ gw_all := gw_s (i := 7) (by decide +kernel) (by decide +kernel)
theorem se_Re_step : Cond.selects "CheeseCellar$Reader" ⟨"CheeseCellar$Reader","step","()V"⟩ ⟨"CheeseCellar$Reader","step","()V"⟩ ∈ gw_all := gw_s (i := 8) (by decide +kernel) (by decide +kernel)
theorem se_Re_readLine : Cond.selects "CheeseCellar$Reader" ⟨"CheeseCellar$Reader","readLine","(LCheeseCellar$Orders;)Z"⟩ ⟨"CheeseCellar$Reader","readLine","(LCheeseCellar$Orders;)Z"⟩ ∈ gw_all := gw_s (i := 9) (by decide +kernel) (by decide +kernel)
theorem se_Re_pass : Cond.selects "CheeseCellar$Reader" ⟨"CheeseCellar$Reader","pass","(I)Z"⟩ ⟨"CheeseCellar$Reader","pass","(I)Z"⟩ ∈ gw_all := gw_s (i := 10) (by decide +kernel) (by decide +kernel)
theorem se_Re_refuse : Cond.selects "CheeseCellar$Reader" ⟨"CheeseCellar$Reader","refuse","(I)Z"⟩ ⟨"CheeseCellar$Reader","refuse","(I)Z"⟩ ∈ gw_all := gw_s (i := 11) (by decide +kernel) (by decide +kernel)
theorem se_Re_readJoined : Cond.selects "CheeseCellar$Reader" ⟨"CheeseCellar$Reader","readJoined","(IILCheeseCellar$Orders;)Z"⟩ ⟨"CheeseCellar$Reader","readJoined","(IILCheeseCellar$Orders;)Z"⟩ ∈ gw_all := gw_s (i := 12) (by decide +kernel) (by decide +kernel)
theorem se_Re_readOne : Cond.selects "CheeseCellar$Reader" ⟨"CheeseCellar$Reader","readOne","(ILCheeseCellar$Orders;)Z"⟩ ⟨"CheeseCellar$Reader","readOne","(ILCheeseCellar$Orders;)Z"⟩ ∈ gw_all := gw_s (i := 13) (by decide +kernel) (by decide +kernel)
theorem se_Re_readComparison : Cond.selects "CheeseCellar$Reader" ⟨"CheeseCellar$Reader","readComparison","(ILCheeseCellar$Orders;)Z"⟩ ⟨"CheeseCellar$Reader","readComparison","(ILCheeseCellar$Orders;)Z"⟩ ∈ gw_all := gw_s (i := 14) (by decide +kernel) (by decide +kernel)
theorem se_Re_readTerm : Cond.selects "CheeseCellar$Reader" ⟨"CheeseCellar$Reader","readTerm","(ILCheeseCellar$Orders;)Z"⟩ ⟨"CheeseCellar$Reader","readTerm","(ILCheeseCellar$Orders;)Z"⟩ ∈ gw_all := gw_s (i := 15) (by decide +kernel) (by decide +kernel)
theorem se_Re_isJoint : Cond.selects "CheeseCellar$Reader" ⟨"CheeseCellar$Reader","isJoint","(I)Z"⟩ ⟨"CheeseCellar$Reader","isJoint","(I)Z"⟩ ∈ gw_all := gw_s (i := 16) (by decide +kernel) (by decide +kernel)
theorem se_K_passDay : Cond.selects "CheeseCellar" ⟨"CheeseCellar","passDay","()V"⟩ ⟨"CheeseCellar","passDay","()V"⟩ ∈ gw_all := gw_s (i := 17) (by decide +kernel) (by decide +kernel)
theorem se_Or_nameThings : Cond.selects "CheeseCellar$Orders" ⟨"CheeseCellar$Orders","nameThings","(LCheeseCellar$Wheel;I)V"⟩ ⟨"CheeseCellar$Orders","nameThings","(LCheeseCellar$Wheel;I)V"⟩ ∈ gw_all := gw_s (i := 18) (by decide +kernel) (by decide +kernel)
theorem se_Or_workOut : Cond.selects "CheeseCellar$Orders" ⟨"CheeseCellar$Orders","workOut","(II)I"⟩ ⟨"CheeseCellar$Orders","workOut","(II)I"⟩ ∈ gw_all := gw_s (i := 19) (by decide +kernel) (by decide +kernel)
theorem se_Or_put : Cond.selects "CheeseCellar$Orders" ⟨"CheeseCellar$Orders","put","(I)V"⟩ ⟨"CheeseCellar$Orders","put","(I)V"⟩ ∈ gw_all := gw_s (i := 20) (by decide +kernel) (by decide +kernel)
theorem se_Or_applyToken : Cond.selects "CheeseCellar$Orders" ⟨"CheeseCellar$Orders","applyToken","(I)V"⟩ ⟨"CheeseCellar$Orders","applyToken","(I)V"⟩ ∈ gw_all := gw_s (i := 21) (by decide +kernel) (by decide +kernel)
theorem se_Or_pick : Cond.selects "CheeseCellar$Orders" ⟨"CheeseCellar$Orders","pick","()I"⟩ ⟨"CheeseCellar$Orders","pick","()I"⟩ ∈ gw_all := gw_s (i := 22) (by decide +kernel) (by decide +kernel)
theorem se_Wh_ripeningBy : Cond.selects "CheeseCellar$Wheel" ⟨"CheeseCellar$Wheel","ripeningBy","(II)I"⟩ ⟨"CheeseCellar$Wheel","ripeningBy","(II)I"⟩ ∈ gw_all := gw_s (i := 23) (by decide +kernel) (by decide +kernel)
theorem se_K_ageOf : Cond.selects "CheeseCellar" ⟨"CheeseCellar","ageOf","(LCheeseCellar$Wheel;)I"⟩ ⟨"CheeseCellar","ageOf","(LCheeseCellar$Wheel;)I"⟩ ∈ gw_all := gw_s (i := 24) (by decide +kernel) (by decide +kernel)
theorem se_K_isSuited : Cond.selects "CheeseCellar" ⟨"CheeseCellar","isSuited","(LCheeseCellar$Wheel;I)Z"⟩ ⟨"CheeseCellar","isSuited","(LCheeseCellar$Wheel;I)Z"⟩ ∈ gw_all := gw_s (i := 25) (by decide +kernel) (by decide +kernel)
theorem se_Ba_placeFor : Cond.selects "CheeseCellar$Bands" ⟨"CheeseCellar$Bands","placeFor","(II)I"⟩ ⟨"CheeseCellar$Bands","placeFor","(II)I"⟩ ∈ gw_all := gw_s (i := 26) (by decide +kernel) (by decide +kernel)
theorem se_K_takeTo : Cond.selects "CheeseCellar" ⟨"CheeseCellar","takeTo","(LCheeseCellar$Wheel;I)V"⟩ ⟨"CheeseCellar","takeTo","(LCheeseCellar$Wheel;I)V"⟩ ∈ gw_all := gw_s (i := 27) (by decide +kernel) (by decide +kernel)
theorem se_K_askPlanFor : Cond.selects "CheeseCellar" ⟨"CheeseCellar","askPlanFor","(LCheeseCellar$Wheel;)V"⟩ ⟨"CheeseCellar","askPlanFor","(LCheeseCellar$Wheel;)V"⟩ ∈ gw_all := gw_s (i := 28) (by decide +kernel) (by decide +kernel)
theorem se_Pl_placeRow : Cond.selects "CheeseCellar$Planner" ⟨"CheeseCellar$Planner","placeRow","(I)Z"⟩ ⟨"CheeseCellar$Planner","placeRow","(I)Z"⟩ ∈ gw_all := gw_s (i := 29) (by decide +kernel) (by decide +kernel)
theorem se_Pl_spread : Cond.selects "CheeseCellar$Planner" ⟨"CheeseCellar$Planner","spread","(I)Z"⟩ ⟨"CheeseCellar$Planner","spread","(I)Z"⟩ ∈ gw_all := gw_s (i := 30) (by decide +kernel) (by decide +kernel)
theorem se_Pl_cheapestWithRoom : Cond.selects "CheeseCellar$Planner" ⟨"CheeseCellar$Planner","cheapestWithRoom","()I"⟩ ⟨"CheeseCellar$Planner","cheapestWithRoom","()I"⟩ ∈ gw_all := gw_s (i := 31) (by decide +kernel) (by decide +kernel)
theorem se_Pl_shiftChain : Cond.selects "CheeseCellar$Planner" ⟨"CheeseCellar$Planner","shiftChain","(II)V"⟩ ⟨"CheeseCellar$Planner","shiftChain","(II)V"⟩ ∈ gw_all := gw_s (i := 32) (by decide +kernel) (by decide +kernel)
theorem se_Pl_keepPlan : Cond.selects "CheeseCellar$Planner" ⟨"CheeseCellar$Planner","keepPlan","()V"⟩ ⟨"CheeseCellar$Planner","keepPlan","()V"⟩ ∈ gw_all := gw_s (i := 33) (by decide +kernel) (by decide +kernel)
theorem se_Ma_gatherLast : Cond.selects "CheeseCellar$Marks" ⟨"CheeseCellar$Marks","gatherLast","(II)I"⟩ ⟨"CheeseCellar$Marks","gatherLast","(II)I"⟩ ∈ gw_all := gw_s (i := 34) (by decide +kernel) (by decide +kernel)
theorem se_Ma_isKnown : Cond.selects "CheeseCellar$Marks" ⟨"CheeseCellar$Marks","isKnown","(II)Z"⟩ ⟨"CheeseCellar$Marks","isKnown","(II)Z"⟩ ∈ gw_all := gw_s (i := 35) (by decide +kernel) (by decide +kernel)
theorem se_Ma_gradersWith : Cond.selects "CheeseCellar$Marks" ⟨"CheeseCellar$Marks","gradersWith","(I)I"⟩ ⟨"CheeseCellar$Marks","gradersWith","(I)I"⟩ ∈ gw_all := gw_s (i := 36) (by decide +kernel) (by decide +kernel)
theorem se_St_besideStay : Cond.selects "CheeseCellar$Stays" ⟨"CheeseCellar$Stays","besideStay","(II)J"⟩ ⟨"CheeseCellar$Stays","besideStay","(II)J"⟩ ∈ gw_all := gw_s (i := 37) (by decide +kernel) (by decide +kernel)
theorem se_St_shareNight : Cond.selects "CheeseCellar$Stays" ⟨"CheeseCellar$Stays","shareNight","(III)Z"⟩ ⟨"CheeseCellar$Stays","shareNight","(III)Z"⟩ ∈ gw_all := gw_s (i := 38) (by decide +kernel) (by decide +kernel)
theorem se_St_nightsUpTo : Cond.selects "CheeseCellar$Stays" ⟨"CheeseCellar$Stays","nightsUpTo","(II)I"⟩ ⟨"CheeseCellar$Stays","nightsUpTo","(II)I"⟩ ∈ gw_all := gw_s (i := 39) (by decide +kernel) (by decide +kernel)
theorem se_K_wheelsFrom : Cond.selects "CheeseCellar" ⟨"CheeseCellar","wheelsFrom","(I)J"⟩ ⟨"CheeseCellar","wheelsFrom","(I)J"⟩ ∈ gw_all := gw_s (i := 40) (by decide +kernel) (by decide +kernel)
theorem se_Mo_lying : Cond.selects "CheeseCellarModel" ⟨"CheeseCellarModel","lying","(I)I"⟩ ⟨"CheeseCellarModel","lying","(I)I"⟩ ∈ gw_all := gw_s (i := 41) (by decide +kernel) (by decide +kernel)
theorem se_Mo_canGive : Cond.selects "CheeseCellarModel" ⟨"CheeseCellarModel","canGive","(II)Z"⟩ ⟨"CheeseCellarModel","canGive","(II)Z"⟩ ∈ gw_all := gw_s (i := 42) (by decide +kernel) (by decide +kernel)
theorem se_Mo_give : Cond.selects "CheeseCellarModel" ⟨"CheeseCellarModel","give","(III)V"⟩ ⟨"CheeseCellarModel","give","(III)V"⟩ ∈ gw_all := gw_s (i := 43) (by decide +kernel) (by decide +kernel)
theorem se_Mo_lay : Cond.selects "CheeseCellarModel" ⟨"CheeseCellarModel","lay","(II)V"⟩ ⟨"CheeseCellarModel","lay","(II)V"⟩ ∈ gw_all := gw_s (i := 44) (by decide +kernel) (by decide +kernel)
theorem se_Mo_lies : Cond.selects "CheeseCellarModel" ⟨"CheeseCellarModel","lies","(I)Z"⟩ ⟨"CheeseCellarModel","lies","(I)Z"⟩ ∈ gw_all := gw_s (i := 45) (by decide +kernel) (by decide +kernel)
theorem se_Mo_isWheel : Cond.selects "CheeseCellarModel" ⟨"CheeseCellarModel","isWheel","(I)Z"⟩ ⟨"CheeseCellarModel","isWheel","(I)Z"⟩ ∈ gw_all := gw_s (i := 46) (by decide +kernel) (by decide +kernel)
theorem se_Mo_four : Cond.selects "CheeseCellarModel" ⟨"CheeseCellarModel","four","(I)V"⟩ ⟨"CheeseCellarModel","four","(I)V"⟩ ∈ gw_all := gw_s (i := 47) (by decide +kernel) (by decide +kernel)
theorem se_Mo_next : Cond.selects "CheeseCellarModel" ⟨"CheeseCellarModel","next","()V"⟩ ⟨"CheeseCellarModel","next","()V"⟩ ∈ gw_all := gw_s (i := 48) (by decide +kernel) (by decide +kernel)
theorem se_Mo_here : Cond.selects "CheeseCellarModel" ⟨"CheeseCellarModel","here","(I)I"⟩ ⟨"CheeseCellarModel","here","(I)I"⟩ ∈ gw_all := gw_s (i := 49) (by decide +kernel) (by decide +kernel)
theorem se_Mo_isWord : Cond.selects "CheeseCellarModel" ⟨"CheeseCellarModel","isWord","(J)Z"⟩ ⟨"CheeseCellarModel","isWord","(J)Z"⟩ ∈ gw_all := gw_s (i := 50) (by decide +kernel) (by decide +kernel)
theorem se_Mo_wrong : Cond.selects "CheeseCellarModel" ⟨"CheeseCellarModel","wrong","(I)V"⟩ ⟨"CheeseCellarModel","wrong","(I)V"⟩ ∈ gw_all := gw_s (i := 51) (by decide +kernel) (by decide +kernel)
theorem se_Mo_readE : Cond.selects "CheeseCellarModel" ⟨"CheeseCellarModel","readE","()V"⟩ ⟨"CheeseCellarModel","readE","()V"⟩ ∈ gw_all := gw_s (i := 52) (by decide +kernel) (by decide +kernel)
theorem se_Mo_isOpen : Cond.selects "CheeseCellarModel" ⟨"CheeseCellarModel","isOpen","()Z"⟩ ⟨"CheeseCellarModel","isOpen","()Z"⟩ ∈ gw_all := gw_s (i := 53) (by decide +kernel) (by decide +kernel)
theorem se_Mo_sign : Cond.selects "CheeseCellarModel" ⟨"CheeseCellarModel","sign","()I"⟩ ⟨"CheeseCellarModel","sign","()I"⟩ ∈ gw_all := gw_s (i := 54) (by decide +kernel) (by decide +kernel)
theorem se_Mo_settle : Cond.selects "CheeseCellarModel" ⟨"CheeseCellarModel","settle","(I)V"⟩ ⟨"CheeseCellarModel","settle","(I)V"⟩ ∈ gw_all := gw_s (i := 55) (by decide +kernel) (by decide +kernel)
theorem se_Mo_pop : Cond.selects "CheeseCellarModel" ⟨"CheeseCellarModel","pop","()V"⟩ ⟨"CheeseCellarModel","pop","()V"⟩ ∈ gw_all := gw_s (i := 56) (by decide +kernel) (by decide +kernel)
theorem se_Mo_step : Cond.selects "CheeseCellarModel" ⟨"CheeseCellarModel","step","(II)V"⟩ ⟨"CheeseCellarModel","step","(II)V"⟩ ∈ gw_all := gw_s (i := 57) (by decide +kernel) (by decide +kernel)
theorem se_Mo_hold : Cond.selects "CheeseCellarModel" ⟨"CheeseCellarModel","hold","(I)V"⟩ ⟨"CheeseCellarModel","hold","(I)V"⟩ ∈ gw_all := gw_s (i := 58) (by decide +kernel) (by decide +kernel)
theorem se_Mo_settleOnes : Cond.selects "CheeseCellarModel" ⟨"CheeseCellarModel","settleOnes","(Z)V"⟩ ⟨"CheeseCellarModel","settleOnes","(Z)V"⟩ ∈ gw_all := gw_s (i := 59) (by decide +kernel) (by decide +kernel)
theorem se_Mo_operand : Cond.selects "CheeseCellarModel" ⟨"CheeseCellarModel","operand","(I)I"⟩ ⟨"CheeseCellarModel","operand","(I)I"⟩ ∈ gw_all := gw_s (i := 60) (by decide +kernel) (by decide +kernel)
theorem se_Mo_isKey : Cond.selects "CheeseCellarModel" ⟨"CheeseCellarModel","isKey","()Z"⟩ ⟨"CheeseCellarModel","isKey","()Z"⟩ ∈ gw_all := gw_s (i := 61) (by decide +kernel) (by decide +kernel)
theorem se_Mo_named : Cond.selects "CheeseCellarModel" ⟨"CheeseCellarModel","named","()I"⟩ ⟨"CheeseCellarModel","named","()I"⟩ ∈ gw_all := gw_s (i := 62) (by decide +kernel) (by decide +kernel)
theorem se_Mo_care : Cond.selects "CheeseCellarModel" ⟨"CheeseCellarModel","care","(I)V"⟩ ⟨"CheeseCellarModel","care","(I)V"⟩ ∈ gw_all := gw_s (i := 63) (by decide +kernel) (by decide +kernel)
theorem se_Mo_tell : Cond.selects "CheeseCellarModel" ⟨"CheeseCellarModel","tell","(I)V"⟩ ⟨"CheeseCellarModel","tell","(I)V"⟩ ∈ gw_all := gw_s (i := 64) (by decide +kernel) (by decide +kernel)
theorem se_Mo_holds : Cond.selects "CheeseCellarModel" ⟨"CheeseCellarModel","holds","(I)Z"⟩ ⟨"CheeseCellarModel","holds","(I)Z"⟩ ∈ gw_all := gw_s (i := 65) (by decide +kernel) (by decide +kernel)
theorem se_Mo_doesSuit : Cond.selects "CheeseCellarModel" ⟨"CheeseCellarModel","doesSuit","(II)Z"⟩ ⟨"CheeseCellarModel","doesSuit","(II)Z"⟩ ∈ gw_all := gw_s (i := 66) (by decide +kernel) (by decide +kernel)
theorem se_Mo_go : Cond.selects "CheeseCellarModel" ⟨"CheeseCellarModel","go","(II)V"⟩ ⟨"CheeseCellarModel","go","(II)V"⟩ ∈ gw_all := gw_s (i := 67) (by decide +kernel) (by decide +kernel)
theorem se_Mo_seek : Cond.selects "CheeseCellarModel" ⟨"CheeseCellarModel","seek","()Z"⟩ ⟨"CheeseCellarModel","seek","()Z"⟩ ∈ gw_all := gw_s (i := 68) (by decide +kernel) (by decide +kernel)
theorem se_Mo_costOf : Cond.selects "CheeseCellarModel" ⟨"CheeseCellarModel","costOf","(II)J"⟩ ⟨"CheeseCellarModel","costOf","(II)J"⟩ ∈ gw_all := gw_s (i := 69) (by decide +kernel) (by decide +kernel)
theorem se_Mo_onOne : Cond.selects "CheeseCellarModel" ⟨"CheeseCellarModel","onOne","(II)J"⟩ ⟨"CheeseCellarModel","onOne","(II)J"⟩ ∈ gw_all := gw_s (i := 70) (by decide +kernel) (by decide +kernel)
theorem se_Mo_isIn : Cond.selects "CheeseCellarModel" ⟨"CheeseCellarModel","isIn","(II)Z"⟩ ⟨"CheeseCellarModel","isIn","(II)Z"⟩ ∈ gw_all := gw_s (i := 71) (by decide +kernel) (by decide +kernel)
theorem se_Mo_layBeside : Cond.selects "CheeseCellarModel" ⟨"CheeseCellarModel","layBeside","(II)Z"⟩ ⟨"CheeseCellarModel","layBeside","(II)Z"⟩ ∈ gw_all := gw_s (i := 72) (by decide +kernel) (by decide +kernel)
end
section
/-! ===== the abstract machine: ints are integers (modulo 2^32, 2^64), cells have fixed numbers ===== -/
abbrev av_T : Type := Int ⊕ Int ⊕ Option Nat
def av_i (x : Int) : av_T := .inl x
def av_l (x : Int) : av_T := .inr (.inl x)
def av_r (r : Option Nat) : av_T := .inr (.inr r)
abbrev am_T : Type := Nat → Option Nat
def av_t (am : am_T) : av_T → Value
  | .inl x => .int (Int32.ofInt x)
  | .inr (.inl x) => .long (Int64.ofInt x)
  | .inr (.inr r) => va_rf (r.bind am)
def av_ok (am : am_T) : av_T → Prop
  | .inr (.inr (some a)) => ∃ q, am a = some q
  | _ => True
/-- words on the operand stack -/
def av_c : av_T → Nat
  | .inr (.inl _) => 2
  | _ => 1
theorem av_t_i (am : am_T) (x : Int) : av_t am (av_i x) = .int (Int32.ofInt x) := rfl
theorem av_t_l (am : am_T) (x : Int) : av_t am (av_l x) = .long (Int64.ofInt x) := rfl
theorem av_t_n (am : am_T) : av_t am (av_r none) = .null := rfl
theorem av_t_r {am : am_T} {a q : Nat} (h : am a = some q) : av_t am (av_r (some a)) = .ref q := by
  show va_rf ((some a).bind am) = _
  rw [Option.bind_some, h]; rfl
theorem av_cat (am : am_T) (v : av_T) : (av_t am v).category = av_c v := by
  rcases v with x | x | r
  · rfl
  · rfl
  · show (va_rf (r.bind am)).category = 1
    cases r.bind am <;> rfl
def ae_x (am am' : am_T) : Prop := ∀ a q, am a = some q → am' a = some q
theorem ae_rf (am : am_T) : ae_x am am := fun _ _ h => h
theorem ae_tr {a b c : am_T} (h : ae_x a b) (h' : ae_x b c) : ae_x a c := fun x q hx => h' x q (h x q hx)
theorem av_ok_x {am am' : am_T} (h : ae_x am am') {v : av_T} (hv : av_ok am v) : av_ok am' v := by
  rcases v with x | x | r
  · trivial
  · trivial
  · cases r with
    | none => trivial
    | some a => obtain ⟨q, hq⟩ := hv; exact ⟨q, h a q hq⟩
theorem av_t_x {am am' : am_T} (h : ae_x am am') {v : av_T} (hv : av_ok am v) : av_t am' v = av_t am v := by
  rcases v with x | x | r
  · rfl
  · rfl
  · cases r with
    | none => rfl
    | some a => obtain ⟨q, hq⟩ := hv; exact (av_t_r (h a q hq)).trans (av_t_r hq).symm
theorem av_ts_x {am am' : am_T} (h : ae_x am am') {st : List av_T} (hv : ∀ v ∈ st, av_ok am v) : st.map (av_t am') = st.map (av_t am) := by
  apply List.map_congr_left
  intro v hm
  exact av_t_x h (hv v hm)
/-- the memory: which cells are made; ints (booleans too), longs, references -/
abbrev mm_T : Type := (Nat → Bool) × (Nat → Nat → Int) × (Nat → Nat → Int) × (Nat → Nat → Option Nat)
def mm_A (G : mm_T) : Nat → Bool := G.1
def mm_I (G : mm_T) : Nat → Nat → Int := G.2.1
def mm_J (G : mm_T) : Nat → Nat → Int := G.2.2.1
def mm_R (G : mm_T) : Nat → Nat → Option Nat := G.2.2.2
def up_2 {α : Type} (f : Nat → Nat → α) (a k : Nat) (v : α) : Nat → Nat → α := fun b j => if b = a ∧ j = k then v else f b j
def ms_I (G : mm_T) (a k : Nat) (v : Int) : mm_T := (G.1, up_2 G.2.1 a k v, G.2.2.1, G.2.2.2)
def ms_J (G : mm_T) (a k : Nat) (v : Int) : mm_T := (G.1, G.2.1, up_2 G.2.2.1 a k v, G.2.2.2)
def ms_R (G : mm_T) (a k : Nat) (v : Option Nat) : mm_T := (G.1, G.2.1, G.2.2.1, up_2 G.2.2.2 a k v)
/-- a new cell: nothing in it -/
def ms_N (G : mm_T) (a : Nat) : mm_T := (fun b => if b = a then true else G.1 b, fun b j => if b = a then 0 else G.2.1 b j, fun b j => if b = a then 0 else G.2.2.1 b j, fun b j => if b = a then none else G.2.2.2 b j)
theorem up_2_s {α : Type} (f : Nat → Nat → α) (a k : Nat) (v : α) : up_2 f a k v a k = v := by simp [up_2]
theorem up_2_n {α : Type} (f : Nat → Nat → α) {a k b j : Nat} (v : α) (h : ¬ (b = a ∧ j = k)) : up_2 f a k v b j = f b j := by simp only [up_2, if_neg h]
/-- a cell's kind (number of its class; 100 int[], 101 long[], 102 boolean[], 103 Milk[], 104 Wheel[]) and its fields or places -/
def sh_tab : List (Nat × Nat) := [(11, 16), (6, 3), (100, 24), (100, 4), (100, 24), (103, 30), (104, 40), (0, 4), (100, 3), (100, 12), (100, 12), (100, 12), (7, 5), (100, 200), (100, 200), (100, 200), (100, 200), (1, 7), (100, 100), (100, 100), (100, 100), (100, 100), (100, 100), (100, 5), (4, 12), (100, 10), (100, 10), (100, 10), (101, 240), (100, 24), (101, 24), (100, 24), (100, 40), (8, 2), (100, 500), (5, 8), (9, 4), (100, 501), (100, 501), (100, 501), (100, 3), (100, 3), (3, 8), (100, 500), (100, 8), (100, 8), (100, 18), (100, 80), (3, 8), (100, 500), (100, 8), (100, 8), (100, 18), (100, 80), (999, 0), (999, 0), (999, 0), (999, 0), (999, 0), (999, 0), (12, 69), (100, 24), (100, 4), (100, 30), (100, 30), (100, 30), (100, 40), (100, 40), (100, 40), (100, 40), (100, 40), (100, 40), (100, 40), (100, 40), (102, 1200), (100, 200), (100, 200), (100, 200), (100, 200), (100, 500), (100, 500), (100, 10), (100, 8), (100, 500), (100, 500), (100, 10), (100, 8), (100, 500), (100, 400), (100, 300), (100, 10), (100, 3), (100, 12), (100, 12), (100, 12), (100, 10), (100, 10), (100, 10), (100, 25600), (101, 25600), (101, 240), (100, 100), (100, 100), (100, 100), (100, 100), (100, 100), (100, 5)]
def sh_t (a : Nat) : Nat × Nat := if a < 200 then sh_tab.getD a (999, 0) else if a < 230 then (2, 3) else if a < 300 then (999, 0) else if a < 340 then (10, 10) else (999, 0)
theorem sh_milk {k : Nat} (h : k < 30) : sh_t (200 + k) = (2, 3) := by
  unfold sh_t; rw [if_neg (by omega), if_pos (by omega)]
theorem sh_wheel {k : Nat} (h : k < 40) : sh_t (300 + k) = (10, 10) := by
  unfold sh_t; rw [if_neg (by omega), if_neg (by omega), if_neg (by omega), if_pos (by omega)]
def ce_v (am : am_T) (G : mm_T) (a : Nat) (d : String) (k : Nat) : Value :=
  if d = "I" ∨ d = "Z" then .int (Int32.ofInt (mm_I G a k)) else if d = "J" then .long (Int64.ofInt (mm_J G a k)) else va_rf ((mm_R G a k).bind am)
def ce_o (am : am_T) (G : mm_T) (a t n : Nat) : va_E := match cl_all[t]? with
  | some r => .inr (t, (List.range n).map (fun k => ce_v am G a (r.2.1 k).2.2.1 k))
  | none => .inr (t, [])
def ce_q (dA : Nat → ClassId) (am : am_T) (G : mm_T) (a t n : Nat) : va_E :=
  if t = 100 ∨ t = 102 then .inl (dA t, n, .inl (fun k => Int32.ofInt (mm_I G a k)))
  else if t = 101 then .inl (dA t, n, .inr (.inl (fun k => Int64.ofInt (mm_J G a k))))
  else if t = 103 ∨ t = 104 then .inl (dA t, n, .inr (.inr (.inr (.inr (fun k => (mm_R G a k).bind am)))))
  else ce_o am G a t n
def ce_of (dA : Nat → ClassId) (am : am_T) (G : mm_T) (a : Nat) : va_E := ce_q dA am G a (sh_t a).1 (sh_t a).2
/-- what is given from outside: the launch, classes, the heap at the law's start, the script's cell, the String's -/
abbrev gp_T : Type := Launch × va_G × (Nat → ClassId) × Heap × Nat × Nat × Nat
abbrev gp_l (g : gp_T) : Launch := g.1
abbrev gp_D (g : gp_T) : va_G := g.2.1
abbrev gp_A (g : gp_T) : Nat → ClassId := g.2.2.1
abbrev gp_H (g : gp_T) : Heap := g.2.2.2.1
abbrev gp_b (g : gp_T) : Nat := g.2.2.2.2.1
abbrev gp_k (g : gp_T) : Nat := g.2.2.2.2.2.1
abbrev gp_v (g : gp_T) : Nat := g.2.2.2.2.2.2
/-- the script: how many, and its ints -/
abbrev gx_T : Type := Nat × (Nat → Int32)
def nw_all : List Cond := [Cond.methodLinkNest "CheeseCellar" 9 ⟨"CheeseCellar$Shelves", "<init>", "()V"⟩ "CheeseCellar", Cond.methodLinkNest "CheeseCellar" 30 ⟨"CheeseCellar$Bands", "<init>", "()V"⟩ "CheeseCellar", Cond.methodLinkNest "CheeseCellar" 37 ⟨"CheeseCellar$Stays", "<init>", "()V"⟩ "CheeseCellar", Cond.methodLinkNest "CheeseCellar" 44 ⟨"CheeseCellar$Marks", "<init>", "()V"⟩ "CheeseCellar", Cond.methodLinkNest "CheeseCellar" 51 ⟨"CheeseCellar$Planner", "<init>", "()V"⟩ "CheeseCellar", Cond.methodLinkNest "CheeseCellar" 58 ⟨"CheeseCellar$Tape", "<init>", "()V"⟩ "CheeseCellar", Cond.methodLinkNest "CheeseCellar" 65 ⟨"CheeseCellar$Reader", "<init>", "()V"⟩ "CheeseCellar", Cond.methodLinkNest "CheeseCellar$Reader" 11 ⟨"CheeseCellar$Tokens", "<init>", "()V"⟩ "CheeseCellar", Cond.methodLinkNest "CheeseCellar" 79 ⟨"CheeseCellar$Orders", "<init>", "()V"⟩ "CheeseCellar", Cond.methodLinkNest "CheeseCellar$Shelves" 21 ⟨"CheeseCellar", "isUpTo", "(II)Z"⟩ "CheeseCellar", Cond.methodLinkNest "CheeseCellar$Bands" 24 ⟨"CheeseCellar", "isUpTo", "(II)Z"⟩ "CheeseCellar", Cond.methodLinkNest "CheeseCellar$Planner" 61 ⟨"CheeseCellar", "isUpTo", "(II)Z"⟩ "CheeseCellar", Cond.methodLinkNest "CheeseCellar$Marks" 56 ⟨"CheeseCellar", "isUpTo", "(II)Z"⟩ "CheeseCellar"]
def tx_words : String := "when    do      turn    wash    brush   or      and     not     kind    age     ripe    mould   weight  air     damp    side    shelf   day     "
def tx_bytes : List Int32 := [119, 104, 101, 110, 32, 32, 32, 32, 100, 111, 32, 32, 32, 32, 32, 32, 116, 117, 114, 110, 32, 32, 32, 32, 119, 97, 115, 104, 32, 32, 32, 32, 98, 114, 117, 115, 104, 32, 32, 32, 111, 114, 32, 32, 32, 32, 32, 32, 97, 110, 100, 32, 32, 32, 32, 32, 110, 111, 116, 32, 32, 32, 32, 32, 107, 105, 110, 100, 32, 32, 32, 32, 97, 103, 101, 32, 32, 32, 32, 32, 114, 105, 112, 101, 32, 32, 32, 32, 109, 111, 117, 108, 100, 32, 32, 32, 119, 101, 105, 103, 104, 116, 32, 32, 97, 105, 114, 32, 32, 32, 32, 32, 100, 97, 109, 112, 32, 32, 32, 32, 115, 105, 100, 101, 32, 32, 32, 32, 115, 104, 101, 108, 102, 32, 32, 32, 100, 97, 121, 32, 32, 32, 32, 32]
def tys_all (dA : Nat → ClassId) : List (ClassId × FieldType) := [(dA 100, .int), (dA 101, .long), (dA 102, .boolean), (dA 103, .object "CheeseCellar$Milk"), (dA 104, .object "CheeseCellar$Wheel")]
/-- what a state's tables say -/
def mk_K (X : gx_T) (g : gp_T) (U : State) : Prop :=
  va_K (gp_D g) cl_all (tys_all (gp_A g)) U ∧ (∀ w ∈ nw_all, va_Nw w U) ∧ va_AO "CheeseCellar$Milk" U ∧ va_AO "CheeseCellar$Wheel" U ∧
  va_X (gp_b g) X.1 X.2 U (gp_H g) ∧ vk_R "CheeseCellar$Tokens" 72 tx_words (gp_k g) U ∧
  vk_S 1 [144] [tx_bytes] (fun _ => gp_k g) (fun _ => gp_v g) (fun q => (gp_H g).size ≤ q) U (gp_H g) ∧
  va_Z "java/lang/String" "COMPACT_STRINGS" "Z" (.int 1) (fun q => (gp_H g).size ≤ q) U (gp_H g)
theorem nw_ok : ∀ w ∈ nw_all, w.onTables = true ∧ ∃ a i x h, w = Cond.methodLinkNest a i x h := by
  intro w hw
  simp only [nw_all, List.mem_cons, List.not_mem_nil, or_false] at hw
  rcases hw with rfl | rfl | rfl | rfl | rfl | rfl | rfl | rfl | rfl | rfl | rfl | rfl | rfl <;> exact ⟨rfl, _, _, _, _, rfl⟩
theorem mk_K.warm {X : gx_T} {g : gp_T} {s U : State} (hW : s.WarmedH U.vm) (h : mk_K X g s) : mk_K X g U := by
  obtain ⟨h1, h2, h3, h4, h5, h6, h7, h8⟩ := h
  refine ⟨va_K.moved hW.alike h1, fun w hw => ?_, h3.moved hW.alike, h4.moved hW.alike, h5.moved hW.alike, h6.warm hW, h7.moved hW.alike, h8.moved hW.alike⟩
  obtain ⟨-, a, i, x, hh, rfl⟩ := nw_ok w hw
  exact (h2 _ hw).warmM hW
theorem mk_K.same {X : gx_T} {g : gp_T} {s U : State} (hv : U.vm = s.vm) (h : mk_K X g s) : mk_K X g U := by
  obtain ⟨h1, h2, h3, h4, h5, h6, h7, h8⟩ := h
  have ha : s.vm.Alike U.vm := by rw [hv]; exact Vm.Alike.refl _
  exact ⟨va_K.moved ha h1, fun w hw => (h2 w hw).same (nw_ok w hw).1 hv.symm, h3.moved ha, h4.moved ha, h5.moved ha, h6.same hv, h7.moved ha, h8.moved ha⟩
/-- an int, a long within its range -/
abbrev i3_in (x : Int) : Prop := -2147483648 ≤ x ∧ x ≤ 2147483647
abbrev j6_in (x : Int) : Prop := -9223372036854775808 ≤ x ∧ x ≤ 9223372036854775807
/-- the heap holds the memory -/
def mr_R (g : gp_T) (am : am_T) (G : mm_T) (H : Heap) : Prop :=
  (∀ a q, a < 900 → am a = some q → va_at (gp_D g) cl_all (q, ce_of (gp_A g) am G a) H ∧ (gp_H g).size ≤ q) ∧
  (∀ a b q, a < 900 → b < 900 → am a = some q → am b = some q → a = b) ∧
  (∀ a, a < 900 → mm_A G a = false → am a = none) ∧
  (∀ a k b, mm_R G a k = some b → b < 900 ∧ ∃ q, am b = some q) ∧
  (∀ a k, i3_in (mm_I G a k)) ∧ (∀ a k, j6_in (mm_J G a k)) ∧
  (am 998 = some (gp_b g) ∧ am 997 = some (gp_k g)) ∧
  (gp_H g).size ≤ H.size ∧ ∀ q, q < (gp_H g).size → H[q]? = (gp_H g)[q]?
theorem nb_f {i j : Nat} (h : ¬ i = j) : Nat.beq i j = false := by
  cases hb : Nat.beq i j with
  | false => rfl
  | true => exact absurd (Nat.eq_of_beq_eq_true hb) h
/-- the locals: the first entry counts; 'none' says nothing -/
def ll_k : List (Nat × Option av_T) → Nat → Option av_T
  | [], _ => none
  | (j, v) :: t, i => cond (Nat.beq j i) v (ll_k t i)
/-- no long ends at this place -/
def ll_1 (L : List (Nat × Option av_T)) : Nat → Bool
  | 0 => true
  | j + 1 => match ll_k L j with
    | some (.inr (.inl _)) => false
    | _ => true
def aw_L (am : am_T) (ls : Array Slot) (nL : Nat) (L : List (Nat × Option av_T)) : Prop :=
  ls.size = nL ∧ lv_wf ls ∧ ∀ i v, ll_k L i = some v → ls[i]? = some (.val (av_t am v)) ∧ av_ok am v
def ll_v (am : am_T) (L : List (Nat × Option av_T)) : List (Nat × Value) := L.filterMap (fun q => (ll_k L q.1).map (fun v => (q.1, av_t am v)))
theorem ll_mem {L : List (Nat × Option av_T)} {i : Nat} {v : av_T} (h : ll_k L i = some v) : ∃ w, (i, w) ∈ L := by
  induction L with
  | nil => cases h
  | cons q t ih =>
    obtain ⟨j, w⟩ := q
    by_cases hj : j = i
    · subst hj; exact ⟨w, List.mem_cons_self⟩
    · have : Nat.beq j i = false := nb_f hj
      simp only [ll_k, this, cond_false] at h
      obtain ⟨w', hw⟩ := ih h
      exact ⟨w', List.mem_cons_of_mem _ hw⟩
theorem ll_vis {am : am_T} {L : List (Nat × Option av_T)} {i : Nat} {v : av_T} (h : ll_k L i = some v) : (i, av_t am v) ∈ ll_v am L := by
  obtain ⟨w, hw⟩ := ll_mem h
  exact List.mem_filterMap.mpr ⟨(i, w), hw, by simp [h]⟩
theorem aw_L.has {am : am_T} {ls : Array Slot} {nL : Nat} {L : List (Nat × Option av_T)} (h : aw_L am ls nL L) : lv_has ls nL (ll_v am L) := by
  refine ⟨h.1, h.2.1, fun q hq => ?_⟩
  obtain ⟨p, -, hp⟩ := List.mem_filterMap.mp hq
  cases hk : ll_k L p.1 with
  | none => rw [hk] at hp; cases hp
  | some v => rw [hk] at hp; cases hp; exact (h.2.2 _ _ hk).1
theorem aw_L.at {am : am_T} {ls : Array Slot} {nL : Nat} {L : List (Nat × Option av_T)} (h : aw_L am ls nL L) {i : Nat} {v : av_T} (hk : ll_k L i = some v) : ls[i]? = some (.val (av_t am v)) := (h.2.2 i v hk).1
theorem aw_L.ext {am am' : am_T} {ls : Array Slot} {nL : Nat} {L : List (Nat × Option av_T)} (h : aw_L am ls nL L) (hx : ae_x am am') : aw_L am' ls nL L :=
  ⟨h.1, h.2.1, fun i v hk => ⟨by rw [av_t_x hx (h.2.2 i v hk).2]; exact (h.2.2 i v hk).1, av_ok_x hx (h.2.2 i v hk).2⟩⟩
/-- storing one word -/
theorem aw_L.put1 {am : am_T} {ls ls' : Array Slot} {nL i : Nat} {L : List (Nat × Option av_T)} {v : av_T} (h : aw_L am ls nL L) (hv : av_ok am v) (h1 : ll_1 L i = true)
    (h' : lv_has ls' nL ((i, av_t am v) :: (ll_v am L).filter (fun q => !(q.1 == i) && !(q.1 + 1 == i && q.2.category == 2)))) : aw_L am ls' nL ((i, some v) :: L) := by
  refine ⟨h'.1, h'.2.1, fun j w hj => ?_⟩
  by_cases hji : i = j
  · subst hji
    have : Nat.beq i i = true := Nat.beq_refl _
    simp only [ll_k, this, cond_true] at hj
    cases hj
    exact ⟨h'.2.2 _ List.mem_cons_self, hv⟩
  · have : Nat.beq i j = false := nb_f hji
    simp only [ll_k, this, cond_false] at hj
    refine ⟨h'.2.2 (j, av_t am w) (List.mem_cons_of_mem _ (List.mem_filter.mpr ⟨ll_vis hj, ?_⟩)), (h.2.2 j w hj).2⟩
    have a1 : (j == i) = false := by simpa using fun z => hji z.symm
    have a2 : (j + 1 == i && (av_t am w).category == 2) = false := by
      by_cases hz : j + 1 = i
      · subst hz
        rw [ll_1, hj] at h1
        rw [av_cat]
        rcases w with x | x | r
        · simp [av_c]
        · simp at h1
        · simp [av_c]
      · simp [hz]
    simp [a1, a2]
/-- storing two words -/
theorem aw_L.put2 {am : am_T} {ls ls' : Array Slot} {nL i : Nat} {L : List (Nat × Option av_T)} {v : av_T} (h : aw_L am ls nL L) (hv : av_ok am v) (h1 : ll_1 L i = true)
    (h' : lv_has ls' nL ((i, av_t am v) :: (ll_v am L).filter (fun q => !(q.1 == i) && (!(q.1 == i + 1) && !(q.1 + 1 == i && q.2.category == 2))))) : aw_L am ls' nL ((i, some v) :: (i + 1, none) :: L) := by
  refine ⟨h'.1, h'.2.1, fun j w hj => ?_⟩
  by_cases hji : i = j
  · subst hji
    have : Nat.beq i i = true := Nat.beq_refl _
    simp only [ll_k, this, cond_true] at hj
    cases hj
    exact ⟨h'.2.2 _ List.mem_cons_self, hv⟩
  · have : Nat.beq i j = false := nb_f hji
    simp only [ll_k, this, cond_false] at hj
    by_cases hj2 : i + 1 = j
    · subst hj2
      have : Nat.beq (i + 1) (i + 1) = true := Nat.beq_refl _
      simp only [this, cond_true] at hj
      cases hj
    · have : Nat.beq (i + 1) j = false := nb_f hj2
      simp only [this, cond_false] at hj
      refine ⟨h'.2.2 (j, av_t am w) (List.mem_cons_of_mem _ (List.mem_filter.mpr ⟨ll_vis hj, ?_⟩)), (h.2.2 j w hj).2⟩
      have a1 : (j == i) = false := by simpa using fun z => hji z.symm
      have a3 : (j == i + 1) = false := by simpa using fun z => hj2 z.symm
      have a2 : (j + 1 == i && (av_t am w).category == 2) = false := by
        by_cases hz : j + 1 = i
        · subst hz
          rw [ll_1, hj] at h1
          rw [av_cat]
          rcases w with x | x | r
          · simp [av_c]
          · simp at h1
          · simp [av_c]
        · simp [hz]
      simp [a1, a2, a3]
/-- the locals with which a method begins -/
def ll_a : Nat → List av_T → List (Nat × Option av_T)
  | _, [] => []
  | i, .inr (.inl x) :: vs => (i, some (av_l x)) :: ll_a (i + 2) vs
  | i, v :: vs => (i, some v) :: ll_a (i + 1) vs
theorem ll_a_in (am : am_T) : ∀ (vs : List av_T) (i j : Nat) (v : av_T), ll_k (ll_a i vs) j = some v → (j, av_t am v) ∈ lv_args i (vs.map (av_t am)) ∧ v ∈ vs := by
  intro vs
  induction vs with
  | nil => intro i j v h; cases h
  | cons w vs ih =>
    intro i j v h
    have hc := av_cat am w
    rcases w with x | x | r
    · have hc2 : ¬ (av_t am (.inl x)).category = 2 := by rw [hc]; simp [av_c]
      simp only [List.map_cons, lv_args, if_neg hc2]
      by_cases hij : i = j
      · subst hij
        have : Nat.beq i i = true := Nat.beq_refl _
        simp only [ll_a, ll_k, this, cond_true] at h
        cases h
        exact ⟨List.mem_cons_self, List.mem_cons_self⟩
      · have : Nat.beq i j = false := nb_f hij
        simp only [ll_a, ll_k, this, cond_false] at h
        obtain ⟨h1, h2⟩ := ih _ _ _ h
        exact ⟨List.mem_cons_of_mem _ h1, List.mem_cons_of_mem _ h2⟩
    · have hc2 : (av_t am (.inr (.inl x))).category = 2 := by rw [hc]; simp [av_c]
      simp only [List.map_cons, lv_args, if_pos hc2]
      by_cases hij : i = j
      · subst hij
        have : Nat.beq i i = true := Nat.beq_refl _
        simp only [ll_a, ll_k, this, cond_true] at h
        cases h
        exact ⟨List.mem_cons_self, List.mem_cons_self⟩
      · have : Nat.beq i j = false := nb_f hij
        simp only [ll_a, ll_k, this, cond_false] at h
        obtain ⟨h1, h2⟩ := ih _ _ _ h
        exact ⟨List.mem_cons_of_mem _ h1, List.mem_cons_of_mem _ h2⟩
    · have hc2 : ¬ (av_t am (.inr (.inr r))).category = 2 := by rw [hc]; simp [av_c]
      simp only [List.map_cons, lv_args, if_neg hc2]
      by_cases hij : i = j
      · subst hij
        have : Nat.beq i i = true := Nat.beq_refl _
        simp only [ll_a, ll_k, this, cond_true] at h
        cases h
        exact ⟨List.mem_cons_self, List.mem_cons_self⟩
      · have : Nat.beq i j = false := nb_f hij
        simp only [ll_a, ll_k, this, cond_false] at h
        obtain ⟨h1, h2⟩ := ih _ _ _ h
        exact ⟨List.mem_cons_of_mem _ h1, List.mem_cons_of_mem _ h2⟩
/-- what holds in a method's body all along -/
def aw_C (X : gx_T) (M : mt_T) (d : Nat) (g : gp_T) (p : Program) (R : Room) (s : State) (m : MethodId) (args : Array Value) (meth : Method) (c : Code) : Prop :=
  p.tables.exec = Jvm.exec ∧ c.code = M.2.1 ∧ c.maxLocals = M.2.2.1 ∧ s.vm.findClass M.1.cls = some m.cls ∧ (∀ w ∈ gw_all, w.before args s = true) ∧
  meth.sig.returnType = M.2.2.2 ∧ meth.locks = false ∧ meth.name = M.1.name ∧ d ≤ R.frames ∧ 40 * d ≤ R.locals ∧ mk_K X g s
/-- the instruction by which an answer leaves -/
def aw_D (M : mt_T) (pc : Nat) : Option av_T → Prop
  | none => decode M.2.1 pc = .ok (.return_, 1) ∧ M.2.2.2 = none
  | some (.inl x) => decode M.2.1 pc = .ok (.ireturn, 1) ∧ (M.2.2.2 = some .int ∨ (M.2.2.2 = some .boolean ∧ (x = 0 ∨ x = 1)))
  | some (.inr (.inl _)) => decode M.2.1 pc = .ok (.lreturn, 1) ∧ M.2.2.2 = some .long
  | some (.inr (.inr _)) => decode M.2.1 pc = .ok (.areturn, 1) ∧ ∃ n, M.2.2.2 = some (.object n)
/-- how a body ends: from a return with an answer that Q takes, the machine comes where it should -/
def aw_R (g : gp_T) (M : mt_T) (p : Program) (e : Env) (R : Room) (s : State) (m : MethodId) (args : Array Value) (below : List Frame) (meth : Method) (c : Code) (am0 : am_T) (mc ms : Nat) (Q : Option av_T → mm_T → Prop) (QQ : State → Prop) : Prop :=
  ∀ (pc : Nat) (ls : Array Slot) (H : Heap) (locs : List Loc) (am : am_T) (G : mm_T) (r : Option av_T), aw_D M pc r → Q r G → mr_R g am G H → ae_x am0 am → (∀ v ∈ r.toList, av_ok am v) → (∀ q ∈ locs, (gp_H g).size ≤ q.base) →
    W p (gp_l g) e R s m args below meth c H locs mc ms QQ (F0 m pc ls (r.toList.map (av_t am)))
/-- from here (place, locals, stack, memory; cells and slots that may be made) the body comes to its end with Q -/
def aw_W (X : gx_T) (M : mt_T) (d pc : Nat) (L : List (Nat × Option av_T)) (st : List av_T) (G : mm_T) (k n : Nat) (Q : Option av_T → mm_T → Prop) : Prop :=
  ∀ (g : gp_T) (p : Program) (e : Env) (R : Room) (s : State) (m : MethodId) (args : Array Value) (below : List Frame) (meth : Method) (c : Code) (H : Heap) (locs : List Loc) (cells slots : Nat) (am am0 : am_T) (ls : Array Slot) (mc ms : Nat) (QQ : State → Prop),
    aw_C X M d g p R s m args meth c → mr_R g am G H → ae_x am0 am → aw_L am ls M.2.2.1 L → (∀ v ∈ st, av_ok am v) → (∀ q ∈ locs, (gp_H g).size ≤ q.base) → cells + k ≤ mc → slots + n ≤ ms → mc ≤ R.cells → ms ≤ R.slots →
    aw_R g M p e R s m args below meth c am0 mc ms Q QQ →
    W p (gp_l g) e R s m args below meth c H locs cells slots QQ (F0 m pc ls (st.map (av_t am)))
/-- a method's contract -/
def aw_M (X : gx_T) (d : Nat) (M : mt_T) (as : List av_T) (G : mm_T) (k n : Nat) (Q : Option av_T → mm_T → Prop) : Prop :=
  ∀ (g : gp_T) (am : am_T), Met (gp_l g) M.1 (Cond.code M.1 M.2.1 M.2.2.1 M.2.2.2 :: gw_all) { frames := d, cells := k, slots := n, locals := 40 * d }
    (va_Pc (as.map (av_t am)) (fun U => mk_K X g U ∧ mr_R g am G U.heap ∧ ∀ v ∈ as, av_ok am v))
    (fun _ _ o t => ∃ (r : Option av_T) (G' : mm_T) (am' : am_T), o = .returned (r.map (av_t am')) ∧ Q r G' ∧ ae_x am am' ∧ mr_R g am' G' t.heap ∧ ∀ v ∈ r.toList, av_ok am' v)
    k n (fun q => (gp_H g).size ≤ q)
end
section
/-! ===== rows of the abstract machine (printed by wip/gen/rows.py) ===== -/
theorem ok_c {am : am_T} {v : av_T} {st : List av_T} (hv : av_ok am v) (h : ∀ w ∈ st, av_ok am w) : ∀ w ∈ v :: st, av_ok am w := fun w hw => by
  rcases List.mem_cons.mp hw with rfl | hw
  · exact hv
  · exact h w hw
theorem ok_t {am : am_T} {v : av_T} {st : List av_T} (h : ∀ w ∈ v :: st, av_ok am w) : ∀ w ∈ st, av_ok am w := fun w hw => h w (List.mem_cons_of_mem _ hw)
theorem ok_h {am : am_T} {v : av_T} {st : List av_T} (h : ∀ w ∈ v :: st, av_ok am w) : av_ok am v := h v List.mem_cons_self
theorem ok_i {am : am_T} {x : Int} {st : List av_T} (h : ∀ w ∈ st, av_ok am w) : ∀ w ∈ av_i x :: st, av_ok am w := ok_c trivial h
theorem ok_l {am : am_T} {x : Int} {st : List av_T} (h : ∀ w ∈ st, av_ok am w) : ∀ w ∈ av_l x :: st, av_ok am w := ok_c trivial h
theorem i3_t {x : Int} (h : i3_in x) : (Int32.ofInt x).toInt = x := Int32.toInt_ofInt_of_le (by omega) (by omega)
theorem j6_t {x : Int} (h : j6_in x) : (Int64.ofInt x).toInt = x := Int64.toInt_ofInt_of_le (by omega) (by omega)
theorem i3_lt {x y : Int} (hx : i3_in x) (hy : i3_in y) : Int32.ofInt x < Int32.ofInt y ↔ x < y := by rw [Int32.lt_iff_toInt_lt, i3_t hx, i3_t hy]
theorem i3_le {x y : Int} (hx : i3_in x) (hy : i3_in y) : Int32.ofInt x ≤ Int32.ofInt y ↔ x ≤ y := by rw [Int32.le_iff_toInt_le, i3_t hx, i3_t hy]
theorem i3_eq {x y : Int} (hx : i3_in x) (hy : i3_in y) : Int32.ofInt x = Int32.ofInt y ↔ x = y := by rw [← Int32.toInt_inj, i3_t hx, i3_t hy]
theorem j6_lt {x y : Int} (hx : j6_in x) (hy : j6_in y) : Int64.ofInt x < Int64.ofInt y ↔ x < y := by rw [Int64.lt_iff_toInt_lt, j6_t hx, j6_t hy]
theorem j6_eq {x y : Int} (hx : j6_in x) (hy : j6_in y) : Int64.ofInt x = Int64.ofInt y ↔ x = y := by rw [← Int64.toInt_inj, j6_t hx, j6_t hy]
theorem i3_0 : i3_in 0 := by constructor <;> omega
theorem i3_clamp {x : Int} (hx : i3_in x) : (Int32.ofInt x).toNatClampNeg = x.toNat := by
  show (Int32.ofInt x).toInt.toNat = _
  rw [i3_t hx]
theorem i3_vin {x : Int} {N : Nat} (h0 : 0 ≤ x) (hN : x < N) (hx : x ≤ 2147483647) : vp_in (Int32.ofInt x) N := by
  rw [vp_in_iff, i3_t ⟨by omega, hx⟩]; exact ⟨h0, hN⟩
theorem av_ref {am : am_T} {a : Nat} (h : av_ok am (av_r (some a))) : ∃ q, am a = some q ∧ av_t am (av_r (some a)) = .ref q := by
  obtain ⟨q, hq⟩ := h
  exact ⟨q, hq, av_t_r hq⟩
/-- the same state told otherwise -/
theorem ar_eq {X : gx_T} {M : mt_T} {d pc : Nat} {L : List (Nat × Option av_T)} {st : List av_T} {G : mm_T} {k n : Nat} {Q : Option av_T → mm_T → Prop} {pc' : Nat} {L' : List (Nat × Option av_T)} {st' : List av_T} {G' : mm_T} (kk : aw_W X M d pc' L' st' G' k n Q) (h1 : pc = pc') (h2 : L = L') (h3 : st = st') (h4 : G = G') : aw_W X M d pc L st G k n Q := by
  subst h1; subst h2; subst h3; subst h4; exact kk
/-- fewer locals -/
def ll_s (L : List (Nat × Option av_T)) : List (Nat × Option av_T) → Prop
  | [] => True
  | (i, some v) :: t => ll_k L i = some v ∧ ll_s L t
  | (_, none) :: t => ll_s L t
theorem ll_s_k {L L' : List (Nat × Option av_T)} (h : ll_s L L') : ∀ i v, ll_k L' i = some v → ll_k L i = some v := by
  induction L' with
  | nil => intro i v h; cases h
  | cons q t ih =>
    obtain ⟨j, w⟩ := q
    intro i v hk
    by_cases hj : j = i
    · subst hj
      have : Nat.beq j j = true := Nat.beq_refl _
      simp only [ll_k, this, cond_true] at hk
      subst hk
      exact h.1
    · have : Nat.beq j i = false := nb_f hj
      simp only [ll_k, this, cond_false] at hk
      cases w with
      | none => exact ih h i v hk
      | some w => exact ih h.2 i v hk
theorem ar_locals {X : gx_T} {M : mt_T} {d pc : Nat} {L : List (Nat × Option av_T)} {st : List av_T} {G : mm_T} {k n : Nat} {Q : Option av_T → mm_T → Prop} (L' : List (Nat × Option av_T)) (h : ll_s L L') (kk : aw_W X M d pc L' st G k n Q) : aw_W X M d pc L st G k n Q := by
  intro g p e R s m args below meth c H locs cells slots am am0 ls mc ms QQ hC hR hx hL hs hl h1 h2 h3 h4 hQ
  exact kk g p e R s m args below meth c H locs cells slots am am0 ls mc ms QQ hC hR hx ⟨hL.1, hL.2.1, fun i v hk => hL.2.2 i v (ll_s_k h i v hk)⟩ hs hl h1 h2 h3 h4 hQ
/-- a weaker end -/
theorem ar_mono {X : gx_T} {M : mt_T} {d pc : Nat} {L : List (Nat × Option av_T)} {st : List av_T} {G : mm_T} {k n : Nat} {Q : Option av_T → mm_T → Prop} {Q' : Option av_T → mm_T → Prop} (h : ∀ r G, Q' r G → Q r G) (kk : aw_W X M d pc L st G k n Q') : aw_W X M d pc L st G k n Q := by
  intro g p e R s m args below meth c H locs cells slots am am0 ls mc ms QQ hC hR hx hL hs hl h1 h2 h3 h4 hQ
  exact kk g p e R s m args below meth c H locs cells slots am am0 ls mc ms QQ hC hR hx hL hs hl h1 h2 h3 h4 (fun pc ls H locs am G r a b => hQ pc ls H locs am G r a (h r G b))
theorem am_mono {X : gx_T} {d : Nat} {M : mt_T} {as : List av_T} {G : mm_T} {k n : Nat} {Q Q' : Option av_T → mm_T → Prop} (h : ∀ r G, Q' r G → Q r G) (kk : aw_M X d M as G k n Q') : aw_M X d M as G k n Q := by
  intro g am p e ha hc hk s m args below h1 h2 h3 h4
  obtain ⟨t, o, a1, a2, a3, ⟨r, G', am', b1, b2, b3⟩, a5⟩ := kk g am p e ha hc hk s m args below h1 h2 h3 h4
  exact ⟨t, o, a1, a2, a3, ⟨r, G', am', b1, h r G' b2, b3⟩, a5⟩
/-- an int on the stack may be told by another of its class -/
theorem ar_mod {X : gx_T} {M : mt_T} {d pc : Nat} {L : List (Nat × Option av_T)} {st : List av_T} {G : mm_T} {k n : Nat} {Q : Option av_T → mm_T → Prop} {x y : Int} (h : Int32.ofInt x = Int32.ofInt y) (kk : aw_W X M d pc L (av_i y :: st) G k n Q) : aw_W X M d pc L (av_i x :: st) G k n Q := by
  intro g p e R s m args below meth c H locs cells slots am am0 ls mc ms QQ hC hR hx hL hs hl h1 h2 h3 h4 hQ
  have h9 := kk g p e R s m args below meth c H locs cells slots am am0 ls mc ms QQ hC hR hx hL (ok_i (ok_t hs)) hl h1 h2 h3 h4 hQ
  show W _ _ _ _ _ _ _ _ _ _ _ _ _ _ _ (F0 m pc ls (.int (Int32.ofInt x) :: st.map (av_t am)))
  rw [h]
  exact h9
theorem ar_modl {X : gx_T} {M : mt_T} {d pc : Nat} {L : List (Nat × Option av_T)} {st : List av_T} {G : mm_T} {k n : Nat} {Q : Option av_T → mm_T → Prop} {x y : Int} (h : Int64.ofInt x = Int64.ofInt y) (kk : aw_W X M d pc L (av_l y :: st) G k n Q) : aw_W X M d pc L (av_l x :: st) G k n Q := by
  intro g p e R s m args below meth c H locs cells slots am am0 ls mc ms QQ hC hR hx hL hs hl h1 h2 h3 h4 hQ
  have h9 := kk g p e R s m args below meth c H locs cells slots am am0 ls mc ms QQ hC hR hx hL (ok_l (ok_t hs)) hl h1 h2 h3 h4 hQ
  show W _ _ _ _ _ _ _ _ _ _ _ _ _ _ _ (F0 m pc ls (.long (Int64.ofInt x) :: st.map (av_t am)))
  rw [h]
  exact h9
/-- what the memory's ints keep -/
theorem ar_rngI {X : gx_T} {M : mt_T} {d pc : Nat} {L : List (Nat × Option av_T)} {st : List av_T} {G : mm_T} {k n : Nat} {Q : Option av_T → mm_T → Prop} (kk : (∀ a j, i3_in (mm_I G a j)) → aw_W X M d pc L st G k n Q) : aw_W X M d pc L st G k n Q := by
  intro g p e R s m args below meth c H locs cells slots am am0 ls mc ms QQ hC hR hx hL hs hl h1 h2 h3 h4 hQ
  exact kk hR.2.2.2.2.1 g p e R s m args below meth c H locs cells slots am am0 ls mc ms QQ hC hR hx hL hs hl h1 h2 h3 h4 hQ
theorem ar_rngJ {X : gx_T} {M : mt_T} {d pc : Nat} {L : List (Nat × Option av_T)} {st : List av_T} {G : mm_T} {k n : Nat} {Q : Option av_T → mm_T → Prop} (kk : (∀ a j, j6_in (mm_J G a j)) → aw_W X M d pc L st G k n Q) : aw_W X M d pc L st G k n Q := by
  intro g p e R s m args below meth c H locs cells slots am am0 ls mc ms QQ hC hR hx hL hs hl h1 h2 h3 h4 hQ
  exact kk hR.2.2.2.2.2.1 g p e R s m args below meth c H locs cells slots am am0 ls mc ms QQ hC hR hx hL hs hl h1 h2 h3 h4 hQ
theorem ar_iconst {X : gx_T} {M : mt_T} {d pc : Nat} {L : List (Nat × Option av_T)} {st : List av_T} {G : mm_T} {k n : Nat} {Q : Option av_T → mm_T → Prop} {x : Int} (hd : decode M.2.1 pc = .ok (.iconst x, 1)) (kk : aw_W X M d (pc + 1) L (av_i x :: st) G k n Q) : aw_W X M d pc L st G k n Q := by
  intro g p e R s m args below meth c H locs cells slots am am0 ls mc ms QQ hC hR hx hL hs hl h1 h2 h3 h4 hQ
  exact lv_iconst hC.1 hC.2.1 hd rfl (kk g p e R s m args below meth c H locs cells slots am am0 ls mc ms QQ hC hR hx hL (ok_i hs) hl h1 h2 h3 h4 hQ)
theorem ar_bipush {X : gx_T} {M : mt_T} {d pc : Nat} {L : List (Nat × Option av_T)} {st : List av_T} {G : mm_T} {k n : Nat} {Q : Option av_T → mm_T → Prop} {x : Int} (hd : decode M.2.1 pc = .ok (.bipush x, 2)) (hv : (Int8.ofInt x).toInt32 = Int32.ofInt x) (kk : aw_W X M d (pc + 2) L (av_i x :: st) G k n Q) : aw_W X M d pc L st G k n Q := by
  intro g p e R s m args below meth c H locs cells slots am am0 ls mc ms QQ hC hR hx hL hs hl h1 h2 h3 h4 hQ
  exact lv_bipush hC.1 hC.2.1 hd hv (kk g p e R s m args below meth c H locs cells slots am am0 ls mc ms QQ hC hR hx hL (ok_i hs) hl h1 h2 h3 h4 hQ)
theorem ar_sipush {X : gx_T} {M : mt_T} {d pc : Nat} {L : List (Nat × Option av_T)} {st : List av_T} {G : mm_T} {k n : Nat} {Q : Option av_T → mm_T → Prop} {x : Int} (hd : decode M.2.1 pc = .ok (.sipush x, 3)) (hv : (Int16.ofInt x).toInt32 = Int32.ofInt x) (kk : aw_W X M d (pc + 3) L (av_i x :: st) G k n Q) : aw_W X M d pc L st G k n Q := by
  intro g p e R s m args below meth c H locs cells slots am am0 ls mc ms QQ hC hR hx hL hs hl h1 h2 h3 h4 hQ
  exact lv_sipush hC.1 hC.2.1 hd hv (kk g p e R s m args below meth c H locs cells slots am am0 ls mc ms QQ hC hR hx hL (ok_i hs) hl h1 h2 h3 h4 hQ)
theorem ar_lconst {X : gx_T} {M : mt_T} {d pc : Nat} {L : List (Nat × Option av_T)} {st : List av_T} {G : mm_T} {k n : Nat} {Q : Option av_T → mm_T → Prop} {z : Fin 2} (x : Int) (hd : decode M.2.1 pc = .ok (.lconst z, 1)) (hv : Int64.ofNat (z : Nat) = Int64.ofInt x) (kk : aw_W X M d (pc + 1) L (av_l x :: st) G k n Q) : aw_W X M d pc L st G k n Q := by
  intro g p e R s m args below meth c H locs cells slots am am0 ls mc ms QQ hC hR hx hL hs hl h1 h2 h3 h4 hQ
  exact lv_lconst hC.1 hC.2.1 hd hv (kk g p e R s m args below meth c H locs cells slots am am0 ls mc ms QQ hC hR hx hL (ok_l hs) hl h1 h2 h3 h4 hQ)
theorem ar_ldc {X : gx_T} {M : mt_T} {d pc : Nat} {L : List (Nat × Option av_T)} {st : List av_T} {G : mm_T} {k n : Nat} {Q : Option av_T → mm_T → Prop} {i : Nat} {v : Int32} (x : Int) (hw : Cond.constant M.1.cls i v ∈ gw_all) (hd : decode M.2.1 pc = .ok (.ldc i, 2)) (hv : v = Int32.ofInt x) (kk : aw_W X M d (pc + 2) L (av_i x :: st) G k n Q) : aw_W X M d pc L st G k n Q := by
  intro g p e R s m args below meth c H locs cells slots am am0 ls mc ms QQ hC hR hx hL hs hl h1 h2 h3 h4 hQ
  subst hv
  exact lv_ldc hC.1 hC.2.1 hC.2.2.2.1 (hC.2.2.2.2.1 _ hw) hd (kk g p e R s m args below meth c H locs cells slots am am0 ls mc ms QQ hC hR hx hL (ok_i hs) hl h1 h2 h3 h4 hQ)
theorem ar_ldcw {X : gx_T} {M : mt_T} {d pc : Nat} {L : List (Nat × Option av_T)} {st : List av_T} {G : mm_T} {k n : Nat} {Q : Option av_T → mm_T → Prop} {i : Nat} {v : Int32} (x : Int) (hw : Cond.constant M.1.cls i v ∈ gw_all) (hd : decode M.2.1 pc = .ok (.ldc_w i, 3)) (hv : v = Int32.ofInt x) (kk : aw_W X M d (pc + 3) L (av_i x :: st) G k n Q) : aw_W X M d pc L st G k n Q := by
  intro g p e R s m args below meth c H locs cells slots am am0 ls mc ms QQ hC hR hx hL hs hl h1 h2 h3 h4 hQ
  subst hv
  exact lv_ldcw hC.1 hC.2.1 hC.2.2.2.1 (hC.2.2.2.2.1 _ hw) hd (kk g p e R s m args below meth c H locs cells slots am am0 ls mc ms QQ hC hR hx hL (ok_i hs) hl h1 h2 h3 h4 hQ)
theorem ar_ldc2 {X : gx_T} {M : mt_T} {d pc : Nat} {L : List (Nat × Option av_T)} {st : List av_T} {G : mm_T} {k n : Nat} {Q : Option av_T → mm_T → Prop} {i : Nat} {v : Int64} (x : Int) (hw : Cond.constantLong M.1.cls i v ∈ gw_all) (hd : decode M.2.1 pc = .ok (.ldc2_w i, 3)) (hv : v = Int64.ofInt x) (kk : aw_W X M d (pc + 3) L (av_l x :: st) G k n Q) : aw_W X M d pc L st G k n Q := by
  intro g p e R s m args below meth c H locs cells slots am am0 ls mc ms QQ hC hR hx hL hs hl h1 h2 h3 h4 hQ
  subst hv
  exact lv_ldc2 hC.1 hC.2.1 hC.2.2.2.1 (hC.2.2.2.2.1 _ hw) hd (kk g p e R s m args below meth c H locs cells slots am am0 ls mc ms QQ hC hR hx hL (ok_l hs) hl h1 h2 h3 h4 hQ)
theorem ar_null {X : gx_T} {M : mt_T} {d pc : Nat} {L : List (Nat × Option av_T)} {st : List av_T} {G : mm_T} {k n : Nat} {Q : Option av_T → mm_T → Prop} (hd : decode M.2.1 pc = .ok (.aconst_null, 1)) (kk : aw_W X M d (pc + 1) L (av_r none :: st) G k n Q) : aw_W X M d pc L st G k n Q := by
  intro g p e R s m args below meth c H locs cells slots am am0 ls mc ms QQ hC hR hx hL hs hl h1 h2 h3 h4 hQ
  exact lv_null hC.1 hC.2.1 hd (kk g p e R s m args below meth c H locs cells slots am am0 ls mc ms QQ hC hR hx hL (ok_c trivial hs) hl h1 h2 h3 h4 hQ)
theorem ar_iload {X : gx_T} {M : mt_T} {d pc : Nat} {L : List (Nat × Option av_T)} {st : List av_T} {G : mm_T} {k n : Nat} {Q : Option av_T → mm_T → Prop} {i : Nat} {x : Int} (hd : decode M.2.1 pc = .ok (.iload i, 2)) (hk : ll_k L i = some (av_i x)) (kk : aw_W X M d (pc + 2) L (av_i x :: st) G k n Q) : aw_W X M d pc L st G k n Q := by
  intro g p e R s m args below meth c H locs cells slots am am0 ls mc ms QQ hC hR hx hL hs hl h1 h2 h3 h4 hQ
  exact lv_iload hC.1 hC.2.1 hd (hL.at hk) (kk g p e R s m args below meth c H locs cells slots am am0 ls mc ms QQ hC hR hx hL (ok_i hs) hl h1 h2 h3 h4 hQ)
theorem ar_iload_n {X : gx_T} {M : mt_T} {d pc : Nat} {L : List (Nat × Option av_T)} {st : List av_T} {G : mm_T} {k n : Nat} {Q : Option av_T → mm_T → Prop} {i : Fin 4} {x : Int} (hd : decode M.2.1 pc = .ok (.iload_n i, 1)) (hk : ll_k L (i : Nat) = some (av_i x)) (kk : aw_W X M d (pc + 1) L (av_i x :: st) G k n Q) : aw_W X M d pc L st G k n Q := by
  intro g p e R s m args below meth c H locs cells slots am am0 ls mc ms QQ hC hR hx hL hs hl h1 h2 h3 h4 hQ
  exact lv_iload_n hC.1 hC.2.1 hd rfl (hL.at hk) (kk g p e R s m args below meth c H locs cells slots am am0 ls mc ms QQ hC hR hx hL (ok_i hs) hl h1 h2 h3 h4 hQ)
theorem ar_lload {X : gx_T} {M : mt_T} {d pc : Nat} {L : List (Nat × Option av_T)} {st : List av_T} {G : mm_T} {k n : Nat} {Q : Option av_T → mm_T → Prop} {i : Nat} {x : Int} (hd : decode M.2.1 pc = .ok (.lload i, 2)) (hk : ll_k L i = some (av_l x)) (kk : aw_W X M d (pc + 2) L (av_l x :: st) G k n Q) : aw_W X M d pc L st G k n Q := by
  intro g p e R s m args below meth c H locs cells slots am am0 ls mc ms QQ hC hR hx hL hs hl h1 h2 h3 h4 hQ
  exact lv_lload hC.1 hC.2.1 hd (hL.at hk) (kk g p e R s m args below meth c H locs cells slots am am0 ls mc ms QQ hC hR hx hL (ok_l hs) hl h1 h2 h3 h4 hQ)
theorem ar_lload_n {X : gx_T} {M : mt_T} {d pc : Nat} {L : List (Nat × Option av_T)} {st : List av_T} {G : mm_T} {k n : Nat} {Q : Option av_T → mm_T → Prop} {i : Fin 4} {x : Int} (hd : decode M.2.1 pc = .ok (.lload_n i, 1)) (hk : ll_k L (i : Nat) = some (av_l x)) (kk : aw_W X M d (pc + 1) L (av_l x :: st) G k n Q) : aw_W X M d pc L st G k n Q := by
  intro g p e R s m args below meth c H locs cells slots am am0 ls mc ms QQ hC hR hx hL hs hl h1 h2 h3 h4 hQ
  exact lv_lload_n hC.1 hC.2.1 hd rfl (hL.at hk) (kk g p e R s m args below meth c H locs cells slots am am0 ls mc ms QQ hC hR hx hL (ok_l hs) hl h1 h2 h3 h4 hQ)
theorem ar_aload {X : gx_T} {M : mt_T} {d pc : Nat} {L : List (Nat × Option av_T)} {st : List av_T} {G : mm_T} {k n : Nat} {Q : Option av_T → mm_T → Prop} {i : Nat} {r : Option Nat} (hd : decode M.2.1 pc = .ok (.aload i, 2)) (hk : ll_k L i = some (av_r r)) (kk : aw_W X M d (pc + 2) L (av_r r :: st) G k n Q) : aw_W X M d pc L st G k n Q := by
  intro g p e R s m args below meth c H locs cells slots am am0 ls mc ms QQ hC hR hx hL hs hl h1 h2 h3 h4 hQ
  have hok := (hL.2.2 _ _ hk).2
  have hat := hL.at hk
  have h9 := kk g p e R s m args below meth c H locs cells slots am am0 ls mc ms QQ hC hR hx hL (ok_c hok hs) hl h1 h2 h3 h4 hQ
  cases r with
  | none => exact lv_aloadN hC.1 hC.2.1 hd hat h9
  | some a =>
    obtain ⟨q, hq, e⟩ := av_ref hok
    rw [e] at hat
    rw [List.map_cons, e] at h9
    exact lv_aload hC.1 hC.2.1 hd hat h9
theorem ar_aload_n {X : gx_T} {M : mt_T} {d pc : Nat} {L : List (Nat × Option av_T)} {st : List av_T} {G : mm_T} {k n : Nat} {Q : Option av_T → mm_T → Prop} {i : Fin 4} {r : Option Nat} (hd : decode M.2.1 pc = .ok (.aload_n i, 1)) (hk : ll_k L (i : Nat) = some (av_r r)) (kk : aw_W X M d (pc + 1) L (av_r r :: st) G k n Q) : aw_W X M d pc L st G k n Q := by
  intro g p e R s m args below meth c H locs cells slots am am0 ls mc ms QQ hC hR hx hL hs hl h1 h2 h3 h4 hQ
  have hok := (hL.2.2 _ _ hk).2
  have hat := hL.at hk
  have h9 := kk g p e R s m args below meth c H locs cells slots am am0 ls mc ms QQ hC hR hx hL (ok_c hok hs) hl h1 h2 h3 h4 hQ
  cases r with
  | none => exact lv_aload_nN hC.1 hC.2.1 hd rfl hat h9
  | some a =>
    obtain ⟨q, hq, e⟩ := av_ref hok
    rw [e] at hat
    rw [List.map_cons, e] at h9
    exact lv_aload_n hC.1 hC.2.1 hd rfl hat h9
theorem ar_istore {X : gx_T} {M : mt_T} {d pc : Nat} {L : List (Nat × Option av_T)} {st : List av_T} {G : mm_T} {k n : Nat} {Q : Option av_T → mm_T → Prop} {i : Nat} {x : Int} (hd : decode M.2.1 pc = .ok (.istore i, 2)) (h0 : ll_1 L i = true) (hn : i < M.2.2.1) (kk : aw_W X M d (pc + 2) ((i, some (av_i x)) :: L) st G k n Q) : aw_W X M d pc L (av_i x :: st) G k n Q := by
  intro g p e R s m args below meth c H locs cells slots am am0 ls mc ms QQ hC hR hx hL hs hl h1 h2 h3 h4 hQ
  exact lv_istore hC.1 hC.2.1 hd hL.has hn rfl (fun ls2 hl2 => kk g p e R s m args below meth c H locs cells slots am am0 ls2 mc ms QQ hC hR hx (hL.put1 (v := av_i x) trivial h0 hl2) (ok_t hs) hl h1 h2 h3 h4 hQ)
theorem ar_lstore {X : gx_T} {M : mt_T} {d pc : Nat} {L : List (Nat × Option av_T)} {st : List av_T} {G : mm_T} {k n : Nat} {Q : Option av_T → mm_T → Prop} {i : Nat} {x : Int} (hd : decode M.2.1 pc = .ok (.lstore i, 2)) (h0 : ll_1 L i = true) (hn : i + 1 < M.2.2.1) (kk : aw_W X M d (pc + 2) ((i, some (av_l x)) :: (i + 1, none) :: L) st G k n Q) : aw_W X M d pc L (av_l x :: st) G k n Q := by
  intro g p e R s m args below meth c H locs cells slots am am0 ls mc ms QQ hC hR hx hL hs hl h1 h2 h3 h4 hQ
  exact lv_lstore hC.1 hC.2.1 hd hL.has hn rfl (fun ls2 hl2 => kk g p e R s m args below meth c H locs cells slots am am0 ls2 mc ms QQ hC hR hx (hL.put2 (v := av_l x) trivial h0 hl2) (ok_t hs) hl h1 h2 h3 h4 hQ)
theorem ar_astore {X : gx_T} {M : mt_T} {d pc : Nat} {L : List (Nat × Option av_T)} {st : List av_T} {G : mm_T} {k n : Nat} {Q : Option av_T → mm_T → Prop} {i : Nat} {r : Option Nat} (hd : decode M.2.1 pc = .ok (.astore i, 2)) (h0 : ll_1 L i = true) (hn : i < M.2.2.1) (kk : aw_W X M d (pc + 2) ((i, some (av_r r)) :: L) st G k n Q) : aw_W X M d pc L (av_r r :: st) G k n Q := by
  intro g p e R s m args below meth c H locs cells slots am am0 ls mc ms QQ hC hR hx hL hs hl h1 h2 h3 h4 hQ
  have hok := ok_h hs
  have key : ∀ (ls2 : Array Slot), lv_has ls2 M.2.2.1 ((i, av_t am (av_r r)) :: (ll_v am L).filter (fun q => !(q.1 == i) && !(q.1 + 1 == i && q.2.category == 2))) → W p (gp_l g) e R s m args below meth c H locs cells slots QQ (F0 m (pc + 2) ls2 (st.map (av_t am))) := fun ls2 hl2 => kk g p e R s m args below meth c H locs cells slots am am0 ls2 mc ms QQ hC hR hx (hL.put1 (v := av_r r) hok h0 hl2) (ok_t hs) hl h1 h2 h3 h4 hQ
  cases r with
  | none => exact lv_astoreN hC.1 hC.2.1 hd hL.has hn rfl key
  | some a =>
    obtain ⟨q, hq, e⟩ := av_ref hok
    rw [e] at key
    rw [List.map_cons, e]
    exact lv_astore hC.1 hC.2.1 hd hL.has hn rfl key
theorem ar_istore_n {X : gx_T} {M : mt_T} {d pc : Nat} {L : List (Nat × Option av_T)} {st : List av_T} {G : mm_T} {k n : Nat} {Q : Option av_T → mm_T → Prop} {i : Fin 4} {x : Int} (hd : decode M.2.1 pc = .ok (.istore_n i, 1)) (h0 : ll_1 L (i : Nat) = true) (hn : (i : Nat) < M.2.2.1) (kk : aw_W X M d (pc + 1) (((i : Nat), some (av_i x)) :: L) st G k n Q) : aw_W X M d pc L (av_i x :: st) G k n Q := by
  intro g p e R s m args below meth c H locs cells slots am am0 ls mc ms QQ hC hR hx hL hs hl h1 h2 h3 h4 hQ
  exact lv_istore_n hC.1 hC.2.1 hd rfl hL.has hn rfl (fun ls2 hl2 => kk g p e R s m args below meth c H locs cells slots am am0 ls2 mc ms QQ hC hR hx (hL.put1 (v := av_i x) trivial h0 hl2) (ok_t hs) hl h1 h2 h3 h4 hQ)
theorem ar_lstore_n {X : gx_T} {M : mt_T} {d pc : Nat} {L : List (Nat × Option av_T)} {st : List av_T} {G : mm_T} {k n : Nat} {Q : Option av_T → mm_T → Prop} {i : Fin 4} {x : Int} (hd : decode M.2.1 pc = .ok (.lstore_n i, 1)) (h0 : ll_1 L (i : Nat) = true) (hn : (i : Nat) + 1 < M.2.2.1) (kk : aw_W X M d (pc + 1) (((i : Nat), some (av_l x)) :: ((i : Nat) + 1, none) :: L) st G k n Q) : aw_W X M d pc L (av_l x :: st) G k n Q := by
  intro g p e R s m args below meth c H locs cells slots am am0 ls mc ms QQ hC hR hx hL hs hl h1 h2 h3 h4 hQ
  exact lv_lstore_n hC.1 hC.2.1 hd rfl hL.has hn rfl (fun ls2 hl2 => kk g p e R s m args below meth c H locs cells slots am am0 ls2 mc ms QQ hC hR hx (hL.put2 (v := av_l x) trivial h0 hl2) (ok_t hs) hl h1 h2 h3 h4 hQ)
theorem ar_astore_n {X : gx_T} {M : mt_T} {d pc : Nat} {L : List (Nat × Option av_T)} {st : List av_T} {G : mm_T} {k n : Nat} {Q : Option av_T → mm_T → Prop} {i : Fin 4} {r : Option Nat} (hd : decode M.2.1 pc = .ok (.astore_n i, 1)) (h0 : ll_1 L (i : Nat) = true) (hn : (i : Nat) < M.2.2.1) (kk : aw_W X M d (pc + 1) (((i : Nat), some (av_r r)) :: L) st G k n Q) : aw_W X M d pc L (av_r r :: st) G k n Q := by
  intro g p e R s m args below meth c H locs cells slots am am0 ls mc ms QQ hC hR hx hL hs hl h1 h2 h3 h4 hQ
  have hok := ok_h hs
  have key : ∀ (ls2 : Array Slot), lv_has ls2 M.2.2.1 (((i : Nat), av_t am (av_r r)) :: (ll_v am L).filter (fun q => !(q.1 == (i : Nat)) && !(q.1 + 1 == (i : Nat) && q.2.category == 2))) → W p (gp_l g) e R s m args below meth c H locs cells slots QQ (F0 m (pc + 1) ls2 (st.map (av_t am))) := fun ls2 hl2 => kk g p e R s m args below meth c H locs cells slots am am0 ls2 mc ms QQ hC hR hx (hL.put1 (v := av_r r) hok h0 hl2) (ok_t hs) hl h1 h2 h3 h4 hQ
  cases r with
  | none => exact lv_astore_nN hC.1 hC.2.1 hd rfl hL.has hn rfl key
  | some a =>
    obtain ⟨q, hq, e⟩ := av_ref hok
    rw [e] at key
    rw [List.map_cons, e]
    exact lv_astore_n hC.1 hC.2.1 hd rfl hL.has hn rfl key
theorem ar_iinc {X : gx_T} {M : mt_T} {d pc : Nat} {L : List (Nat × Option av_T)} {st : List av_T} {G : mm_T} {k n : Nat} {Q : Option av_T → mm_T → Prop} {i : Nat} {x z : Int} (hd : decode M.2.1 pc = .ok (.iinc i z, 3)) (hk : ll_k L i = some (av_i x)) (h0 : ll_1 L i = true) (hn : i < M.2.2.1) (kk : aw_W X M d (pc + 3) ((i, some (av_i (x + z))) :: L) st G k n Q) : aw_W X M d pc L st G k n Q := by
  intro g p e R s m args below meth c H locs cells slots am am0 ls mc ms QQ hC hR hx hL hs hl h1 h2 h3 h4 hQ
  have hm : (i, Value.int (Int32.ofInt x)) ∈ ll_v am L := ll_vis hk
  obtain ⟨j, hj⟩ := List.getElem?_of_mem hm
  exact lv_iinc hC.1 hC.2.1 hd hL.has hj (Int32.ofInt_add x z).symm hn rfl (fun ls2 hl2 => kk g p e R s m args below meth c H locs cells slots am am0 ls2 mc ms QQ hC hR hx (hL.put1 (v := av_i (x + z)) trivial h0 hl2) (hs) hl h1 h2 h3 h4 hQ)
theorem ar_iadd {X : gx_T} {M : mt_T} {d pc : Nat} {L : List (Nat × Option av_T)} {st : List av_T} {G : mm_T} {k n : Nat} {Q : Option av_T → mm_T → Prop} {x y : Int} (hd : decode M.2.1 pc = .ok (.iadd, 1)) (kk : aw_W X M d (pc + 1) L (av_i (x + y) :: st) G k n Q) : aw_W X M d pc L (av_i y :: av_i x :: st) G k n Q := by
  intro g p e R s m args below meth c H locs cells slots am am0 ls mc ms QQ hC hR hx hL hs hl h1 h2 h3 h4 hQ
  have h9 := kk g p e R s m args below meth c H locs cells slots am am0 ls mc ms QQ hC hR hx hL (ok_i (ok_t (ok_t hs))) hl h1 h2 h3 h4 hQ
  rw [List.map_cons, av_t_i, Int32.ofInt_add] at h9
  exact lv_iadd hC.1 hC.2.1 hd h9
theorem ar_isub {X : gx_T} {M : mt_T} {d pc : Nat} {L : List (Nat × Option av_T)} {st : List av_T} {G : mm_T} {k n : Nat} {Q : Option av_T → mm_T → Prop} {x y : Int} (hd : decode M.2.1 pc = .ok (.isub, 1)) (kk : aw_W X M d (pc + 1) L (av_i (x - y) :: st) G k n Q) : aw_W X M d pc L (av_i y :: av_i x :: st) G k n Q := by
  intro g p e R s m args below meth c H locs cells slots am am0 ls mc ms QQ hC hR hx hL hs hl h1 h2 h3 h4 hQ
  have h9 := kk g p e R s m args below meth c H locs cells slots am am0 ls mc ms QQ hC hR hx hL (ok_i (ok_t (ok_t hs))) hl h1 h2 h3 h4 hQ
  rw [List.map_cons, av_t_i, Int32.ofInt_sub] at h9
  exact lv_isub hC.1 hC.2.1 hd h9
theorem ar_imul {X : gx_T} {M : mt_T} {d pc : Nat} {L : List (Nat × Option av_T)} {st : List av_T} {G : mm_T} {k n : Nat} {Q : Option av_T → mm_T → Prop} {x y : Int} (hd : decode M.2.1 pc = .ok (.imul, 1)) (kk : aw_W X M d (pc + 1) L (av_i (x * y) :: st) G k n Q) : aw_W X M d pc L (av_i y :: av_i x :: st) G k n Q := by
  intro g p e R s m args below meth c H locs cells slots am am0 ls mc ms QQ hC hR hx hL hs hl h1 h2 h3 h4 hQ
  have h9 := kk g p e R s m args below meth c H locs cells slots am am0 ls mc ms QQ hC hR hx hL (ok_i (ok_t (ok_t hs))) hl h1 h2 h3 h4 hQ
  rw [List.map_cons, av_t_i, Int32.ofInt_mul] at h9
  exact lv_imul hC.1 hC.2.1 hd h9
theorem ar_ladd {X : gx_T} {M : mt_T} {d pc : Nat} {L : List (Nat × Option av_T)} {st : List av_T} {G : mm_T} {k n : Nat} {Q : Option av_T → mm_T → Prop} {x y : Int} (hd : decode M.2.1 pc = .ok (.ladd, 1)) (kk : aw_W X M d (pc + 1) L (av_l (x + y) :: st) G k n Q) : aw_W X M d pc L (av_l y :: av_l x :: st) G k n Q := by
  intro g p e R s m args below meth c H locs cells slots am am0 ls mc ms QQ hC hR hx hL hs hl h1 h2 h3 h4 hQ
  have h9 := kk g p e R s m args below meth c H locs cells slots am am0 ls mc ms QQ hC hR hx hL (ok_l (ok_t (ok_t hs))) hl h1 h2 h3 h4 hQ
  rw [List.map_cons, av_t_l, Int64.ofInt_add] at h9
  exact lv_ladd hC.1 hC.2.1 hd h9
theorem ar_lsub {X : gx_T} {M : mt_T} {d pc : Nat} {L : List (Nat × Option av_T)} {st : List av_T} {G : mm_T} {k n : Nat} {Q : Option av_T → mm_T → Prop} {x y : Int} (hd : decode M.2.1 pc = .ok (.lsub, 1)) (kk : aw_W X M d (pc + 1) L (av_l (x - y) :: st) G k n Q) : aw_W X M d pc L (av_l y :: av_l x :: st) G k n Q := by
  intro g p e R s m args below meth c H locs cells slots am am0 ls mc ms QQ hC hR hx hL hs hl h1 h2 h3 h4 hQ
  have h9 := kk g p e R s m args below meth c H locs cells slots am am0 ls mc ms QQ hC hR hx hL (ok_l (ok_t (ok_t hs))) hl h1 h2 h3 h4 hQ
  rw [List.map_cons, av_t_l, Int64.ofInt_sub] at h9
  exact lv_lsub hC.1 hC.2.1 hd h9
theorem ar_lmul {X : gx_T} {M : mt_T} {d pc : Nat} {L : List (Nat × Option av_T)} {st : List av_T} {G : mm_T} {k n : Nat} {Q : Option av_T → mm_T → Prop} {x y : Int} (hd : decode M.2.1 pc = .ok (.lmul, 1)) (kk : aw_W X M d (pc + 1) L (av_l (x * y) :: st) G k n Q) : aw_W X M d pc L (av_l y :: av_l x :: st) G k n Q := by
  intro g p e R s m args below meth c H locs cells slots am am0 ls mc ms QQ hC hR hx hL hs hl h1 h2 h3 h4 hQ
  have h9 := kk g p e R s m args below meth c H locs cells slots am am0 ls mc ms QQ hC hR hx hL (ok_l (ok_t (ok_t hs))) hl h1 h2 h3 h4 hQ
  rw [List.map_cons, av_t_l, Int64.ofInt_mul] at h9
  exact lv_lmul hC.1 hC.2.1 hd h9
theorem ar_ineg {X : gx_T} {M : mt_T} {d pc : Nat} {L : List (Nat × Option av_T)} {st : List av_T} {G : mm_T} {k n : Nat} {Q : Option av_T → mm_T → Prop} {x : Int} (hd : decode M.2.1 pc = .ok (.ineg, 1)) (kk : aw_W X M d (pc + 1) L (av_i (-x) :: st) G k n Q) : aw_W X M d pc L (av_i x :: st) G k n Q := by
  intro g p e R s m args below meth c H locs cells slots am am0 ls mc ms QQ hC hR hx hL hs hl h1 h2 h3 h4 hQ
  have h9 := kk g p e R s m args below meth c H locs cells slots am am0 ls mc ms QQ hC hR hx hL (ok_i (ok_t hs)) hl h1 h2 h3 h4 hQ
  rw [List.map_cons, av_t_i, Int32.ofInt_neg] at h9
  exact lv_ineg hC.1 hC.2.1 hd h9
theorem ar_idiv {X : gx_T} {M : mt_T} {d pc : Nat} {L : List (Nat × Option av_T)} {st : List av_T} {G : mm_T} {k n : Nat} {Q : Option av_T → mm_T → Prop} {x y : Int} (hd : decode M.2.1 pc = .ok (.idiv, 1)) (hy0 : y ≠ 0) (hxr : i3_in x) (hyr : i3_in y) (kk : aw_W X M d (pc + 1) L (av_i (x.tdiv y) :: st) G k n Q) : aw_W X M d pc L (av_i y :: av_i x :: st) G k n Q := by
  intro g p e R s m args below meth c H locs cells slots am am0 ls mc ms QQ hC hR hx hL hs hl h1 h2 h3 h4 hQ
  have h9 := kk g p e R s m args below meth c H locs cells slots am am0 ls mc ms QQ hC hR hx hL (ok_i (ok_t (ok_t hs))) hl h1 h2 h3 h4 hQ
  rw [List.map_cons, av_t_i, Int32.ofInt_tdiv hxr.1 hxr.2 hyr.1 hyr.2] at h9
  exact lv_idiv hC.1 hC.2.1 hd (fun z => hy0 ((i3_eq hyr i3_0).mp z)) h9
theorem ar_idivp {X : gx_T} {M : mt_T} {d pc : Nat} {L : List (Nat × Option av_T)} {st : List av_T} {G : mm_T} {k n : Nat} {Q : Option av_T → mm_T → Prop} {x y : Int} (hd : decode M.2.1 pc = .ok (.idiv, 1)) (hx0 : 0 ≤ x) (hx9 : x ≤ 2147483647) (hy0 : 0 < y) (hy9 : y ≤ 2147483647) (kk : aw_W X M d (pc + 1) L (av_i (x / y) :: st) G k n Q) : aw_W X M d pc L (av_i y :: av_i x :: st) G k n Q := by
  intro g p e R s m args below meth c H locs cells slots am am0 ls mc ms QQ hC hR hx hL hs hl h1 h2 h3 h4 hQ
  exact ar_idiv hd (by omega) ⟨by omega, hx9⟩ ⟨by omega, hy9⟩ (by rw [Int.tdiv_eq_ediv_of_nonneg hx0]; exact kk) g p e R s m args below meth c H locs cells slots am am0 ls mc ms QQ hC hR hx hL hs hl h1 h2 h3 h4 hQ
theorem ar_irem {X : gx_T} {M : mt_T} {d pc : Nat} {L : List (Nat × Option av_T)} {st : List av_T} {G : mm_T} {k n : Nat} {Q : Option av_T → mm_T → Prop} {x y : Int} (hd : decode M.2.1 pc = .ok (.irem, 1)) (hx0 : 0 ≤ x) (hx9 : x ≤ 2147483647) (hy0 : 0 < y) (hy9 : y ≤ 2147483647) (kk : aw_W X M d (pc + 1) L (av_i (x % y) :: st) G k n Q) : aw_W X M d pc L (av_i y :: av_i x :: st) G k n Q := by
  intro g p e R s m args below meth c H locs cells slots am am0 ls mc ms QQ hC hR hx hL hs hl h1 h2 h3 h4 hQ
  have h9 := kk g p e R s m args below meth c H locs cells slots am am0 ls mc ms QQ hC hR hx hL (ok_i (ok_t (ok_t hs))) hl h1 h2 h3 h4 hQ
  have hyr : i3_in y := ⟨by omega, hy9⟩
  have e1 : x % y = x - x.tdiv y * y := by rw [Int.tdiv_eq_ediv_of_nonneg hx0, Int.emod_def, Int.mul_comm]
  rw [List.map_cons, av_t_i, e1, Int32.ofInt_sub, Int32.ofInt_mul, Int32.ofInt_tdiv (show (-2147483648 : Int) ≤ x by omega) hx9 hyr.1 hyr.2] at h9
  exact lv_irem hC.1 hC.2.1 hd (fun z => by have := (i3_eq hyr i3_0).mp z; omega) h9
theorem ar_ldivp {X : gx_T} {M : mt_T} {d pc : Nat} {L : List (Nat × Option av_T)} {st : List av_T} {G : mm_T} {k n : Nat} {Q : Option av_T → mm_T → Prop} {x y : Int} (hd : decode M.2.1 pc = .ok (.ldiv, 1)) (hx0 : 0 ≤ x) (hx9 : x ≤ 9223372036854775807) (hy0 : 0 < y) (hy9 : y ≤ 9223372036854775807) (kk : aw_W X M d (pc + 1) L (av_l (x / y) :: st) G k n Q) : aw_W X M d pc L (av_l y :: av_l x :: st) G k n Q := by
  intro g p e R s m args below meth c H locs cells slots am am0 ls mc ms QQ hC hR hx hL hs hl h1 h2 h3 h4 hQ
  have h9 := kk g p e R s m args below meth c H locs cells slots am am0 ls mc ms QQ hC hR hx hL (ok_l (ok_t (ok_t hs))) hl h1 h2 h3 h4 hQ
  have hyr : j6_in y := ⟨by omega, hy9⟩
  rw [List.map_cons, av_t_l, ← Int.tdiv_eq_ediv_of_nonneg hx0, Int64.ofInt_tdiv (show (-9223372036854775808 : Int) ≤ x by omega) hx9 hyr.1 hyr.2] at h9
  exact lv_ldiv hC.1 hC.2.1 hd (fun z => by have := (j6_eq (y := 0) hyr ⟨by omega, by omega⟩).mp (z.trans rfl); omega) h9
theorem ar_i2l {X : gx_T} {M : mt_T} {d pc : Nat} {L : List (Nat × Option av_T)} {st : List av_T} {G : mm_T} {k n : Nat} {Q : Option av_T → mm_T → Prop} {x : Int} (hd : decode M.2.1 pc = .ok (.i2l, 1)) (hxr : i3_in x) (kk : aw_W X M d (pc + 1) L (av_l x :: st) G k n Q) : aw_W X M d pc L (av_i x :: st) G k n Q := by
  intro g p e R s m args below meth c H locs cells slots am am0 ls mc ms QQ hC hR hx hL hs hl h1 h2 h3 h4 hQ
  exact lv_i2l hC.1 hC.2.1 hd (Int32.toInt64_ofInt hxr.1 hxr.2) (kk g p e R s m args below meth c H locs cells slots am am0 ls mc ms QQ hC hR hx hL (ok_l (ok_t hs)) hl h1 h2 h3 h4 hQ)
def b_iand (x y : Int) : Int := (Int32.ofInt x &&& Int32.ofInt y).toInt
theorem ar_iand {X : gx_T} {M : mt_T} {d pc : Nat} {L : List (Nat × Option av_T)} {st : List av_T} {G : mm_T} {k n : Nat} {Q : Option av_T → mm_T → Prop} {x y : Int} (hd : decode M.2.1 pc = .ok (.iand, 1)) (kk : aw_W X M d (pc + 1) L (av_i (b_iand x y) :: st) G k n Q) : aw_W X M d pc L (av_i y :: av_i x :: st) G k n Q := by
  intro g p e R s m args below meth c H locs cells slots am am0 ls mc ms QQ hC hR hx hL hs hl h1 h2 h3 h4 hQ
  have h9 := kk g p e R s m args below meth c H locs cells slots am am0 ls mc ms QQ hC hR hx hL (ok_i (ok_t (ok_t hs))) hl h1 h2 h3 h4 hQ
  rw [List.map_cons, av_t_i, b_iand, Int32.ofInt_toInt] at h9
  exact lv_iand hC.1 hC.2.1 hd h9
def b_ior (x y : Int) : Int := (Int32.ofInt x ||| Int32.ofInt y).toInt
theorem ar_ior {X : gx_T} {M : mt_T} {d pc : Nat} {L : List (Nat × Option av_T)} {st : List av_T} {G : mm_T} {k n : Nat} {Q : Option av_T → mm_T → Prop} {x y : Int} (hd : decode M.2.1 pc = .ok (.ior, 1)) (kk : aw_W X M d (pc + 1) L (av_i (b_ior x y) :: st) G k n Q) : aw_W X M d pc L (av_i y :: av_i x :: st) G k n Q := by
  intro g p e R s m args below meth c H locs cells slots am am0 ls mc ms QQ hC hR hx hL hs hl h1 h2 h3 h4 hQ
  have h9 := kk g p e R s m args below meth c H locs cells slots am am0 ls mc ms QQ hC hR hx hL (ok_i (ok_t (ok_t hs))) hl h1 h2 h3 h4 hQ
  rw [List.map_cons, av_t_i, b_ior, Int32.ofInt_toInt] at h9
  exact lv_ior hC.1 hC.2.1 hd h9
def b_ixor (x y : Int) : Int := (Int32.ofInt x ^^^ Int32.ofInt y).toInt
theorem ar_ixor {X : gx_T} {M : mt_T} {d pc : Nat} {L : List (Nat × Option av_T)} {st : List av_T} {G : mm_T} {k n : Nat} {Q : Option av_T → mm_T → Prop} {x y : Int} (hd : decode M.2.1 pc = .ok (.ixor, 1)) (kk : aw_W X M d (pc + 1) L (av_i (b_ixor x y) :: st) G k n Q) : aw_W X M d pc L (av_i y :: av_i x :: st) G k n Q := by
  intro g p e R s m args below meth c H locs cells slots am am0 ls mc ms QQ hC hR hx hL hs hl h1 h2 h3 h4 hQ
  have h9 := kk g p e R s m args below meth c H locs cells slots am am0 ls mc ms QQ hC hR hx hL (ok_i (ok_t (ok_t hs))) hl h1 h2 h3 h4 hQ
  rw [List.map_cons, av_t_i, b_ixor, Int32.ofInt_toInt] at h9
  exact lv_ixor hC.1 hC.2.1 hd h9
def b_ishl (x y : Int) : Int := (Int32.ofInt x <<< (Int32.ofInt y &&& 31)).toInt
theorem ar_ishl {X : gx_T} {M : mt_T} {d pc : Nat} {L : List (Nat × Option av_T)} {st : List av_T} {G : mm_T} {k n : Nat} {Q : Option av_T → mm_T → Prop} {x y : Int} (hd : decode M.2.1 pc = .ok (.ishl, 1)) (kk : aw_W X M d (pc + 1) L (av_i (b_ishl x y) :: st) G k n Q) : aw_W X M d pc L (av_i y :: av_i x :: st) G k n Q := by
  intro g p e R s m args below meth c H locs cells slots am am0 ls mc ms QQ hC hR hx hL hs hl h1 h2 h3 h4 hQ
  have h9 := kk g p e R s m args below meth c H locs cells slots am am0 ls mc ms QQ hC hR hx hL (ok_i (ok_t (ok_t hs))) hl h1 h2 h3 h4 hQ
  rw [List.map_cons, av_t_i, b_ishl, Int32.ofInt_toInt] at h9
  exact lv_ishl hC.1 hC.2.1 hd h9
def b_ishr (x y : Int) : Int := (Int32.ofInt x >>> (Int32.ofInt y &&& 31)).toInt
theorem ar_ishr {X : gx_T} {M : mt_T} {d pc : Nat} {L : List (Nat × Option av_T)} {st : List av_T} {G : mm_T} {k n : Nat} {Q : Option av_T → mm_T → Prop} {x y : Int} (hd : decode M.2.1 pc = .ok (.ishr, 1)) (kk : aw_W X M d (pc + 1) L (av_i (b_ishr x y) :: st) G k n Q) : aw_W X M d pc L (av_i y :: av_i x :: st) G k n Q := by
  intro g p e R s m args below meth c H locs cells slots am am0 ls mc ms QQ hC hR hx hL hs hl h1 h2 h3 h4 hQ
  have h9 := kk g p e R s m args below meth c H locs cells slots am am0 ls mc ms QQ hC hR hx hL (ok_i (ok_t (ok_t hs))) hl h1 h2 h3 h4 hQ
  rw [List.map_cons, av_t_i, b_ishr, Int32.ofInt_toInt] at h9
  exact lv_ishr hC.1 hC.2.1 hd h9
def b_land (x y : Int) : Int := (Int64.ofInt x &&& Int64.ofInt y).toInt
theorem ar_land {X : gx_T} {M : mt_T} {d pc : Nat} {L : List (Nat × Option av_T)} {st : List av_T} {G : mm_T} {k n : Nat} {Q : Option av_T → mm_T → Prop} {x y : Int} (hd : decode M.2.1 pc = .ok (.land, 1)) (kk : aw_W X M d (pc + 1) L (av_l (b_land x y) :: st) G k n Q) : aw_W X M d pc L (av_l y :: av_l x :: st) G k n Q := by
  intro g p e R s m args below meth c H locs cells slots am am0 ls mc ms QQ hC hR hx hL hs hl h1 h2 h3 h4 hQ
  have h9 := kk g p e R s m args below meth c H locs cells slots am am0 ls mc ms QQ hC hR hx hL (ok_l (ok_t (ok_t hs))) hl h1 h2 h3 h4 hQ
  rw [List.map_cons, av_t_l, b_land, Int64.ofInt_toInt] at h9
  exact lv_land hC.1 hC.2.1 hd h9
def b_lor (x y : Int) : Int := (Int64.ofInt x ||| Int64.ofInt y).toInt
theorem ar_lor {X : gx_T} {M : mt_T} {d pc : Nat} {L : List (Nat × Option av_T)} {st : List av_T} {G : mm_T} {k n : Nat} {Q : Option av_T → mm_T → Prop} {x y : Int} (hd : decode M.2.1 pc = .ok (.lor, 1)) (kk : aw_W X M d (pc + 1) L (av_l (b_lor x y) :: st) G k n Q) : aw_W X M d pc L (av_l y :: av_l x :: st) G k n Q := by
  intro g p e R s m args below meth c H locs cells slots am am0 ls mc ms QQ hC hR hx hL hs hl h1 h2 h3 h4 hQ
  have h9 := kk g p e R s m args below meth c H locs cells slots am am0 ls mc ms QQ hC hR hx hL (ok_l (ok_t (ok_t hs))) hl h1 h2 h3 h4 hQ
  rw [List.map_cons, av_t_l, b_lor, Int64.ofInt_toInt] at h9
  exact lv_lor hC.1 hC.2.1 hd h9
def b_iushr (x y : Int) : Int := ((Int32.ofInt x).toUInt32 >>> ((Int32.ofInt y).toUInt32 &&& Int32.toUInt32 31)).toInt32.toInt
theorem ar_iushr {X : gx_T} {M : mt_T} {d pc : Nat} {L : List (Nat × Option av_T)} {st : List av_T} {G : mm_T} {k n : Nat} {Q : Option av_T → mm_T → Prop} {x y : Int} (hd : decode M.2.1 pc = .ok (.iushr, 1)) (kk : aw_W X M d (pc + 1) L (av_i (b_iushr x y) :: st) G k n Q) : aw_W X M d pc L (av_i y :: av_i x :: st) G k n Q := by
  intro g p e R s m args below meth c H locs cells slots am am0 ls mc ms QQ hC hR hx hL hs hl h1 h2 h3 h4 hQ
  exact lv_iushr hC.1 hC.2.1 hd (by rw [b_iushr, Int32.ofInt_toInt]) (kk g p e R s m args below meth c H locs cells slots am am0 ls mc ms QQ hC hR hx hL (ok_i (ok_t (ok_t hs))) hl h1 h2 h3 h4 hQ)
def b_lushr (x y : Int) : Int := ((Int64.ofInt x).toUInt64 >>> ((Int32.ofInt y).toInt64.toUInt64 &&& Int64.toUInt64 63)).toInt64.toInt
theorem ar_lushr {X : gx_T} {M : mt_T} {d pc : Nat} {L : List (Nat × Option av_T)} {st : List av_T} {G : mm_T} {k n : Nat} {Q : Option av_T → mm_T → Prop} {x y : Int} (hd : decode M.2.1 pc = .ok (.lushr, 1)) (kk : aw_W X M d (pc + 1) L (av_l (b_lushr x y) :: st) G k n Q) : aw_W X M d pc L (av_i y :: av_l x :: st) G k n Q := by
  intro g p e R s m args below meth c H locs cells slots am am0 ls mc ms QQ hC hR hx hL hs hl h1 h2 h3 h4 hQ
  exact lv_lushr hC.1 hC.2.1 hd (by rw [b_lushr, Int64.ofInt_toInt]) (kk g p e R s m args below meth c H locs cells slots am am0 ls mc ms QQ hC hR hx hL (ok_l (ok_t (ok_t hs))) hl h1 h2 h3 h4 hQ)
def b_lshl (x y : Int) : Int := (Int64.ofInt x <<< ((Int32.ofInt y).toInt64 &&& 63)).toInt
theorem ar_lshl {X : gx_T} {M : mt_T} {d pc : Nat} {L : List (Nat × Option av_T)} {st : List av_T} {G : mm_T} {k n : Nat} {Q : Option av_T → mm_T → Prop} {x y : Int} (hd : decode M.2.1 pc = .ok (.lshl, 1)) (kk : aw_W X M d (pc + 1) L (av_l (b_lshl x y) :: st) G k n Q) : aw_W X M d pc L (av_i y :: av_l x :: st) G k n Q := by
  intro g p e R s m args below meth c H locs cells slots am am0 ls mc ms QQ hC hR hx hL hs hl h1 h2 h3 h4 hQ
  exact lv_lshl hC.1 hC.2.1 hd (by rw [b_lshl, Int64.ofInt_toInt]) (kk g p e R s m args below meth c H locs cells slots am am0 ls mc ms QQ hC hR hx hL (ok_l (ok_t (ok_t hs))) hl h1 h2 h3 h4 hQ)
theorem ar_lcmp {X : gx_T} {M : mt_T} {d pc : Nat} {L : List (Nat × Option av_T)} {st : List av_T} {G : mm_T} {k n : Nat} {Q : Option av_T → mm_T → Prop} {x y : Int} (hd : decode M.2.1 pc = .ok (.lcmp, 1)) (hxr : j6_in x) (hyr : j6_in y) (kk : aw_W X M d (pc + 1) L (av_i (if y < x then 1 else if x = y then 0 else -1) :: st) G k n Q) : aw_W X M d pc L (av_l y :: av_l x :: st) G k n Q := by
  intro g p e R s m args below meth c H locs cells slots am am0 ls mc ms QQ hC hR hx hL hs hl h1 h2 h3 h4 hQ
  have h9 := kk g p e R s m args below meth c H locs cells slots am am0 ls mc ms QQ hC hR hx hL (ok_i (ok_t (ok_t hs))) hl h1 h2 h3 h4 hQ
  have e1 : Int32.ofInt (if y < x then 1 else if x = y then 0 else -1) = lg_cmp (Int64.ofInt x) (Int64.ofInt y) := by
    unfold lg_cmp
    by_cases hc : y < x
    · rw [if_pos hc, if_pos ((j6_lt hyr hxr).mpr hc)]; rfl
    · rw [if_neg hc, if_neg (fun z => hc ((j6_lt hyr hxr).mp z))]
      by_cases he : x = y
      · rw [if_pos he, if_pos ((j6_eq hxr hyr).mpr he)]; rfl
      · rw [if_neg he, if_neg (fun z => he ((j6_eq hxr hyr).mp z))]; rfl
  rw [List.map_cons, av_t_i, e1] at h9
  exact W.lcmp hC.1 hC.2.1 hd h9
theorem ar_dup {X : gx_T} {M : mt_T} {d pc : Nat} {L : List (Nat × Option av_T)} {st : List av_T} {G : mm_T} {k n : Nat} {Q : Option av_T → mm_T → Prop} {v : av_T} (hd : decode M.2.1 pc = .ok (.dup, 1)) (hv : av_c v = 1) (kk : aw_W X M d (pc + 1) L (v :: v :: st) G k n Q) : aw_W X M d pc L (v :: st) G k n Q := by
  intro g p e R s m args below meth c H locs cells slots am am0 ls mc ms QQ hC hR hx hL hs hl h1 h2 h3 h4 hQ
  exact lv_dup hC.1 hC.2.1 hd (by rw [av_cat]; exact hv) (kk g p e R s m args below meth c H locs cells slots am am0 ls mc ms QQ hC hR hx hL (ok_c (ok_h hs) hs) hl h1 h2 h3 h4 hQ)
theorem ar_pop {X : gx_T} {M : mt_T} {d pc : Nat} {L : List (Nat × Option av_T)} {st : List av_T} {G : mm_T} {k n : Nat} {Q : Option av_T → mm_T → Prop} {v : av_T} (hd : decode M.2.1 pc = .ok (.pop, 1)) (hv : av_c v = 1) (kk : aw_W X M d (pc + 1) L st G k n Q) : aw_W X M d pc L (v :: st) G k n Q := by
  intro g p e R s m args below meth c H locs cells slots am am0 ls mc ms QQ hC hR hx hL hs hl h1 h2 h3 h4 hQ
  exact lv_pop hC.1 hC.2.1 hd (by rw [av_cat]; exact hv) (kk g p e R s m args below meth c H locs cells slots am am0 ls mc ms QQ hC hR hx hL (ok_t hs) hl h1 h2 h3 h4 hQ)
theorem ar_dup2 {X : gx_T} {M : mt_T} {d pc : Nat} {L : List (Nat × Option av_T)} {st : List av_T} {G : mm_T} {k n : Nat} {Q : Option av_T → mm_T → Prop} {v w : av_T} (hd : decode M.2.1 pc = .ok (.dup2, 1)) (hv : av_c v = 1) (hw : av_c w = 1) (kk : aw_W X M d (pc + 1) L (v :: w :: v :: w :: st) G k n Q) : aw_W X M d pc L (v :: w :: st) G k n Q := by
  intro g p e R s m args below meth c H locs cells slots am am0 ls mc ms QQ hC hR hx hL hs hl h1 h2 h3 h4 hQ
  exact lv_dup2_11 hC.1 hC.2.1 hd (by rw [av_cat]; exact hv) (by rw [av_cat]; exact hw) (kk g p e R s m args below meth c H locs cells slots am am0 ls mc ms QQ hC hR hx hL (ok_c (ok_h hs) (ok_c (ok_h (ok_t hs)) hs)) hl h1 h2 h3 h4 hQ)
theorem ar_dup2_2 {X : gx_T} {M : mt_T} {d pc : Nat} {L : List (Nat × Option av_T)} {st : List av_T} {G : mm_T} {k n : Nat} {Q : Option av_T → mm_T → Prop} {v : av_T} (hd : decode M.2.1 pc = .ok (.dup2, 1)) (hv : av_c v = 2) (kk : aw_W X M d (pc + 1) L (v :: v :: st) G k n Q) : aw_W X M d pc L (v :: st) G k n Q := by
  intro g p e R s m args below meth c H locs cells slots am am0 ls mc ms QQ hC hR hx hL hs hl h1 h2 h3 h4 hQ
  exact lv_dup2_2 hC.1 hC.2.1 hd (by rw [av_cat]; exact hv) (kk g p e R s m args below meth c H locs cells slots am am0 ls mc ms QQ hC hR hx hL (ok_c (ok_h hs) hs) hl h1 h2 h3 h4 hQ)
theorem ar_dup_x1 {X : gx_T} {M : mt_T} {d pc : Nat} {L : List (Nat × Option av_T)} {st : List av_T} {G : mm_T} {k n : Nat} {Q : Option av_T → mm_T → Prop} {v w : av_T} (hd : decode M.2.1 pc = .ok (.dup_x1, 1)) (hv : av_c v = 1) (hw : av_c w = 1) (kk : aw_W X M d (pc + 1) L (v :: w :: v :: st) G k n Q) : aw_W X M d pc L (v :: w :: st) G k n Q := by
  intro g p e R s m args below meth c H locs cells slots am am0 ls mc ms QQ hC hR hx hL hs hl h1 h2 h3 h4 hQ
  exact lv_dup_x1 hC.1 hC.2.1 hd (by rw [av_cat]; exact hv) (by rw [av_cat]; exact hw) (kk g p e R s m args below meth c H locs cells slots am am0 ls mc ms QQ hC hR hx hL (ok_c (ok_h hs) (ok_c (ok_h (ok_t hs)) (ok_c (ok_h hs) (ok_t (ok_t hs))))) hl h1 h2 h3 h4 hQ)
theorem ar_goto {X : gx_T} {M : mt_T} {d pc : Nat} {L : List (Nat × Option av_T)} {st : List av_T} {G : mm_T} {k n : Nat} {Q : Option av_T → mm_T → Prop} {off : Int} (tgt : Nat) (hd : decode M.2.1 pc = .ok (.goto off, 3)) (ht : (pc : Int) + off = (tgt : Int)) (kk : aw_W X M d tgt L st G k n Q) : aw_W X M d pc L st G k n Q := by
  intro g p e R s m args below meth c H locs cells slots am am0 ls mc ms QQ hC hR hx hL hs hl h1 h2 h3 h4 hQ
  exact lv_goto hC.1 hC.2.1 hd ht (kk g p e R s m args below meth c H locs cells slots am am0 ls mc ms QQ hC hR hx hL (hs) hl h1 h2 h3 h4 hQ)
theorem ar_icmp_eq {X : gx_T} {M : mt_T} {d pc : Nat} {L : List (Nat × Option av_T)} {st : List av_T} {G : mm_T} {k n : Nat} {Q : Option av_T → mm_T → Prop} {x y : Int} {off : Int} (tgt : Nat) (hd : decode M.2.1 pc = .ok (.if_icmp .eq off, 3)) (ht : (pc : Int) + off = (tgt : Int)) (hxr : i3_in x) (hyr : i3_in y) (kt : x = y → aw_W X M d tgt L st G k n Q) (kf : ¬ x = y → aw_W X M d (pc + 3) L st G k n Q) : aw_W X M d pc L (av_i y :: av_i x :: st) G k n Q := by
  intro g p e R s m args below meth c H locs cells slots am am0 ls mc ms QQ hC hR hx hL hs hl h1 h2 h3 h4 hQ
  exact lv_icmp_eq hC.1 hC.2.1 hd ht (fun h => kt ((i3_eq hxr hyr).mp h) g p e R s m args below meth c H locs cells slots am am0 ls mc ms QQ hC hR hx hL (ok_t (ok_t hs)) hl h1 h2 h3 h4 hQ) (fun h => kf (fun z => h ((i3_eq hxr hyr).mpr z)) g p e R s m args below meth c H locs cells slots am am0 ls mc ms QQ hC hR hx hL (ok_t (ok_t hs)) hl h1 h2 h3 h4 hQ)
theorem ar_if_eq {X : gx_T} {M : mt_T} {d pc : Nat} {L : List (Nat × Option av_T)} {st : List av_T} {G : mm_T} {k n : Nat} {Q : Option av_T → mm_T → Prop} {x : Int} {off : Int} (tgt : Nat) (hd : decode M.2.1 pc = .ok (.ifCond .eq off, 3)) (ht : (pc : Int) + off = (tgt : Int)) (hxr : i3_in x) (kt : x = 0 → aw_W X M d tgt L st G k n Q) (kf : ¬ x = 0 → aw_W X M d (pc + 3) L st G k n Q) : aw_W X M d pc L (av_i x :: st) G k n Q := by
  intro g p e R s m args below meth c H locs cells slots am am0 ls mc ms QQ hC hR hx hL hs hl h1 h2 h3 h4 hQ
  exact lv_if_eq hC.1 hC.2.1 hd ht (fun h => kt ((i3_eq hxr i3_0).mp h) g p e R s m args below meth c H locs cells slots am am0 ls mc ms QQ hC hR hx hL (ok_t hs) hl h1 h2 h3 h4 hQ) (fun h => kf (fun z => h ((i3_eq hxr i3_0).mpr z)) g p e R s m args below meth c H locs cells slots am am0 ls mc ms QQ hC hR hx hL (ok_t hs) hl h1 h2 h3 h4 hQ)
theorem ar_icmp_ne {X : gx_T} {M : mt_T} {d pc : Nat} {L : List (Nat × Option av_T)} {st : List av_T} {G : mm_T} {k n : Nat} {Q : Option av_T → mm_T → Prop} {x y : Int} {off : Int} (tgt : Nat) (hd : decode M.2.1 pc = .ok (.if_icmp .ne off, 3)) (ht : (pc : Int) + off = (tgt : Int)) (hxr : i3_in x) (hyr : i3_in y) (kt : ¬ x = y → aw_W X M d tgt L st G k n Q) (kf : x = y → aw_W X M d (pc + 3) L st G k n Q) : aw_W X M d pc L (av_i y :: av_i x :: st) G k n Q := by
  intro g p e R s m args below meth c H locs cells slots am am0 ls mc ms QQ hC hR hx hL hs hl h1 h2 h3 h4 hQ
  exact lv_icmp_ne hC.1 hC.2.1 hd ht (fun h => kt (fun z => h ((i3_eq hxr hyr).mpr z)) g p e R s m args below meth c H locs cells slots am am0 ls mc ms QQ hC hR hx hL (ok_t (ok_t hs)) hl h1 h2 h3 h4 hQ) (fun h => kf ((i3_eq hxr hyr).mp h) g p e R s m args below meth c H locs cells slots am am0 ls mc ms QQ hC hR hx hL (ok_t (ok_t hs)) hl h1 h2 h3 h4 hQ)
theorem ar_if_ne {X : gx_T} {M : mt_T} {d pc : Nat} {L : List (Nat × Option av_T)} {st : List av_T} {G : mm_T} {k n : Nat} {Q : Option av_T → mm_T → Prop} {x : Int} {off : Int} (tgt : Nat) (hd : decode M.2.1 pc = .ok (.ifCond .ne off, 3)) (ht : (pc : Int) + off = (tgt : Int)) (hxr : i3_in x) (kt : ¬ x = 0 → aw_W X M d tgt L st G k n Q) (kf : x = 0 → aw_W X M d (pc + 3) L st G k n Q) : aw_W X M d pc L (av_i x :: st) G k n Q := by
  intro g p e R s m args below meth c H locs cells slots am am0 ls mc ms QQ hC hR hx hL hs hl h1 h2 h3 h4 hQ
  exact lv_if_ne hC.1 hC.2.1 hd ht (fun h => kt (fun z => h ((i3_eq hxr i3_0).mpr z)) g p e R s m args below meth c H locs cells slots am am0 ls mc ms QQ hC hR hx hL (ok_t hs) hl h1 h2 h3 h4 hQ) (fun h => kf ((i3_eq hxr i3_0).mp h) g p e R s m args below meth c H locs cells slots am am0 ls mc ms QQ hC hR hx hL (ok_t hs) hl h1 h2 h3 h4 hQ)
theorem ar_icmp_lt {X : gx_T} {M : mt_T} {d pc : Nat} {L : List (Nat × Option av_T)} {st : List av_T} {G : mm_T} {k n : Nat} {Q : Option av_T → mm_T → Prop} {x y : Int} {off : Int} (tgt : Nat) (hd : decode M.2.1 pc = .ok (.if_icmp .lt off, 3)) (ht : (pc : Int) + off = (tgt : Int)) (hxr : i3_in x) (hyr : i3_in y) (kt : x < y → aw_W X M d tgt L st G k n Q) (kf : y ≤ x → aw_W X M d (pc + 3) L st G k n Q) : aw_W X M d pc L (av_i y :: av_i x :: st) G k n Q := by
  intro g p e R s m args below meth c H locs cells slots am am0 ls mc ms QQ hC hR hx hL hs hl h1 h2 h3 h4 hQ
  exact lv_icmp_lt hC.1 hC.2.1 hd ht (fun h => kt ((i3_lt hxr hyr).mp h) g p e R s m args below meth c H locs cells slots am am0 ls mc ms QQ hC hR hx hL (ok_t (ok_t hs)) hl h1 h2 h3 h4 hQ) (fun h => kf (by have := mt (i3_lt hxr hyr).mpr h; omega) g p e R s m args below meth c H locs cells slots am am0 ls mc ms QQ hC hR hx hL (ok_t (ok_t hs)) hl h1 h2 h3 h4 hQ)
theorem ar_if_lt {X : gx_T} {M : mt_T} {d pc : Nat} {L : List (Nat × Option av_T)} {st : List av_T} {G : mm_T} {k n : Nat} {Q : Option av_T → mm_T → Prop} {x : Int} {off : Int} (tgt : Nat) (hd : decode M.2.1 pc = .ok (.ifCond .lt off, 3)) (ht : (pc : Int) + off = (tgt : Int)) (hxr : i3_in x) (kt : x < 0 → aw_W X M d tgt L st G k n Q) (kf : 0 ≤ x → aw_W X M d (pc + 3) L st G k n Q) : aw_W X M d pc L (av_i x :: st) G k n Q := by
  intro g p e R s m args below meth c H locs cells slots am am0 ls mc ms QQ hC hR hx hL hs hl h1 h2 h3 h4 hQ
  exact lv_if_lt hC.1 hC.2.1 hd ht (fun h => kt ((i3_lt hxr i3_0).mp h) g p e R s m args below meth c H locs cells slots am am0 ls mc ms QQ hC hR hx hL (ok_t hs) hl h1 h2 h3 h4 hQ) (fun h => kf (by have := mt (i3_lt hxr i3_0).mpr h; omega) g p e R s m args below meth c H locs cells slots am am0 ls mc ms QQ hC hR hx hL (ok_t hs) hl h1 h2 h3 h4 hQ)
theorem ar_icmp_ge {X : gx_T} {M : mt_T} {d pc : Nat} {L : List (Nat × Option av_T)} {st : List av_T} {G : mm_T} {k n : Nat} {Q : Option av_T → mm_T → Prop} {x y : Int} {off : Int} (tgt : Nat) (hd : decode M.2.1 pc = .ok (.if_icmp .ge off, 3)) (ht : (pc : Int) + off = (tgt : Int)) (hxr : i3_in x) (hyr : i3_in y) (kt : y ≤ x → aw_W X M d tgt L st G k n Q) (kf : x < y → aw_W X M d (pc + 3) L st G k n Q) : aw_W X M d pc L (av_i y :: av_i x :: st) G k n Q := by
  intro g p e R s m args below meth c H locs cells slots am am0 ls mc ms QQ hC hR hx hL hs hl h1 h2 h3 h4 hQ
  exact lv_icmp_ge hC.1 hC.2.1 hd ht (fun h => kt ((i3_le hyr hxr).mp h) g p e R s m args below meth c H locs cells slots am am0 ls mc ms QQ hC hR hx hL (ok_t (ok_t hs)) hl h1 h2 h3 h4 hQ) (fun h => kf (by have := mt (i3_le hyr hxr).mpr h; omega) g p e R s m args below meth c H locs cells slots am am0 ls mc ms QQ hC hR hx hL (ok_t (ok_t hs)) hl h1 h2 h3 h4 hQ)
theorem ar_if_ge {X : gx_T} {M : mt_T} {d pc : Nat} {L : List (Nat × Option av_T)} {st : List av_T} {G : mm_T} {k n : Nat} {Q : Option av_T → mm_T → Prop} {x : Int} {off : Int} (tgt : Nat) (hd : decode M.2.1 pc = .ok (.ifCond .ge off, 3)) (ht : (pc : Int) + off = (tgt : Int)) (hxr : i3_in x) (kt : 0 ≤ x → aw_W X M d tgt L st G k n Q) (kf : x < 0 → aw_W X M d (pc + 3) L st G k n Q) : aw_W X M d pc L (av_i x :: st) G k n Q := by
  intro g p e R s m args below meth c H locs cells slots am am0 ls mc ms QQ hC hR hx hL hs hl h1 h2 h3 h4 hQ
  exact lv_if_ge hC.1 hC.2.1 hd ht (fun h => kt ((i3_le i3_0 hxr).mp h) g p e R s m args below meth c H locs cells slots am am0 ls mc ms QQ hC hR hx hL (ok_t hs) hl h1 h2 h3 h4 hQ) (fun h => kf (by have := mt (i3_le i3_0 hxr).mpr h; omega) g p e R s m args below meth c H locs cells slots am am0 ls mc ms QQ hC hR hx hL (ok_t hs) hl h1 h2 h3 h4 hQ)
theorem ar_icmp_gt {X : gx_T} {M : mt_T} {d pc : Nat} {L : List (Nat × Option av_T)} {st : List av_T} {G : mm_T} {k n : Nat} {Q : Option av_T → mm_T → Prop} {x y : Int} {off : Int} (tgt : Nat) (hd : decode M.2.1 pc = .ok (.if_icmp .gt off, 3)) (ht : (pc : Int) + off = (tgt : Int)) (hxr : i3_in x) (hyr : i3_in y) (kt : y < x → aw_W X M d tgt L st G k n Q) (kf : x ≤ y → aw_W X M d (pc + 3) L st G k n Q) : aw_W X M d pc L (av_i y :: av_i x :: st) G k n Q := by
  intro g p e R s m args below meth c H locs cells slots am am0 ls mc ms QQ hC hR hx hL hs hl h1 h2 h3 h4 hQ
  exact lv_icmp_gt hC.1 hC.2.1 hd ht (fun h => kt ((i3_lt hyr hxr).mp h) g p e R s m args below meth c H locs cells slots am am0 ls mc ms QQ hC hR hx hL (ok_t (ok_t hs)) hl h1 h2 h3 h4 hQ) (fun h => kf (by have := mt (i3_lt hyr hxr).mpr h; omega) g p e R s m args below meth c H locs cells slots am am0 ls mc ms QQ hC hR hx hL (ok_t (ok_t hs)) hl h1 h2 h3 h4 hQ)
theorem ar_if_gt {X : gx_T} {M : mt_T} {d pc : Nat} {L : List (Nat × Option av_T)} {st : List av_T} {G : mm_T} {k n : Nat} {Q : Option av_T → mm_T → Prop} {x : Int} {off : Int} (tgt : Nat) (hd : decode M.2.1 pc = .ok (.ifCond .gt off, 3)) (ht : (pc : Int) + off = (tgt : Int)) (hxr : i3_in x) (kt : 0 < x → aw_W X M d tgt L st G k n Q) (kf : x ≤ 0 → aw_W X M d (pc + 3) L st G k n Q) : aw_W X M d pc L (av_i x :: st) G k n Q := by
  intro g p e R s m args below meth c H locs cells slots am am0 ls mc ms QQ hC hR hx hL hs hl h1 h2 h3 h4 hQ
  exact lv_if_gt hC.1 hC.2.1 hd ht (fun h => kt ((i3_lt i3_0 hxr).mp h) g p e R s m args below meth c H locs cells slots am am0 ls mc ms QQ hC hR hx hL (ok_t hs) hl h1 h2 h3 h4 hQ) (fun h => kf (by have := mt (i3_lt i3_0 hxr).mpr h; omega) g p e R s m args below meth c H locs cells slots am am0 ls mc ms QQ hC hR hx hL (ok_t hs) hl h1 h2 h3 h4 hQ)
theorem ar_icmp_le {X : gx_T} {M : mt_T} {d pc : Nat} {L : List (Nat × Option av_T)} {st : List av_T} {G : mm_T} {k n : Nat} {Q : Option av_T → mm_T → Prop} {x y : Int} {off : Int} (tgt : Nat) (hd : decode M.2.1 pc = .ok (.if_icmp .le off, 3)) (ht : (pc : Int) + off = (tgt : Int)) (hxr : i3_in x) (hyr : i3_in y) (kt : x ≤ y → aw_W X M d tgt L st G k n Q) (kf : y < x → aw_W X M d (pc + 3) L st G k n Q) : aw_W X M d pc L (av_i y :: av_i x :: st) G k n Q := by
  intro g p e R s m args below meth c H locs cells slots am am0 ls mc ms QQ hC hR hx hL hs hl h1 h2 h3 h4 hQ
  exact lv_icmp_le hC.1 hC.2.1 hd ht (fun h => kt ((i3_le hxr hyr).mp h) g p e R s m args below meth c H locs cells slots am am0 ls mc ms QQ hC hR hx hL (ok_t (ok_t hs)) hl h1 h2 h3 h4 hQ) (fun h => kf (by have := mt (i3_le hxr hyr).mpr h; omega) g p e R s m args below meth c H locs cells slots am am0 ls mc ms QQ hC hR hx hL (ok_t (ok_t hs)) hl h1 h2 h3 h4 hQ)
theorem ar_if_le {X : gx_T} {M : mt_T} {d pc : Nat} {L : List (Nat × Option av_T)} {st : List av_T} {G : mm_T} {k n : Nat} {Q : Option av_T → mm_T → Prop} {x : Int} {off : Int} (tgt : Nat) (hd : decode M.2.1 pc = .ok (.ifCond .le off, 3)) (ht : (pc : Int) + off = (tgt : Int)) (hxr : i3_in x) (kt : x ≤ 0 → aw_W X M d tgt L st G k n Q) (kf : 0 < x → aw_W X M d (pc + 3) L st G k n Q) : aw_W X M d pc L (av_i x :: st) G k n Q := by
  intro g p e R s m args below meth c H locs cells slots am am0 ls mc ms QQ hC hR hx hL hs hl h1 h2 h3 h4 hQ
  exact lv_if_le hC.1 hC.2.1 hd ht (fun h => kt ((i3_le hxr i3_0).mp h) g p e R s m args below meth c H locs cells slots am am0 ls mc ms QQ hC hR hx hL (ok_t hs) hl h1 h2 h3 h4 hQ) (fun h => kf (by have := mt (i3_le hxr i3_0).mpr h; omega) g p e R s m args below meth c H locs cells slots am am0 ls mc ms QQ hC hR hx hL (ok_t hs) hl h1 h2 h3 h4 hQ)
theorem ar_ifnull {X : gx_T} {M : mt_T} {d pc : Nat} {L : List (Nat × Option av_T)} {st : List av_T} {G : mm_T} {k n : Nat} {Q : Option av_T → mm_T → Prop} {r : Option Nat} {off : Int} (tgt : Nat) (hd : decode M.2.1 pc = .ok (.ifnull off, 3)) (ht : (pc : Int) + off = (tgt : Int)) (kt : r = none → aw_W X M d tgt L st G k n Q) (kf : ∀ a, r = some a → aw_W X M d (pc + 3) L st G k n Q) : aw_W X M d pc L (av_r r :: st) G k n Q := by
  intro g p e R s m args below meth c H locs cells slots am am0 ls mc ms QQ hC hR hx hL hs hl h1 h2 h3 h4 hQ
  cases r with
  | none => exact lv_ifnullN hC.1 hC.2.1 hd ht (kt rfl g p e R s m args below meth c H locs cells slots am am0 ls mc ms QQ hC hR hx hL (ok_t hs) hl h1 h2 h3 h4 hQ)
  | some a =>
    obtain ⟨q, hq, e9⟩ := av_ref (ok_h hs)
    rw [List.map_cons, e9]
    exact lv_ifnull hC.1 hC.2.1 hd (kf a rfl g p e R s m args below meth c H locs cells slots am am0 ls mc ms QQ hC hR hx hL (ok_t hs) hl h1 h2 h3 h4 hQ)
theorem ar_ifnonnull {X : gx_T} {M : mt_T} {d pc : Nat} {L : List (Nat × Option av_T)} {st : List av_T} {G : mm_T} {k n : Nat} {Q : Option av_T → mm_T → Prop} {r : Option Nat} {off : Int} (tgt : Nat) (hd : decode M.2.1 pc = .ok (.ifnonnull off, 3)) (ht : (pc : Int) + off = (tgt : Int)) (kt : ∀ a, r = some a → aw_W X M d tgt L st G k n Q) (kf : r = none → aw_W X M d (pc + 3) L st G k n Q) : aw_W X M d pc L (av_r r :: st) G k n Q := by
  intro g p e R s m args below meth c H locs cells slots am am0 ls mc ms QQ hC hR hx hL hs hl h1 h2 h3 h4 hQ
  cases r with
  | none => exact lv_ifnonnullN hC.1 hC.2.1 hd (kf rfl g p e R s m args below meth c H locs cells slots am am0 ls mc ms QQ hC hR hx hL (ok_t hs) hl h1 h2 h3 h4 hQ)
  | some a =>
    obtain ⟨q, hq, e9⟩ := av_ref (ok_h hs)
    rw [List.map_cons, e9]
    exact lv_ifnonnull hC.1 hC.2.1 hd ht (kt a rfl g p e R s m args below meth c H locs cells slots am am0 ls mc ms QQ hC hR hx hL (ok_t hs) hl h1 h2 h3 h4 hQ)
theorem ar_tableOut {X : gx_T} {M : mt_T} {d pc : Nat} {L : List (Nat × Option av_T)} {st : List av_T} {G : mm_T} {k n : Nat} {Q : Option av_T → mm_T → Prop} {x dflt lo hi : Int} {offs : Array Int} {len : Nat} (tgt : Nat) (hd : decode M.2.1 pc = .ok (.tableswitch dflt lo hi offs, len)) (hxr : i3_in x) (h : x < lo ∨ hi < x) (ht : (pc : Int) + dflt = (tgt : Int)) (kk : aw_W X M d tgt L st G k n Q) : aw_W X M d pc L (av_i x :: st) G k n Q := by
  intro g p e R s m args below meth c H locs cells slots am am0 ls mc ms QQ hC hR hx hL hs hl h1 h2 h3 h4 hQ
  exact lv_tableOut hC.1 hC.2.1 hd (by rw [i3_t hxr]; assumption) ht (kk g p e R s m args below meth c H locs cells slots am am0 ls mc ms QQ hC hR hx hL (ok_t hs) hl h1 h2 h3 h4 hQ)
theorem ar_tableIn {X : gx_T} {M : mt_T} {d pc : Nat} {L : List (Nat × Option av_T)} {st : List av_T} {G : mm_T} {k n : Nat} {Q : Option av_T → mm_T → Prop} {x dflt lo hi : Int} {offs : Array Int} {len : Nat} {off : Int} (tgt : Nat) (hd : decode M.2.1 pc = .ok (.tableswitch dflt lo hi offs, len)) (hxr : i3_in x) (ha : lo ≤ x) (hb : x ≤ hi) (ho : offs[(x - lo).toNat]? = some off) (ht : (pc : Int) + off = (tgt : Int)) (kk : aw_W X M d tgt L st G k n Q) : aw_W X M d pc L (av_i x :: st) G k n Q := by
  intro g p e R s m args below meth c H locs cells slots am am0 ls mc ms QQ hC hR hx hL hs hl h1 h2 h3 h4 hQ
  exact lv_tableIn hC.1 hC.2.1 hd (by rw [i3_t hxr]; omega) (by rw [i3_t hxr]; omega) (by rw [i3_t hxr]; exact ho) ht (kk g p e R s m args below meth c H locs cells slots am am0 ls mc ms QQ hC hR hx hL (ok_t hs) hl h1 h2 h3 h4 hQ)
theorem ar_lookup {X : gx_T} {M : mt_T} {d pc : Nat} {L : List (Nat × Option av_T)} {st : List av_T} {G : mm_T} {k n : Nat} {Q : Option av_T → mm_T → Prop} {x dflt : Int} {ps : Array (Int × Int)} {len : Nat} {off : Int} (tgt : Nat) (hd : decode M.2.1 pc = .ok (.lookupswitch dflt ps, len)) (hxr : i3_in x) (hp : (ps.toList.zip (ps.toList.drop 1)).all (fun (a, next) => a.1 < next.1) = true) (ho : Op.lookupswitch.offset ps.toList dflt x = off) (ht : (pc : Int) + off = (tgt : Int)) (kk : aw_W X M d tgt L st G k n Q) : aw_W X M d pc L (av_i x :: st) G k n Q := by
  intro g p e R s m args below meth c H locs cells slots am am0 ls mc ms QQ hC hR hx hL hs hl h1 h2 h3 h4 hQ
  exact lv_lookup hC.1 hC.2.1 hd hp (by rw [i3_t hxr]; exact ho) ht (kk g p e R s m args below meth c H locs cells slots am am0 ls mc ms QQ hC hR hx hL (ok_t hs) hl h1 h2 h3 h4 hQ)
theorem ar_ret {X : gx_T} {M : mt_T} {d pc : Nat} {L : List (Nat × Option av_T)} {st : List av_T} {G : mm_T} {k n : Nat} {Q : Option av_T → mm_T → Prop} (hd : decode M.2.1 pc = .ok (.return_, 1)) (hr : M.2.2.2 = none) (hq : Q none G) : aw_W X M d pc L [] G k n Q := by
  intro g p e R s m args below meth c H locs cells slots am am0 ls mc ms QQ hC hR hx hL hs hl h1 h2 h3 h4 hQ
  exact W.widen (by omega) (by omega) (hQ pc ls H locs am G none ⟨hd, hr⟩ hq hR hx (fun v hv => by cases hv) hl)
theorem ar_iret {X : gx_T} {M : mt_T} {d pc : Nat} {L : List (Nat × Option av_T)} {st : List av_T} {G : mm_T} {k n : Nat} {Q : Option av_T → mm_T → Prop} {x : Int} (hd : decode M.2.1 pc = .ok (.ireturn, 1)) (hr : M.2.2.2 = some .int) (hq : Q (some (av_i x)) G) : aw_W X M d pc L [av_i x] G k n Q := by
  intro g p e R s m args below meth c H locs cells slots am am0 ls mc ms QQ hC hR hx hL hs hl h1 h2 h3 h4 hQ
  exact W.widen (by omega) (by omega) (hQ pc ls H locs am G (some (av_i x)) ⟨hd, Or.inl hr⟩ hq hR hx hs hl)
theorem ar_zret {X : gx_T} {M : mt_T} {d pc : Nat} {L : List (Nat × Option av_T)} {st : List av_T} {G : mm_T} {k n : Nat} {Q : Option av_T → mm_T → Prop} {x : Int} (hd : decode M.2.1 pc = .ok (.ireturn, 1)) (hr : M.2.2.2 = some .boolean) (hz : x = 0 ∨ x = 1) (hq : Q (some (av_i x)) G) : aw_W X M d pc L [av_i x] G k n Q := by
  intro g p e R s m args below meth c H locs cells slots am am0 ls mc ms QQ hC hR hx hL hs hl h1 h2 h3 h4 hQ
  exact W.widen (by omega) (by omega) (hQ pc ls H locs am G (some (av_i x)) ⟨hd, Or.inr ⟨hr, hz⟩⟩ hq hR hx hs hl)
theorem ar_lret {X : gx_T} {M : mt_T} {d pc : Nat} {L : List (Nat × Option av_T)} {st : List av_T} {G : mm_T} {k n : Nat} {Q : Option av_T → mm_T → Prop} {x : Int} (hd : decode M.2.1 pc = .ok (.lreturn, 1)) (hr : M.2.2.2 = some .long) (hq : Q (some (av_l x)) G) : aw_W X M d pc L [av_l x] G k n Q := by
  intro g p e R s m args below meth c H locs cells slots am am0 ls mc ms QQ hC hR hx hL hs hl h1 h2 h3 h4 hQ
  exact W.widen (by omega) (by omega) (hQ pc ls H locs am G (some (av_l x)) ⟨hd, hr⟩ hq hR hx hs hl)
theorem ar_aret {X : gx_T} {M : mt_T} {d pc : Nat} {L : List (Nat × Option av_T)} {st : List av_T} {G : mm_T} {k n : Nat} {Q : Option av_T → mm_T → Prop} {r : Option Nat} {nm : String} (hd : decode M.2.1 pc = .ok (.areturn, 1)) (hr : M.2.2.2 = some (.object nm)) (hq : Q (some (av_r r)) G) : aw_W X M d pc L [av_r r] G k n Q := by
  intro g p e R s m args below meth c H locs cells slots am am0 ls mc ms QQ hC hR hx hL hs hl h1 h2 h3 h4 hQ
  exact W.widen (by omega) (by omega) (hQ pc ls H locs am G (some (av_r r)) ⟨hd, nm, hr⟩ hq hR hx hs hl)
end
