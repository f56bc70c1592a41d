section
def lw_okq (q : MethodName × Nat) : Prop := (q.1.cls ≠ "java/lang/invoke/MethodHandle" ∧ q.1.cls ≠ "java/lang/invoke/VarHandle") ∧ Cond.instantiable q.1.cls q.2 ∈ tables_1 ∧ Cond.privateMethod q.1 ∈ tables_1 ∧ Cond.instanceMethod q.1 ∈ tables_1
theorem lw_p0 : lw_okq (⟨"TurningWheel$Reader", "skipBlanks", "()V"⟩, 9) := ⟨⟨by decide +kernel, by decide +kernel⟩, List.mem_of_getElem? (i := 22) (by decide +kernel), List.mem_of_getElem? (i := 312) (by decide +kernel), List.mem_of_getElem? (i := 313) (by decide +kernel)⟩
theorem lw_p1 : lw_okq (⟨"TurningWheel$Reader", "readWays", "()Z"⟩, 9) := ⟨⟨by decide +kernel, by decide +kernel⟩, List.mem_of_getElem? (i := 22) (by decide +kernel), List.mem_of_getElem? (i := 316) (by decide +kernel), List.mem_of_getElem? (i := 317) (by decide +kernel)⟩
theorem lw_p2 : lw_okq (⟨"TurningWheel$Reader", "take", "(I)Z"⟩, 9) := ⟨⟨by decide +kernel, by decide +kernel⟩, List.mem_of_getElem? (i := 22) (by decide +kernel), List.mem_of_getElem? (i := 320) (by decide +kernel), List.mem_of_getElem? (i := 321) (by decide +kernel)⟩
theorem lw_p3 : lw_okq (⟨"TurningWheel$Reader", "letter", "()I"⟩, 9) := ⟨⟨by decide +kernel, by decide +kernel⟩, List.mem_of_getElem? (i := 22) (by decide +kernel), List.mem_of_getElem? (i := 324) (by decide +kernel), List.mem_of_getElem? (i := 325) (by decide +kernel)⟩
theorem lw_p4 : lw_okq (⟨"TurningWheel$Reader", "refuse", "(II)Z"⟩, 9) := ⟨⟨by decide +kernel, by decide +kernel⟩, List.mem_of_getElem? (i := 22) (by decide +kernel), List.mem_of_getElem? (i := 328) (by decide +kernel), List.mem_of_getElem? (i := 329) (by decide +kernel)⟩
theorem lw_p5 : lw_okq (⟨"TurningWheel$Reader", "readWay", "()Z"⟩, 9) := ⟨⟨by decide +kernel, by decide +kernel⟩, List.mem_of_getElem? (i := 22) (by decide +kernel), List.mem_of_getElem? (i := 332) (by decide +kernel), List.mem_of_getElem? (i := 333) (by decide +kernel)⟩
theorem lw_p6 : lw_okq (⟨"TurningWheel$Reader", "readNumber", "(II)Z"⟩, 9) := ⟨⟨by decide +kernel, by decide +kernel⟩, List.mem_of_getElem? (i := 22) (by decide +kernel), List.mem_of_getElem? (i := 336) (by decide +kernel), List.mem_of_getElem? (i := 337) (by decide +kernel)⟩
theorem lw_p7 : lw_okq (⟨"TurningWheel$Reader", "readClause", "()Z"⟩, 9) := ⟨⟨by decide +kernel, by decide +kernel⟩, List.mem_of_getElem? (i := 22) (by decide +kernel), List.mem_of_getElem? (i := 344) (by decide +kernel), List.mem_of_getElem? (i := 345) (by decide +kernel)⟩
theorem lw_p8 : lw_okq (⟨"TurningWheel$Reader", "readTest", "()Z"⟩, 9) := ⟨⟨by decide +kernel, by decide +kernel⟩, List.mem_of_getElem? (i := 22) (by decide +kernel), List.mem_of_getElem? (i := 348) (by decide +kernel), List.mem_of_getElem? (i := 349) (by decide +kernel)⟩
theorem lw_p9 : lw_okq (⟨"TurningWheel$Reader", "readWaySet", "(I)Z"⟩, 9) := ⟨⟨by decide +kernel, by decide +kernel⟩, List.mem_of_getElem? (i := 22) (by decide +kernel), List.mem_of_getElem? (i := 352) (by decide +kernel), List.mem_of_getElem? (i := 353) (by decide +kernel)⟩
theorem lw_p10 : lw_okq (⟨"TurningWheel$Reader", "readServant", "()Z"⟩, 9) := ⟨⟨by decide +kernel, by decide +kernel⟩, List.mem_of_getElem? (i := 22) (by decide +kernel), List.mem_of_getElem? (i := 367) (by decide +kernel), List.mem_of_getElem? (i := 368) (by decide +kernel)⟩
theorem lw_p11 : lw_okq (⟨"TurningWheel$Reader", "readPay", "()Z"⟩, 9) := ⟨⟨by decide +kernel, by decide +kernel⟩, List.mem_of_getElem? (i := 22) (by decide +kernel), List.mem_of_getElem? (i := 371) (by decide +kernel), List.mem_of_getElem? (i := 372) (by decide +kernel)⟩
theorem lw_p12 : lw_okq (⟨"TurningWheel", "beginAnew", "()V"⟩, 11) := ⟨⟨by decide +kernel, by decide +kernel⟩, List.mem_of_getElem? (i := 14) (by decide +kernel), List.mem_of_getElem? (i := 379) (by decide +kernel), List.mem_of_getElem? (i := 380) (by decide +kernel)⟩
theorem lw_p13 : lw_okq (⟨"TurningWheel", "waysLeft", "()I"⟩, 11) := ⟨⟨by decide +kernel, by decide +kernel⟩, List.mem_of_getElem? (i := 14) (by decide +kernel), List.mem_of_getElem? (i := 403) (by decide +kernel), List.mem_of_getElem? (i := 404) (by decide +kernel)⟩
theorem lw_p14 : lw_okq (⟨"TurningWheel", "spent", "()I"⟩, 11) := ⟨⟨by decide +kernel, by decide +kernel⟩, List.mem_of_getElem? (i := 14) (by decide +kernel), List.mem_of_getElem? (i := 416) (by decide +kernel), List.mem_of_getElem? (i := 417) (by decide +kernel)⟩
theorem lw_p15 : lw_okq (⟨"TurningWheel", "refusalOfDays", "(I)I"⟩, 11) := ⟨⟨by decide +kernel, by decide +kernel⟩, List.mem_of_getElem? (i := 14) (by decide +kernel), List.mem_of_getElem? (i := 457) (by decide +kernel), List.mem_of_getElem? (i := 458) (by decide +kernel)⟩
def lw_privs_1 : List (MethodName × Nat) := [(⟨"TurningWheel$Reader", "skipBlanks", "()V"⟩, 9), (⟨"TurningWheel$Reader", "readWays", "()Z"⟩, 9), (⟨"TurningWheel$Reader", "take", "(I)Z"⟩, 9), (⟨"TurningWheel$Reader", "letter", "()I"⟩, 9), (⟨"TurningWheel$Reader", "refuse", "(II)Z"⟩, 9), (⟨"TurningWheel$Reader", "readWay", "()Z"⟩, 9), (⟨"TurningWheel$Reader", "readNumber", "(II)Z"⟩, 9), (⟨"TurningWheel$Reader", "readClause", "()Z"⟩, 9), (⟨"TurningWheel$Reader", "readTest", "()Z"⟩, 9), (⟨"TurningWheel$Reader", "readWaySet", "(I)Z"⟩, 9), (⟨"TurningWheel$Reader", "readServant", "()Z"⟩, 9), (⟨"TurningWheel$Reader", "readPay", "()Z"⟩, 9), (⟨"TurningWheel", "beginAnew", "()V"⟩, 11), (⟨"TurningWheel", "waysLeft", "()I"⟩, 11), (⟨"TurningWheel", "spent", "()I"⟩, 11), (⟨"TurningWheel", "refusalOfDays", "(I)I"⟩, 11)]
theorem lw_r1 : ∀ q ∈ lw_privs_1, lw_okq q := List.forall_mem_cons.mpr ⟨lw_p0, List.forall_mem_cons.mpr ⟨lw_p1, List.forall_mem_cons.mpr ⟨lw_p2, List.forall_mem_cons.mpr ⟨lw_p3, List.forall_mem_cons.mpr ⟨lw_p4, List.forall_mem_cons.mpr ⟨lw_p5, List.forall_mem_cons.mpr ⟨lw_p6, List.forall_mem_cons.mpr ⟨lw_p7, List.forall_mem_cons.mpr ⟨lw_p8, List.forall_mem_cons.mpr ⟨lw_p9, List.forall_mem_cons.mpr ⟨lw_p10, List.forall_mem_cons.mpr ⟨lw_p11, List.forall_mem_cons.mpr ⟨lw_p12, List.forall_mem_cons.mpr ⟨lw_p13, List.forall_mem_cons.mpr ⟨lw_p14, List.forall_mem_cons.mpr ⟨lw_p15, fun _ h => absurd h List.not_mem_nil⟩⟩⟩⟩⟩⟩⟩⟩⟩⟩⟩⟩⟩⟩⟩⟩
theorem lw_p16 : lw_okq (⟨"TurningWheel", "doByDraw", "()V"⟩, 11) := ⟨⟨by decide +kernel, by decide +kernel⟩, List.mem_of_getElem? (i := 14) (by decide +kernel), List.mem_of_getElem? (i := 519) (by decide +kernel), List.mem_of_getElem? (i := 520) (by decide +kernel)⟩
theorem lw_p17 : lw_okq (⟨"TurningWheel", "liarsBy", "(I)I"⟩, 11) := ⟨⟨by decide +kernel, by decide +kernel⟩, List.mem_of_getElem? (i := 14) (by decide +kernel), List.mem_of_getElem? (i := 557) (by decide +kernel), List.mem_of_getElem? (i := 558) (by decide +kernel)⟩
theorem lw_p18 : lw_okq (⟨"TurningWheel", "wayOfFewestLiars", "()I"⟩, 11) := ⟨⟨by decide +kernel, by decide +kernel⟩, List.mem_of_getElem? (i := 14) (by decide +kernel), List.mem_of_getElem? (i := 565) (by decide +kernel), List.mem_of_getElem? (i := 566) (by decide +kernel)⟩
theorem lw_p19 : lw_okq (⟨"TurningWheel", "cheapestTests", "(II)I"⟩, 11) := ⟨⟨by decide +kernel, by decide +kernel⟩, List.mem_of_getElem? (i := 14) (by decide +kernel), List.mem_of_getElem? (i := 579) (by decide +kernel), List.mem_of_getElem? (i := 580) (by decide +kernel)⟩
theorem lw_p20 : lw_okq (⟨"TurningWheel", "costYet", "(I)I"⟩, 11) := ⟨⟨by decide +kernel, by decide +kernel⟩, List.mem_of_getElem? (i := 14) (by decide +kernel), List.mem_of_getElem? (i := 583) (by decide +kernel), List.mem_of_getElem? (i := 584) (by decide +kernel)⟩
theorem lw_p21 : lw_okq (⟨"TurningWheel", "offerFor", "(III)I"⟩, 11) := ⟨⟨by decide +kernel, by decide +kernel⟩, List.mem_of_getElem? (i := 14) (by decide +kernel), List.mem_of_getElem? (i := 596) (by decide +kernel), List.mem_of_getElem? (i := 597) (by decide +kernel)⟩
theorem lw_p22 : lw_okq (⟨"TurningWheel$Hearsay", "fits", "(II)Z"⟩, 3) := ⟨⟨by decide +kernel, by decide +kernel⟩, List.mem_of_getElem? (i := 189) (by decide +kernel), List.mem_of_getElem? (i := 634) (by decide +kernel), List.mem_of_getElem? (i := 635) (by decide +kernel)⟩
theorem lw_p23 : lw_okq (⟨"TurningWheelModel", "skips", "()V"⟩, 24) := ⟨⟨by decide +kernel, by decide +kernel⟩, List.mem_of_getElem? (i := 689) (by decide +kernel), List.mem_of_getElem? (i := 781) (by decide +kernel), List.mem_of_getElem? (i := 782) (by decide +kernel)⟩
theorem lw_p24 : lw_okq (⟨"TurningWheelModel", "look", "()I"⟩, 24) := ⟨⟨by decide +kernel, by decide +kernel⟩, List.mem_of_getElem? (i := 689) (by decide +kernel), List.mem_of_getElem? (i := 785) (by decide +kernel), List.mem_of_getElem? (i := 786) (by decide +kernel)⟩
theorem lw_p25 : lw_okq (⟨"TurningWheelModel", "reads", "()V"⟩, 24) := ⟨⟨by decide +kernel, by decide +kernel⟩, List.mem_of_getElem? (i := 689) (by decide +kernel), List.mem_of_getElem? (i := 789) (by decide +kernel), List.mem_of_getElem? (i := 790) (by decide +kernel)⟩
theorem lw_p26 : lw_okq (⟨"TurningWheelModel", "readsWays", "()V"⟩, 24) := ⟨⟨by decide +kernel, by decide +kernel⟩, List.mem_of_getElem? (i := 689) (by decide +kernel), List.mem_of_getElem? (i := 793) (by decide +kernel), List.mem_of_getElem? (i := 794) (by decide +kernel)⟩
theorem lw_p27 : lw_okq (⟨"TurningWheelModel", "opens", "(Z)Z"⟩, 24) := ⟨⟨by decide +kernel, by decide +kernel⟩, List.mem_of_getElem? (i := 689) (by decide +kernel), List.mem_of_getElem? (i := 797) (by decide +kernel), List.mem_of_getElem? (i := 798) (by decide +kernel)⟩
theorem lw_p28 : lw_okq (⟨"TurningWheelModel", "fails", "(I)V"⟩, 24) := ⟨⟨by decide +kernel, by decide +kernel⟩, List.mem_of_getElem? (i := 689) (by decide +kernel), List.mem_of_getElem? (i := 801) (by decide +kernel), List.mem_of_getElem? (i := 802) (by decide +kernel)⟩
theorem lw_p29 : lw_okq (⟨"TurningWheelModel", "number", "(II)I"⟩, 24) := ⟨⟨by decide +kernel, by decide +kernel⟩, List.mem_of_getElem? (i := 689) (by decide +kernel), List.mem_of_getElem? (i := 805) (by decide +kernel), List.mem_of_getElem? (i := 806) (by decide +kernel)⟩
theorem lw_p30 : lw_okq (⟨"TurningWheelModel", "word", "(I)V"⟩, 24) := ⟨⟨by decide +kernel, by decide +kernel⟩, List.mem_of_getElem? (i := 689) (by decide +kernel), List.mem_of_getElem? (i := 809) (by decide +kernel), List.mem_of_getElem? (i := 810) (by decide +kernel)⟩
theorem lw_p31 : lw_okq (⟨"TurningWheelModel", "readsTest", "()V"⟩, 24) := ⟨⟨by decide +kernel, by decide +kernel⟩, List.mem_of_getElem? (i := 689) (by decide +kernel), List.mem_of_getElem? (i := 813) (by decide +kernel), List.mem_of_getElem? (i := 814) (by decide +kernel)⟩
def lw_privs_2 : List (MethodName × Nat) := [(⟨"TurningWheel", "doByDraw", "()V"⟩, 11), (⟨"TurningWheel", "liarsBy", "(I)I"⟩, 11), (⟨"TurningWheel", "wayOfFewestLiars", "()I"⟩, 11), (⟨"TurningWheel", "cheapestTests", "(II)I"⟩, 11), (⟨"TurningWheel", "costYet", "(I)I"⟩, 11), (⟨"TurningWheel", "offerFor", "(III)I"⟩, 11), (⟨"TurningWheel$Hearsay", "fits", "(II)Z"⟩, 3), (⟨"TurningWheelModel", "skips", "()V"⟩, 24), (⟨"TurningWheelModel", "look", "()I"⟩, 24), (⟨"TurningWheelModel", "reads", "()V"⟩, 24), (⟨"TurningWheelModel", "readsWays", "()V"⟩, 24), (⟨"TurningWheelModel", "opens", "(Z)Z"⟩, 24), (⟨"TurningWheelModel", "fails", "(I)V"⟩, 24), (⟨"TurningWheelModel", "number", "(II)I"⟩, 24), (⟨"TurningWheelModel", "word", "(I)V"⟩, 24), (⟨"TurningWheelModel", "readsTest", "()V"⟩, 24)]
theorem lw_r2 : ∀ q ∈ lw_privs_2, lw_okq q := List.forall_mem_cons.mpr ⟨lw_p16, List.forall_mem_cons.mpr ⟨lw_p17, List.forall_mem_cons.mpr ⟨lw_p18, List.forall_mem_cons.mpr ⟨lw_p19, List.forall_mem_cons.mpr ⟨lw_p20, List.forall_mem_cons.mpr ⟨lw_p21, List.forall_mem_cons.mpr ⟨lw_p22, List.forall_mem_cons.mpr ⟨lw_p23, List.forall_mem_cons.mpr ⟨lw_p24, List.forall_mem_cons.mpr ⟨lw_p25, List.forall_mem_cons.mpr ⟨lw_p26, List.forall_mem_cons.mpr ⟨lw_p27, List.forall_mem_cons.mpr ⟨lw_p28, List.forall_mem_cons.mpr ⟨lw_p29, List.forall_mem_cons.mpr ⟨lw_p30, List.forall_mem_cons.mpr ⟨lw_p31, fun _ h => absurd h List.not_mem_nil⟩⟩⟩⟩⟩⟩⟩⟩⟩⟩⟩⟩⟩⟩⟩⟩
theorem lw_p32 : lw_okq (⟨"TurningWheelModel", "waysOf", "(II)I"⟩, 24) := ⟨⟨by decide +kernel, by decide +kernel⟩, List.mem_of_getElem? (i := 689) (by decide +kernel), List.mem_of_getElem? (i := 820) (by decide +kernel), List.mem_of_getElem? (i := 821) (by decide +kernel)⟩
theorem lw_p33 : lw_okq (⟨"TurningWheelModel", "readsServant", "()V"⟩, 24) := ⟨⟨by decide +kernel, by decide +kernel⟩, List.mem_of_getElem? (i := 689) (by decide +kernel), List.mem_of_getElem? (i := 824) (by decide +kernel), List.mem_of_getElem? (i := 825) (by decide +kernel)⟩
theorem lw_p34 : lw_okq (⟨"TurningWheelModel", "readsPay", "()V"⟩, 24) := ⟨⟨by decide +kernel, by decide +kernel⟩, List.mem_of_getElem? (i := 689) (by decide +kernel), List.mem_of_getElem? (i := 828) (by decide +kernel), List.mem_of_getElem? (i := 829) (by decide +kernel)⟩
theorem lw_p35 : lw_okq (⟨"TurningWheelModel", "leftBy", "(I)I"⟩, 24) := ⟨⟨by decide +kernel, by decide +kernel⟩, List.mem_of_getElem? (i := 689) (by decide +kernel), List.mem_of_getElem? (i := 843) (by decide +kernel), List.mem_of_getElem? (i := 844) (by decide +kernel)⟩
theorem lw_p36 : lw_okq (⟨"TurningWheelModel", "shownBy", "(I)I"⟩, 24) := ⟨⟨by decide +kernel, by decide +kernel⟩, List.mem_of_getElem? (i := 689) (by decide +kernel), List.mem_of_getElem? (i := 850) (by decide +kernel), List.mem_of_getElem? (i := 851) (by decide +kernel)⟩
theorem lw_p37 : lw_okq (⟨"TurningWheelModel", "spent", "()I"⟩, 24) := ⟨⟨by decide +kernel, by decide +kernel⟩, List.mem_of_getElem? (i := 689) (by decide +kernel), List.mem_of_getElem? (i := 854) (by decide +kernel), List.mem_of_getElem? (i := 855) (by decide +kernel)⟩
theorem lw_p38 : lw_okq (⟨"TurningWheelModel", "isWay", "(I)Z"⟩, 24) := ⟨⟨by decide +kernel, by decide +kernel⟩, List.mem_of_getElem? (i := 689) (by decide +kernel), List.mem_of_getElem? (i := 863) (by decide +kernel), List.mem_of_getElem? (i := 864) (by decide +kernel)⟩
theorem lw_p39 : lw_okq (⟨"TurningWheelModel", "isTest", "(I)Z"⟩, 24) := ⟨⟨by decide +kernel, by decide +kernel⟩, List.mem_of_getElem? (i := 689) (by decide +kernel), List.mem_of_getElem? (i := 872) (by decide +kernel), List.mem_of_getElem? (i := 873) (by decide +kernel)⟩
theorem lw_p40 : lw_okq (⟨"TurningWheelModel", "isServant", "(I)Z"⟩, 24) := ⟨⟨by decide +kernel, by decide +kernel⟩, List.mem_of_getElem? (i := 689) (by decide +kernel), List.mem_of_getElem? (i := 880) (by decide +kernel), List.mem_of_getElem? (i := 881) (by decide +kernel)⟩
theorem lw_p41 : lw_okq (⟨"TurningWheelModel", "barred", "(I)I"⟩, 24) := ⟨⟨by decide +kernel, by decide +kernel⟩, List.mem_of_getElem? (i := 689) (by decide +kernel), List.mem_of_getElem? (i := 888) (by decide +kernel), List.mem_of_getElem? (i := 889) (by decide +kernel)⟩
theorem lw_p42 : lw_okq (⟨"TurningWheelModel", "isCastle", "()Z"⟩, 24) := ⟨⟨by decide +kernel, by decide +kernel⟩, List.mem_of_getElem? (i := 689) (by decide +kernel), List.mem_of_getElem? (i := 892) (by decide +kernel), List.mem_of_getElem? (i := 893) (by decide +kernel)⟩
theorem lw_p43 : lw_okq (⟨"TurningWheelModel", "notes", "()V"⟩, 24) := ⟨⟨by decide +kernel, by decide +kernel⟩, List.mem_of_getElem? (i := 689) (by decide +kernel), List.mem_of_getElem? (i := 897) (by decide +kernel), List.mem_of_getElem? (i := 898) (by decide +kernel)⟩
theorem lw_p44 : lw_okq (⟨"TurningWheelModel", "passes", "()V"⟩, 24) := ⟨⟨by decide +kernel, by decide +kernel⟩, List.mem_of_getElem? (i := 689) (by decide +kernel), List.mem_of_getElem? (i := 901) (by decide +kernel), List.mem_of_getElem? (i := 902) (by decide +kernel)⟩
theorem lw_p45 : lw_okq (⟨"TurningWheelModel", "gets", "(II)V"⟩, 24) := ⟨⟨by decide +kernel, by decide +kernel⟩, List.mem_of_getElem? (i := 689) (by decide +kernel), List.mem_of_getElem? (i := 905) (by decide +kernel), List.mem_of_getElem? (i := 906) (by decide +kernel)⟩
theorem lw_p46 : lw_okq (⟨"TurningWheelModel", "canBe", "(I)Z"⟩, 24) := ⟨⟨by decide +kernel, by decide +kernel⟩, List.mem_of_getElem? (i := 689) (by decide +kernel), List.mem_of_getElem? (i := 913) (by decide +kernel), List.mem_of_getElem? (i := 914) (by decide +kernel)⟩
theorem lw_p47 : lw_okq (⟨"TurningWheelModel", "hires", "(IZ)V"⟩, 24) := ⟨⟨by decide +kernel, by decide +kernel⟩, List.mem_of_getElem? (i := 689) (by decide +kernel), List.mem_of_getElem? (i := 929) (by decide +kernel), List.mem_of_getElem? (i := 930) (by decide +kernel)⟩
def lw_privs_3 : List (MethodName × Nat) := [(⟨"TurningWheelModel", "waysOf", "(II)I"⟩, 24), (⟨"TurningWheelModel", "readsServant", "()V"⟩, 24), (⟨"TurningWheelModel", "readsPay", "()V"⟩, 24), (⟨"TurningWheelModel", "leftBy", "(I)I"⟩, 24), (⟨"TurningWheelModel", "shownBy", "(I)I"⟩, 24), (⟨"TurningWheelModel", "spent", "()I"⟩, 24), (⟨"TurningWheelModel", "isWay", "(I)Z"⟩, 24), (⟨"TurningWheelModel", "isTest", "(I)Z"⟩, 24), (⟨"TurningWheelModel", "isServant", "(I)Z"⟩, 24), (⟨"TurningWheelModel", "barred", "(I)I"⟩, 24), (⟨"TurningWheelModel", "isCastle", "()Z"⟩, 24), (⟨"TurningWheelModel", "notes", "()V"⟩, 24), (⟨"TurningWheelModel", "passes", "()V"⟩, 24), (⟨"TurningWheelModel", "gets", "(II)V"⟩, 24), (⟨"TurningWheelModel", "canBe", "(I)Z"⟩, 24), (⟨"TurningWheelModel", "hires", "(IZ)V"⟩, 24)]
theorem lw_r3 : ∀ q ∈ lw_privs_3, lw_okq q := List.forall_mem_cons.mpr ⟨lw_p32, List.forall_mem_cons.mpr ⟨lw_p33, List.forall_mem_cons.mpr ⟨lw_p34, List.forall_mem_cons.mpr ⟨lw_p35, List.forall_mem_cons.mpr ⟨lw_p36, List.forall_mem_cons.mpr ⟨lw_p37, List.forall_mem_cons.mpr ⟨lw_p38, List.forall_mem_cons.mpr ⟨lw_p39, List.forall_mem_cons.mpr ⟨lw_p40, List.forall_mem_cons.mpr ⟨lw_p41, List.forall_mem_cons.mpr ⟨lw_p42, List.forall_mem_cons.mpr ⟨lw_p43, List.forall_mem_cons.mpr ⟨lw_p44, List.forall_mem_cons.mpr ⟨lw_p45, List.forall_mem_cons.mpr ⟨lw_p46, List.forall_mem_cons.mpr ⟨lw_p47, fun _ h => absurd h List.not_mem_nil⟩⟩⟩⟩⟩⟩⟩⟩⟩⟩⟩⟩⟩⟩⟩⟩
theorem lw_p48 : lw_okq (⟨"TurningWheelModel", "areWays", "(I)Z"⟩, 24) := ⟨⟨by decide +kernel, by decide +kernel⟩, List.mem_of_getElem? (i := 689) (by decide +kernel), List.mem_of_getElem? (i := 937) (by decide +kernel), List.mem_of_getElem? (i := 938) (by decide +kernel)⟩
theorem lw_p49 : lw_okq (⟨"TurningWheelModel", "draw", "(I)I"⟩, 24) := ⟨⟨by decide +kernel, by decide +kernel⟩, List.mem_of_getElem? (i := 689) (by decide +kernel), List.mem_of_getElem? (i := 945) (by decide +kernel), List.mem_of_getElem? (i := 946) (by decide +kernel)⟩
theorem lw_p50 : lw_okq (⟨"TurningWheelModel", "beliefBy", "(II)I"⟩, 24) := ⟨⟨by decide +kernel, by decide +kernel⟩, List.mem_of_getElem? (i := 689) (by decide +kernel), List.mem_of_getElem? (i := 961) (by decide +kernel), List.mem_of_getElem? (i := 962) (by decide +kernel)⟩
theorem lw_p51 : lw_okq (⟨"TurningWheelModel", "likelyIn", "(I)I"⟩, 24) := ⟨⟨by decide +kernel, by decide +kernel⟩, List.mem_of_getElem? (i := 689) (by decide +kernel), List.mem_of_getElem? (i := 966) (by decide +kernel), List.mem_of_getElem? (i := 967) (by decide +kernel)⟩
theorem lw_p52 : lw_okq (⟨"TurningWheelModel", "liarsBy", "(I)I"⟩, 24) := ⟨⟨by decide +kernel, by decide +kernel⟩, List.mem_of_getElem? (i := 689) (by decide +kernel), List.mem_of_getElem? (i := 974) (by decide +kernel), List.mem_of_getElem? (i := 975) (by decide +kernel)⟩
theorem lw_p53 : lw_okq (⟨"TurningWheelModel", "costOf", "(I)I"⟩, 24) := ⟨⟨by decide +kernel, by decide +kernel⟩, List.mem_of_getElem? (i := 689) (by decide +kernel), List.mem_of_getElem? (i := 989) (by decide +kernel), List.mem_of_getElem? (i := 990) (by decide +kernel)⟩
theorem lw_p54 : lw_okq (⟨"TurningWheelModel", "offerBy", "(III)I"⟩, 24) := ⟨⟨by decide +kernel, by decide +kernel⟩, List.mem_of_getElem? (i := 689) (by decide +kernel), List.mem_of_getElem? (i := 1001) (by decide +kernel), List.mem_of_getElem? (i := 1002) (by decide +kernel)⟩
theorem lw_p55 : lw_okq (⟨"TurningWheelModel", "paidSet", "()I"⟩, 24) := ⟨⟨by decide +kernel, by decide +kernel⟩, List.mem_of_getElem? (i := 689) (by decide +kernel), List.mem_of_getElem? (i := 1027) (by decide +kernel), List.mem_of_getElem? (i := 1028) (by decide +kernel)⟩
theorem lw_p56 : lw_okq (⟨"TurningWheelModel", "gotBy", "(II)I"⟩, 24) := ⟨⟨by decide +kernel, by decide +kernel⟩, List.mem_of_getElem? (i := 689) (by decide +kernel), List.mem_of_getElem? (i := 1031) (by decide +kernel), List.mem_of_getElem? (i := 1032) (by decide +kernel)⟩
def lw_privs_4 : List (MethodName × Nat) := [(⟨"TurningWheelModel", "areWays", "(I)Z"⟩, 24), (⟨"TurningWheelModel", "draw", "(I)I"⟩, 24), (⟨"TurningWheelModel", "beliefBy", "(II)I"⟩, 24), (⟨"TurningWheelModel", "likelyIn", "(I)I"⟩, 24), (⟨"TurningWheelModel", "liarsBy", "(I)I"⟩, 24), (⟨"TurningWheelModel", "costOf", "(I)I"⟩, 24), (⟨"TurningWheelModel", "offerBy", "(III)I"⟩, 24), (⟨"TurningWheelModel", "paidSet", "()I"⟩, 24), (⟨"TurningWheelModel", "gotBy", "(II)I"⟩, 24)]
theorem lw_r4 : ∀ q ∈ lw_privs_4, lw_okq q := List.forall_mem_cons.mpr ⟨lw_p48, List.forall_mem_cons.mpr ⟨lw_p49, List.forall_mem_cons.mpr ⟨lw_p50, List.forall_mem_cons.mpr ⟨lw_p51, List.forall_mem_cons.mpr ⟨lw_p52, List.forall_mem_cons.mpr ⟨lw_p53, List.forall_mem_cons.mpr ⟨lw_p54, List.forall_mem_cons.mpr ⟨lw_p55, List.forall_mem_cons.mpr ⟨lw_p56, fun _ h => absurd h List.not_mem_nil⟩⟩⟩⟩⟩⟩⟩⟩⟩
def lw_privs : List (MethodName × Nat) := lw_privs_1 ++ (lw_privs_2 ++ (lw_privs_3 ++ (lw_privs_4)))
def lw_tbl : List Cond := k2_sels lw_privs ++ tables_1
theorem lw_privs_ok : ∀ q ∈ lw_privs, lw_okq q := by
  show ∀ q ∈ lw_privs_1 ++ (lw_privs_2 ++ (lw_privs_3 ++ (lw_privs_4))), lw_okq q
  exact List.forall_mem_append.mpr ⟨lw_r1, List.forall_mem_append.mpr ⟨lw_r2, List.forall_mem_append.mpr ⟨lw_r3, lw_r4⟩⟩⟩
def RX0 : String := "TurningWheel$Affairs"
def TX0 : u_T := fun k => match k with
  | 0 => ("TurningWheel$Affairs", "days", "I", false)
  | 1 => ("TurningWheel$Affairs", "turned", "I", false)
  | 2 => ("TurningWheel$Affairs", "turns", "Z", false)
  | 3 => ("TurningWheel$Affairs", "sealed", "Z", false)
  | 4 => ("TurningWheel$Affairs", "made", "I", false)
  | 5 => ("TurningWheel$Affairs", "hired", "I", false)
  | 6 => ("TurningWheel$Affairs", "says", "[I", true)
  | 7 => ("TurningWheel$Affairs", "got", "[I", true)
  | _ => ("TurningWheel$Affairs", "since", "[I", true)
def tyX0 : Nat → FieldType := fun k => match k with
  | 0 => .int
  | 1 => .int
  | 2 => .boolean
  | 3 => .boolean
  | 4 => .int
  | 5 => .int
  | 6 => .array .int
  | 7 => .array .int
  | _ => .array .int
theorem nmX0 : ∀ a, a < 9 → ∀ b, b < 9 → a ≠ b → (TX0 a).2.1 ≠ (TX0 b).2.1 := by decide +kernel
theorem tyX0_ok : ∀ k, k < 9 → parseFieldDescriptor (TX0 k).2.2.1 = some (tyX0 k) := by decide +kernel
abbrev cX0_init : ByteArray := prog_2_method_1_code
def yX0_init : MethodName := ⟨RX0, "<init>", "()V"⟩
abbrev cX0_begin : ByteArray := prog_2_method_2_code
def yX0_begin : MethodName := ⟨RX0, "begin", "(LTurningWheel$Castle;)V"⟩
abbrev cX0_copyFrom : ByteArray := prog_2_method_3_code
def yX0_copyFrom : MethodName := ⟨RX0, "copyFrom", "(LTurningWheel$Affairs;)V"⟩
abbrev cX0_passDay : ByteArray := prog_2_method_4_code
def yX0_passDay : MethodName := ⟨RX0, "passDay", "(LTurningWheel$Castle;)V"⟩
abbrev cX0_canMake : ByteArray := prog_2_method_5_code
def yX0_canMake : MethodName := ⟨RX0, "canMake", "(LTurningWheel$Castle;I)Z"⟩
abbrev cX0_setHired : ByteArray := prog_2_method_6_code
def yX0_setHired : MethodName := ⟨RX0, "setHired", "(IZ)V"⟩
abbrev cX0_give : ByteArray := prog_2_method_7_code
def yX0_give : MethodName := ⟨RX0, "give", "(II)V"⟩
def RX1 : String := "TurningWheel$Book"
def TX1 : u_T := fun k => match k with
  | 0 => ("TurningWheel$Book", "entries", "[I", true)
  | _ => ("TurningWheel$Book", "count", "I", false)
def tyX1 : Nat → FieldType := fun k => match k with
  | 0 => .array .int
  | _ => .int
theorem nmX1 : ∀ a, a < 2 → ∀ b, b < 2 → a ≠ b → (TX1 a).2.1 ≠ (TX1 b).2.1 := by decide +kernel
theorem tyX1_ok : ∀ k, k < 2 → parseFieldDescriptor (TX1 k).2.2.1 = some (tyX1 k) := by decide +kernel
abbrev cX1_init : ByteArray := prog_3_method_1_code
def yX1_init : MethodName := ⟨RX1, "<init>", "()V"⟩
abbrev cX1_add : ByteArray := prog_3_method_2_code
def yX1_add : MethodName := ⟨RX1, "add", "(I)Z"⟩
abbrev cX1_firstOtherThan : ByteArray := prog_3_method_3_code
def yX1_firstOtherThan : MethodName := ⟨RX1, "firstOtherThan", "(I)I"⟩
def RX2 : String := "TurningWheel$Castle"
def TX2 : u_T := fun k => match k with
  | 0 => ("TurningWheel$Castle", "ways", "I", false)
  | 1 => ("TurningWheel$Castle", "likely", "[I", true)
  | 2 => ("TurningWheel$Castle", "tests", "I", false)
  | 3 => ("TurningWheel$Castle", "rules", "[I", true)
  | 4 => ("TurningWheel$Castle", "shows", "[I", true)
  | 5 => ("TurningWheel$Castle", "costs", "[I", true)
  | 6 => ("TurningWheel$Castle", "servants", "I", false)
  | 7 => ("TurningWheel$Castle", "says", "[I", true)
  | 8 => ("TurningWheel$Castle", "prices", "[I", true)
  | 9 => ("TurningWheel$Castle", "pay", "I", false)
  | _ => ("TurningWheel$Castle", "every", "I", false)
def tyX2 : Nat → FieldType := fun k => match k with
  | 0 => .int
  | 1 => .array .int
  | 2 => .int
  | 3 => .array .int
  | 4 => .array .int
  | 5 => .array .int
  | 6 => .int
  | 7 => .array .int
  | 8 => .array .int
  | 9 => .int
  | _ => .int
theorem nmX2 : ∀ a, a < 11 → ∀ b, b < 11 → a ≠ b → (TX2 a).2.1 ≠ (TX2 b).2.1 := by decide +kernel
theorem tyX2_ok : ∀ k, k < 11 → parseFieldDescriptor (TX2 k).2.2.1 = some (tyX2 k) := by decide +kernel
abbrev cX2_init : ByteArray := prog_4_method_1_code
def yX2_init : MethodName := ⟨RX2, "<init>", "()V"⟩
abbrev cX2_clear : ByteArray := prog_4_method_2_code
def yX2_clear : MethodName := ⟨RX2, "clear", "()V"⟩
abbrev cX2_stands : ByteArray := prog_4_method_3_code
def yX2_stands : MethodName := ⟨RX2, "stands", "()Z"⟩
abbrev cX2_hasWay : ByteArray := prog_4_method_4_code
def yX2_hasWay : MethodName := ⟨RX2, "hasWay", "(I)Z"⟩
abbrev cX2_hasTest : ByteArray := prog_4_method_5_code
def yX2_hasTest : MethodName := ⟨RX2, "hasTest", "(I)Z"⟩
abbrev cX2_hasServant : ByteArray := prog_4_method_6_code
def yX2_hasServant : MethodName := ⟨RX2, "hasServant", "(I)Z"⟩
abbrev cX2_hasWays : ByteArray := prog_4_method_7_code
def yX2_hasWays : MethodName := ⟨RX2, "hasWays", "(I)Z"⟩
abbrev cX2_allWays : ByteArray := prog_4_method_8_code
def yX2_allWays : MethodName := ⟨RX2, "allWays", "()I"⟩
abbrev cX2_leftBy : ByteArray := prog_4_method_9_code
def yX2_leftBy : MethodName := ⟨RX2, "leftBy", "(I)I"⟩
abbrev cX2_secretsOf : ByteArray := prog_4_method_10_code
def yX2_secretsOf : MethodName := ⟨RX2, "secretsOf", "(I)I"⟩
abbrev cX2_costOf : ByteArray := prog_4_method_11_code
def yX2_costOf : MethodName := ⟨RX2, "costOf", "(I)I"⟩
abbrev cX2_likelyOf : ByteArray := prog_4_method_12_code
def yX2_likelyOf : MethodName := ⟨RX2, "likelyOf", "(I)I"⟩
abbrev cX2_beliefIn : ByteArray := prog_4_method_13_code
def yX2_beliefIn : MethodName := ⟨RX2, "beliefIn", "(II)I"⟩
def RX3 : String := "TurningWheel$Draws"
def TX3 : u_T := fun k => match k with
  | _ => ("TurningWheel$Draws", "state", "I", false)
def tyX3 : Nat → FieldType := fun k => match k with
  | _ => .int
theorem nmX3 : ∀ a, a < 1 → ∀ b, b < 1 → a ≠ b → (TX3 a).2.1 ≠ (TX3 b).2.1 := by decide +kernel
theorem tyX3_ok : ∀ k, k < 1 → parseFieldDescriptor (TX3 k).2.2.1 = some (tyX3 k) := by decide +kernel
abbrev cX3_init : ByteArray := prog_5_method_1_code
def yX3_init : MethodName := ⟨RX3, "<init>", "()V"⟩
abbrev cX3_draw : ByteArray := prog_5_method_2_code
def yX3_draw : MethodName := ⟨RX3, "draw", "(I)I"⟩
def RX4 : String := "TurningWheel$Hearsay"
def TX4 : u_T := fun k => match k with
  | 0 => ("TurningWheel$Hearsay", "daysAgo", "[I", true)
  | 1 => ("TurningWheel$Hearsay", "came", "[Z", true)
  | _ => ("TurningWheel$Hearsay", "count", "I", false)
def tyX4 : Nat → FieldType := fun k => match k with
  | 0 => .array .int
  | 1 => .array .boolean
  | _ => .int
theorem nmX4 : ∀ a, a < 3 → ∀ b, b < 3 → a ≠ b → (TX4 a).2.1 ≠ (TX4 b).2.1 := by decide +kernel
theorem tyX4_ok : ∀ k, k < 3 → parseFieldDescriptor (TX4 k).2.2.1 = some (tyX4 k) := by decide +kernel
abbrev cX4_init : ByteArray := prog_6_method_1_code
def yX4_init : MethodName := ⟨RX4, "<init>", "()V"⟩
abbrev cX4_add : ByteArray := prog_6_method_2_code
def yX4_add : MethodName := ⟨RX4, "add", "(IZ)Z"⟩
abbrev cX4_fitting : ByteArray := prog_6_method_3_code
def yX4_fitting : MethodName := ⟨RX4, "fitting", "(I)I"⟩
abbrev cX4_fits : ByteArray := prog_6_method_4_code
def yX4_fits : MethodName := ⟨RX4, "fits", "(II)Z"⟩
abbrev cX4_gotMoney : ByteArray := prog_6_method_5_code
def yX4_gotMoney : MethodName := ⟨RX4, "gotMoney", "(III)Z"⟩
abbrev cX4_bestQuestion : ByteArray := prog_6_method_6_code
def yX4_bestQuestion : MethodName := ⟨RX4, "bestQuestion", "(I)I"⟩
abbrev cX4_greaterPart : ByteArray := prog_6_method_7_code
def yX4_greaterPart : MethodName := ⟨RX4, "greaterPart", "(III)I"⟩
def RX5 : String := "TurningWheel$History"
def TX5 : u_T := fun k => match k with
  | 0 => ("TurningWheel$History", "past", "[LTurningWheel$Affairs;", true)
  | 1 => ("TurningWheel$History", "end", "I", false)
  | _ => ("TurningWheel$History", "count", "I", false)
def tyX5 : Nat → FieldType := fun k => match k with
  | 0 => .array (.object "TurningWheel$Affairs")
  | 1 => .int
  | _ => .int
theorem nmX5 : ∀ a, a < 3 → ∀ b, b < 3 → a ≠ b → (TX5 a).2.1 ≠ (TX5 b).2.1 := by decide +kernel
theorem tyX5_ok : ∀ k, k < 3 → parseFieldDescriptor (TX5 k).2.2.1 = some (tyX5 k) := by decide +kernel
abbrev cX5_init : ByteArray := prog_7_method_1_code
def yX5_init : MethodName := ⟨RX5, "<init>", "()V"⟩
abbrev cX5_remember : ByteArray := prog_7_method_2_code
def yX5_remember : MethodName := ⟨RX5, "remember", "(LTurningWheel$Affairs;)V"⟩
abbrev cX5_recall : ByteArray := prog_7_method_3_code
def yX5_recall : MethodName := ⟨RX5, "recall", "(LTurningWheel$Affairs;)V"⟩
abbrev cX5_forget : ByteArray := prog_7_method_4_code
def yX5_forget : MethodName := ⟨RX5, "forget", "()V"⟩
def RX6 : String := "TurningWheel$Image"
def TX6 : u_T := fun k => match k with
  | 0 => ("TurningWheel$Image", "kept", "Z", false)
  | 1 => ("TurningWheel$Image", "affairs", "LTurningWheel$Affairs;", true)
  | _ => ("TurningWheel$Image", "drawState", "I", false)
def tyX6 : Nat → FieldType := fun k => match k with
  | 0 => .boolean
  | 1 => .object "TurningWheel$Affairs"
  | _ => .int
theorem nmX6 : ∀ a, a < 3 → ∀ b, b < 3 → a ≠ b → (TX6 a).2.1 ≠ (TX6 b).2.1 := by decide +kernel
theorem tyX6_ok : ∀ k, k < 3 → parseFieldDescriptor (TX6 k).2.2.1 = some (tyX6 k) := by decide +kernel
abbrev cX6_init : ByteArray := prog_8_method_1_code
def yX6_init : MethodName := ⟨RX6, "<init>", "()V"⟩
def RX7 : String := "TurningWheel$Reader"
def TX7 : u_T := fun k => match k with
  | 0 => ("TurningWheel$Reader", "letters", "[I", true)
  | 1 => ("TurningWheel$Reader", "length", "I", false)
  | 2 => ("TurningWheel$Reader", "at", "I", false)
  | 3 => ("TurningWheel$Reader", "into", "LTurningWheel$Castle;", false)
  | 4 => ("TurningWheel$Reader", "payTold", "Z", false)
  | 5 => ("TurningWheel$Reader", "number", "I", false)
  | 6 => ("TurningWheel$Reader", "numberPlace", "I", false)
  | 7 => ("TurningWheel$Reader", "kind", "I", false)
  | _ => ("TurningWheel$Reader", "place", "I", false)
def tyX7 : Nat → FieldType := fun k => match k with
  | 0 => .array .int
  | 1 => .int
  | 2 => .int
  | 3 => .object "TurningWheel$Castle"
  | 4 => .boolean
  | 5 => .int
  | 6 => .int
  | 7 => .int
  | _ => .int
theorem nmX7 : ∀ a, a < 9 → ∀ b, b < 9 → a ≠ b → (TX7 a).2.1 ≠ (TX7 b).2.1 := by decide +kernel
theorem tyX7_ok : ∀ k, k < 9 → parseFieldDescriptor (TX7 k).2.2.1 = some (tyX7 k) := by decide +kernel
abbrev cX7_init : ByteArray := prog_9_method_1_code
def yX7_init : MethodName := ⟨RX7, "<init>", "([I)V"⟩
abbrev cX7_readText : ByteArray := prog_9_method_2_code
def yX7_readText : MethodName := ⟨RX7, "readText", "(I)I"⟩
abbrev cX7_exchange : ByteArray := prog_9_method_3_code
def yX7_exchange : MethodName := ⟨RX7, "exchange", "(LTurningWheel$Castle;)LTurningWheel$Castle;"⟩
abbrev cX7_readWays : ByteArray := prog_9_method_4_code
def yX7_readWays : MethodName := ⟨RX7, "readWays", "()Z"⟩
abbrev cX7_readWay : ByteArray := prog_9_method_5_code
def yX7_readWay : MethodName := ⟨RX7, "readWay", "()Z"⟩
abbrev cX7_readClause : ByteArray := prog_9_method_6_code
def yX7_readClause : MethodName := ⟨RX7, "readClause", "()Z"⟩
abbrev cX7_readTest : ByteArray := prog_9_method_7_code
def yX7_readTest : MethodName := ⟨RX7, "readTest", "()Z"⟩
abbrev cX7_readServant : ByteArray := prog_9_method_8_code
def yX7_readServant : MethodName := ⟨RX7, "readServant", "()Z"⟩
abbrev cX7_readPay : ByteArray := prog_9_method_9_code
def yX7_readPay : MethodName := ⟨RX7, "readPay", "()Z"⟩
abbrev cX7_readWaySet : ByteArray := prog_9_method_10_code
def yX7_readWaySet : MethodName := ⟨RX7, "readWaySet", "(I)Z"⟩
abbrev cX7_readNumber : ByteArray := prog_9_method_11_code
def yX7_readNumber : MethodName := ⟨RX7, "readNumber", "(II)Z"⟩
abbrev cX7_take : ByteArray := prog_9_method_12_code
def yX7_take : MethodName := ⟨RX7, "take", "(I)Z"⟩
abbrev cX7_letter : ByteArray := prog_9_method_13_code
def yX7_letter : MethodName := ⟨RX7, "letter", "()I"⟩
abbrev cX7_skipBlanks : ByteArray := prog_9_method_14_code
def yX7_skipBlanks : MethodName := ⟨RX7, "skipBlanks", "()V"⟩
abbrev cX7_isFigure : ByteArray := prog_9_method_15_code
def yX7_isFigure : MethodName := ⟨RX7, "isFigure", "(I)Z"⟩
abbrev cX7_refuse : ByteArray := prog_9_method_16_code
def yX7_refuse : MethodName := ⟨RX7, "refuse", "(II)Z"⟩
def RX8 : String := "TurningWheel"
def TX8 : u_T := fun k => match k with
  | 0 => ("TurningWheel", "text", "[I", true)
  | 1 => ("TurningWheel", "letters", "I", false)
  | 2 => ("TurningWheel", "faultPlace", "I", false)
  | 3 => ("TurningWheel", "reader", "LTurningWheel$Reader;", true)
  | 4 => ("TurningWheel", "plan", "LTurningWheel$Castle;", false)
  | 5 => ("TurningWheel", "now", "LTurningWheel$Affairs;", true)
  | 6 => ("TurningWheel", "history", "LTurningWheel$History;", true)
  | 7 => ("TurningWheel", "hearsay", "LTurningWheel$Hearsay;", true)
  | 8 => ("TurningWheel", "book", "LTurningWheel$Book;", true)
  | 9 => ("TurningWheel", "draws", "LTurningWheel$Draws;", true)
  | _ => ("TurningWheel", "images", "[LTurningWheel$Image;", true)
def tyX8 : Nat → FieldType := fun k => match k with
  | 0 => .array .int
  | 1 => .int
  | 2 => .int
  | 3 => .object "TurningWheel$Reader"
  | 4 => .object "TurningWheel$Castle"
  | 5 => .object "TurningWheel$Affairs"
  | 6 => .object "TurningWheel$History"
  | 7 => .object "TurningWheel$Hearsay"
  | 8 => .object "TurningWheel$Book"
  | 9 => .object "TurningWheel$Draws"
  | _ => .array (.object "TurningWheel$Image")
theorem nmX8 : ∀ a, a < 11 → ∀ b, b < 11 → a ≠ b → (TX8 a).2.1 ≠ (TX8 b).2.1 := by decide +kernel
theorem tyX8_ok : ∀ k, k < 11 → parseFieldDescriptor (TX8 k).2.2.1 = some (tyX8 k) := by decide +kernel
abbrev cX8_init : ByteArray := prog_1_method_1_code
def yX8_init : MethodName := ⟨RX8, "<init>", "()V"⟩
abbrev cX8_feed : ByteArray := prog_1_method_2_code
def yX8_feed : MethodName := ⟨RX8, "feed", "(I)I"⟩
abbrev cX8_castle : ByteArray := prog_1_method_3_code
def yX8_castle : MethodName := ⟨RX8, "castle", "()I"⟩
abbrev cX8_fault : ByteArray := prog_1_method_4_code
def yX8_fault : MethodName := ⟨RX8, "fault", "()I"⟩
abbrev cX8_told : ByteArray := prog_1_method_5_code
def yX8_told : MethodName := ⟨RX8, "told", "(I)I"⟩
abbrev cX8_likely : ByteArray := prog_1_method_6_code
def yX8_likely : MethodName := ⟨RX8, "likely", "(I)I"⟩
abbrev cX8_test : ByteArray := prog_1_method_7_code
def yX8_test : MethodName := ⟨RX8, "test", "(II)I"⟩
abbrev cX8_servant : ByteArray := prog_1_method_8_code
def yX8_servant : MethodName := ⟨RX8, "servant", "(II)I"⟩
abbrev cX8_day : ByteArray := prog_1_method_9_code
def yX8_day : MethodName := ⟨RX8, "day", "(I)I"⟩
abbrev cX8_make : ByteArray := prog_1_method_10_code
def yX8_make : MethodName := ⟨RX8, "make", "(I)I"⟩
abbrev cX8_seal : ByteArray := prog_1_method_11_code
def yX8_seal : MethodName := ⟨RX8, "seal", "(Z)I"⟩
abbrev cX8_smash : ByteArray := prog_1_method_12_code
def yX8_smash : MethodName := ⟨RX8, "smash", "()I"⟩
abbrev cX8_hire : ByteArray := prog_1_method_13_code
def yX8_hire : MethodName := ⟨RX8, "hire", "(IZ)I"⟩
abbrev cX8_buy : ByteArray := prog_1_method_14_code
def yX8_buy : MethodName := ⟨RX8, "buy", "(III)I"⟩
abbrev cX8_drift : ByteArray := prog_1_method_15_code
def yX8_drift : MethodName := ⟨RX8, "drift", "(I)I"⟩
abbrev cX8_undo : ByteArray := prog_1_method_16_code
def yX8_undo : MethodName := ⟨RX8, "undo", "()I"⟩
abbrev cX8_belief : ByteArray := prog_1_method_17_code
def yX8_belief : MethodName := ⟨RX8, "belief", "(I)I"⟩
abbrev cX8_liars : ByteArray := prog_1_method_18_code
def yX8_liars : MethodName := ⟨RX8, "liars", "(I)I"⟩
abbrev cX8_leastLiars : ByteArray := prog_1_method_19_code
def yX8_leastLiars : MethodName := ⟨RX8, "leastLiars", "(I)I"⟩
abbrev cX8_ruleOut : ByteArray := prog_1_method_20_code
def yX8_ruleOut : MethodName := ⟨RX8, "ruleOut", "(III)I"⟩
abbrev cX8_next : ByteArray := prog_1_method_21_code
def yX8_next : MethodName := ⟨RX8, "next", "()I"⟩
abbrev cX8_offer : ByteArray := prog_1_method_22_code
def yX8_offer : MethodName := ⟨RX8, "offer", "(II)I"⟩
abbrev cX8_both : ByteArray := prog_1_method_23_code
def yX8_both : MethodName := ⟨RX8, "both", "(III)I"⟩
abbrev cX8_worth : ByteArray := prog_1_method_24_code
def yX8_worth : MethodName := ⟨RX8, "worth", "(II)I"⟩
abbrev cX8_secret : ByteArray := prog_1_method_25_code
def yX8_secret : MethodName := ⟨RX8, "secret", "(II)I"⟩
abbrev cX8_hear : ByteArray := prog_1_method_26_code
def yX8_hear : MethodName := ⟨RX8, "hear", "(IZ)I"⟩
abbrev cX8_paid : ByteArray := prog_1_method_27_code
def yX8_paid : MethodName := ⟨RX8, "paid", "()I"⟩
abbrev cX8_ask : ByteArray := prog_1_method_28_code
def yX8_ask : MethodName := ⟨RX8, "ask", "()I"⟩
abbrev cX8_write : ByteArray := prog_1_method_29_code
def yX8_write : MethodName := ⟨RX8, "write", "(I)I"⟩
abbrev cX8_tear : ByteArray := prog_1_method_30_code
def yX8_tear : MethodName := ⟨RX8, "tear", "()I"⟩
abbrev cX8_judge : ByteArray := prog_1_method_31_code
def yX8_judge : MethodName := ⟨RX8, "judge", "()I"⟩
abbrev cX8_seed : ByteArray := prog_1_method_32_code
def yX8_seed : MethodName := ⟨RX8, "seed", "(I)I"⟩
abbrev cX8_keep : ByteArray := prog_1_method_33_code
def yX8_keep : MethodName := ⟨RX8, "keep", "(I)I"⟩
abbrev cX8_goBack : ByteArray := prog_1_method_34_code
def yX8_goBack : MethodName := ⟨RX8, "goBack", "(I)I"⟩
abbrev cX8_within : ByteArray := prog_1_method_35_code
def yX8_within : MethodName := ⟨RX8, "within", "(III)Z"⟩
abbrev cX8_has : ByteArray := prog_1_method_36_code
def yX8_has : MethodName := ⟨RX8, "has", "(II)Z"⟩
abbrev cX8_beginAnew : ByteArray := prog_1_method_37_code
def yX8_beginAnew : MethodName := ⟨RX8, "beginAnew", "()V"⟩
abbrev cX8_waysLeft : ByteArray := prog_1_method_38_code
def yX8_waysLeft : MethodName := ⟨RX8, "waysLeft", "()I"⟩
abbrev cX8_spent : ByteArray := prog_1_method_39_code
def yX8_spent : MethodName := ⟨RX8, "spent", "()I"⟩
abbrev cX8_refusalOfDays : ByteArray := prog_1_method_40_code
def yX8_refusalOfDays : MethodName := ⟨RX8, "refusalOfDays", "(I)I"⟩
abbrev cX8_doByDraw : ByteArray := prog_1_method_41_code
def yX8_doByDraw : MethodName := ⟨RX8, "doByDraw", "()V"⟩
abbrev cX8_liarsBy : ByteArray := prog_1_method_42_code
def yX8_liarsBy : MethodName := ⟨RX8, "liarsBy", "(I)I"⟩
abbrev cX8_wayOfFewestLiars : ByteArray := prog_1_method_43_code
def yX8_wayOfFewestLiars : MethodName := ⟨RX8, "wayOfFewestLiars", "()I"⟩
abbrev cX8_cheapestTests : ByteArray := prog_1_method_44_code
def yX8_cheapestTests : MethodName := ⟨RX8, "cheapestTests", "(II)I"⟩
abbrev cX8_costYet : ByteArray := prog_1_method_45_code
def yX8_costYet : MethodName := ⟨RX8, "costYet", "(I)I"⟩
abbrev cX8_offerFor : ByteArray := prog_1_method_46_code
def yX8_offerFor : MethodName := ⟨RX8, "offerFor", "(III)I"⟩
def RX9 : String := "TurningWheelModel"
def TX9 : u_T := fun k => match k with
  | 0 => ("TurningWheelModel", "text", "[I", true)
  | 1 => ("TurningWheelModel", "letters", "I", false)
  | 2 => ("TurningWheelModel", "faultAt", "I", false)
  | 3 => ("TurningWheelModel", "law", "[I", true)
  | 4 => ("TurningWheelModel", "likely", "[I", true)
  | 5 => ("TurningWheelModel", "tests", "[I", true)
  | 6 => ("TurningWheelModel", "servants", "[I", true)
  | 7 => ("TurningWheelModel", "draftLaw", "[I", true)
  | 8 => ("TurningWheelModel", "draftLikely", "[I", true)
  | 9 => ("TurningWheelModel", "draftTests", "[I", true)
  | 10 => ("TurningWheelModel", "draftServants", "[I", true)
  | 11 => ("TurningWheelModel", "now", "[I", true)
  | 12 => ("TurningWheelModel", "past", "[I", true)
  | 13 => ("TurningWheelModel", "deeds", "I", false)
  | 14 => ("TurningWheelModel", "images", "[I", true)
  | 15 => ("TurningWheelModel", "imageSeeds", "[I", true)
  | 16 => ("TurningWheelModel", "kept", "[Z", true)
  | 17 => ("TurningWheelModel", "seed", "I", false)
  | 18 => ("TurningWheelModel", "heard", "[I", true)
  | 19 => ("TurningWheelModel", "sounds", "I", false)
  | 20 => ("TurningWheelModel", "book", "[I", true)
  | 21 => ("TurningWheelModel", "entries", "I", false)
  | 22 => ("TurningWheelModel", "at", "I", false)
  | _ => ("TurningWheelModel", "wrong", "I", false)
def tyX9 : Nat → FieldType := fun k => match k with
  | 0 => .array .int
  | 1 => .int
  | 2 => .int
  | 3 => .array .int
  | 4 => .array .int
  | 5 => .array .int
  | 6 => .array .int
  | 7 => .array .int
  | 8 => .array .int
  | 9 => .array .int
  | 10 => .array .int
  | 11 => .array .int
  | 12 => .array .int
  | 13 => .int
  | 14 => .array .int
  | 15 => .array .int
  | 16 => .array .boolean
  | 17 => .int
  | 18 => .array .int
  | 19 => .int
  | 20 => .array .int
  | 21 => .int
  | 22 => .int
  | _ => .int
theorem nmX9 : ∀ a, a < 24 → ∀ b, b < 24 → a ≠ b → (TX9 a).2.1 ≠ (TX9 b).2.1 := by decide +kernel
theorem tyX9_ok : ∀ k, k < 24 → parseFieldDescriptor (TX9 k).2.2.1 = some (tyX9 k) := by decide +kernel
abbrev cX9_init : ByteArray := prog_11_method_1_code
def yX9_init : MethodName := ⟨RX9, "<init>", "()V"⟩
abbrev cX9_in : ByteArray := prog_11_method_3_code
def yX9_in : MethodName := ⟨RX9, "in", "(III)Z"⟩
abbrev cX9_has : ByteArray := prog_11_method_4_code
def yX9_has : MethodName := ⟨RX9, "has", "(II)Z"⟩
abbrev cX9_ones : ByteArray := prog_11_method_5_code
def yX9_ones : MethodName := ⟨RX9, "ones", "(I)I"⟩
abbrev cX9_feed : ByteArray := prog_11_method_6_code
def yX9_feed : MethodName := ⟨RX9, "feed", "(I)I"⟩
abbrev cX9_look : ByteArray := prog_11_method_7_code
def yX9_look : MethodName := ⟨RX9, "look", "()I"⟩
abbrev cX9_skips : ByteArray := prog_11_method_8_code
def yX9_skips : MethodName := ⟨RX9, "skips", "()V"⟩
abbrev cX9_fails : ByteArray := prog_11_method_9_code
def yX9_fails : MethodName := ⟨RX9, "fails", "(I)V"⟩
abbrev cX9_word : ByteArray := prog_11_method_10_code
def yX9_word : MethodName := ⟨RX9, "word", "(I)V"⟩
abbrev cX9_number : ByteArray := prog_11_method_11_code
def yX9_number : MethodName := ⟨RX9, "number", "(II)I"⟩
abbrev cX9_opens : ByteArray := prog_11_method_12_code
def yX9_opens : MethodName := ⟨RX9, "opens", "(Z)Z"⟩
abbrev cX9_readsWays : ByteArray := prog_11_method_13_code
def yX9_readsWays : MethodName := ⟨RX9, "readsWays", "()V"⟩
abbrev cX9_waysOf : ByteArray := prog_11_method_14_code
def yX9_waysOf : MethodName := ⟨RX9, "waysOf", "(II)I"⟩
abbrev cX9_allOf : ByteArray := prog_11_method_15_code
def yX9_allOf : MethodName := ⟨RX9, "allOf", "(I)I"⟩
abbrev cX9_readsTest : ByteArray := prog_11_method_16_code
def yX9_readsTest : MethodName := ⟨RX9, "readsTest", "()V"⟩
abbrev cX9_readsServant : ByteArray := prog_11_method_17_code
def yX9_readsServant : MethodName := ⟨RX9, "readsServant", "()V"⟩
abbrev cX9_readsPay : ByteArray := prog_11_method_18_code
def yX9_readsPay : MethodName := ⟨RX9, "readsPay", "()V"⟩
abbrev cX9_reads : ByteArray := prog_11_method_19_code
def yX9_reads : MethodName := ⟨RX9, "reads", "()V"⟩
abbrev cX9_copies : ByteArray := prog_11_method_20_code
def yX9_copies : MethodName := ⟨RX9, "copies", "([II[III)V"⟩
abbrev cX9_castle : ByteArray := prog_11_method_21_code
def yX9_castle : MethodName := ⟨RX9, "castle", "()I"⟩
abbrev cX9_fault : ByteArray := prog_11_method_22_code
def yX9_fault : MethodName := ⟨RX9, "fault", "()I"⟩
abbrev cX9_isCastle : ByteArray := prog_11_method_23_code
def yX9_isCastle : MethodName := ⟨RX9, "isCastle", "()Z"⟩
abbrev cX9_isWay : ByteArray := prog_11_method_24_code
def yX9_isWay : MethodName := ⟨RX9, "isWay", "(I)Z"⟩
abbrev cX9_areWays : ByteArray := prog_11_method_25_code
def yX9_areWays : MethodName := ⟨RX9, "areWays", "(I)Z"⟩
abbrev cX9_isTest : ByteArray := prog_11_method_26_code
def yX9_isTest : MethodName := ⟨RX9, "isTest", "(I)Z"⟩
abbrev cX9_isServant : ByteArray := prog_11_method_27_code
def yX9_isServant : MethodName := ⟨RX9, "isServant", "(I)Z"⟩
abbrev cX9_leftBy : ByteArray := prog_11_method_28_code
def yX9_leftBy : MethodName := ⟨RX9, "leftBy", "(I)I"⟩
abbrev cX9_shownBy : ByteArray := prog_11_method_29_code
def yX9_shownBy : MethodName := ⟨RX9, "shownBy", "(I)I"⟩
abbrev cX9_spent : ByteArray := prog_11_method_30_code
def yX9_spent : MethodName := ⟨RX9, "spent", "()I"⟩
abbrev cX9_told : ByteArray := prog_11_method_31_code
def yX9_told : MethodName := ⟨RX9, "told", "(I)I"⟩
abbrev cX9_likely : ByteArray := prog_11_method_32_code
def yX9_likely : MethodName := ⟨RX9, "likely", "(I)I"⟩
abbrev cX9_test : ByteArray := prog_11_method_33_code
def yX9_test : MethodName := ⟨RX9, "test", "(II)I"⟩
abbrev cX9_servant : ByteArray := prog_11_method_34_code
def yX9_servant : MethodName := ⟨RX9, "servant", "(II)I"⟩
abbrev cX9_notes : ByteArray := prog_11_method_35_code
def yX9_notes : MethodName := ⟨RX9, "notes", "()V"⟩
abbrev cX9_gets : ByteArray := prog_11_method_36_code
def yX9_gets : MethodName := ⟨RX9, "gets", "(II)V"⟩
abbrev cX9_passes : ByteArray := prog_11_method_37_code
def yX9_passes : MethodName := ⟨RX9, "passes", "()V"⟩
abbrev cX9_barred : ByteArray := prog_11_method_38_code
def yX9_barred : MethodName := ⟨RX9, "barred", "(I)I"⟩
abbrev cX9_day : ByteArray := prog_11_method_39_code
def yX9_day : MethodName := ⟨RX9, "day", "(I)I"⟩
abbrev cX9_canBe : ByteArray := prog_11_method_40_code
def yX9_canBe : MethodName := ⟨RX9, "canBe", "(I)Z"⟩
abbrev cX9_make : ByteArray := prog_11_method_41_code
def yX9_make : MethodName := ⟨RX9, "make", "(I)I"⟩
abbrev cX9_seal : ByteArray := prog_11_method_42_code
def yX9_seal : MethodName := ⟨RX9, "seal", "(Z)I"⟩
abbrev cX9_smash : ByteArray := prog_11_method_43_code
def yX9_smash : MethodName := ⟨RX9, "smash", "()I"⟩
abbrev cX9_hires : ByteArray := prog_11_method_44_code
def yX9_hires : MethodName := ⟨RX9, "hires", "(IZ)V"⟩
abbrev cX9_hire : ByteArray := prog_11_method_45_code
def yX9_hire : MethodName := ⟨RX9, "hire", "(IZ)I"⟩
abbrev cX9_buy : ByteArray := prog_11_method_46_code
def yX9_buy : MethodName := ⟨RX9, "buy", "(III)I"⟩
abbrev cX9_draw : ByteArray := prog_11_method_47_code
def yX9_draw : MethodName := ⟨RX9, "draw", "(I)I"⟩
abbrev cX9_drift : ByteArray := prog_11_method_48_code
def yX9_drift : MethodName := ⟨RX9, "drift", "(I)I"⟩
abbrev cX9_undo : ByteArray := prog_11_method_49_code
def yX9_undo : MethodName := ⟨RX9, "undo", "()I"⟩
abbrev cX9_likelyIn : ByteArray := prog_11_method_50_code
def yX9_likelyIn : MethodName := ⟨RX9, "likelyIn", "(I)I"⟩
abbrev cX9_beliefBy : ByteArray := prog_11_method_51_code
def yX9_beliefBy : MethodName := ⟨RX9, "beliefBy", "(II)I"⟩
abbrev cX9_belief : ByteArray := prog_11_method_52_code
def yX9_belief : MethodName := ⟨RX9, "belief", "(I)I"⟩
abbrev cX9_liarsBy : ByteArray := prog_11_method_53_code
def yX9_liarsBy : MethodName := ⟨RX9, "liarsBy", "(I)I"⟩
abbrev cX9_liars : ByteArray := prog_11_method_54_code
def yX9_liars : MethodName := ⟨RX9, "liars", "(I)I"⟩
abbrev cX9_leastLiars : ByteArray := prog_11_method_55_code
def yX9_leastLiars : MethodName := ⟨RX9, "leastLiars", "(I)I"⟩
abbrev cX9_costOf : ByteArray := prog_11_method_56_code
def yX9_costOf : MethodName := ⟨RX9, "costOf", "(I)I"⟩
abbrev cX9_ruleOut : ByteArray := prog_11_method_57_code
def yX9_ruleOut : MethodName := ⟨RX9, "ruleOut", "(III)I"⟩
abbrev cX9_next : ByteArray := prog_11_method_58_code
def yX9_next : MethodName := ⟨RX9, "next", "()I"⟩
abbrev cX9_offerBy : ByteArray := prog_11_method_59_code
def yX9_offerBy : MethodName := ⟨RX9, "offerBy", "(III)I"⟩
abbrev cX9_offer : ByteArray := prog_11_method_60_code
def yX9_offer : MethodName := ⟨RX9, "offer", "(II)I"⟩
abbrev cX9_both : ByteArray := prog_11_method_61_code
def yX9_both : MethodName := ⟨RX9, "both", "(III)I"⟩
abbrev cX9_worth : ByteArray := prog_11_method_62_code
def yX9_worth : MethodName := ⟨RX9, "worth", "(II)I"⟩
abbrev cX9_secret : ByteArray := prog_11_method_63_code
def yX9_secret : MethodName := ⟨RX9, "secret", "(II)I"⟩
abbrev cX9_hear : ByteArray := prog_11_method_64_code
def yX9_hear : MethodName := ⟨RX9, "hear", "(IZ)I"⟩
abbrev cX9_gotBy : ByteArray := prog_11_method_65_code
def yX9_gotBy : MethodName := ⟨RX9, "gotBy", "(II)I"⟩
abbrev cX9_paidSet : ByteArray := prog_11_method_66_code
def yX9_paidSet : MethodName := ⟨RX9, "paidSet", "()I"⟩
abbrev cX9_paid : ByteArray := prog_11_method_67_code
def yX9_paid : MethodName := ⟨RX9, "paid", "()I"⟩
abbrev cX9_ask : ByteArray := prog_11_method_68_code
def yX9_ask : MethodName := ⟨RX9, "ask", "()I"⟩
abbrev cX9_write : ByteArray := prog_11_method_69_code
def yX9_write : MethodName := ⟨RX9, "write", "(I)I"⟩
abbrev cX9_tear : ByteArray := prog_11_method_70_code
def yX9_tear : MethodName := ⟨RX9, "tear", "()I"⟩
abbrev cX9_judge : ByteArray := prog_11_method_71_code
def yX9_judge : MethodName := ⟨RX9, "judge", "()I"⟩
abbrev cX9_seed : ByteArray := prog_11_method_72_code
def yX9_seed : MethodName := ⟨RX9, "seed", "(I)I"⟩
abbrev cX9_keep : ByteArray := prog_11_method_73_code
def yX9_keep : MethodName := ⟨RX9, "keep", "(I)I"⟩
abbrev cX9_goBack : ByteArray := prog_11_method_74_code
def yX9_goBack : MethodName := ⟨RX9, "goBack", "(I)I"⟩
def RJ6 : String := "java/lang/Integer"
abbrev cJ6_bitCount_0f7a4 : ByteArray := prog_12_method_49_code
def yJ6_bitCount_0f7a4 : MethodName := ⟨RJ6, "bitCount", "(I)I"⟩
def RJ9 : String := "java/lang/Math"
abbrev cJ9_max_7cf53 : ByteArray := prog_13_method_65_code
def yJ9_max_7cf53 : MethodName := ⟨RJ9, "max", "(II)I"⟩
abbrev cJ9_min_7cf53 : ByteArray := prog_13_method_69_code
def yJ9_min_7cf53 : MethodName := ⟨RJ9, "min", "(II)I"⟩
def RL : String := "TurningWheelLaw"
abbrev cL_law : ByteArray := code
def yL_law : MethodName := ⟨RL, "law", "([I)Z"⟩
abbrev vwCl : List vw_C := [(RX0, TX0, 9), (RX1, TX1, 2), (RX2, TX2, 11), (RX3, TX3, 1), (RX4, TX4, 3), (RX5, TX5, 3), (RX6, TX6, 3), (RX7, TX7, 9), (RX8, TX8, 11), (RX9, TX9, 24)]
abbrev Card : Type := MethodName × ByteArray × Nat × Option FieldType
abbrev YX0_init : Card := (yX0_init, cX0_init, 1, none)
abbrev YX0_begin : Card := (yX0_begin, cX0_begin, 3, none)
abbrev YX0_copyFrom : Card := (yX0_copyFrom, cX0_copyFrom, 3, none)
abbrev YX0_passDay : Card := (yX0_passDay, cX0_passDay, 3, none)
abbrev YX0_canMake : Card := (yX0_canMake, cX0_canMake, 3, (some .boolean))
abbrev YX0_setHired : Card := (yX0_setHired, cX0_setHired, 3, none)
abbrev YX0_give : Card := (yX0_give, cX0_give, 3, none)
abbrev YX1_init : Card := (yX1_init, cX1_init, 1, none)
abbrev YX1_add : Card := (yX1_add, cX1_add, 2, (some .boolean))
abbrev YX1_firstOtherThan : Card := (yX1_firstOtherThan, cX1_firstOtherThan, 3, (some .int))
abbrev YX2_init : Card := (yX2_init, cX2_init, 1, none)
abbrev YX2_clear : Card := (yX2_clear, cX2_clear, 1, none)
abbrev YX2_stands : Card := (yX2_stands, cX2_stands, 1, (some .boolean))
abbrev YX2_hasWay : Card := (yX2_hasWay, cX2_hasWay, 2, (some .boolean))
abbrev YX2_hasTest : Card := (yX2_hasTest, cX2_hasTest, 2, (some .boolean))
abbrev YX2_hasServant : Card := (yX2_hasServant, cX2_hasServant, 2, (some .boolean))
abbrev YX2_hasWays : Card := (yX2_hasWays, cX2_hasWays, 2, (some .boolean))
abbrev YX2_allWays : Card := (yX2_allWays, cX2_allWays, 1, (some .int))
abbrev YX2_leftBy : Card := (yX2_leftBy, cX2_leftBy, 4, (some .int))
abbrev YX2_secretsOf : Card := (yX2_secretsOf, cX2_secretsOf, 4, (some .int))
abbrev YX2_costOf : Card := (yX2_costOf, cX2_costOf, 4, (some .int))
abbrev YX2_likelyOf : Card := (yX2_likelyOf, cX2_likelyOf, 4, (some .int))
abbrev YX2_beliefIn : Card := (yX2_beliefIn, cX2_beliefIn, 4, (some .int))
abbrev YX3_init : Card := (yX3_init, cX3_init, 1, none)
abbrev YX3_draw : Card := (yX3_draw, cX3_draw, 2, (some .int))
abbrev YX4_init : Card := (yX4_init, cX4_init, 1, none)
abbrev YX4_add : Card := (yX4_add, cX4_add, 3, (some .boolean))
abbrev YX4_fitting : Card := (yX4_fitting, cX4_fitting, 4, (some .int))
abbrev YX4_fits : Card := (yX4_fits, cX4_fits, 4, (some .boolean))
abbrev YX4_gotMoney : Card := (yX4_gotMoney, cX4_gotMoney, 3, (some .boolean))
abbrev YX4_bestQuestion : Card := (yX4_bestQuestion, cX4_bestQuestion, 7, (some .int))
abbrev YX4_greaterPart : Card := (yX4_greaterPart, cX4_greaterPart, 5, (some .int))
abbrev YX5_init : Card := (yX5_init, cX5_init, 2, none)
abbrev YX5_remember : Card := (yX5_remember, cX5_remember, 2, none)
abbrev YX5_recall : Card := (yX5_recall, cX5_recall, 2, none)
abbrev YX5_forget : Card := (yX5_forget, cX5_forget, 1, none)
abbrev YX6_init : Card := (yX6_init, cX6_init, 1, none)
abbrev YX7_init : Card := (yX7_init, cX7_init, 2, none)
abbrev YX7_readText : Card := (yX7_readText, cX7_readText, 4, (some .int))
abbrev YX7_exchange : Card := (yX7_exchange, cX7_exchange, 3, (some (.object "TurningWheel$Castle")))
abbrev YX7_readWays : Card := (yX7_readWays, cX7_readWays, 2, (some .boolean))
abbrev YX7_readWay : Card := (yX7_readWay, cX7_readWay, 1, (some .boolean))
abbrev YX7_readClause : Card := (yX7_readClause, cX7_readClause, 1, (some .boolean))
abbrev YX7_readTest : Card := (yX7_readTest, cX7_readTest, 2, (some .boolean))
abbrev YX7_readServant : Card := (yX7_readServant, cX7_readServant, 2, (some .boolean))
abbrev YX7_readPay : Card := (yX7_readPay, cX7_readPay, 1, (some .boolean))
abbrev YX7_readWaySet : Card := (yX7_readWaySet, cX7_readWaySet, 2, (some .boolean))
abbrev YX7_readNumber : Card := (yX7_readNumber, cX7_readNumber, 3, (some .boolean))
abbrev YX7_take : Card := (yX7_take, cX7_take, 2, (some .boolean))
abbrev YX7_letter : Card := (yX7_letter, cX7_letter, 1, (some .int))
abbrev YX7_skipBlanks : Card := (yX7_skipBlanks, cX7_skipBlanks, 1, none)
abbrev YX7_isFigure : Card := (yX7_isFigure, cX7_isFigure, 1, (some .boolean))
abbrev YX7_refuse : Card := (yX7_refuse, cX7_refuse, 3, (some .boolean))
abbrev YX8_init : Card := (yX8_init, cX8_init, 2, none)
abbrev YX8_feed : Card := (yX8_feed, cX8_feed, 2, (some .int))
abbrev YX8_castle : Card := (yX8_castle, cX8_castle, 2, (some .int))
abbrev YX8_fault : Card := (yX8_fault, cX8_fault, 1, (some .int))
abbrev YX8_told : Card := (yX8_told, cX8_told, 2, (some .int))
abbrev YX8_likely : Card := (yX8_likely, cX8_likely, 2, (some .int))
abbrev YX8_test : Card := (yX8_test, cX8_test, 3, (some .int))
abbrev YX8_servant : Card := (yX8_servant, cX8_servant, 3, (some .int))
abbrev YX8_day : Card := (yX8_day, cX8_day, 4, (some .int))
abbrev YX8_make : Card := (yX8_make, cX8_make, 2, (some .int))
abbrev YX8_seal : Card := (yX8_seal, cX8_seal, 3, (some .int))
abbrev YX8_smash : Card := (yX8_smash, cX8_smash, 1, (some .int))
abbrev YX8_hire : Card := (yX8_hire, cX8_hire, 4, (some .int))
abbrev YX8_buy : Card := (yX8_buy, cX8_buy, 4, (some .int))
abbrev YX8_drift : Card := (yX8_drift, cX8_drift, 4, (some .int))
abbrev YX8_undo : Card := (yX8_undo, cX8_undo, 1, (some .int))
abbrev YX8_belief : Card := (yX8_belief, cX8_belief, 2, (some .int))
abbrev YX8_liars : Card := (yX8_liars, cX8_liars, 2, (some .int))
abbrev YX8_leastLiars : Card := (yX8_leastLiars, cX8_leastLiars, 3, (some .int))
abbrev YX8_ruleOut : Card := (yX8_ruleOut, cX8_ruleOut, 5, (some .int))
abbrev YX8_next : Card := (yX8_next, cX8_next, 7, (some .int))
abbrev YX8_offer : Card := (yX8_offer, cX8_offer, 3, (some .int))
abbrev YX8_both : Card := (yX8_both, cX8_both, 5, (some .int))
abbrev YX8_worth : Card := (yX8_worth, cX8_worth, 5, (some .int))
abbrev YX8_secret : Card := (yX8_secret, cX8_secret, 5, (some .int))
abbrev YX8_hear : Card := (yX8_hear, cX8_hear, 3, (some .int))
abbrev YX8_paid : Card := (yX8_paid, cX8_paid, 1, (some .int))
abbrev YX8_ask : Card := (yX8_ask, cX8_ask, 1, (some .int))
abbrev YX8_write : Card := (yX8_write, cX8_write, 2, (some .int))
abbrev YX8_tear : Card := (yX8_tear, cX8_tear, 2, (some .int))
abbrev YX8_judge : Card := (yX8_judge, cX8_judge, 1, (some .int))
abbrev YX8_seed : Card := (yX8_seed, cX8_seed, 3, (some .int))
abbrev YX8_keep : Card := (yX8_keep, cX8_keep, 2, (some .int))
abbrev YX8_goBack : Card := (yX8_goBack, cX8_goBack, 2, (some .int))
abbrev YX8_within : Card := (yX8_within, cX8_within, 3, (some .boolean))
abbrev YX8_has : Card := (yX8_has, cX8_has, 2, (some .boolean))
abbrev YX8_beginAnew : Card := (yX8_beginAnew, cX8_beginAnew, 2, none)
abbrev YX8_waysLeft : Card := (yX8_waysLeft, cX8_waysLeft, 1, (some .int))
abbrev YX8_spent : Card := (yX8_spent, cX8_spent, 3, (some .int))
abbrev YX8_refusalOfDays : Card := (yX8_refusalOfDays, cX8_refusalOfDays, 2, (some .int))
abbrev YX8_doByDraw : Card := (yX8_doByDraw, cX8_doByDraw, 3, none)
abbrev YX8_liarsBy : Card := (yX8_liarsBy, cX8_liarsBy, 4, (some .int))
abbrev YX8_wayOfFewestLiars : Card := (yX8_wayOfFewestLiars, cX8_wayOfFewestLiars, 6, (some .int))
abbrev YX8_cheapestTests : Card := (yX8_cheapestTests, cX8_cheapestTests, 9, (some .int))
abbrev YX8_costYet : Card := (yX8_costYet, cX8_costYet, 2, (some .int))
abbrev YX8_offerFor : Card := (yX8_offerFor, cX8_offerFor, 6, (some .int))
abbrev YX9_init : Card := (yX9_init, cX9_init, 1, none)
abbrev YX9_in : Card := (yX9_in, cX9_in, 3, (some .boolean))
abbrev YX9_has : Card := (yX9_has, cX9_has, 2, (some .boolean))
abbrev YX9_ones : Card := (yX9_ones, cX9_ones, 3, (some .int))
abbrev YX9_feed : Card := (yX9_feed, cX9_feed, 2, (some .int))
abbrev YX9_look : Card := (yX9_look, cX9_look, 1, (some .int))
abbrev YX9_skips : Card := (yX9_skips, cX9_skips, 1, none)
abbrev YX9_fails : Card := (yX9_fails, cX9_fails, 2, none)
abbrev YX9_word : Card := (yX9_word, cX9_word, 2, none)
abbrev YX9_number : Card := (yX9_number, cX9_number, 5, (some .int))
abbrev YX9_opens : Card := (yX9_opens, cX9_opens, 2, (some .boolean))
abbrev YX9_readsWays : Card := (yX9_readsWays, cX9_readsWays, 1, none)
abbrev YX9_waysOf : Card := (yX9_waysOf, cX9_waysOf, 5, (some .int))
abbrev YX9_allOf : Card := (yX9_allOf, cX9_allOf, 1, (some .int))
abbrev YX9_readsTest : Card := (yX9_readsTest, cX9_readsTest, 2, none)
abbrev YX9_readsServant : Card := (yX9_readsServant, cX9_readsServant, 2, none)
abbrev YX9_readsPay : Card := (yX9_readsPay, cX9_readsPay, 1, none)
abbrev YX9_reads : Card := (yX9_reads, cX9_reads, 1, none)
abbrev YX9_copies : Card := (yX9_copies, cX9_copies, 6, none)
abbrev YX9_castle : Card := (yX9_castle, cX9_castle, 2, (some .int))
abbrev YX9_fault : Card := (yX9_fault, cX9_fault, 1, (some .int))
abbrev YX9_isCastle : Card := (yX9_isCastle, cX9_isCastle, 1, (some .boolean))
abbrev YX9_isWay : Card := (yX9_isWay, cX9_isWay, 2, (some .boolean))
abbrev YX9_areWays : Card := (yX9_areWays, cX9_areWays, 2, (some .boolean))
abbrev YX9_isTest : Card := (yX9_isTest, cX9_isTest, 2, (some .boolean))
abbrev YX9_isServant : Card := (yX9_isServant, cX9_isServant, 2, (some .boolean))
abbrev YX9_leftBy : Card := (yX9_leftBy, cX9_leftBy, 4, (some .int))
abbrev YX9_shownBy : Card := (yX9_shownBy, cX9_shownBy, 4, (some .int))
abbrev YX9_spent : Card := (yX9_spent, cX9_spent, 3, (some .int))
abbrev YX9_told : Card := (yX9_told, cX9_told, 2, (some .int))
abbrev YX9_likely : Card := (yX9_likely, cX9_likely, 2, (some .int))
abbrev YX9_test : Card := (yX9_test, cX9_test, 3, (some .int))
abbrev YX9_servant : Card := (yX9_servant, cX9_servant, 3, (some .int))
abbrev YX9_notes : Card := (yX9_notes, cX9_notes, 2, none)
abbrev YX9_gets : Card := (yX9_gets, cX9_gets, 4, none)
abbrev YX9_passes : Card := (yX9_passes, cX9_passes, 2, none)
abbrev YX9_barred : Card := (yX9_barred, cX9_barred, 2, (some .int))
abbrev YX9_day : Card := (yX9_day, cX9_day, 4, (some .int))
abbrev YX9_canBe : Card := (yX9_canBe, cX9_canBe, 2, (some .boolean))
abbrev YX9_make : Card := (yX9_make, cX9_make, 2, (some .int))
abbrev YX9_seal : Card := (yX9_seal, cX9_seal, 3, (some .int))
abbrev YX9_smash : Card := (yX9_smash, cX9_smash, 1, (some .int))
abbrev YX9_hires : Card := (yX9_hires, cX9_hires, 3, none)
abbrev YX9_hire : Card := (yX9_hire, cX9_hire, 4, (some .int))
abbrev YX9_buy : Card := (yX9_buy, cX9_buy, 4, (some .int))
abbrev YX9_draw : Card := (yX9_draw, cX9_draw, 2, (some .int))
abbrev YX9_drift : Card := (yX9_drift, cX9_drift, 6, (some .int))
abbrev YX9_undo : Card := (yX9_undo, cX9_undo, 1, (some .int))
abbrev YX9_likelyIn : Card := (yX9_likelyIn, cX9_likelyIn, 4, (some .int))
abbrev YX9_beliefBy : Card := (yX9_beliefBy, cX9_beliefBy, 3, (some .int))
abbrev YX9_belief : Card := (yX9_belief, cX9_belief, 2, (some .int))
abbrev YX9_liarsBy : Card := (yX9_liarsBy, cX9_liarsBy, 4, (some .int))
abbrev YX9_liars : Card := (yX9_liars, cX9_liars, 2, (some .int))
abbrev YX9_leastLiars : Card := (yX9_leastLiars, cX9_leastLiars, 5, (some .int))
abbrev YX9_costOf : Card := (yX9_costOf, cX9_costOf, 4, (some .int))
abbrev YX9_ruleOut : Card := (yX9_ruleOut, cX9_ruleOut, 7, (some .int))
abbrev YX9_next : Card := (yX9_next, cX9_next, 8, (some .int))
abbrev YX9_offerBy : Card := (yX9_offerBy, cX9_offerBy, 5, (some .int))
abbrev YX9_offer : Card := (yX9_offer, cX9_offer, 3, (some .int))
abbrev YX9_both : Card := (yX9_both, cX9_both, 5, (some .int))
abbrev YX9_worth : Card := (yX9_worth, cX9_worth, 3, (some .int))
abbrev YX9_secret : Card := (yX9_secret, cX9_secret, 5, (some .int))
abbrev YX9_hear : Card := (yX9_hear, cX9_hear, 3, (some .int))
abbrev YX9_gotBy : Card := (yX9_gotBy, cX9_gotBy, 3, (some .int))
abbrev YX9_paidSet : Card := (yX9_paidSet, cX9_paidSet, 5, (some .int))
abbrev YX9_paid : Card := (yX9_paid, cX9_paid, 1, (some .int))
abbrev YX9_ask : Card := (yX9_ask, cX9_ask, 8, (some .int))
abbrev YX9_write : Card := (yX9_write, cX9_write, 2, (some .int))
abbrev YX9_tear : Card := (yX9_tear, cX9_tear, 2, (some .int))
abbrev YX9_judge : Card := (yX9_judge, cX9_judge, 2, (some .int))
abbrev YX9_seed : Card := (yX9_seed, cX9_seed, 3, (some .int))
abbrev YX9_keep : Card := (yX9_keep, cX9_keep, 2, (some .int))
abbrev YX9_goBack : Card := (yX9_goBack, cX9_goBack, 2, (some .int))
abbrev YJ6_bitCount_0f7a4 : Card := (yJ6_bitCount_0f7a4, cJ6_bitCount_0f7a4, 1, (some .int))
abbrev YJ9_max_7cf53 : Card := (yJ9_max_7cf53, cJ9_max_7cf53, 2, (some .int))
abbrev YJ9_min_7cf53 : Card := (yJ9_min_7cf53, cJ9_min_7cf53, 2, (some .int))
end
section
theorem dX0_init_0 : decode cX0_init 0 = .ok (.aload_n 0, 1) := by decide +kernel
theorem dX0_init_1 : decode cX0_init 1 = .ok (.invokespecial 3, 3) := by decide +kernel
theorem dX0_init_4 : decode cX0_init 4 = .ok (.aload_n 0, 1) := by decide +kernel
theorem dX0_init_5 : decode cX0_init 5 = .ok (.iconst 0, 1) := by decide +kernel
theorem dX0_init_6 : decode cX0_init 6 = .ok (.putfield 9, 3) := by decide +kernel
theorem dX0_init_9 : decode cX0_init 9 = .ok (.aload_n 0, 1) := by decide +kernel
theorem dX0_init_10 : decode cX0_init 10 = .ok (.iconst 0, 1) := by decide +kernel
theorem dX0_init_11 : decode cX0_init 11 = .ok (.putfield 15, 3) := by decide +kernel
theorem dX0_init_14 : decode cX0_init 14 = .ok (.aload_n 0, 1) := by decide +kernel
theorem dX0_init_15 : decode cX0_init 15 = .ok (.iconst 0, 1) := by decide +kernel
theorem dX0_init_16 : decode cX0_init 16 = .ok (.putfield 18, 3) := by decide +kernel
theorem dX0_init_19 : decode cX0_init 19 = .ok (.aload_n 0, 1) := by decide +kernel
theorem dX0_init_20 : decode cX0_init 20 = .ok (.iconst 0, 1) := by decide +kernel
theorem dX0_init_21 : decode cX0_init 21 = .ok (.putfield 22, 3) := by decide +kernel
theorem dX0_init_24 : decode cX0_init 24 = .ok (.aload_n 0, 1) := by decide +kernel
theorem dX0_init_25 : decode cX0_init 25 = .ok (.iconst 0, 1) := by decide +kernel
theorem dX0_init_26 : decode cX0_init 26 = .ok (.putfield 25, 3) := by decide +kernel
theorem dX0_init_29 : decode cX0_init 29 = .ok (.aload_n 0, 1) := by decide +kernel
theorem dX0_init_30 : decode cX0_init 30 = .ok (.iconst 0, 1) := by decide +kernel
theorem dX0_init_31 : decode cX0_init 31 = .ok (.putfield 28, 3) := by decide +kernel
theorem dX0_init_34 : decode cX0_init 34 = .ok (.aload_n 0, 1) := by decide +kernel
theorem dX0_init_35 : decode cX0_init 35 = .ok (.iconst 5, 1) := by decide +kernel
theorem dX0_init_36 : decode cX0_init 36 = .ok (.newarray .int, 2) := by decide +kernel
theorem dX0_init_38 : decode cX0_init 38 = .ok (.putfield 31, 3) := by decide +kernel
theorem dX0_init_41 : decode cX0_init 41 = .ok (.aload_n 0, 1) := by decide +kernel
theorem dX0_init_42 : decode cX0_init 42 = .ok (.iconst 5, 1) := by decide +kernel
theorem dX0_init_43 : decode cX0_init 43 = .ok (.newarray .int, 2) := by decide +kernel
theorem dX0_init_45 : decode cX0_init 45 = .ok (.putfield 35, 3) := by decide +kernel
theorem dX0_init_48 : decode cX0_init 48 = .ok (.aload_n 0, 1) := by decide +kernel
theorem dX0_init_49 : decode cX0_init 49 = .ok (.iconst 5, 1) := by decide +kernel
theorem dX0_init_50 : decode cX0_init 50 = .ok (.newarray .int, 2) := by decide +kernel
theorem dX0_init_52 : decode cX0_init 52 = .ok (.putfield 38, 3) := by decide +kernel
theorem dX0_init_55 : decode cX0_init 55 = .ok (.return_, 1) := by decide +kernel
theorem dX0_begin_0 : decode cX0_begin 0 = .ok (.aload_n 0, 1) := by decide +kernel
theorem dX0_begin_1 : decode cX0_begin 1 = .ok (.iconst 0, 1) := by decide +kernel
theorem dX0_begin_2 : decode cX0_begin 2 = .ok (.putfield 9, 3) := by decide +kernel
theorem dX0_begin_5 : decode cX0_begin 5 = .ok (.aload_n 0, 1) := by decide +kernel
theorem dX0_begin_6 : decode cX0_begin 6 = .ok (.iconst 0, 1) := by decide +kernel
theorem dX0_begin_7 : decode cX0_begin 7 = .ok (.putfield 15, 3) := by decide +kernel
theorem dX0_begin_10 : decode cX0_begin 10 = .ok (.aload_n 0, 1) := by decide +kernel
theorem dX0_begin_11 : decode cX0_begin 11 = .ok (.aload_n 1, 1) := by decide +kernel
theorem dX0_begin_12 : decode cX0_begin 12 = .ok (.invokevirtual 41, 3) := by decide +kernel
theorem dX0_begin_15 : decode cX0_begin 15 = .ok (.putfield 18, 3) := by decide +kernel
theorem dX0_begin_18 : decode cX0_begin 18 = .ok (.aload_n 0, 1) := by decide +kernel
theorem dX0_begin_19 : decode cX0_begin 19 = .ok (.aload_n 1, 1) := by decide +kernel
theorem dX0_begin_20 : decode cX0_begin 20 = .ok (.invokevirtual 41, 3) := by decide +kernel
theorem dX0_begin_23 : decode cX0_begin 23 = .ok (.putfield 22, 3) := by decide +kernel
theorem dX0_begin_26 : decode cX0_begin 26 = .ok (.aload_n 0, 1) := by decide +kernel
theorem dX0_begin_27 : decode cX0_begin 27 = .ok (.iconst 0, 1) := by decide +kernel
theorem dX0_begin_28 : decode cX0_begin 28 = .ok (.putfield 25, 3) := by decide +kernel
theorem dX0_begin_31 : decode cX0_begin 31 = .ok (.aload_n 0, 1) := by decide +kernel
theorem dX0_begin_32 : decode cX0_begin 32 = .ok (.iconst 0, 1) := by decide +kernel
theorem dX0_begin_33 : decode cX0_begin 33 = .ok (.putfield 28, 3) := by decide +kernel
theorem dX0_begin_36 : decode cX0_begin 36 = .ok (.iconst 0, 1) := by decide +kernel
theorem dX0_begin_37 : decode cX0_begin 37 = .ok (.istore_n 2, 1) := by decide +kernel
theorem dX0_begin_38 : decode cX0_begin 38 = .ok (.iload_n 2, 1) := by decide +kernel
theorem dX0_begin_39 : decode cX0_begin 39 = .ok (.iconst 5, 1) := by decide +kernel
theorem dX0_begin_40 : decode cX0_begin 40 = .ok (.if_icmp .ge 35, 3) := by decide +kernel
theorem dX0_begin_43 : decode cX0_begin 43 = .ok (.aload_n 0, 1) := by decide +kernel
theorem dX0_begin_44 : decode cX0_begin 44 = .ok (.getfield 31, 3) := by decide +kernel
theorem dX0_begin_47 : decode cX0_begin 47 = .ok (.iload_n 2, 1) := by decide +kernel
theorem dX0_begin_48 : decode cX0_begin 48 = .ok (.aload_n 1, 1) := by decide +kernel
theorem dX0_begin_49 : decode cX0_begin 49 = .ok (.getfield 47, 3) := by decide +kernel
theorem dX0_begin_52 : decode cX0_begin 52 = .ok (.iload_n 2, 1) := by decide +kernel
theorem dX0_begin_53 : decode cX0_begin 53 = .ok (.iaload, 1) := by decide +kernel
theorem dX0_begin_54 : decode cX0_begin 54 = .ok (.iastore, 1) := by decide +kernel
theorem dX0_begin_55 : decode cX0_begin 55 = .ok (.aload_n 0, 1) := by decide +kernel
theorem dX0_begin_56 : decode cX0_begin 56 = .ok (.getfield 35, 3) := by decide +kernel
theorem dX0_begin_59 : decode cX0_begin 59 = .ok (.iload_n 2, 1) := by decide +kernel
theorem dX0_begin_60 : decode cX0_begin 60 = .ok (.iconst 0, 1) := by decide +kernel
theorem dX0_begin_61 : decode cX0_begin 61 = .ok (.iastore, 1) := by decide +kernel
theorem dX0_begin_62 : decode cX0_begin 62 = .ok (.aload_n 0, 1) := by decide +kernel
theorem dX0_begin_63 : decode cX0_begin 63 = .ok (.getfield 38, 3) := by decide +kernel
theorem dX0_begin_66 : decode cX0_begin 66 = .ok (.iload_n 2, 1) := by decide +kernel
theorem dX0_begin_67 : decode cX0_begin 67 = .ok (.iconst 0, 1) := by decide +kernel
theorem dX0_begin_68 : decode cX0_begin 68 = .ok (.iastore, 1) := by decide +kernel
theorem dX0_begin_69 : decode cX0_begin 69 = .ok (.iinc 2 1, 3) := by decide +kernel
theorem dX0_begin_72 : decode cX0_begin 72 = .ok (.goto (-34), 3) := by decide +kernel
theorem dX0_begin_75 : decode cX0_begin 75 = .ok (.return_, 1) := by decide +kernel
theorem dX0_copyFrom_0 : decode cX0_copyFrom 0 = .ok (.aload_n 0, 1) := by decide +kernel
theorem dX0_copyFrom_1 : decode cX0_copyFrom 1 = .ok (.aload_n 1, 1) := by decide +kernel
theorem dX0_copyFrom_2 : decode cX0_copyFrom 2 = .ok (.getfield 9, 3) := by decide +kernel
theorem dX0_copyFrom_5 : decode cX0_copyFrom 5 = .ok (.putfield 9, 3) := by decide +kernel
theorem dX0_copyFrom_8 : decode cX0_copyFrom 8 = .ok (.aload_n 0, 1) := by decide +kernel
theorem dX0_copyFrom_9 : decode cX0_copyFrom 9 = .ok (.aload_n 1, 1) := by decide +kernel
theorem dX0_copyFrom_10 : decode cX0_copyFrom 10 = .ok (.getfield 15, 3) := by decide +kernel
theorem dX0_copyFrom_13 : decode cX0_copyFrom 13 = .ok (.putfield 15, 3) := by decide +kernel
theorem dX0_copyFrom_16 : decode cX0_copyFrom 16 = .ok (.aload_n 0, 1) := by decide +kernel
theorem dX0_copyFrom_17 : decode cX0_copyFrom 17 = .ok (.aload_n 1, 1) := by decide +kernel
theorem dX0_copyFrom_18 : decode cX0_copyFrom 18 = .ok (.getfield 18, 3) := by decide +kernel
theorem dX0_copyFrom_21 : decode cX0_copyFrom 21 = .ok (.putfield 18, 3) := by decide +kernel
theorem dX0_copyFrom_24 : decode cX0_copyFrom 24 = .ok (.aload_n 0, 1) := by decide +kernel
theorem dX0_copyFrom_25 : decode cX0_copyFrom 25 = .ok (.aload_n 1, 1) := by decide +kernel
theorem dX0_copyFrom_26 : decode cX0_copyFrom 26 = .ok (.getfield 22, 3) := by decide +kernel
theorem dX0_copyFrom_29 : decode cX0_copyFrom 29 = .ok (.putfield 22, 3) := by decide +kernel
theorem dX0_copyFrom_32 : decode cX0_copyFrom 32 = .ok (.aload_n 0, 1) := by decide +kernel
theorem dX0_copyFrom_33 : decode cX0_copyFrom 33 = .ok (.aload_n 1, 1) := by decide +kernel
theorem dX0_copyFrom_34 : decode cX0_copyFrom 34 = .ok (.getfield 25, 3) := by decide +kernel
theorem dX0_copyFrom_37 : decode cX0_copyFrom 37 = .ok (.putfield 25, 3) := by decide +kernel
theorem dX0_copyFrom_40 : decode cX0_copyFrom 40 = .ok (.aload_n 0, 1) := by decide +kernel
theorem dX0_copyFrom_41 : decode cX0_copyFrom 41 = .ok (.aload_n 1, 1) := by decide +kernel
theorem dX0_copyFrom_42 : decode cX0_copyFrom 42 = .ok (.getfield 28, 3) := by decide +kernel
theorem dX0_copyFrom_45 : decode cX0_copyFrom 45 = .ok (.putfield 28, 3) := by decide +kernel
theorem dX0_copyFrom_48 : decode cX0_copyFrom 48 = .ok (.iconst 0, 1) := by decide +kernel
theorem dX0_copyFrom_49 : decode cX0_copyFrom 49 = .ok (.istore_n 2, 1) := by decide +kernel
theorem dX0_copyFrom_50 : decode cX0_copyFrom 50 = .ok (.iload_n 2, 1) := by decide +kernel
theorem dX0_copyFrom_51 : decode cX0_copyFrom 51 = .ok (.iconst 5, 1) := by decide +kernel
theorem dX0_copyFrom_52 : decode cX0_copyFrom 52 = .ok (.if_icmp .ge 45, 3) := by decide +kernel
theorem dX0_copyFrom_55 : decode cX0_copyFrom 55 = .ok (.aload_n 0, 1) := by decide +kernel
theorem dX0_copyFrom_56 : decode cX0_copyFrom 56 = .ok (.getfield 31, 3) := by decide +kernel
theorem dX0_copyFrom_59 : decode cX0_copyFrom 59 = .ok (.iload_n 2, 1) := by decide +kernel
theorem dX0_copyFrom_60 : decode cX0_copyFrom 60 = .ok (.aload_n 1, 1) := by decide +kernel
theorem dX0_copyFrom_61 : decode cX0_copyFrom 61 = .ok (.getfield 31, 3) := by decide +kernel
theorem dX0_copyFrom_64 : decode cX0_copyFrom 64 = .ok (.iload_n 2, 1) := by decide +kernel
theorem dX0_copyFrom_65 : decode cX0_copyFrom 65 = .ok (.iaload, 1) := by decide +kernel
theorem dX0_copyFrom_66 : decode cX0_copyFrom 66 = .ok (.iastore, 1) := by decide +kernel
theorem dX0_copyFrom_67 : decode cX0_copyFrom 67 = .ok (.aload_n 0, 1) := by decide +kernel
theorem dX0_copyFrom_68 : decode cX0_copyFrom 68 = .ok (.getfield 35, 3) := by decide +kernel
theorem dX0_copyFrom_71 : decode cX0_copyFrom 71 = .ok (.iload_n 2, 1) := by decide +kernel
theorem dX0_copyFrom_72 : decode cX0_copyFrom 72 = .ok (.aload_n 1, 1) := by decide +kernel
theorem dX0_copyFrom_73 : decode cX0_copyFrom 73 = .ok (.getfield 35, 3) := by decide +kernel
theorem dX0_copyFrom_76 : decode cX0_copyFrom 76 = .ok (.iload_n 2, 1) := by decide +kernel
theorem dX0_copyFrom_77 : decode cX0_copyFrom 77 = .ok (.iaload, 1) := by decide +kernel
theorem dX0_copyFrom_78 : decode cX0_copyFrom 78 = .ok (.iastore, 1) := by decide +kernel
theorem dX0_copyFrom_79 : decode cX0_copyFrom 79 = .ok (.aload_n 0, 1) := by decide +kernel
theorem dX0_copyFrom_80 : decode cX0_copyFrom 80 = .ok (.getfield 38, 3) := by decide +kernel
theorem dX0_copyFrom_83 : decode cX0_copyFrom 83 = .ok (.iload_n 2, 1) := by decide +kernel
theorem dX0_copyFrom_84 : decode cX0_copyFrom 84 = .ok (.aload_n 1, 1) := by decide +kernel
theorem dX0_copyFrom_85 : decode cX0_copyFrom 85 = .ok (.getfield 38, 3) := by decide +kernel
theorem dX0_copyFrom_88 : decode cX0_copyFrom 88 = .ok (.iload_n 2, 1) := by decide +kernel
theorem dX0_copyFrom_89 : decode cX0_copyFrom 89 = .ok (.iaload, 1) := by decide +kernel
theorem dX0_copyFrom_90 : decode cX0_copyFrom 90 = .ok (.iastore, 1) := by decide +kernel
theorem dX0_copyFrom_91 : decode cX0_copyFrom 91 = .ok (.iinc 2 1, 3) := by decide +kernel
theorem dX0_copyFrom_94 : decode cX0_copyFrom 94 = .ok (.goto (-44), 3) := by decide +kernel
theorem dX0_copyFrom_97 : decode cX0_copyFrom 97 = .ok (.return_, 1) := by decide +kernel
theorem dX0_passDay_0 : decode cX0_passDay 0 = .ok (.aload_n 0, 1) := by decide +kernel
theorem dX0_passDay_1 : decode cX0_passDay 1 = .ok (.dup, 1) := by decide +kernel
theorem dX0_passDay_2 : decode cX0_passDay 2 = .ok (.getfield 9, 3) := by decide +kernel
theorem dX0_passDay_5 : decode cX0_passDay 5 = .ok (.iconst 1, 1) := by decide +kernel
theorem dX0_passDay_6 : decode cX0_passDay 6 = .ok (.iadd, 1) := by decide +kernel
theorem dX0_passDay_7 : decode cX0_passDay 7 = .ok (.putfield 9, 3) := by decide +kernel
theorem dX0_passDay_10 : decode cX0_passDay 10 = .ok (.aload_n 0, 1) := by decide +kernel
theorem dX0_passDay_11 : decode cX0_passDay 11 = .ok (.getfield 18, 3) := by decide +kernel
theorem dX0_passDay_14 : decode cX0_passDay 14 = .ok (.ifCond .eq 13, 3) := by decide +kernel
theorem dX0_passDay_17 : decode cX0_passDay 17 = .ok (.aload_n 0, 1) := by decide +kernel
theorem dX0_passDay_18 : decode cX0_passDay 18 = .ok (.dup, 1) := by decide +kernel
theorem dX0_passDay_19 : decode cX0_passDay 19 = .ok (.getfield 15, 3) := by decide +kernel
theorem dX0_passDay_22 : decode cX0_passDay 22 = .ok (.iconst 1, 1) := by decide +kernel
theorem dX0_passDay_23 : decode cX0_passDay 23 = .ok (.iadd, 1) := by decide +kernel
theorem dX0_passDay_24 : decode cX0_passDay 24 = .ok (.putfield 15, 3) := by decide +kernel
theorem dX0_passDay_27 : decode cX0_passDay 27 = .ok (.iconst 0, 1) := by decide +kernel
theorem dX0_passDay_28 : decode cX0_passDay 28 = .ok (.istore_n 2, 1) := by decide +kernel
theorem dX0_passDay_29 : decode cX0_passDay 29 = .ok (.iload_n 2, 1) := by decide +kernel
theorem dX0_passDay_30 : decode cX0_passDay 30 = .ok (.aload_n 1, 1) := by decide +kernel
theorem dX0_passDay_31 : decode cX0_passDay 31 = .ok (.getfield 48, 3) := by decide +kernel
theorem dX0_passDay_34 : decode cX0_passDay 34 = .ok (.if_icmp .ge 62, 3) := by decide +kernel
theorem dX0_passDay_37 : decode cX0_passDay 37 = .ok (.aload_n 0, 1) := by decide +kernel
theorem dX0_passDay_38 : decode cX0_passDay 38 = .ok (.getfield 28, 3) := by decide +kernel
theorem dX0_passDay_41 : decode cX0_passDay 41 = .ok (.iload_n 2, 1) := by decide +kernel
theorem dX0_passDay_42 : decode cX0_passDay 42 = .ok (.invokestatic 51, 3) := by decide +kernel
theorem dX0_passDay_45 : decode cX0_passDay 45 = .ok (.ifCond .ne 6, 3) := by decide +kernel
theorem dX0_passDay_48 : decode cX0_passDay 48 = .ok (.goto 42, 3) := by decide +kernel
theorem dX0_passDay_51 : decode cX0_passDay 51 = .ok (.aload_n 0, 1) := by decide +kernel
theorem dX0_passDay_52 : decode cX0_passDay 52 = .ok (.getfield 38, 3) := by decide +kernel
theorem dX0_passDay_55 : decode cX0_passDay 55 = .ok (.iload_n 2, 1) := by decide +kernel
theorem dX0_passDay_56 : decode cX0_passDay 56 = .ok (.dup2, 1) := by decide +kernel
theorem dX0_passDay_57 : decode cX0_passDay 57 = .ok (.iaload, 1) := by decide +kernel
theorem dX0_passDay_58 : decode cX0_passDay 58 = .ok (.iconst 1, 1) := by decide +kernel
theorem dX0_passDay_59 : decode cX0_passDay 59 = .ok (.iadd, 1) := by decide +kernel
theorem dX0_passDay_60 : decode cX0_passDay 60 = .ok (.iastore, 1) := by decide +kernel
theorem dX0_passDay_61 : decode cX0_passDay 61 = .ok (.aload_n 0, 1) := by decide +kernel
theorem dX0_passDay_62 : decode cX0_passDay 62 = .ok (.getfield 38, 3) := by decide +kernel
theorem dX0_passDay_65 : decode cX0_passDay 65 = .ok (.iload_n 2, 1) := by decide +kernel
theorem dX0_passDay_66 : decode cX0_passDay 66 = .ok (.iaload, 1) := by decide +kernel
theorem dX0_passDay_67 : decode cX0_passDay 67 = .ok (.aload_n 1, 1) := by decide +kernel
theorem dX0_passDay_68 : decode cX0_passDay 68 = .ok (.getfield 55, 3) := by decide +kernel
theorem dX0_passDay_71 : decode cX0_passDay 71 = .ok (.if_icmp .lt 19, 3) := by decide +kernel
theorem dX0_passDay_74 : decode cX0_passDay 74 = .ok (.aload_n 0, 1) := by decide +kernel
theorem dX0_passDay_75 : decode cX0_passDay 75 = .ok (.iload_n 2, 1) := by decide +kernel
theorem dX0_passDay_76 : decode cX0_passDay 76 = .ok (.aload_n 1, 1) := by decide +kernel
theorem dX0_passDay_77 : decode cX0_passDay 77 = .ok (.getfield 58, 3) := by decide +kernel
theorem dX0_passDay_80 : decode cX0_passDay 80 = .ok (.invokevirtual 61, 3) := by decide +kernel
theorem dX0_passDay_83 : decode cX0_passDay 83 = .ok (.aload_n 0, 1) := by decide +kernel
theorem dX0_passDay_84 : decode cX0_passDay 84 = .ok (.getfield 38, 3) := by decide +kernel
theorem dX0_passDay_87 : decode cX0_passDay 87 = .ok (.iload_n 2, 1) := by decide +kernel
theorem dX0_passDay_88 : decode cX0_passDay 88 = .ok (.iconst 0, 1) := by decide +kernel
theorem dX0_passDay_89 : decode cX0_passDay 89 = .ok (.iastore, 1) := by decide +kernel
theorem dX0_passDay_90 : decode cX0_passDay 90 = .ok (.iinc 2 1, 3) := by decide +kernel
theorem dX0_passDay_93 : decode cX0_passDay 93 = .ok (.goto (-64), 3) := by decide +kernel
theorem dX0_passDay_96 : decode cX0_passDay 96 = .ok (.return_, 1) := by decide +kernel
theorem dX0_canMake_0 : decode cX0_canMake 0 = .ok (.aload_n 0, 1) := by decide +kernel
theorem dX0_canMake_1 : decode cX0_canMake 1 = .ok (.getfield 18, 3) := by decide +kernel
theorem dX0_canMake_4 : decode cX0_canMake 4 = .ok (.ifCond .eq 42, 3) := by decide +kernel
theorem dX0_canMake_7 : decode cX0_canMake 7 = .ok (.aload_n 1, 1) := by decide +kernel
theorem dX0_canMake_8 : decode cX0_canMake 8 = .ok (.iload_n 2, 1) := by decide +kernel
theorem dX0_canMake_9 : decode cX0_canMake 9 = .ok (.invokevirtual 65, 3) := by decide +kernel
theorem dX0_canMake_12 : decode cX0_canMake 12 = .ok (.ifCond .eq 34, 3) := by decide +kernel
theorem dX0_canMake_15 : decode cX0_canMake 15 = .ok (.aload_n 0, 1) := by decide +kernel
theorem dX0_canMake_16 : decode cX0_canMake 16 = .ok (.getfield 25, 3) := by decide +kernel
theorem dX0_canMake_19 : decode cX0_canMake 19 = .ok (.iload_n 2, 1) := by decide +kernel
theorem dX0_canMake_20 : decode cX0_canMake 20 = .ok (.invokestatic 51, 3) := by decide +kernel
theorem dX0_canMake_23 : decode cX0_canMake 23 = .ok (.ifCond .ne 23, 3) := by decide +kernel
theorem dX0_canMake_26 : decode cX0_canMake 26 = .ok (.aload_n 0, 1) := by decide +kernel
theorem dX0_canMake_27 : decode cX0_canMake 27 = .ok (.getfield 22, 3) := by decide +kernel
theorem dX0_canMake_30 : decode cX0_canMake 30 = .ok (.ifCond .eq 12, 3) := by decide +kernel
theorem dX0_canMake_33 : decode cX0_canMake 33 = .ok (.aload_n 1, 1) := by decide +kernel
theorem dX0_canMake_34 : decode cX0_canMake 34 = .ok (.getfield 69, 3) := by decide +kernel
theorem dX0_canMake_37 : decode cX0_canMake 37 = .ok (.iload_n 2, 1) := by decide +kernel
theorem dX0_canMake_38 : decode cX0_canMake 38 = .ok (.iaload, 1) := by decide +kernel
theorem dX0_canMake_39 : decode cX0_canMake 39 = .ok (.ifCond .ne 7, 3) := by decide +kernel
theorem dX0_canMake_42 : decode cX0_canMake 42 = .ok (.iconst 1, 1) := by decide +kernel
theorem dX0_canMake_43 : decode cX0_canMake 43 = .ok (.goto 4, 3) := by decide +kernel
theorem dX0_canMake_46 : decode cX0_canMake 46 = .ok (.iconst 0, 1) := by decide +kernel
theorem dX0_canMake_47 : decode cX0_canMake 47 = .ok (.ireturn, 1) := by decide +kernel
theorem dX0_setHired_0 : decode cX0_setHired 0 = .ok (.iload_n 1, 1) := by decide +kernel
theorem dX0_setHired_1 : decode cX0_setHired 1 = .ok (.iconst 0, 1) := by decide +kernel
theorem dX0_setHired_2 : decode cX0_setHired 2 = .ok (.iconst 4, 1) := by decide +kernel
theorem dX0_setHired_3 : decode cX0_setHired 3 = .ok (.invokestatic 72, 3) := by decide +kernel
theorem dX0_setHired_6 : decode cX0_setHired 6 = .ok (.ifCond .ne 4, 3) := by decide +kernel
theorem dX0_setHired_9 : decode cX0_setHired 9 = .ok (.return_, 1) := by decide +kernel
theorem dX0_setHired_10 : decode cX0_setHired 10 = .ok (.aload_n 0, 1) := by decide +kernel
theorem dX0_setHired_11 : decode cX0_setHired 11 = .ok (.iload_n 2, 1) := by decide +kernel
theorem dX0_setHired_12 : decode cX0_setHired 12 = .ok (.ifCond .eq 14, 3) := by decide +kernel
theorem dX0_setHired_15 : decode cX0_setHired 15 = .ok (.aload_n 0, 1) := by decide +kernel
theorem dX0_setHired_16 : decode cX0_setHired 16 = .ok (.getfield 28, 3) := by decide +kernel
theorem dX0_setHired_19 : decode cX0_setHired 19 = .ok (.iconst 1, 1) := by decide +kernel
theorem dX0_setHired_20 : decode cX0_setHired 20 = .ok (.iload_n 1, 1) := by decide +kernel
theorem dX0_setHired_21 : decode cX0_setHired 21 = .ok (.ishl, 1) := by decide +kernel
theorem dX0_setHired_22 : decode cX0_setHired 22 = .ok (.ior, 1) := by decide +kernel
theorem dX0_setHired_23 : decode cX0_setHired 23 = .ok (.goto 13, 3) := by decide +kernel
theorem dX0_setHired_26 : decode cX0_setHired 26 = .ok (.aload_n 0, 1) := by decide +kernel
theorem dX0_setHired_27 : decode cX0_setHired 27 = .ok (.getfield 28, 3) := by decide +kernel
theorem dX0_setHired_30 : decode cX0_setHired 30 = .ok (.iconst 1, 1) := by decide +kernel
theorem dX0_setHired_31 : decode cX0_setHired 31 = .ok (.iload_n 1, 1) := by decide +kernel
theorem dX0_setHired_32 : decode cX0_setHired 32 = .ok (.ishl, 1) := by decide +kernel
theorem dX0_setHired_33 : decode cX0_setHired 33 = .ok (.iconst (-1), 1) := by decide +kernel
theorem dX0_setHired_34 : decode cX0_setHired 34 = .ok (.ixor, 1) := by decide +kernel
theorem dX0_setHired_35 : decode cX0_setHired 35 = .ok (.iand, 1) := by decide +kernel
theorem dX0_setHired_36 : decode cX0_setHired 36 = .ok (.putfield 28, 3) := by decide +kernel
theorem dX0_setHired_39 : decode cX0_setHired 39 = .ok (.aload_n 0, 1) := by decide +kernel
theorem dX0_setHired_40 : decode cX0_setHired 40 = .ok (.getfield 38, 3) := by decide +kernel
theorem dX0_setHired_43 : decode cX0_setHired 43 = .ok (.iload_n 1, 1) := by decide +kernel
theorem dX0_setHired_44 : decode cX0_setHired 44 = .ok (.iconst 0, 1) := by decide +kernel
theorem dX0_setHired_45 : decode cX0_setHired 45 = .ok (.iastore, 1) := by decide +kernel
theorem dX0_setHired_46 : decode cX0_setHired 46 = .ok (.return_, 1) := by decide +kernel
theorem dX0_give_0 : decode cX0_give 0 = .ok (.iload_n 1, 1) := by decide +kernel
theorem dX0_give_1 : decode cX0_give 1 = .ok (.iconst 0, 1) := by decide +kernel
theorem dX0_give_2 : decode cX0_give 2 = .ok (.iconst 4, 1) := by decide +kernel
theorem dX0_give_3 : decode cX0_give 3 = .ok (.invokestatic 72, 3) := by decide +kernel
theorem dX0_give_6 : decode cX0_give 6 = .ok (.ifCond .ne 4, 3) := by decide +kernel
theorem dX0_give_9 : decode cX0_give 9 = .ok (.return_, 1) := by decide +kernel
theorem dX0_give_10 : decode cX0_give 10 = .ok (.aload_n 0, 1) := by decide +kernel
theorem dX0_give_11 : decode cX0_give 11 = .ok (.getfield 35, 3) := by decide +kernel
theorem dX0_give_14 : decode cX0_give 14 = .ok (.iload_n 1, 1) := by decide +kernel
theorem dX0_give_15 : decode cX0_give 15 = .ok (.aload_n 0, 1) := by decide +kernel
theorem dX0_give_16 : decode cX0_give 16 = .ok (.getfield 35, 3) := by decide +kernel
theorem dX0_give_19 : decode cX0_give 19 = .ok (.iload_n 1, 1) := by decide +kernel
theorem dX0_give_20 : decode cX0_give 20 = .ok (.iaload, 1) := by decide +kernel
theorem dX0_give_21 : decode cX0_give 21 = .ok (.iload_n 2, 1) := by decide +kernel
theorem dX0_give_22 : decode cX0_give 22 = .ok (.iadd, 1) := by decide +kernel
theorem dX0_give_23 : decode cX0_give 23 = .ok (.ldc 76, 2) := by decide +kernel
theorem dX0_give_25 : decode cX0_give 25 = .ok (.invokestatic 77, 3) := by decide +kernel
theorem dX0_give_28 : decode cX0_give 28 = .ok (.iastore, 1) := by decide +kernel
theorem dX0_give_29 : decode cX0_give 29 = .ok (.return_, 1) := by decide +kernel
theorem dX1_init_0 : decode cX1_init 0 = .ok (.aload_n 0, 1) := by decide +kernel
theorem dX1_init_1 : decode cX1_init 1 = .ok (.invokespecial 3, 3) := by decide +kernel
theorem dX1_init_4 : decode cX1_init 4 = .ok (.aload_n 0, 1) := by decide +kernel
theorem dX1_init_5 : decode cX1_init 5 = .ok (.bipush 15, 2) := by decide +kernel
theorem dX1_init_7 : decode cX1_init 7 = .ok (.newarray .int, 2) := by decide +kernel
theorem dX1_init_9 : decode cX1_init 9 = .ok (.putfield 9, 3) := by decide +kernel
theorem dX1_init_12 : decode cX1_init 12 = .ok (.aload_n 0, 1) := by decide +kernel
theorem dX1_init_13 : decode cX1_init 13 = .ok (.iconst 0, 1) := by decide +kernel
theorem dX1_init_14 : decode cX1_init 14 = .ok (.putfield 15, 3) := by decide +kernel
theorem dX1_init_17 : decode cX1_init 17 = .ok (.return_, 1) := by decide +kernel
theorem dX1_add_0 : decode cX1_add 0 = .ok (.aload_n 0, 1) := by decide +kernel
theorem dX1_add_1 : decode cX1_add 1 = .ok (.getfield 15, 3) := by decide +kernel
theorem dX1_add_4 : decode cX1_add 4 = .ok (.bipush 15, 2) := by decide +kernel
theorem dX1_add_6 : decode cX1_add 6 = .ok (.if_icmp .lt 5, 3) := by decide +kernel
theorem dX1_add_9 : decode cX1_add 9 = .ok (.iconst 0, 1) := by decide +kernel
theorem dX1_add_10 : decode cX1_add 10 = .ok (.ireturn, 1) := by decide +kernel
theorem dX1_add_11 : decode cX1_add 11 = .ok (.aload_n 0, 1) := by decide +kernel
theorem dX1_add_12 : decode cX1_add 12 = .ok (.getfield 9, 3) := by decide +kernel
theorem dX1_add_15 : decode cX1_add 15 = .ok (.aload_n 0, 1) := by decide +kernel
theorem dX1_add_16 : decode cX1_add 16 = .ok (.getfield 15, 3) := by decide +kernel
theorem dX1_add_19 : decode cX1_add 19 = .ok (.iload_n 1, 1) := by decide +kernel
theorem dX1_add_20 : decode cX1_add 20 = .ok (.iastore, 1) := by decide +kernel
theorem dX1_add_21 : decode cX1_add 21 = .ok (.aload_n 0, 1) := by decide +kernel
theorem dX1_add_22 : decode cX1_add 22 = .ok (.dup, 1) := by decide +kernel
theorem dX1_add_23 : decode cX1_add 23 = .ok (.getfield 15, 3) := by decide +kernel
theorem dX1_add_26 : decode cX1_add 26 = .ok (.iconst 1, 1) := by decide +kernel
theorem dX1_add_27 : decode cX1_add 27 = .ok (.iadd, 1) := by decide +kernel
theorem dX1_add_28 : decode cX1_add 28 = .ok (.putfield 15, 3) := by decide +kernel
theorem dX1_add_31 : decode cX1_add 31 = .ok (.iconst 1, 1) := by decide +kernel
theorem dX1_add_32 : decode cX1_add 32 = .ok (.ireturn, 1) := by decide +kernel
theorem dX1_firstOtherThan_0 : decode cX1_firstOtherThan 0 = .ok (.iconst 0, 1) := by decide +kernel
theorem dX1_firstOtherThan_1 : decode cX1_firstOtherThan 1 = .ok (.istore_n 2, 1) := by decide +kernel
theorem dX1_firstOtherThan_2 : decode cX1_firstOtherThan 2 = .ok (.iload_n 2, 1) := by decide +kernel
theorem dX1_firstOtherThan_3 : decode cX1_firstOtherThan 3 = .ok (.aload_n 0, 1) := by decide +kernel
theorem dX1_firstOtherThan_4 : decode cX1_firstOtherThan 4 = .ok (.getfield 15, 3) := by decide +kernel
theorem dX1_firstOtherThan_7 : decode cX1_firstOtherThan 7 = .ok (.if_icmp .ge 21, 3) := by decide +kernel
theorem dX1_firstOtherThan_10 : decode cX1_firstOtherThan 10 = .ok (.aload_n 0, 1) := by decide +kernel
theorem dX1_firstOtherThan_11 : decode cX1_firstOtherThan 11 = .ok (.getfield 9, 3) := by decide +kernel
theorem dX1_firstOtherThan_14 : decode cX1_firstOtherThan 14 = .ok (.iload_n 2, 1) := by decide +kernel
theorem dX1_firstOtherThan_15 : decode cX1_firstOtherThan 15 = .ok (.iaload, 1) := by decide +kernel
theorem dX1_firstOtherThan_16 : decode cX1_firstOtherThan 16 = .ok (.iload_n 1, 1) := by decide +kernel
theorem dX1_firstOtherThan_17 : decode cX1_firstOtherThan 17 = .ok (.if_icmp .eq 5, 3) := by decide +kernel
theorem dX1_firstOtherThan_20 : decode cX1_firstOtherThan 20 = .ok (.iload_n 2, 1) := by decide +kernel
theorem dX1_firstOtherThan_21 : decode cX1_firstOtherThan 21 = .ok (.ireturn, 1) := by decide +kernel
theorem dX1_firstOtherThan_22 : decode cX1_firstOtherThan 22 = .ok (.iinc 2 1, 3) := by decide +kernel
theorem dX1_firstOtherThan_25 : decode cX1_firstOtherThan 25 = .ok (.goto (-23), 3) := by decide +kernel
theorem dX1_firstOtherThan_28 : decode cX1_firstOtherThan 28 = .ok (.iconst (-1), 1) := by decide +kernel
theorem dX1_firstOtherThan_29 : decode cX1_firstOtherThan 29 = .ok (.ireturn, 1) := by decide +kernel
theorem dX2_init_0 : decode cX2_init 0 = .ok (.aload_n 0, 1) := by decide +kernel
theorem dX2_init_1 : decode cX2_init 1 = .ok (.invokespecial 3, 3) := by decide +kernel
theorem dX2_init_4 : decode cX2_init 4 = .ok (.aload_n 0, 1) := by decide +kernel
theorem dX2_init_5 : decode cX2_init 5 = .ok (.iconst 0, 1) := by decide +kernel
theorem dX2_init_6 : decode cX2_init 6 = .ok (.putfield 9, 3) := by decide +kernel
theorem dX2_init_9 : decode cX2_init 9 = .ok (.aload_n 0, 1) := by decide +kernel
theorem dX2_init_10 : decode cX2_init 10 = .ok (.bipush 8, 2) := by decide +kernel
theorem dX2_init_12 : decode cX2_init 12 = .ok (.newarray .int, 2) := by decide +kernel
theorem dX2_init_14 : decode cX2_init 14 = .ok (.putfield 15, 3) := by decide +kernel
theorem dX2_init_17 : decode cX2_init 17 = .ok (.aload_n 0, 1) := by decide +kernel
theorem dX2_init_18 : decode cX2_init 18 = .ok (.iconst 0, 1) := by decide +kernel
theorem dX2_init_19 : decode cX2_init 19 = .ok (.putfield 19, 3) := by decide +kernel
theorem dX2_init_22 : decode cX2_init 22 = .ok (.aload_n 0, 1) := by decide +kernel
theorem dX2_init_23 : decode cX2_init 23 = .ok (.bipush 6, 2) := by decide +kernel
theorem dX2_init_25 : decode cX2_init 25 = .ok (.newarray .int, 2) := by decide +kernel
theorem dX2_init_27 : decode cX2_init 27 = .ok (.putfield 22, 3) := by decide +kernel
theorem dX2_init_30 : decode cX2_init 30 = .ok (.aload_n 0, 1) := by decide +kernel
theorem dX2_init_31 : decode cX2_init 31 = .ok (.bipush 6, 2) := by decide +kernel
theorem dX2_init_33 : decode cX2_init 33 = .ok (.newarray .int, 2) := by decide +kernel
theorem dX2_init_35 : decode cX2_init 35 = .ok (.putfield 25, 3) := by decide +kernel
theorem dX2_init_38 : decode cX2_init 38 = .ok (.aload_n 0, 1) := by decide +kernel
theorem dX2_init_39 : decode cX2_init 39 = .ok (.bipush 6, 2) := by decide +kernel
theorem dX2_init_41 : decode cX2_init 41 = .ok (.newarray .int, 2) := by decide +kernel
theorem dX2_init_43 : decode cX2_init 43 = .ok (.putfield 28, 3) := by decide +kernel
theorem dX2_init_46 : decode cX2_init 46 = .ok (.aload_n 0, 1) := by decide +kernel
theorem dX2_init_47 : decode cX2_init 47 = .ok (.iconst 0, 1) := by decide +kernel
theorem dX2_init_48 : decode cX2_init 48 = .ok (.putfield 31, 3) := by decide +kernel
theorem dX2_init_51 : decode cX2_init 51 = .ok (.aload_n 0, 1) := by decide +kernel
theorem dX2_init_52 : decode cX2_init 52 = .ok (.iconst 5, 1) := by decide +kernel
theorem dX2_init_53 : decode cX2_init 53 = .ok (.newarray .int, 2) := by decide +kernel
theorem dX2_init_55 : decode cX2_init 55 = .ok (.putfield 34, 3) := by decide +kernel
theorem dX2_init_58 : decode cX2_init 58 = .ok (.aload_n 0, 1) := by decide +kernel
theorem dX2_init_59 : decode cX2_init 59 = .ok (.iconst 5, 1) := by decide +kernel
theorem dX2_init_60 : decode cX2_init 60 = .ok (.newarray .int, 2) := by decide +kernel
theorem dX2_init_62 : decode cX2_init 62 = .ok (.putfield 37, 3) := by decide +kernel
theorem dX2_init_65 : decode cX2_init 65 = .ok (.aload_n 0, 1) := by decide +kernel
theorem dX2_init_66 : decode cX2_init 66 = .ok (.iconst 0, 1) := by decide +kernel
theorem dX2_init_67 : decode cX2_init 67 = .ok (.putfield 40, 3) := by decide +kernel
theorem dX2_init_70 : decode cX2_init 70 = .ok (.aload_n 0, 1) := by decide +kernel
theorem dX2_init_71 : decode cX2_init 71 = .ok (.iconst 0, 1) := by decide +kernel
theorem dX2_init_72 : decode cX2_init 72 = .ok (.putfield 43, 3) := by decide +kernel
theorem dX2_init_75 : decode cX2_init 75 = .ok (.return_, 1) := by decide +kernel
theorem dX2_clear_0 : decode cX2_clear 0 = .ok (.aload_n 0, 1) := by decide +kernel
theorem dX2_clear_1 : decode cX2_clear 1 = .ok (.iconst 0, 1) := by decide +kernel
theorem dX2_clear_2 : decode cX2_clear 2 = .ok (.putfield 9, 3) := by decide +kernel
theorem dX2_clear_5 : decode cX2_clear 5 = .ok (.aload_n 0, 1) := by decide +kernel
theorem dX2_clear_6 : decode cX2_clear 6 = .ok (.iconst 0, 1) := by decide +kernel
theorem dX2_clear_7 : decode cX2_clear 7 = .ok (.putfield 19, 3) := by decide +kernel
theorem dX2_clear_10 : decode cX2_clear 10 = .ok (.aload_n 0, 1) := by decide +kernel
theorem dX2_clear_11 : decode cX2_clear 11 = .ok (.iconst 0, 1) := by decide +kernel
theorem dX2_clear_12 : decode cX2_clear 12 = .ok (.putfield 31, 3) := by decide +kernel
theorem dX2_clear_15 : decode cX2_clear 15 = .ok (.aload_n 0, 1) := by decide +kernel
theorem dX2_clear_16 : decode cX2_clear 16 = .ok (.iconst 0, 1) := by decide +kernel
theorem dX2_clear_17 : decode cX2_clear 17 = .ok (.putfield 40, 3) := by decide +kernel
theorem dX2_clear_20 : decode cX2_clear 20 = .ok (.aload_n 0, 1) := by decide +kernel
theorem dX2_clear_21 : decode cX2_clear 21 = .ok (.iconst 0, 1) := by decide +kernel
theorem dX2_clear_22 : decode cX2_clear 22 = .ok (.putfield 43, 3) := by decide +kernel
theorem dX2_clear_25 : decode cX2_clear 25 = .ok (.return_, 1) := by decide +kernel
theorem dX2_stands_0 : decode cX2_stands 0 = .ok (.aload_n 0, 1) := by decide +kernel
theorem dX2_stands_1 : decode cX2_stands 1 = .ok (.getfield 9, 3) := by decide +kernel
theorem dX2_stands_4 : decode cX2_stands 4 = .ok (.ifCond .le 7, 3) := by decide +kernel
theorem dX2_stands_7 : decode cX2_stands 7 = .ok (.iconst 1, 1) := by decide +kernel
theorem dX2_stands_8 : decode cX2_stands 8 = .ok (.goto 4, 3) := by decide +kernel
theorem dX2_stands_11 : decode cX2_stands 11 = .ok (.iconst 0, 1) := by decide +kernel
theorem dX2_stands_12 : decode cX2_stands 12 = .ok (.ireturn, 1) := by decide +kernel
theorem dX2_hasWay_0 : decode cX2_hasWay 0 = .ok (.iload_n 1, 1) := by decide +kernel
theorem dX2_hasWay_1 : decode cX2_hasWay 1 = .ok (.iconst 0, 1) := by decide +kernel
theorem dX2_hasWay_2 : decode cX2_hasWay 2 = .ok (.aload_n 0, 1) := by decide +kernel
theorem dX2_hasWay_3 : decode cX2_hasWay 3 = .ok (.getfield 9, 3) := by decide +kernel
theorem dX2_hasWay_6 : decode cX2_hasWay 6 = .ok (.iconst 1, 1) := by decide +kernel
theorem dX2_hasWay_7 : decode cX2_hasWay 7 = .ok (.isub, 1) := by decide +kernel
theorem dX2_hasWay_8 : decode cX2_hasWay 8 = .ok (.invokestatic 46, 3) := by decide +kernel
theorem dX2_hasWay_11 : decode cX2_hasWay 11 = .ok (.ireturn, 1) := by decide +kernel
theorem dX2_hasTest_0 : decode cX2_hasTest 0 = .ok (.iload_n 1, 1) := by decide +kernel
theorem dX2_hasTest_1 : decode cX2_hasTest 1 = .ok (.iconst 0, 1) := by decide +kernel
theorem dX2_hasTest_2 : decode cX2_hasTest 2 = .ok (.aload_n 0, 1) := by decide +kernel
theorem dX2_hasTest_3 : decode cX2_hasTest 3 = .ok (.getfield 19, 3) := by decide +kernel
theorem dX2_hasTest_6 : decode cX2_hasTest 6 = .ok (.iconst 1, 1) := by decide +kernel
theorem dX2_hasTest_7 : decode cX2_hasTest 7 = .ok (.isub, 1) := by decide +kernel
theorem dX2_hasTest_8 : decode cX2_hasTest 8 = .ok (.invokestatic 46, 3) := by decide +kernel
theorem dX2_hasTest_11 : decode cX2_hasTest 11 = .ok (.ireturn, 1) := by decide +kernel
theorem dX2_hasServant_0 : decode cX2_hasServant 0 = .ok (.iload_n 1, 1) := by decide +kernel
theorem dX2_hasServant_1 : decode cX2_hasServant 1 = .ok (.iconst 0, 1) := by decide +kernel
theorem dX2_hasServant_2 : decode cX2_hasServant 2 = .ok (.aload_n 0, 1) := by decide +kernel
theorem dX2_hasServant_3 : decode cX2_hasServant 3 = .ok (.getfield 31, 3) := by decide +kernel
theorem dX2_hasServant_6 : decode cX2_hasServant 6 = .ok (.iconst 1, 1) := by decide +kernel
theorem dX2_hasServant_7 : decode cX2_hasServant 7 = .ok (.isub, 1) := by decide +kernel
theorem dX2_hasServant_8 : decode cX2_hasServant 8 = .ok (.invokestatic 46, 3) := by decide +kernel
theorem dX2_hasServant_11 : decode cX2_hasServant 11 = .ok (.ireturn, 1) := by decide +kernel
theorem dX2_hasWays_0 : decode cX2_hasWays 0 = .ok (.iload_n 1, 1) := by decide +kernel
theorem dX2_hasWays_1 : decode cX2_hasWays 1 = .ok (.aload_n 0, 1) := by decide +kernel
theorem dX2_hasWays_2 : decode cX2_hasWays 2 = .ok (.invokevirtual 50, 3) := by decide +kernel
theorem dX2_hasWays_5 : decode cX2_hasWays 5 = .ok (.iconst (-1), 1) := by decide +kernel
theorem dX2_hasWays_6 : decode cX2_hasWays 6 = .ok (.ixor, 1) := by decide +kernel
theorem dX2_hasWays_7 : decode cX2_hasWays 7 = .ok (.iand, 1) := by decide +kernel
theorem dX2_hasWays_8 : decode cX2_hasWays 8 = .ok (.ifCond .ne 7, 3) := by decide +kernel
theorem dX2_hasWays_11 : decode cX2_hasWays 11 = .ok (.iconst 1, 1) := by decide +kernel
theorem dX2_hasWays_12 : decode cX2_hasWays 12 = .ok (.goto 4, 3) := by decide +kernel
theorem dX2_hasWays_15 : decode cX2_hasWays 15 = .ok (.iconst 0, 1) := by decide +kernel
theorem dX2_hasWays_16 : decode cX2_hasWays 16 = .ok (.ireturn, 1) := by decide +kernel
theorem dX2_allWays_0 : decode cX2_allWays 0 = .ok (.iconst 1, 1) := by decide +kernel
theorem dX2_allWays_1 : decode cX2_allWays 1 = .ok (.aload_n 0, 1) := by decide +kernel
theorem dX2_allWays_2 : decode cX2_allWays 2 = .ok (.getfield 9, 3) := by decide +kernel
theorem dX2_allWays_5 : decode cX2_allWays 5 = .ok (.ishl, 1) := by decide +kernel
theorem dX2_allWays_6 : decode cX2_allWays 6 = .ok (.iconst 1, 1) := by decide +kernel
theorem dX2_allWays_7 : decode cX2_allWays 7 = .ok (.isub, 1) := by decide +kernel
theorem dX2_allWays_8 : decode cX2_allWays 8 = .ok (.ireturn, 1) := by decide +kernel
theorem dX2_leftBy_0 : decode cX2_leftBy 0 = .ok (.aload_n 0, 1) := by decide +kernel
theorem dX2_leftBy_1 : decode cX2_leftBy 1 = .ok (.invokevirtual 50, 3) := by decide +kernel
theorem dX2_leftBy_4 : decode cX2_leftBy 4 = .ok (.istore_n 2, 1) := by decide +kernel
theorem dX2_leftBy_5 : decode cX2_leftBy 5 = .ok (.iconst 0, 1) := by decide +kernel
theorem dX2_leftBy_6 : decode cX2_leftBy 6 = .ok (.istore_n 3, 1) := by decide +kernel
theorem dX2_leftBy_7 : decode cX2_leftBy 7 = .ok (.iload_n 3, 1) := by decide +kernel
theorem dX2_leftBy_8 : decode cX2_leftBy 8 = .ok (.aload_n 0, 1) := by decide +kernel
theorem dX2_leftBy_9 : decode cX2_leftBy 9 = .ok (.getfield 19, 3) := by decide +kernel
theorem dX2_leftBy_12 : decode cX2_leftBy 12 = .ok (.if_icmp .ge 28, 3) := by decide +kernel
theorem dX2_leftBy_15 : decode cX2_leftBy 15 = .ok (.iload_n 1, 1) := by decide +kernel
theorem dX2_leftBy_16 : decode cX2_leftBy 16 = .ok (.iload_n 3, 1) := by decide +kernel
theorem dX2_leftBy_17 : decode cX2_leftBy 17 = .ok (.invokestatic 54, 3) := by decide +kernel
theorem dX2_leftBy_20 : decode cX2_leftBy 20 = .ok (.ifCond .eq 14, 3) := by decide +kernel
theorem dX2_leftBy_23 : decode cX2_leftBy 23 = .ok (.iload_n 2, 1) := by decide +kernel
theorem dX2_leftBy_24 : decode cX2_leftBy 24 = .ok (.aload_n 0, 1) := by decide +kernel
theorem dX2_leftBy_25 : decode cX2_leftBy 25 = .ok (.getfield 22, 3) := by decide +kernel
theorem dX2_leftBy_28 : decode cX2_leftBy 28 = .ok (.iload_n 3, 1) := by decide +kernel
theorem dX2_leftBy_29 : decode cX2_leftBy 29 = .ok (.iaload, 1) := by decide +kernel
theorem dX2_leftBy_30 : decode cX2_leftBy 30 = .ok (.iconst (-1), 1) := by decide +kernel
theorem dX2_leftBy_31 : decode cX2_leftBy 31 = .ok (.ixor, 1) := by decide +kernel
theorem dX2_leftBy_32 : decode cX2_leftBy 32 = .ok (.iand, 1) := by decide +kernel
theorem dX2_leftBy_33 : decode cX2_leftBy 33 = .ok (.istore_n 2, 1) := by decide +kernel
theorem dX2_leftBy_34 : decode cX2_leftBy 34 = .ok (.iinc 3 1, 3) := by decide +kernel
theorem dX2_leftBy_37 : decode cX2_leftBy 37 = .ok (.goto (-30), 3) := by decide +kernel
theorem dX2_leftBy_40 : decode cX2_leftBy 40 = .ok (.iload_n 2, 1) := by decide +kernel
theorem dX2_leftBy_41 : decode cX2_leftBy 41 = .ok (.ireturn, 1) := by decide +kernel
theorem dX2_secretsOf_0 : decode cX2_secretsOf 0 = .ok (.iconst 0, 1) := by decide +kernel
theorem dX2_secretsOf_1 : decode cX2_secretsOf 1 = .ok (.istore_n 2, 1) := by decide +kernel
theorem dX2_secretsOf_2 : decode cX2_secretsOf 2 = .ok (.iconst 0, 1) := by decide +kernel
theorem dX2_secretsOf_3 : decode cX2_secretsOf 3 = .ok (.istore_n 3, 1) := by decide +kernel
theorem dX2_secretsOf_4 : decode cX2_secretsOf 4 = .ok (.iload_n 3, 1) := by decide +kernel
theorem dX2_secretsOf_5 : decode cX2_secretsOf 5 = .ok (.aload_n 0, 1) := by decide +kernel
theorem dX2_secretsOf_6 : decode cX2_secretsOf 6 = .ok (.getfield 19, 3) := by decide +kernel
theorem dX2_secretsOf_9 : decode cX2_secretsOf 9 = .ok (.if_icmp .ge 26, 3) := by decide +kernel
theorem dX2_secretsOf_12 : decode cX2_secretsOf 12 = .ok (.iload_n 1, 1) := by decide +kernel
theorem dX2_secretsOf_13 : decode cX2_secretsOf 13 = .ok (.iload_n 3, 1) := by decide +kernel
theorem dX2_secretsOf_14 : decode cX2_secretsOf 14 = .ok (.invokestatic 54, 3) := by decide +kernel
theorem dX2_secretsOf_17 : decode cX2_secretsOf 17 = .ok (.ifCond .eq 12, 3) := by decide +kernel
theorem dX2_secretsOf_20 : decode cX2_secretsOf 20 = .ok (.iload_n 2, 1) := by decide +kernel
theorem dX2_secretsOf_21 : decode cX2_secretsOf 21 = .ok (.aload_n 0, 1) := by decide +kernel
theorem dX2_secretsOf_22 : decode cX2_secretsOf 22 = .ok (.getfield 25, 3) := by decide +kernel
theorem dX2_secretsOf_25 : decode cX2_secretsOf 25 = .ok (.iload_n 3, 1) := by decide +kernel
theorem dX2_secretsOf_26 : decode cX2_secretsOf 26 = .ok (.iaload, 1) := by decide +kernel
theorem dX2_secretsOf_27 : decode cX2_secretsOf 27 = .ok (.ior, 1) := by decide +kernel
theorem dX2_secretsOf_28 : decode cX2_secretsOf 28 = .ok (.istore_n 2, 1) := by decide +kernel
theorem dX2_secretsOf_29 : decode cX2_secretsOf 29 = .ok (.iinc 3 1, 3) := by decide +kernel
theorem dX2_secretsOf_32 : decode cX2_secretsOf 32 = .ok (.goto (-28), 3) := by decide +kernel
theorem dX2_secretsOf_35 : decode cX2_secretsOf 35 = .ok (.iload_n 2, 1) := by decide +kernel
theorem dX2_secretsOf_36 : decode cX2_secretsOf 36 = .ok (.ireturn, 1) := by decide +kernel
theorem dX2_costOf_0 : decode cX2_costOf 0 = .ok (.iconst 0, 1) := by decide +kernel
theorem dX2_costOf_1 : decode cX2_costOf 1 = .ok (.istore_n 2, 1) := by decide +kernel
theorem dX2_costOf_2 : decode cX2_costOf 2 = .ok (.iconst 0, 1) := by decide +kernel
theorem dX2_costOf_3 : decode cX2_costOf 3 = .ok (.istore_n 3, 1) := by decide +kernel
theorem dX2_costOf_4 : decode cX2_costOf 4 = .ok (.iload_n 3, 1) := by decide +kernel
theorem dX2_costOf_5 : decode cX2_costOf 5 = .ok (.aload_n 0, 1) := by decide +kernel
theorem dX2_costOf_6 : decode cX2_costOf 6 = .ok (.getfield 19, 3) := by decide +kernel
theorem dX2_costOf_9 : decode cX2_costOf 9 = .ok (.if_icmp .ge 26, 3) := by decide +kernel
theorem dX2_costOf_12 : decode cX2_costOf 12 = .ok (.iload_n 1, 1) := by decide +kernel
theorem dX2_costOf_13 : decode cX2_costOf 13 = .ok (.iload_n 3, 1) := by decide +kernel
theorem dX2_costOf_14 : decode cX2_costOf 14 = .ok (.invokestatic 54, 3) := by decide +kernel
theorem dX2_costOf_17 : decode cX2_costOf 17 = .ok (.ifCond .eq 12, 3) := by decide +kernel
theorem dX2_costOf_20 : decode cX2_costOf 20 = .ok (.iload_n 2, 1) := by decide +kernel
theorem dX2_costOf_21 : decode cX2_costOf 21 = .ok (.aload_n 0, 1) := by decide +kernel
theorem dX2_costOf_22 : decode cX2_costOf 22 = .ok (.getfield 28, 3) := by decide +kernel
theorem dX2_costOf_25 : decode cX2_costOf 25 = .ok (.iload_n 3, 1) := by decide +kernel
theorem dX2_costOf_26 : decode cX2_costOf 26 = .ok (.iaload, 1) := by decide +kernel
theorem dX2_costOf_27 : decode cX2_costOf 27 = .ok (.iadd, 1) := by decide +kernel
theorem dX2_costOf_28 : decode cX2_costOf 28 = .ok (.istore_n 2, 1) := by decide +kernel
theorem dX2_costOf_29 : decode cX2_costOf 29 = .ok (.iinc 3 1, 3) := by decide +kernel
theorem dX2_costOf_32 : decode cX2_costOf 32 = .ok (.goto (-28), 3) := by decide +kernel
theorem dX2_costOf_35 : decode cX2_costOf 35 = .ok (.iload_n 2, 1) := by decide +kernel
theorem dX2_costOf_36 : decode cX2_costOf 36 = .ok (.ireturn, 1) := by decide +kernel
theorem dX2_likelyOf_0 : decode cX2_likelyOf 0 = .ok (.iconst 0, 1) := by decide +kernel
theorem dX2_likelyOf_1 : decode cX2_likelyOf 1 = .ok (.istore_n 2, 1) := by decide +kernel
theorem dX2_likelyOf_2 : decode cX2_likelyOf 2 = .ok (.iconst 0, 1) := by decide +kernel
theorem dX2_likelyOf_3 : decode cX2_likelyOf 3 = .ok (.istore_n 3, 1) := by decide +kernel
theorem dX2_likelyOf_4 : decode cX2_likelyOf 4 = .ok (.iload_n 3, 1) := by decide +kernel
theorem dX2_likelyOf_5 : decode cX2_likelyOf 5 = .ok (.aload_n 0, 1) := by decide +kernel
theorem dX2_likelyOf_6 : decode cX2_likelyOf 6 = .ok (.getfield 9, 3) := by decide +kernel
theorem dX2_likelyOf_9 : decode cX2_likelyOf 9 = .ok (.if_icmp .ge 26, 3) := by decide +kernel
theorem dX2_likelyOf_12 : decode cX2_likelyOf 12 = .ok (.iload_n 1, 1) := by decide +kernel
theorem dX2_likelyOf_13 : decode cX2_likelyOf 13 = .ok (.iload_n 3, 1) := by decide +kernel
theorem dX2_likelyOf_14 : decode cX2_likelyOf 14 = .ok (.invokestatic 54, 3) := by decide +kernel
theorem dX2_likelyOf_17 : decode cX2_likelyOf 17 = .ok (.ifCond .eq 12, 3) := by decide +kernel
theorem dX2_likelyOf_20 : decode cX2_likelyOf 20 = .ok (.iload_n 2, 1) := by decide +kernel
theorem dX2_likelyOf_21 : decode cX2_likelyOf 21 = .ok (.aload_n 0, 1) := by decide +kernel
theorem dX2_likelyOf_22 : decode cX2_likelyOf 22 = .ok (.getfield 15, 3) := by decide +kernel
theorem dX2_likelyOf_25 : decode cX2_likelyOf 25 = .ok (.iload_n 3, 1) := by decide +kernel
theorem dX2_likelyOf_26 : decode cX2_likelyOf 26 = .ok (.iaload, 1) := by decide +kernel
theorem dX2_likelyOf_27 : decode cX2_likelyOf 27 = .ok (.iadd, 1) := by decide +kernel
theorem dX2_likelyOf_28 : decode cX2_likelyOf 28 = .ok (.istore_n 2, 1) := by decide +kernel
theorem dX2_likelyOf_29 : decode cX2_likelyOf 29 = .ok (.iinc 3 1, 3) := by decide +kernel
theorem dX2_likelyOf_32 : decode cX2_likelyOf 32 = .ok (.goto (-28), 3) := by decide +kernel
theorem dX2_likelyOf_35 : decode cX2_likelyOf 35 = .ok (.iload_n 2, 1) := by decide +kernel
theorem dX2_likelyOf_36 : decode cX2_likelyOf 36 = .ok (.ireturn, 1) := by decide +kernel
theorem dX2_beliefIn_0 : decode cX2_beliefIn 0 = .ok (.aload_n 0, 1) := by decide +kernel
theorem dX2_beliefIn_1 : decode cX2_beliefIn 1 = .ok (.iload_n 2, 1) := by decide +kernel
theorem dX2_beliefIn_2 : decode cX2_beliefIn 2 = .ok (.invokevirtual 58, 3) := by decide +kernel
theorem dX2_beliefIn_5 : decode cX2_beliefIn 5 = .ok (.istore_n 3, 1) := by decide +kernel
theorem dX2_beliefIn_6 : decode cX2_beliefIn 6 = .ok (.aload_n 0, 1) := by decide +kernel
theorem dX2_beliefIn_7 : decode cX2_beliefIn 7 = .ok (.iload_n 1, 1) := by decide +kernel
theorem dX2_beliefIn_8 : decode cX2_beliefIn 8 = .ok (.invokevirtual 62, 3) := by decide +kernel
theorem dX2_beliefIn_11 : decode cX2_beliefIn 11 = .ok (.ifCond .eq 15, 3) := by decide +kernel
theorem dX2_beliefIn_14 : decode cX2_beliefIn 14 = .ok (.iload_n 2, 1) := by decide +kernel
theorem dX2_beliefIn_15 : decode cX2_beliefIn 15 = .ok (.iload_n 1, 1) := by decide +kernel
theorem dX2_beliefIn_16 : decode cX2_beliefIn 16 = .ok (.invokestatic 54, 3) := by decide +kernel
theorem dX2_beliefIn_19 : decode cX2_beliefIn 19 = .ok (.ifCond .eq 7, 3) := by decide +kernel
theorem dX2_beliefIn_22 : decode cX2_beliefIn 22 = .ok (.iload_n 3, 1) := by decide +kernel
theorem dX2_beliefIn_23 : decode cX2_beliefIn 23 = .ok (.ifCond .gt 5, 3) := by decide +kernel
theorem dX2_beliefIn_26 : decode cX2_beliefIn 26 = .ok (.iconst 0, 1) := by decide +kernel
theorem dX2_beliefIn_27 : decode cX2_beliefIn 27 = .ok (.ireturn, 1) := by decide +kernel
theorem dX2_beliefIn_28 : decode cX2_beliefIn 28 = .ok (.ldc2_w 66, 3) := by decide +kernel
theorem dX2_beliefIn_31 : decode cX2_beliefIn 31 = .ok (.aload_n 0, 1) := by decide +kernel
theorem dX2_beliefIn_32 : decode cX2_beliefIn 32 = .ok (.getfield 15, 3) := by decide +kernel
theorem dX2_beliefIn_35 : decode cX2_beliefIn 35 = .ok (.iload_n 1, 1) := by decide +kernel
theorem dX2_beliefIn_36 : decode cX2_beliefIn 36 = .ok (.iaload, 1) := by decide +kernel
theorem dX2_beliefIn_37 : decode cX2_beliefIn 37 = .ok (.i2l, 1) := by decide +kernel
theorem dX2_beliefIn_38 : decode cX2_beliefIn 38 = .ok (.lmul, 1) := by decide +kernel
theorem dX2_beliefIn_39 : decode cX2_beliefIn 39 = .ok (.iload_n 3, 1) := by decide +kernel
theorem dX2_beliefIn_40 : decode cX2_beliefIn 40 = .ok (.i2l, 1) := by decide +kernel
theorem dX2_beliefIn_41 : decode cX2_beliefIn 41 = .ok (.ldiv, 1) := by decide +kernel
theorem dX2_beliefIn_42 : decode cX2_beliefIn 42 = .ok (.l2i, 1) := by decide +kernel
theorem dX2_beliefIn_43 : decode cX2_beliefIn 43 = .ok (.ireturn, 1) := by decide +kernel
theorem dX3_init_0 : decode cX3_init 0 = .ok (.aload_n 0, 1) := by decide +kernel
theorem dX3_init_1 : decode cX3_init 1 = .ok (.invokespecial 1, 3) := by decide +kernel
theorem dX3_init_4 : decode cX3_init 4 = .ok (.aload_n 0, 1) := by decide +kernel
theorem dX3_init_5 : decode cX3_init 5 = .ok (.iconst 0, 1) := by decide +kernel
theorem dX3_init_6 : decode cX3_init 6 = .ok (.putfield 7, 3) := by decide +kernel
theorem dX3_init_9 : decode cX3_init 9 = .ok (.return_, 1) := by decide +kernel
theorem dX3_draw_0 : decode cX3_draw 0 = .ok (.aload_n 0, 1) := by decide +kernel
theorem dX3_draw_1 : decode cX3_draw 1 = .ok (.aload_n 0, 1) := by decide +kernel
theorem dX3_draw_2 : decode cX3_draw 2 = .ok (.getfield 7, 3) := by decide +kernel
theorem dX3_draw_5 : decode cX3_draw 5 = .ok (.i2l, 1) := by decide +kernel
theorem dX3_draw_6 : decode cX3_draw 6 = .ok (.ldc2_w 13, 3) := by decide +kernel
theorem dX3_draw_9 : decode cX3_draw 9 = .ok (.lmul, 1) := by decide +kernel
theorem dX3_draw_10 : decode cX3_draw 10 = .ok (.ldc2_w 15, 3) := by decide +kernel
theorem dX3_draw_13 : decode cX3_draw 13 = .ok (.ladd, 1) := by decide +kernel
theorem dX3_draw_14 : decode cX3_draw 14 = .ok (.ldc2_w 17, 3) := by decide +kernel
theorem dX3_draw_17 : decode cX3_draw 17 = .ok (.lrem, 1) := by decide +kernel
theorem dX3_draw_18 : decode cX3_draw 18 = .ok (.l2i, 1) := by decide +kernel
theorem dX3_draw_19 : decode cX3_draw 19 = .ok (.putfield 7, 3) := by decide +kernel
theorem dX3_draw_22 : decode cX3_draw 22 = .ok (.iload_n 1, 1) := by decide +kernel
theorem dX3_draw_23 : decode cX3_draw 23 = .ok (.ifCond .le 15, 3) := by decide +kernel
theorem dX3_draw_26 : decode cX3_draw 26 = .ok (.aload_n 0, 1) := by decide +kernel
theorem dX3_draw_27 : decode cX3_draw 27 = .ok (.getfield 7, 3) := by decide +kernel
theorem dX3_draw_30 : decode cX3_draw 30 = .ok (.ldc 19, 2) := by decide +kernel
theorem dX3_draw_32 : decode cX3_draw 32 = .ok (.idiv, 1) := by decide +kernel
theorem dX3_draw_33 : decode cX3_draw 33 = .ok (.iload_n 1, 1) := by decide +kernel
theorem dX3_draw_34 : decode cX3_draw 34 = .ok (.irem, 1) := by decide +kernel
theorem dX3_draw_35 : decode cX3_draw 35 = .ok (.goto 4, 3) := by decide +kernel
theorem dX3_draw_38 : decode cX3_draw 38 = .ok (.iconst 0, 1) := by decide +kernel
theorem dX3_draw_39 : decode cX3_draw 39 = .ok (.ireturn, 1) := by decide +kernel
theorem dX4_init_0 : decode cX4_init 0 = .ok (.aload_n 0, 1) := by decide +kernel
theorem dX4_init_1 : decode cX4_init 1 = .ok (.invokespecial 3, 3) := by decide +kernel
theorem dX4_init_4 : decode cX4_init 4 = .ok (.aload_n 0, 1) := by decide +kernel
theorem dX4_init_5 : decode cX4_init 5 = .ok (.bipush 6, 2) := by decide +kernel
theorem dX4_init_7 : decode cX4_init 7 = .ok (.newarray .int, 2) := by decide +kernel
theorem dX4_init_9 : decode cX4_init 9 = .ok (.putfield 9, 3) := by decide +kernel
theorem dX4_init_12 : decode cX4_init 12 = .ok (.aload_n 0, 1) := by decide +kernel
theorem dX4_init_13 : decode cX4_init 13 = .ok (.bipush 6, 2) := by decide +kernel
theorem dX4_init_15 : decode cX4_init 15 = .ok (.newarray .boolean, 2) := by decide +kernel
theorem dX4_init_17 : decode cX4_init 17 = .ok (.putfield 15, 3) := by decide +kernel
theorem dX4_init_20 : decode cX4_init 20 = .ok (.aload_n 0, 1) := by decide +kernel
theorem dX4_init_21 : decode cX4_init 21 = .ok (.iconst 0, 1) := by decide +kernel
theorem dX4_init_22 : decode cX4_init 22 = .ok (.putfield 19, 3) := by decide +kernel
theorem dX4_init_25 : decode cX4_init 25 = .ok (.return_, 1) := by decide +kernel
theorem dX4_add_0 : decode cX4_add 0 = .ok (.aload_n 0, 1) := by decide +kernel
theorem dX4_add_1 : decode cX4_add 1 = .ok (.getfield 19, 3) := by decide +kernel
theorem dX4_add_4 : decode cX4_add 4 = .ok (.bipush 6, 2) := by decide +kernel
theorem dX4_add_6 : decode cX4_add 6 = .ok (.if_icmp .lt 5, 3) := by decide +kernel
theorem dX4_add_9 : decode cX4_add 9 = .ok (.iconst 0, 1) := by decide +kernel
theorem dX4_add_10 : decode cX4_add 10 = .ok (.ireturn, 1) := by decide +kernel
theorem dX4_add_11 : decode cX4_add 11 = .ok (.aload_n 0, 1) := by decide +kernel
theorem dX4_add_12 : decode cX4_add 12 = .ok (.getfield 9, 3) := by decide +kernel
theorem dX4_add_15 : decode cX4_add 15 = .ok (.aload_n 0, 1) := by decide +kernel
theorem dX4_add_16 : decode cX4_add 16 = .ok (.getfield 19, 3) := by decide +kernel
theorem dX4_add_19 : decode cX4_add 19 = .ok (.iload_n 1, 1) := by decide +kernel
theorem dX4_add_20 : decode cX4_add 20 = .ok (.iastore, 1) := by decide +kernel
theorem dX4_add_21 : decode cX4_add 21 = .ok (.aload_n 0, 1) := by decide +kernel
theorem dX4_add_22 : decode cX4_add 22 = .ok (.getfield 15, 3) := by decide +kernel
theorem dX4_add_25 : decode cX4_add 25 = .ok (.aload_n 0, 1) := by decide +kernel
theorem dX4_add_26 : decode cX4_add 26 = .ok (.getfield 19, 3) := by decide +kernel
theorem dX4_add_29 : decode cX4_add 29 = .ok (.iload_n 2, 1) := by decide +kernel
theorem dX4_add_30 : decode cX4_add 30 = .ok (.bastore, 1) := by decide +kernel
theorem dX4_add_31 : decode cX4_add 31 = .ok (.aload_n 0, 1) := by decide +kernel
theorem dX4_add_32 : decode cX4_add 32 = .ok (.dup, 1) := by decide +kernel
theorem dX4_add_33 : decode cX4_add 33 = .ok (.getfield 19, 3) := by decide +kernel
theorem dX4_add_36 : decode cX4_add 36 = .ok (.iconst 1, 1) := by decide +kernel
theorem dX4_add_37 : decode cX4_add 37 = .ok (.iadd, 1) := by decide +kernel
theorem dX4_add_38 : decode cX4_add 38 = .ok (.putfield 19, 3) := by decide +kernel
theorem dX4_add_41 : decode cX4_add 41 = .ok (.iconst 1, 1) := by decide +kernel
theorem dX4_add_42 : decode cX4_add 42 = .ok (.ireturn, 1) := by decide +kernel
theorem dX4_fitting_0 : decode cX4_fitting 0 = .ok (.iconst 0, 1) := by decide +kernel
theorem dX4_fitting_1 : decode cX4_fitting 1 = .ok (.istore_n 2, 1) := by decide +kernel
theorem dX4_fitting_2 : decode cX4_fitting 2 = .ok (.iconst 0, 1) := by decide +kernel
theorem dX4_fitting_3 : decode cX4_fitting 3 = .ok (.istore_n 3, 1) := by decide +kernel
theorem dX4_fitting_4 : decode cX4_fitting 4 = .ok (.iload_n 3, 1) := by decide +kernel
theorem dX4_fitting_5 : decode cX4_fitting 5 = .ok (.iload_n 1, 1) := by decide +kernel
theorem dX4_fitting_6 : decode cX4_fitting 6 = .ok (.if_icmp .ge 24, 3) := by decide +kernel
theorem dX4_fitting_9 : decode cX4_fitting 9 = .ok (.aload_n 0, 1) := by decide +kernel
theorem dX4_fitting_10 : decode cX4_fitting 10 = .ok (.iload_n 3, 1) := by decide +kernel
theorem dX4_fitting_11 : decode cX4_fitting 11 = .ok (.iload_n 1, 1) := by decide +kernel
theorem dX4_fitting_12 : decode cX4_fitting 12 = .ok (.invokevirtual 23, 3) := by decide +kernel
theorem dX4_fitting_15 : decode cX4_fitting 15 = .ok (.ifCond .eq 9, 3) := by decide +kernel
theorem dX4_fitting_18 : decode cX4_fitting 18 = .ok (.iload_n 2, 1) := by decide +kernel
theorem dX4_fitting_19 : decode cX4_fitting 19 = .ok (.iconst 1, 1) := by decide +kernel
theorem dX4_fitting_20 : decode cX4_fitting 20 = .ok (.iload_n 3, 1) := by decide +kernel
theorem dX4_fitting_21 : decode cX4_fitting 21 = .ok (.ishl, 1) := by decide +kernel
theorem dX4_fitting_22 : decode cX4_fitting 22 = .ok (.ior, 1) := by decide +kernel
theorem dX4_fitting_23 : decode cX4_fitting 23 = .ok (.istore_n 2, 1) := by decide +kernel
theorem dX4_fitting_24 : decode cX4_fitting 24 = .ok (.iinc 3 1, 3) := by decide +kernel
theorem dX4_fitting_27 : decode cX4_fitting 27 = .ok (.goto (-23), 3) := by decide +kernel
theorem dX4_fitting_30 : decode cX4_fitting 30 = .ok (.iload_n 2, 1) := by decide +kernel
theorem dX4_fitting_31 : decode cX4_fitting 31 = .ok (.ireturn, 1) := by decide +kernel
theorem dX4_fits_0 : decode cX4_fits 0 = .ok (.iconst 0, 1) := by decide +kernel
theorem dX4_fits_1 : decode cX4_fits 1 = .ok (.istore_n 3, 1) := by decide +kernel
theorem dX4_fits_2 : decode cX4_fits 2 = .ok (.iload_n 3, 1) := by decide +kernel
theorem dX4_fits_3 : decode cX4_fits 3 = .ok (.aload_n 0, 1) := by decide +kernel
theorem dX4_fits_4 : decode cX4_fits 4 = .ok (.getfield 19, 3) := by decide +kernel
theorem dX4_fits_7 : decode cX4_fits 7 = .ok (.if_icmp .ge 31, 3) := by decide +kernel
theorem dX4_fits_10 : decode cX4_fits 10 = .ok (.aload_n 0, 1) := by decide +kernel
theorem dX4_fits_11 : decode cX4_fits 11 = .ok (.getfield 9, 3) := by decide +kernel
theorem dX4_fits_14 : decode cX4_fits 14 = .ok (.iload_n 3, 1) := by decide +kernel
theorem dX4_fits_15 : decode cX4_fits 15 = .ok (.iaload, 1) := by decide +kernel
theorem dX4_fits_16 : decode cX4_fits 16 = .ok (.iload_n 1, 1) := by decide +kernel
theorem dX4_fits_17 : decode cX4_fits 17 = .ok (.iload_n 2, 1) := by decide +kernel
theorem dX4_fits_18 : decode cX4_fits 18 = .ok (.invokestatic 27, 3) := by decide +kernel
theorem dX4_fits_21 : decode cX4_fits 21 = .ok (.aload_n 0, 1) := by decide +kernel
theorem dX4_fits_22 : decode cX4_fits 22 = .ok (.getfield 15, 3) := by decide +kernel
theorem dX4_fits_25 : decode cX4_fits 25 = .ok (.iload_n 3, 1) := by decide +kernel
theorem dX4_fits_26 : decode cX4_fits 26 = .ok (.baload, 1) := by decide +kernel
theorem dX4_fits_27 : decode cX4_fits 27 = .ok (.if_icmp .eq 5, 3) := by decide +kernel
theorem dX4_fits_30 : decode cX4_fits 30 = .ok (.iconst 0, 1) := by decide +kernel
theorem dX4_fits_31 : decode cX4_fits 31 = .ok (.ireturn, 1) := by decide +kernel
theorem dX4_fits_32 : decode cX4_fits 32 = .ok (.iinc 3 1, 3) := by decide +kernel
theorem dX4_fits_35 : decode cX4_fits 35 = .ok (.goto (-33), 3) := by decide +kernel
theorem dX4_fits_38 : decode cX4_fits 38 = .ok (.iconst 1, 1) := by decide +kernel
theorem dX4_fits_39 : decode cX4_fits 39 = .ok (.ireturn, 1) := by decide +kernel
theorem dX4_gotMoney_0 : decode cX4_gotMoney 0 = .ok (.iload_n 2, 1) := by decide +kernel
theorem dX4_gotMoney_1 : decode cX4_gotMoney 1 = .ok (.ifCond .le 14, 3) := by decide +kernel
theorem dX4_gotMoney_4 : decode cX4_gotMoney 4 = .ok (.iload_n 0, 1) := by decide +kernel
theorem dX4_gotMoney_5 : decode cX4_gotMoney 5 = .ok (.iload_n 2, 1) := by decide +kernel
theorem dX4_gotMoney_6 : decode cX4_gotMoney 6 = .ok (.irem, 1) := by decide +kernel
theorem dX4_gotMoney_7 : decode cX4_gotMoney 7 = .ok (.iload_n 1, 1) := by decide +kernel
theorem dX4_gotMoney_8 : decode cX4_gotMoney 8 = .ok (.if_icmp .ne 7, 3) := by decide +kernel
theorem dX4_gotMoney_11 : decode cX4_gotMoney 11 = .ok (.iconst 1, 1) := by decide +kernel
theorem dX4_gotMoney_12 : decode cX4_gotMoney 12 = .ok (.goto 4, 3) := by decide +kernel
theorem dX4_gotMoney_15 : decode cX4_gotMoney 15 = .ok (.iconst 0, 1) := by decide +kernel
theorem dX4_gotMoney_16 : decode cX4_gotMoney 16 = .ok (.ireturn, 1) := by decide +kernel
theorem dX4_bestQuestion_0 : decode cX4_bestQuestion 0 = .ok (.aload_n 0, 1) := by decide +kernel
theorem dX4_bestQuestion_1 : decode cX4_bestQuestion 1 = .ok (.iload_n 1, 1) := by decide +kernel
theorem dX4_bestQuestion_2 : decode cX4_bestQuestion 2 = .ok (.invokevirtual 31, 3) := by decide +kernel
theorem dX4_bestQuestion_5 : decode cX4_bestQuestion 5 = .ok (.istore_n 2, 1) := by decide +kernel
theorem dX4_bestQuestion_6 : decode cX4_bestQuestion 6 = .ok (.iconst (-1), 1) := by decide +kernel
theorem dX4_bestQuestion_7 : decode cX4_bestQuestion 7 = .ok (.istore_n 3, 1) := by decide +kernel
theorem dX4_bestQuestion_8 : decode cX4_bestQuestion 8 = .ok (.iload_n 2, 1) := by decide +kernel
theorem dX4_bestQuestion_9 : decode cX4_bestQuestion 9 = .ok (.invokestatic 35, 3) := by decide +kernel
theorem dX4_bestQuestion_12 : decode cX4_bestQuestion 12 = .ok (.istore 4, 2) := by decide +kernel
theorem dX4_bestQuestion_14 : decode cX4_bestQuestion 14 = .ok (.iconst 0, 1) := by decide +kernel
theorem dX4_bestQuestion_15 : decode cX4_bestQuestion 15 = .ok (.istore 5, 2) := by decide +kernel
theorem dX4_bestQuestion_17 : decode cX4_bestQuestion 17 = .ok (.iload 5, 2) := by decide +kernel
theorem dX4_bestQuestion_19 : decode cX4_bestQuestion 19 = .ok (.bipush 59, 2) := by decide +kernel
theorem dX4_bestQuestion_21 : decode cX4_bestQuestion 21 = .ok (.if_icmp .gt 32, 3) := by decide +kernel
theorem dX4_bestQuestion_24 : decode cX4_bestQuestion 24 = .ok (.iload_n 2, 1) := by decide +kernel
theorem dX4_bestQuestion_25 : decode cX4_bestQuestion 25 = .ok (.iload 5, 2) := by decide +kernel
theorem dX4_bestQuestion_27 : decode cX4_bestQuestion 27 = .ok (.iload_n 1, 1) := by decide +kernel
theorem dX4_bestQuestion_28 : decode cX4_bestQuestion 28 = .ok (.invokestatic 40, 3) := by decide +kernel
theorem dX4_bestQuestion_31 : decode cX4_bestQuestion 31 = .ok (.istore 6, 2) := by decide +kernel
theorem dX4_bestQuestion_33 : decode cX4_bestQuestion 33 = .ok (.iload 6, 2) := by decide +kernel
theorem dX4_bestQuestion_35 : decode cX4_bestQuestion 35 = .ok (.iload 4, 2) := by decide +kernel
theorem dX4_bestQuestion_37 : decode cX4_bestQuestion 37 = .ok (.if_icmp .ge 10, 3) := by decide +kernel
theorem dX4_bestQuestion_40 : decode cX4_bestQuestion 40 = .ok (.iload 5, 2) := by decide +kernel
theorem dX4_bestQuestion_42 : decode cX4_bestQuestion 42 = .ok (.istore_n 3, 1) := by decide +kernel
theorem dX4_bestQuestion_43 : decode cX4_bestQuestion 43 = .ok (.iload 6, 2) := by decide +kernel
theorem dX4_bestQuestion_45 : decode cX4_bestQuestion 45 = .ok (.istore 4, 2) := by decide +kernel
theorem dX4_bestQuestion_47 : decode cX4_bestQuestion 47 = .ok (.iinc 5 1, 3) := by decide +kernel
theorem dX4_bestQuestion_50 : decode cX4_bestQuestion 50 = .ok (.goto (-33), 3) := by decide +kernel
theorem dX4_bestQuestion_53 : decode cX4_bestQuestion 53 = .ok (.iload_n 3, 1) := by decide +kernel
theorem dX4_bestQuestion_54 : decode cX4_bestQuestion 54 = .ok (.ireturn, 1) := by decide +kernel
theorem dX4_greaterPart_0 : decode cX4_greaterPart 0 = .ok (.iconst 0, 1) := by decide +kernel
theorem dX4_greaterPart_1 : decode cX4_greaterPart 1 = .ok (.istore_n 3, 1) := by decide +kernel
theorem dX4_greaterPart_2 : decode cX4_greaterPart 2 = .ok (.iconst 0, 1) := by decide +kernel
theorem dX4_greaterPart_3 : decode cX4_greaterPart 3 = .ok (.istore 4, 2) := by decide +kernel
theorem dX4_greaterPart_5 : decode cX4_greaterPart 5 = .ok (.iload 4, 2) := by decide +kernel
theorem dX4_greaterPart_7 : decode cX4_greaterPart 7 = .ok (.iload_n 2, 1) := by decide +kernel
theorem dX4_greaterPart_8 : decode cX4_greaterPart 8 = .ok (.if_icmp .ge 31, 3) := by decide +kernel
theorem dX4_greaterPart_11 : decode cX4_greaterPart 11 = .ok (.iload_n 0, 1) := by decide +kernel
theorem dX4_greaterPart_12 : decode cX4_greaterPart 12 = .ok (.iload 4, 2) := by decide +kernel
theorem dX4_greaterPart_14 : decode cX4_greaterPart 14 = .ok (.invokestatic 44, 3) := by decide +kernel
theorem dX4_greaterPart_17 : decode cX4_greaterPart 17 = .ok (.ifCond .eq 16, 3) := by decide +kernel
theorem dX4_greaterPart_20 : decode cX4_greaterPart 20 = .ok (.iload_n 1, 1) := by decide +kernel
theorem dX4_greaterPart_21 : decode cX4_greaterPart 21 = .ok (.iload 4, 2) := by decide +kernel
theorem dX4_greaterPart_23 : decode cX4_greaterPart 23 = .ok (.iload_n 2, 1) := by decide +kernel
theorem dX4_greaterPart_24 : decode cX4_greaterPart 24 = .ok (.invokestatic 27, 3) := by decide +kernel
theorem dX4_greaterPart_27 : decode cX4_greaterPart 27 = .ok (.ifCond .eq 6, 3) := by decide +kernel
theorem dX4_greaterPart_30 : decode cX4_greaterPart 30 = .ok (.iinc 3 1, 3) := by decide +kernel
theorem dX4_greaterPart_33 : decode cX4_greaterPart 33 = .ok (.iinc 4 1, 3) := by decide +kernel
theorem dX4_greaterPart_36 : decode cX4_greaterPart 36 = .ok (.goto (-31), 3) := by decide +kernel
theorem dX4_greaterPart_39 : decode cX4_greaterPart 39 = .ok (.iload_n 3, 1) := by decide +kernel
theorem dX4_greaterPart_40 : decode cX4_greaterPart 40 = .ok (.iload_n 0, 1) := by decide +kernel
theorem dX4_greaterPart_41 : decode cX4_greaterPart 41 = .ok (.invokestatic 35, 3) := by decide +kernel
theorem dX4_greaterPart_44 : decode cX4_greaterPart 44 = .ok (.iload_n 3, 1) := by decide +kernel
theorem dX4_greaterPart_45 : decode cX4_greaterPart 45 = .ok (.isub, 1) := by decide +kernel
theorem dX4_greaterPart_46 : decode cX4_greaterPart 46 = .ok (.invokestatic 47, 3) := by decide +kernel
theorem dX4_greaterPart_49 : decode cX4_greaterPart 49 = .ok (.ireturn, 1) := by decide +kernel
theorem dX5_init_0 : decode cX5_init 0 = .ok (.aload_n 0, 1) := by decide +kernel
theorem dX5_init_1 : decode cX5_init 1 = .ok (.invokespecial 3, 3) := by decide +kernel
theorem dX5_init_4 : decode cX5_init 4 = .ok (.aload_n 0, 1) := by decide +kernel
theorem dX5_init_5 : decode cX5_init 5 = .ok (.bipush 20, 2) := by decide +kernel
theorem dX5_init_7 : decode cX5_init 7 = .ok (.anewarray 9, 3) := by decide +kernel
theorem dX5_init_10 : decode cX5_init 10 = .ok (.putfield 11, 3) := by decide +kernel
theorem dX5_init_13 : decode cX5_init 13 = .ok (.aload_n 0, 1) := by decide +kernel
theorem dX5_init_14 : decode cX5_init 14 = .ok (.iconst 0, 1) := by decide +kernel
theorem dX5_init_15 : decode cX5_init 15 = .ok (.putfield 17, 3) := by decide +kernel
theorem dX5_init_18 : decode cX5_init 18 = .ok (.aload_n 0, 1) := by decide +kernel
theorem dX5_init_19 : decode cX5_init 19 = .ok (.iconst 0, 1) := by decide +kernel
theorem dX5_init_20 : decode cX5_init 20 = .ok (.putfield 21, 3) := by decide +kernel
theorem dX5_init_23 : decode cX5_init 23 = .ok (.iconst 0, 1) := by decide +kernel
theorem dX5_init_24 : decode cX5_init 24 = .ok (.istore_n 1, 1) := by decide +kernel
theorem dX5_init_25 : decode cX5_init 25 = .ok (.iload_n 1, 1) := by decide +kernel
theorem dX5_init_26 : decode cX5_init 26 = .ok (.bipush 20, 2) := by decide +kernel
theorem dX5_init_28 : decode cX5_init 28 = .ok (.if_icmp .ge 22, 3) := by decide +kernel
theorem dX5_init_31 : decode cX5_init 31 = .ok (.aload_n 0, 1) := by decide +kernel
theorem dX5_init_32 : decode cX5_init 32 = .ok (.getfield 11, 3) := by decide +kernel
theorem dX5_init_35 : decode cX5_init 35 = .ok (.iload_n 1, 1) := by decide +kernel
theorem dX5_init_36 : decode cX5_init 36 = .ok (.new 9, 3) := by decide +kernel
theorem dX5_init_39 : decode cX5_init 39 = .ok (.dup, 1) := by decide +kernel
theorem dX5_init_40 : decode cX5_init 40 = .ok (.invokespecial 24, 3) := by decide +kernel
theorem dX5_init_43 : decode cX5_init 43 = .ok (.aastore, 1) := by decide +kernel
theorem dX5_init_44 : decode cX5_init 44 = .ok (.iinc 1 1, 3) := by decide +kernel
theorem dX5_init_47 : decode cX5_init 47 = .ok (.goto (-22), 3) := by decide +kernel
theorem dX5_init_50 : decode cX5_init 50 = .ok (.return_, 1) := by decide +kernel
theorem dX5_remember_0 : decode cX5_remember 0 = .ok (.aload_n 0, 1) := by decide +kernel
theorem dX5_remember_1 : decode cX5_remember 1 = .ok (.getfield 11, 3) := by decide +kernel
theorem dX5_remember_4 : decode cX5_remember 4 = .ok (.aload_n 0, 1) := by decide +kernel
theorem dX5_remember_5 : decode cX5_remember 5 = .ok (.getfield 17, 3) := by decide +kernel
theorem dX5_remember_8 : decode cX5_remember 8 = .ok (.aaload, 1) := by decide +kernel
theorem dX5_remember_9 : decode cX5_remember 9 = .ok (.aload_n 1, 1) := by decide +kernel
theorem dX5_remember_10 : decode cX5_remember 10 = .ok (.invokevirtual 25, 3) := by decide +kernel
theorem dX5_remember_13 : decode cX5_remember 13 = .ok (.aload_n 0, 1) := by decide +kernel
theorem dX5_remember_14 : decode cX5_remember 14 = .ok (.aload_n 0, 1) := by decide +kernel
theorem dX5_remember_15 : decode cX5_remember 15 = .ok (.getfield 17, 3) := by decide +kernel
theorem dX5_remember_18 : decode cX5_remember 18 = .ok (.iconst 1, 1) := by decide +kernel
theorem dX5_remember_19 : decode cX5_remember 19 = .ok (.iadd, 1) := by decide +kernel
theorem dX5_remember_20 : decode cX5_remember 20 = .ok (.bipush 20, 2) := by decide +kernel
theorem dX5_remember_22 : decode cX5_remember 22 = .ok (.irem, 1) := by decide +kernel
theorem dX5_remember_23 : decode cX5_remember 23 = .ok (.putfield 17, 3) := by decide +kernel
theorem dX5_remember_26 : decode cX5_remember 26 = .ok (.aload_n 0, 1) := by decide +kernel
theorem dX5_remember_27 : decode cX5_remember 27 = .ok (.aload_n 0, 1) := by decide +kernel
theorem dX5_remember_28 : decode cX5_remember 28 = .ok (.getfield 21, 3) := by decide +kernel
theorem dX5_remember_31 : decode cX5_remember 31 = .ok (.iconst 1, 1) := by decide +kernel
theorem dX5_remember_32 : decode cX5_remember 32 = .ok (.iadd, 1) := by decide +kernel
theorem dX5_remember_33 : decode cX5_remember 33 = .ok (.bipush 20, 2) := by decide +kernel
theorem dX5_remember_35 : decode cX5_remember 35 = .ok (.invokestatic 29, 3) := by decide +kernel
theorem dX5_remember_38 : decode cX5_remember 38 = .ok (.putfield 21, 3) := by decide +kernel
theorem dX5_remember_41 : decode cX5_remember 41 = .ok (.return_, 1) := by decide +kernel
theorem dX5_recall_0 : decode cX5_recall 0 = .ok (.aload_n 0, 1) := by decide +kernel
theorem dX5_recall_1 : decode cX5_recall 1 = .ok (.getfield 21, 3) := by decide +kernel
theorem dX5_recall_4 : decode cX5_recall 4 = .ok (.ifCond .ne 4, 3) := by decide +kernel
theorem dX5_recall_7 : decode cX5_recall 7 = .ok (.return_, 1) := by decide +kernel
theorem dX5_recall_8 : decode cX5_recall 8 = .ok (.aload_n 0, 1) := by decide +kernel
theorem dX5_recall_9 : decode cX5_recall 9 = .ok (.aload_n 0, 1) := by decide +kernel
theorem dX5_recall_10 : decode cX5_recall 10 = .ok (.getfield 17, 3) := by decide +kernel
theorem dX5_recall_13 : decode cX5_recall 13 = .ok (.bipush 20, 2) := by decide +kernel
theorem dX5_recall_15 : decode cX5_recall 15 = .ok (.iadd, 1) := by decide +kernel
theorem dX5_recall_16 : decode cX5_recall 16 = .ok (.iconst 1, 1) := by decide +kernel
theorem dX5_recall_17 : decode cX5_recall 17 = .ok (.isub, 1) := by decide +kernel
theorem dX5_recall_18 : decode cX5_recall 18 = .ok (.bipush 20, 2) := by decide +kernel
theorem dX5_recall_20 : decode cX5_recall 20 = .ok (.irem, 1) := by decide +kernel
theorem dX5_recall_21 : decode cX5_recall 21 = .ok (.putfield 17, 3) := by decide +kernel
theorem dX5_recall_24 : decode cX5_recall 24 = .ok (.aload_n 0, 1) := by decide +kernel
theorem dX5_recall_25 : decode cX5_recall 25 = .ok (.dup, 1) := by decide +kernel
theorem dX5_recall_26 : decode cX5_recall 26 = .ok (.getfield 21, 3) := by decide +kernel
theorem dX5_recall_29 : decode cX5_recall 29 = .ok (.iconst 1, 1) := by decide +kernel
theorem dX5_recall_30 : decode cX5_recall 30 = .ok (.isub, 1) := by decide +kernel
theorem dX5_recall_31 : decode cX5_recall 31 = .ok (.putfield 21, 3) := by decide +kernel
theorem dX5_recall_34 : decode cX5_recall 34 = .ok (.aload_n 1, 1) := by decide +kernel
theorem dX5_recall_35 : decode cX5_recall 35 = .ok (.aload_n 0, 1) := by decide +kernel
theorem dX5_recall_36 : decode cX5_recall 36 = .ok (.getfield 11, 3) := by decide +kernel
theorem dX5_recall_39 : decode cX5_recall 39 = .ok (.aload_n 0, 1) := by decide +kernel
theorem dX5_recall_40 : decode cX5_recall 40 = .ok (.getfield 17, 3) := by decide +kernel
theorem dX5_recall_43 : decode cX5_recall 43 = .ok (.aaload, 1) := by decide +kernel
theorem dX5_recall_44 : decode cX5_recall 44 = .ok (.invokevirtual 25, 3) := by decide +kernel
theorem dX5_recall_47 : decode cX5_recall 47 = .ok (.return_, 1) := by decide +kernel
theorem dX5_forget_0 : decode cX5_forget 0 = .ok (.aload_n 0, 1) := by decide +kernel
theorem dX5_forget_1 : decode cX5_forget 1 = .ok (.iconst 0, 1) := by decide +kernel
theorem dX5_forget_2 : decode cX5_forget 2 = .ok (.putfield 21, 3) := by decide +kernel
theorem dX5_forget_5 : decode cX5_forget 5 = .ok (.return_, 1) := by decide +kernel
theorem dX6_init_0 : decode cX6_init 0 = .ok (.aload_n 0, 1) := by decide +kernel
theorem dX6_init_1 : decode cX6_init 1 = .ok (.invokespecial 1, 3) := by decide +kernel
theorem dX6_init_4 : decode cX6_init 4 = .ok (.aload_n 0, 1) := by decide +kernel
theorem dX6_init_5 : decode cX6_init 5 = .ok (.iconst 0, 1) := by decide +kernel
theorem dX6_init_6 : decode cX6_init 6 = .ok (.putfield 7, 3) := by decide +kernel
theorem dX6_init_9 : decode cX6_init 9 = .ok (.aload_n 0, 1) := by decide +kernel
theorem dX6_init_10 : decode cX6_init 10 = .ok (.new 13, 3) := by decide +kernel
theorem dX6_init_13 : decode cX6_init 13 = .ok (.dup, 1) := by decide +kernel
theorem dX6_init_14 : decode cX6_init 14 = .ok (.invokespecial 15, 3) := by decide +kernel
theorem dX6_init_17 : decode cX6_init 17 = .ok (.putfield 16, 3) := by decide +kernel
theorem dX6_init_20 : decode cX6_init 20 = .ok (.aload_n 0, 1) := by decide +kernel
theorem dX6_init_21 : decode cX6_init 21 = .ok (.iconst 0, 1) := by decide +kernel
theorem dX6_init_22 : decode cX6_init 22 = .ok (.putfield 20, 3) := by decide +kernel
theorem dX6_init_25 : decode cX6_init 25 = .ok (.return_, 1) := by decide +kernel
theorem dX7_init_0 : decode cX7_init 0 = .ok (.aload_n 0, 1) := by decide +kernel
theorem dX7_init_1 : decode cX7_init 1 = .ok (.invokespecial 3, 3) := by decide +kernel
theorem dX7_init_4 : decode cX7_init 4 = .ok (.aload_n 0, 1) := by decide +kernel
theorem dX7_init_5 : decode cX7_init 5 = .ok (.iconst 0, 1) := by decide +kernel
theorem dX7_init_6 : decode cX7_init 6 = .ok (.putfield 9, 3) := by decide +kernel
theorem dX7_init_9 : decode cX7_init 9 = .ok (.aload_n 0, 1) := by decide +kernel
theorem dX7_init_10 : decode cX7_init 10 = .ok (.iconst 0, 1) := by decide +kernel
theorem dX7_init_11 : decode cX7_init 11 = .ok (.putfield 15, 3) := by decide +kernel
theorem dX7_init_14 : decode cX7_init 14 = .ok (.aload_n 0, 1) := by decide +kernel
theorem dX7_init_15 : decode cX7_init 15 = .ok (.new 18, 3) := by decide +kernel
theorem dX7_init_18 : decode cX7_init 18 = .ok (.dup, 1) := by decide +kernel
theorem dX7_init_19 : decode cX7_init 19 = .ok (.invokespecial 20, 3) := by decide +kernel
theorem dX7_init_22 : decode cX7_init 22 = .ok (.putfield 21, 3) := by decide +kernel
theorem dX7_init_25 : decode cX7_init 25 = .ok (.aload_n 0, 1) := by decide +kernel
theorem dX7_init_26 : decode cX7_init 26 = .ok (.iconst 0, 1) := by decide +kernel
theorem dX7_init_27 : decode cX7_init 27 = .ok (.putfield 25, 3) := by decide +kernel
theorem dX7_init_30 : decode cX7_init 30 = .ok (.aload_n 0, 1) := by decide +kernel
theorem dX7_init_31 : decode cX7_init 31 = .ok (.iconst 0, 1) := by decide +kernel
theorem dX7_init_32 : decode cX7_init 32 = .ok (.putfield 29, 3) := by decide +kernel
theorem dX7_init_35 : decode cX7_init 35 = .ok (.aload_n 0, 1) := by decide +kernel
theorem dX7_init_36 : decode cX7_init 36 = .ok (.iconst 0, 1) := by decide +kernel
theorem dX7_init_37 : decode cX7_init 37 = .ok (.putfield 32, 3) := by decide +kernel
theorem dX7_init_40 : decode cX7_init 40 = .ok (.aload_n 0, 1) := by decide +kernel
theorem dX7_init_41 : decode cX7_init 41 = .ok (.iconst 0, 1) := by decide +kernel
theorem dX7_init_42 : decode cX7_init 42 = .ok (.putfield 35, 3) := by decide +kernel
theorem dX7_init_45 : decode cX7_init 45 = .ok (.aload_n 0, 1) := by decide +kernel
theorem dX7_init_46 : decode cX7_init 46 = .ok (.iconst (-1), 1) := by decide +kernel
theorem dX7_init_47 : decode cX7_init 47 = .ok (.putfield 38, 3) := by decide +kernel
theorem dX7_init_50 : decode cX7_init 50 = .ok (.aload_n 0, 1) := by decide +kernel
theorem dX7_init_51 : decode cX7_init 51 = .ok (.aload_n 1, 1) := by decide +kernel
theorem dX7_init_52 : decode cX7_init 52 = .ok (.putfield 41, 3) := by decide +kernel
theorem dX7_init_55 : decode cX7_init 55 = .ok (.return_, 1) := by decide +kernel
theorem dX7_readText_0 : decode cX7_readText 0 = .ok (.aload_n 0, 1) := by decide +kernel
theorem dX7_readText_1 : decode cX7_readText 1 = .ok (.iload_n 1, 1) := by decide +kernel
theorem dX7_readText_2 : decode cX7_readText 2 = .ok (.aload_n 0, 1) := by decide +kernel
theorem dX7_readText_3 : decode cX7_readText 3 = .ok (.getfield 41, 3) := by decide +kernel
theorem dX7_readText_6 : decode cX7_readText 6 = .ok (.arraylength, 1) := by decide +kernel
theorem dX7_readText_7 : decode cX7_readText 7 = .ok (.invokestatic 45, 3) := by decide +kernel
theorem dX7_readText_10 : decode cX7_readText 10 = .ok (.putfield 9, 3) := by decide +kernel
theorem dX7_readText_13 : decode cX7_readText 13 = .ok (.aload_n 0, 1) := by decide +kernel
theorem dX7_readText_14 : decode cX7_readText 14 = .ok (.iconst 0, 1) := by decide +kernel
theorem dX7_readText_15 : decode cX7_readText 15 = .ok (.putfield 15, 3) := by decide +kernel
theorem dX7_readText_18 : decode cX7_readText 18 = .ok (.aload_n 0, 1) := by decide +kernel
theorem dX7_readText_19 : decode cX7_readText 19 = .ok (.iconst 0, 1) := by decide +kernel
theorem dX7_readText_20 : decode cX7_readText 20 = .ok (.putfield 25, 3) := by decide +kernel
theorem dX7_readText_23 : decode cX7_readText 23 = .ok (.aload_n 0, 1) := by decide +kernel
theorem dX7_readText_24 : decode cX7_readText 24 = .ok (.iconst 0, 1) := by decide +kernel
theorem dX7_readText_25 : decode cX7_readText 25 = .ok (.putfield 35, 3) := by decide +kernel
theorem dX7_readText_28 : decode cX7_readText 28 = .ok (.aload_n 0, 1) := by decide +kernel
theorem dX7_readText_29 : decode cX7_readText 29 = .ok (.iconst (-1), 1) := by decide +kernel
theorem dX7_readText_30 : decode cX7_readText 30 = .ok (.putfield 38, 3) := by decide +kernel
theorem dX7_readText_33 : decode cX7_readText 33 = .ok (.aload_n 0, 1) := by decide +kernel
theorem dX7_readText_34 : decode cX7_readText 34 = .ok (.getfield 21, 3) := by decide +kernel
theorem dX7_readText_37 : decode cX7_readText 37 = .ok (.invokevirtual 51, 3) := by decide +kernel
theorem dX7_readText_40 : decode cX7_readText 40 = .ok (.aload_n 0, 1) := by decide +kernel
theorem dX7_readText_41 : decode cX7_readText 41 = .ok (.invokevirtual 54, 3) := by decide +kernel
theorem dX7_readText_44 : decode cX7_readText 44 = .ok (.aload_n 0, 1) := by decide +kernel
theorem dX7_readText_45 : decode cX7_readText 45 = .ok (.getfield 15, 3) := by decide +kernel
theorem dX7_readText_48 : decode cX7_readText 48 = .ok (.aload_n 0, 1) := by decide +kernel
theorem dX7_readText_49 : decode cX7_readText 49 = .ok (.getfield 9, 3) := by decide +kernel
theorem dX7_readText_52 : decode cX7_readText 52 = .ok (.if_icmp .lt 5, 3) := by decide +kernel
theorem dX7_readText_55 : decode cX7_readText 55 = .ok (.iconst 0, 1) := by decide +kernel
theorem dX7_readText_56 : decode cX7_readText 56 = .ok (.ireturn, 1) := by decide +kernel
theorem dX7_readText_57 : decode cX7_readText 57 = .ok (.aload_n 0, 1) := by decide +kernel
theorem dX7_readText_58 : decode cX7_readText 58 = .ok (.getfield 21, 3) := by decide +kernel
theorem dX7_readText_61 : decode cX7_readText 61 = .ok (.iconst 1, 1) := by decide +kernel
theorem dX7_readText_62 : decode cX7_readText 62 = .ok (.putfield 57, 3) := by decide +kernel
theorem dX7_readText_65 : decode cX7_readText 65 = .ok (.aload_n 0, 1) := by decide +kernel
theorem dX7_readText_66 : decode cX7_readText 66 = .ok (.getfield 21, 3) := by decide +kernel
theorem dX7_readText_69 : decode cX7_readText 69 = .ok (.iconst 1, 1) := by decide +kernel
theorem dX7_readText_70 : decode cX7_readText 70 = .ok (.putfield 60, 3) := by decide +kernel
theorem dX7_readText_73 : decode cX7_readText 73 = .ok (.aload_n 0, 1) := by decide +kernel
theorem dX7_readText_74 : decode cX7_readText 74 = .ok (.invokevirtual 63, 3) := by decide +kernel
theorem dX7_readText_77 : decode cX7_readText 77 = .ok (.istore_n 2, 1) := by decide +kernel
theorem dX7_readText_78 : decode cX7_readText 78 = .ok (.iconst 0, 1) := by decide +kernel
theorem dX7_readText_79 : decode cX7_readText 79 = .ok (.istore_n 3, 1) := by decide +kernel
theorem dX7_readText_80 : decode cX7_readText 80 = .ok (.iload_n 3, 1) := by decide +kernel
theorem dX7_readText_81 : decode cX7_readText 81 = .ok (.sipush 240, 3) := by decide +kernel
theorem dX7_readText_84 : decode cX7_readText 84 = .ok (.if_icmp .ge 29, 3) := by decide +kernel
theorem dX7_readText_87 : decode cX7_readText 87 = .ok (.iload_n 2, 1) := by decide +kernel
theorem dX7_readText_88 : decode cX7_readText 88 = .ok (.ifCond .eq 25, 3) := by decide +kernel
theorem dX7_readText_91 : decode cX7_readText 91 = .ok (.aload_n 0, 1) := by decide +kernel
theorem dX7_readText_92 : decode cX7_readText 92 = .ok (.getfield 15, 3) := by decide +kernel
theorem dX7_readText_95 : decode cX7_readText 95 = .ok (.aload_n 0, 1) := by decide +kernel
theorem dX7_readText_96 : decode cX7_readText 96 = .ok (.getfield 9, 3) := by decide +kernel
theorem dX7_readText_99 : decode cX7_readText 99 = .ok (.if_icmp .ge 14, 3) := by decide +kernel
theorem dX7_readText_102 : decode cX7_readText 102 = .ok (.aload_n 0, 1) := by decide +kernel
theorem dX7_readText_103 : decode cX7_readText 103 = .ok (.invokevirtual 67, 3) := by decide +kernel
theorem dX7_readText_106 : decode cX7_readText 106 = .ok (.istore_n 2, 1) := by decide +kernel
theorem dX7_readText_107 : decode cX7_readText 107 = .ok (.iinc 3 1, 3) := by decide +kernel
theorem dX7_readText_110 : decode cX7_readText 110 = .ok (.goto (-30), 3) := by decide +kernel
theorem dX7_readText_113 : decode cX7_readText 113 = .ok (.aload_n 0, 1) := by decide +kernel
theorem dX7_readText_114 : decode cX7_readText 114 = .ok (.getfield 35, 3) := by decide +kernel
theorem dX7_readText_117 : decode cX7_readText 117 = .ok (.ireturn, 1) := by decide +kernel
theorem dX7_exchange_0 : decode cX7_exchange 0 = .ok (.aload_n 0, 1) := by decide +kernel
theorem dX7_exchange_1 : decode cX7_exchange 1 = .ok (.getfield 21, 3) := by decide +kernel
theorem dX7_exchange_4 : decode cX7_exchange 4 = .ok (.astore_n 2, 1) := by decide +kernel
theorem dX7_exchange_5 : decode cX7_exchange 5 = .ok (.aload_n 0, 1) := by decide +kernel
theorem dX7_exchange_6 : decode cX7_exchange 6 = .ok (.aload_n 1, 1) := by decide +kernel
theorem dX7_exchange_7 : decode cX7_exchange 7 = .ok (.putfield 21, 3) := by decide +kernel
theorem dX7_exchange_10 : decode cX7_exchange 10 = .ok (.aload_n 2, 1) := by decide +kernel
theorem dX7_exchange_11 : decode cX7_exchange 11 = .ok (.areturn, 1) := by decide +kernel
theorem dX7_readWays_0 : decode cX7_readWays 0 = .ok (.aload_n 0, 1) := by decide +kernel
theorem dX7_readWays_1 : decode cX7_readWays 1 = .ok (.bipush 119, 2) := by decide +kernel
theorem dX7_readWays_3 : decode cX7_readWays 3 = .ok (.invokevirtual 70, 3) := by decide +kernel
theorem dX7_readWays_6 : decode cX7_readWays 6 = .ok (.ifCond .eq 26, 3) := by decide +kernel
theorem dX7_readWays_9 : decode cX7_readWays 9 = .ok (.aload_n 0, 1) := by decide +kernel
theorem dX7_readWays_10 : decode cX7_readWays 10 = .ok (.invokevirtual 74, 3) := by decide +kernel
theorem dX7_readWays_13 : decode cX7_readWays 13 = .ok (.ifCond .eq 19, 3) := by decide +kernel
theorem dX7_readWays_16 : decode cX7_readWays 16 = .ok (.aload_n 0, 1) := by decide +kernel
theorem dX7_readWays_17 : decode cX7_readWays 17 = .ok (.bipush 44, 2) := by decide +kernel
theorem dX7_readWays_19 : decode cX7_readWays 19 = .ok (.invokevirtual 70, 3) := by decide +kernel
theorem dX7_readWays_22 : decode cX7_readWays 22 = .ok (.ifCond .eq 10, 3) := by decide +kernel
theorem dX7_readWays_25 : decode cX7_readWays 25 = .ok (.aload_n 0, 1) := by decide +kernel
theorem dX7_readWays_26 : decode cX7_readWays 26 = .ok (.invokevirtual 74, 3) := by decide +kernel
theorem dX7_readWays_29 : decode cX7_readWays 29 = .ok (.ifCond .ne 5, 3) := by decide +kernel
theorem dX7_readWays_32 : decode cX7_readWays 32 = .ok (.iconst 0, 1) := by decide +kernel
theorem dX7_readWays_33 : decode cX7_readWays 33 = .ok (.ireturn, 1) := by decide +kernel
theorem dX7_readWays_34 : decode cX7_readWays 34 = .ok (.iconst 2, 1) := by decide +kernel
theorem dX7_readWays_35 : decode cX7_readWays 35 = .ok (.istore_n 1, 1) := by decide +kernel
theorem dX7_readWays_36 : decode cX7_readWays 36 = .ok (.iload_n 1, 1) := by decide +kernel
theorem dX7_readWays_37 : decode cX7_readWays 37 = .ok (.bipush 8, 2) := by decide +kernel
theorem dX7_readWays_39 : decode cX7_readWays 39 = .ok (.if_icmp .ge 36, 3) := by decide +kernel
theorem dX7_readWays_42 : decode cX7_readWays 42 = .ok (.aload_n 0, 1) := by decide +kernel
theorem dX7_readWays_43 : decode cX7_readWays 43 = .ok (.invokevirtual 77, 3) := by decide +kernel
theorem dX7_readWays_46 : decode cX7_readWays 46 = .ok (.bipush 44, 2) := by decide +kernel
theorem dX7_readWays_48 : decode cX7_readWays 48 = .ok (.if_icmp .ne 27, 3) := by decide +kernel
theorem dX7_readWays_51 : decode cX7_readWays 51 = .ok (.aload_n 0, 1) := by decide +kernel
theorem dX7_readWays_52 : decode cX7_readWays 52 = .ok (.bipush 44, 2) := by decide +kernel
theorem dX7_readWays_54 : decode cX7_readWays 54 = .ok (.invokevirtual 70, 3) := by decide +kernel
theorem dX7_readWays_57 : decode cX7_readWays 57 = .ok (.ifCond .eq 10, 3) := by decide +kernel
theorem dX7_readWays_60 : decode cX7_readWays 60 = .ok (.aload_n 0, 1) := by decide +kernel
theorem dX7_readWays_61 : decode cX7_readWays 61 = .ok (.invokevirtual 74, 3) := by decide +kernel
theorem dX7_readWays_64 : decode cX7_readWays 64 = .ok (.ifCond .ne 5, 3) := by decide +kernel
theorem dX7_readWays_67 : decode cX7_readWays 67 = .ok (.iconst 0, 1) := by decide +kernel
theorem dX7_readWays_68 : decode cX7_readWays 68 = .ok (.ireturn, 1) := by decide +kernel
theorem dX7_readWays_69 : decode cX7_readWays 69 = .ok (.iinc 1 1, 3) := by decide +kernel
theorem dX7_readWays_72 : decode cX7_readWays 72 = .ok (.goto (-36), 3) := by decide +kernel
theorem dX7_readWays_75 : decode cX7_readWays 75 = .ok (.aload_n 0, 1) := by decide +kernel
theorem dX7_readWays_76 : decode cX7_readWays 76 = .ok (.bipush 59, 2) := by decide +kernel
theorem dX7_readWays_78 : decode cX7_readWays 78 = .ok (.invokevirtual 70, 3) := by decide +kernel
theorem dX7_readWays_81 : decode cX7_readWays 81 = .ok (.ireturn, 1) := by decide +kernel
theorem dX7_readWay_0 : decode cX7_readWay 0 = .ok (.aload_n 0, 1) := by decide +kernel
theorem dX7_readWay_1 : decode cX7_readWay 1 = .ok (.getfield 21, 3) := by decide +kernel
theorem dX7_readWay_4 : decode cX7_readWay 4 = .ok (.getfield 81, 3) := by decide +kernel
theorem dX7_readWay_7 : decode cX7_readWay 7 = .ok (.bipush 8, 2) := by decide +kernel
theorem dX7_readWay_9 : decode cX7_readWay 9 = .ok (.if_icmp .lt 13, 3) := by decide +kernel
theorem dX7_readWay_12 : decode cX7_readWay 12 = .ok (.aload_n 0, 1) := by decide +kernel
theorem dX7_readWay_13 : decode cX7_readWay 13 = .ok (.iconst 1, 1) := by decide +kernel
theorem dX7_readWay_14 : decode cX7_readWay 14 = .ok (.aload_n 0, 1) := by decide +kernel
theorem dX7_readWay_15 : decode cX7_readWay 15 = .ok (.getfield 15, 3) := by decide +kernel
theorem dX7_readWay_18 : decode cX7_readWay 18 = .ok (.invokevirtual 84, 3) := by decide +kernel
theorem dX7_readWay_21 : decode cX7_readWay 21 = .ok (.ireturn, 1) := by decide +kernel
theorem dX7_readWay_22 : decode cX7_readWay 22 = .ok (.aload_n 0, 1) := by decide +kernel
theorem dX7_readWay_23 : decode cX7_readWay 23 = .ok (.iconst 1, 1) := by decide +kernel
theorem dX7_readWay_24 : decode cX7_readWay 24 = .ok (.sipush 999, 3) := by decide +kernel
theorem dX7_readWay_27 : decode cX7_readWay 27 = .ok (.invokevirtual 88, 3) := by decide +kernel
theorem dX7_readWay_30 : decode cX7_readWay 30 = .ok (.ifCond .ne 5, 3) := by decide +kernel
theorem dX7_readWay_33 : decode cX7_readWay 33 = .ok (.iconst 0, 1) := by decide +kernel
theorem dX7_readWay_34 : decode cX7_readWay 34 = .ok (.ireturn, 1) := by decide +kernel
theorem dX7_readWay_35 : decode cX7_readWay 35 = .ok (.aload_n 0, 1) := by decide +kernel
theorem dX7_readWay_36 : decode cX7_readWay 36 = .ok (.getfield 21, 3) := by decide +kernel
theorem dX7_readWay_39 : decode cX7_readWay 39 = .ok (.getfield 91, 3) := by decide +kernel
theorem dX7_readWay_42 : decode cX7_readWay 42 = .ok (.aload_n 0, 1) := by decide +kernel
theorem dX7_readWay_43 : decode cX7_readWay 43 = .ok (.getfield 21, 3) := by decide +kernel
theorem dX7_readWay_46 : decode cX7_readWay 46 = .ok (.getfield 81, 3) := by decide +kernel
theorem dX7_readWay_49 : decode cX7_readWay 49 = .ok (.aload_n 0, 1) := by decide +kernel
theorem dX7_readWay_50 : decode cX7_readWay 50 = .ok (.getfield 29, 3) := by decide +kernel
theorem dX7_readWay_53 : decode cX7_readWay 53 = .ok (.iastore, 1) := by decide +kernel
theorem dX7_readWay_54 : decode cX7_readWay 54 = .ok (.aload_n 0, 1) := by decide +kernel
theorem dX7_readWay_55 : decode cX7_readWay 55 = .ok (.getfield 21, 3) := by decide +kernel
theorem dX7_readWay_58 : decode cX7_readWay 58 = .ok (.dup, 1) := by decide +kernel
theorem dX7_readWay_59 : decode cX7_readWay 59 = .ok (.getfield 81, 3) := by decide +kernel
theorem dX7_readWay_62 : decode cX7_readWay 62 = .ok (.iconst 1, 1) := by decide +kernel
theorem dX7_readWay_63 : decode cX7_readWay 63 = .ok (.iadd, 1) := by decide +kernel
theorem dX7_readWay_64 : decode cX7_readWay 64 = .ok (.putfield 81, 3) := by decide +kernel
theorem dX7_readWay_67 : decode cX7_readWay 67 = .ok (.iconst 1, 1) := by decide +kernel
theorem dX7_readWay_68 : decode cX7_readWay 68 = .ok (.ireturn, 1) := by decide +kernel
theorem dX7_readClause_0 : decode cX7_readClause 0 = .ok (.aload_n 0, 1) := by decide +kernel
theorem dX7_readClause_1 : decode cX7_readClause 1 = .ok (.invokevirtual 77, 3) := by decide +kernel
theorem dX7_readClause_4 : decode cX7_readClause 4 = .ok (.tableswitch 73 112 119 #[68, 73, 73, 63, 58, 73, 73, 48], 48) := by decide +kernel
theorem dX7_readClause_52 : decode cX7_readClause 52 = .ok (.aload_n 0, 1) := by decide +kernel
theorem dX7_readClause_53 : decode cX7_readClause 53 = .ok (.iconst 3, 1) := by decide +kernel
theorem dX7_readClause_54 : decode cX7_readClause 54 = .ok (.aload_n 0, 1) := by decide +kernel
theorem dX7_readClause_55 : decode cX7_readClause 55 = .ok (.getfield 15, 3) := by decide +kernel
theorem dX7_readClause_58 : decode cX7_readClause 58 = .ok (.invokevirtual 84, 3) := by decide +kernel
theorem dX7_readClause_61 : decode cX7_readClause 61 = .ok (.ireturn, 1) := by decide +kernel
theorem dX7_readClause_62 : decode cX7_readClause 62 = .ok (.aload_n 0, 1) := by decide +kernel
theorem dX7_readClause_63 : decode cX7_readClause 63 = .ok (.invokevirtual 94, 3) := by decide +kernel
theorem dX7_readClause_66 : decode cX7_readClause 66 = .ok (.ireturn, 1) := by decide +kernel
theorem dX7_readClause_67 : decode cX7_readClause 67 = .ok (.aload_n 0, 1) := by decide +kernel
theorem dX7_readClause_68 : decode cX7_readClause 68 = .ok (.invokevirtual 97, 3) := by decide +kernel
theorem dX7_readClause_71 : decode cX7_readClause 71 = .ok (.ireturn, 1) := by decide +kernel
theorem dX7_readClause_72 : decode cX7_readClause 72 = .ok (.aload_n 0, 1) := by decide +kernel
theorem dX7_readClause_73 : decode cX7_readClause 73 = .ok (.invokevirtual 100, 3) := by decide +kernel
theorem dX7_readClause_76 : decode cX7_readClause 76 = .ok (.ireturn, 1) := by decide +kernel
theorem dX7_readClause_77 : decode cX7_readClause 77 = .ok (.aload_n 0, 1) := by decide +kernel
theorem dX7_readClause_78 : decode cX7_readClause 78 = .ok (.iconst 1, 1) := by decide +kernel
theorem dX7_readClause_79 : decode cX7_readClause 79 = .ok (.aload_n 0, 1) := by decide +kernel
theorem dX7_readClause_80 : decode cX7_readClause 80 = .ok (.getfield 15, 3) := by decide +kernel
theorem dX7_readClause_83 : decode cX7_readClause 83 = .ok (.invokevirtual 84, 3) := by decide +kernel
theorem dX7_readClause_86 : decode cX7_readClause 86 = .ok (.ireturn, 1) := by decide +kernel
theorem dX7_readTest_0 : decode cX7_readTest 0 = .ok (.aload_n 0, 1) := by decide +kernel
theorem dX7_readTest_1 : decode cX7_readTest 1 = .ok (.getfield 21, 3) := by decide +kernel
theorem dX7_readTest_4 : decode cX7_readTest 4 = .ok (.getfield 103, 3) := by decide +kernel
theorem dX7_readTest_7 : decode cX7_readTest 7 = .ok (.istore_n 1, 1) := by decide +kernel
theorem dX7_readTest_8 : decode cX7_readTest 8 = .ok (.iload_n 1, 1) := by decide +kernel
theorem dX7_readTest_9 : decode cX7_readTest 9 = .ok (.bipush 6, 2) := by decide +kernel
theorem dX7_readTest_11 : decode cX7_readTest 11 = .ok (.if_icmp .lt 13, 3) := by decide +kernel
theorem dX7_readTest_14 : decode cX7_readTest 14 = .ok (.aload_n 0, 1) := by decide +kernel
theorem dX7_readTest_15 : decode cX7_readTest 15 = .ok (.iconst 3, 1) := by decide +kernel
theorem dX7_readTest_16 : decode cX7_readTest 16 = .ok (.aload_n 0, 1) := by decide +kernel
theorem dX7_readTest_17 : decode cX7_readTest 17 = .ok (.getfield 15, 3) := by decide +kernel
theorem dX7_readTest_20 : decode cX7_readTest 20 = .ok (.invokevirtual 84, 3) := by decide +kernel
theorem dX7_readTest_23 : decode cX7_readTest 23 = .ok (.ireturn, 1) := by decide +kernel
theorem dX7_readTest_24 : decode cX7_readTest 24 = .ok (.aload_n 0, 1) := by decide +kernel
theorem dX7_readTest_25 : decode cX7_readTest 25 = .ok (.bipush 116, 2) := by decide +kernel
theorem dX7_readTest_27 : decode cX7_readTest 27 = .ok (.invokevirtual 70, 3) := by decide +kernel
theorem dX7_readTest_30 : decode cX7_readTest 30 = .ok (.ifCond .eq 11, 3) := by decide +kernel
theorem dX7_readTest_33 : decode cX7_readTest 33 = .ok (.aload_n 0, 1) := by decide +kernel
theorem dX7_readTest_34 : decode cX7_readTest 34 = .ok (.iconst 0, 1) := by decide +kernel
theorem dX7_readTest_35 : decode cX7_readTest 35 = .ok (.invokevirtual 106, 3) := by decide +kernel
theorem dX7_readTest_38 : decode cX7_readTest 38 = .ok (.ifCond .ne 5, 3) := by decide +kernel
theorem dX7_readTest_41 : decode cX7_readTest 41 = .ok (.iconst 0, 1) := by decide +kernel
theorem dX7_readTest_42 : decode cX7_readTest 42 = .ok (.ireturn, 1) := by decide +kernel
theorem dX7_readTest_43 : decode cX7_readTest 43 = .ok (.aload_n 0, 1) := by decide +kernel
theorem dX7_readTest_44 : decode cX7_readTest 44 = .ok (.getfield 29, 3) := by decide +kernel
theorem dX7_readTest_47 : decode cX7_readTest 47 = .ok (.iconst 0, 1) := by decide +kernel
theorem dX7_readTest_48 : decode cX7_readTest 48 = .ok (.invokestatic 109, 3) := by decide +kernel
theorem dX7_readTest_51 : decode cX7_readTest 51 = .ok (.ifCond .eq 13, 3) := by decide +kernel
theorem dX7_readTest_54 : decode cX7_readTest 54 = .ok (.aload_n 0, 1) := by decide +kernel
theorem dX7_readTest_55 : decode cX7_readTest 55 = .ok (.iconst 2, 1) := by decide +kernel
theorem dX7_readTest_56 : decode cX7_readTest 56 = .ok (.aload_n 0, 1) := by decide +kernel
theorem dX7_readTest_57 : decode cX7_readTest 57 = .ok (.getfield 32, 3) := by decide +kernel
theorem dX7_readTest_60 : decode cX7_readTest 60 = .ok (.invokevirtual 84, 3) := by decide +kernel
theorem dX7_readTest_63 : decode cX7_readTest 63 = .ok (.ireturn, 1) := by decide +kernel
theorem dX7_readTest_64 : decode cX7_readTest 64 = .ok (.aload_n 0, 1) := by decide +kernel
theorem dX7_readTest_65 : decode cX7_readTest 65 = .ok (.getfield 21, 3) := by decide +kernel
theorem dX7_readTest_68 : decode cX7_readTest 68 = .ok (.getfield 112, 3) := by decide +kernel
theorem dX7_readTest_71 : decode cX7_readTest 71 = .ok (.iload_n 1, 1) := by decide +kernel
theorem dX7_readTest_72 : decode cX7_readTest 72 = .ok (.aload_n 0, 1) := by decide +kernel
theorem dX7_readTest_73 : decode cX7_readTest 73 = .ok (.getfield 29, 3) := by decide +kernel
theorem dX7_readTest_76 : decode cX7_readTest 76 = .ok (.iastore, 1) := by decide +kernel
theorem dX7_readTest_77 : decode cX7_readTest 77 = .ok (.aload_n 0, 1) := by decide +kernel
theorem dX7_readTest_78 : decode cX7_readTest 78 = .ok (.iconst 0, 1) := by decide +kernel
theorem dX7_readTest_79 : decode cX7_readTest 79 = .ok (.bipush 63, 2) := by decide +kernel
theorem dX7_readTest_81 : decode cX7_readTest 81 = .ok (.invokevirtual 88, 3) := by decide +kernel
theorem dX7_readTest_84 : decode cX7_readTest 84 = .ok (.ifCond .ne 5, 3) := by decide +kernel
theorem dX7_readTest_87 : decode cX7_readTest 87 = .ok (.iconst 0, 1) := by decide +kernel
theorem dX7_readTest_88 : decode cX7_readTest 88 = .ok (.ireturn, 1) := by decide +kernel
theorem dX7_readTest_89 : decode cX7_readTest 89 = .ok (.aload_n 0, 1) := by decide +kernel
theorem dX7_readTest_90 : decode cX7_readTest 90 = .ok (.getfield 21, 3) := by decide +kernel
theorem dX7_readTest_93 : decode cX7_readTest 93 = .ok (.getfield 115, 3) := by decide +kernel
theorem dX7_readTest_96 : decode cX7_readTest 96 = .ok (.iload_n 1, 1) := by decide +kernel
theorem dX7_readTest_97 : decode cX7_readTest 97 = .ok (.aload_n 0, 1) := by decide +kernel
theorem dX7_readTest_98 : decode cX7_readTest 98 = .ok (.getfield 29, 3) := by decide +kernel
theorem dX7_readTest_101 : decode cX7_readTest 101 = .ok (.iastore, 1) := by decide +kernel
theorem dX7_readTest_102 : decode cX7_readTest 102 = .ok (.aload_n 0, 1) := by decide +kernel
theorem dX7_readTest_103 : decode cX7_readTest 103 = .ok (.iconst 0, 1) := by decide +kernel
theorem dX7_readTest_104 : decode cX7_readTest 104 = .ok (.sipush 999, 3) := by decide +kernel
theorem dX7_readTest_107 : decode cX7_readTest 107 = .ok (.invokevirtual 88, 3) := by decide +kernel
theorem dX7_readTest_110 : decode cX7_readTest 110 = .ok (.ifCond .ne 5, 3) := by decide +kernel
theorem dX7_readTest_113 : decode cX7_readTest 113 = .ok (.iconst 0, 1) := by decide +kernel
theorem dX7_readTest_114 : decode cX7_readTest 114 = .ok (.ireturn, 1) := by decide +kernel
theorem dX7_readTest_115 : decode cX7_readTest 115 = .ok (.aload_n 0, 1) := by decide +kernel
theorem dX7_readTest_116 : decode cX7_readTest 116 = .ok (.getfield 21, 3) := by decide +kernel
theorem dX7_readTest_119 : decode cX7_readTest 119 = .ok (.getfield 118, 3) := by decide +kernel
theorem dX7_readTest_122 : decode cX7_readTest 122 = .ok (.iload_n 1, 1) := by decide +kernel
theorem dX7_readTest_123 : decode cX7_readTest 123 = .ok (.aload_n 0, 1) := by decide +kernel
theorem dX7_readTest_124 : decode cX7_readTest 124 = .ok (.getfield 29, 3) := by decide +kernel
theorem dX7_readTest_127 : decode cX7_readTest 127 = .ok (.iastore, 1) := by decide +kernel
theorem dX7_readTest_128 : decode cX7_readTest 128 = .ok (.aload_n 0, 1) := by decide +kernel
theorem dX7_readTest_129 : decode cX7_readTest 129 = .ok (.getfield 21, 3) := by decide +kernel
theorem dX7_readTest_132 : decode cX7_readTest 132 = .ok (.iload_n 1, 1) := by decide +kernel
theorem dX7_readTest_133 : decode cX7_readTest 133 = .ok (.iconst 1, 1) := by decide +kernel
theorem dX7_readTest_134 : decode cX7_readTest 134 = .ok (.iadd, 1) := by decide +kernel
theorem dX7_readTest_135 : decode cX7_readTest 135 = .ok (.putfield 103, 3) := by decide +kernel
theorem dX7_readTest_138 : decode cX7_readTest 138 = .ok (.aload_n 0, 1) := by decide +kernel
theorem dX7_readTest_139 : decode cX7_readTest 139 = .ok (.bipush 59, 2) := by decide +kernel
theorem dX7_readTest_141 : decode cX7_readTest 141 = .ok (.invokevirtual 70, 3) := by decide +kernel
theorem dX7_readTest_144 : decode cX7_readTest 144 = .ok (.ireturn, 1) := by decide +kernel
theorem dX7_readServant_0 : decode cX7_readServant 0 = .ok (.aload_n 0, 1) := by decide +kernel
theorem dX7_readServant_1 : decode cX7_readServant 1 = .ok (.getfield 21, 3) := by decide +kernel
theorem dX7_readServant_4 : decode cX7_readServant 4 = .ok (.getfield 121, 3) := by decide +kernel
theorem dX7_readServant_7 : decode cX7_readServant 7 = .ok (.istore_n 1, 1) := by decide +kernel
theorem dX7_readServant_8 : decode cX7_readServant 8 = .ok (.iload_n 1, 1) := by decide +kernel
theorem dX7_readServant_9 : decode cX7_readServant 9 = .ok (.iconst 5, 1) := by decide +kernel
theorem dX7_readServant_10 : decode cX7_readServant 10 = .ok (.if_icmp .lt 13, 3) := by decide +kernel
theorem dX7_readServant_13 : decode cX7_readServant 13 = .ok (.aload_n 0, 1) := by decide +kernel
theorem dX7_readServant_14 : decode cX7_readServant 14 = .ok (.iconst 3, 1) := by decide +kernel
theorem dX7_readServant_15 : decode cX7_readServant 15 = .ok (.aload_n 0, 1) := by decide +kernel
theorem dX7_readServant_16 : decode cX7_readServant 16 = .ok (.getfield 15, 3) := by decide +kernel
theorem dX7_readServant_19 : decode cX7_readServant 19 = .ok (.invokevirtual 84, 3) := by decide +kernel
theorem dX7_readServant_22 : decode cX7_readServant 22 = .ok (.ireturn, 1) := by decide +kernel
theorem dX7_readServant_23 : decode cX7_readServant 23 = .ok (.aload_n 0, 1) := by decide +kernel
theorem dX7_readServant_24 : decode cX7_readServant 24 = .ok (.bipush 115, 2) := by decide +kernel
theorem dX7_readServant_26 : decode cX7_readServant 26 = .ok (.invokevirtual 70, 3) := by decide +kernel
theorem dX7_readServant_29 : decode cX7_readServant 29 = .ok (.ifCond .eq 11, 3) := by decide +kernel
theorem dX7_readServant_32 : decode cX7_readServant 32 = .ok (.aload_n 0, 1) := by decide +kernel
theorem dX7_readServant_33 : decode cX7_readServant 33 = .ok (.iconst 1, 1) := by decide +kernel
theorem dX7_readServant_34 : decode cX7_readServant 34 = .ok (.invokevirtual 106, 3) := by decide +kernel
theorem dX7_readServant_37 : decode cX7_readServant 37 = .ok (.ifCond .ne 5, 3) := by decide +kernel
theorem dX7_readServant_40 : decode cX7_readServant 40 = .ok (.iconst 0, 1) := by decide +kernel
theorem dX7_readServant_41 : decode cX7_readServant 41 = .ok (.ireturn, 1) := by decide +kernel
theorem dX7_readServant_42 : decode cX7_readServant 42 = .ok (.aload_n 0, 1) := by decide +kernel
theorem dX7_readServant_43 : decode cX7_readServant 43 = .ok (.getfield 21, 3) := by decide +kernel
theorem dX7_readServant_46 : decode cX7_readServant 46 = .ok (.getfield 124, 3) := by decide +kernel
theorem dX7_readServant_49 : decode cX7_readServant 49 = .ok (.iload_n 1, 1) := by decide +kernel
theorem dX7_readServant_50 : decode cX7_readServant 50 = .ok (.aload_n 0, 1) := by decide +kernel
theorem dX7_readServant_51 : decode cX7_readServant 51 = .ok (.getfield 29, 3) := by decide +kernel
theorem dX7_readServant_54 : decode cX7_readServant 54 = .ok (.iastore, 1) := by decide +kernel
theorem dX7_readServant_55 : decode cX7_readServant 55 = .ok (.aload_n 0, 1) := by decide +kernel
theorem dX7_readServant_56 : decode cX7_readServant 56 = .ok (.iconst 0, 1) := by decide +kernel
theorem dX7_readServant_57 : decode cX7_readServant 57 = .ok (.sipush 999, 3) := by decide +kernel
theorem dX7_readServant_60 : decode cX7_readServant 60 = .ok (.invokevirtual 88, 3) := by decide +kernel
theorem dX7_readServant_63 : decode cX7_readServant 63 = .ok (.ifCond .ne 5, 3) := by decide +kernel
theorem dX7_readServant_66 : decode cX7_readServant 66 = .ok (.iconst 0, 1) := by decide +kernel
theorem dX7_readServant_67 : decode cX7_readServant 67 = .ok (.ireturn, 1) := by decide +kernel
theorem dX7_readServant_68 : decode cX7_readServant 68 = .ok (.aload_n 0, 1) := by decide +kernel
theorem dX7_readServant_69 : decode cX7_readServant 69 = .ok (.getfield 21, 3) := by decide +kernel
theorem dX7_readServant_72 : decode cX7_readServant 72 = .ok (.getfield 127, 3) := by decide +kernel
theorem dX7_readServant_75 : decode cX7_readServant 75 = .ok (.iload_n 1, 1) := by decide +kernel
theorem dX7_readServant_76 : decode cX7_readServant 76 = .ok (.aload_n 0, 1) := by decide +kernel
theorem dX7_readServant_77 : decode cX7_readServant 77 = .ok (.getfield 29, 3) := by decide +kernel
theorem dX7_readServant_80 : decode cX7_readServant 80 = .ok (.iastore, 1) := by decide +kernel
theorem dX7_readServant_81 : decode cX7_readServant 81 = .ok (.aload_n 0, 1) := by decide +kernel
theorem dX7_readServant_82 : decode cX7_readServant 82 = .ok (.getfield 21, 3) := by decide +kernel
theorem dX7_readServant_85 : decode cX7_readServant 85 = .ok (.iload_n 1, 1) := by decide +kernel
theorem dX7_readServant_86 : decode cX7_readServant 86 = .ok (.iconst 1, 1) := by decide +kernel
theorem dX7_readServant_87 : decode cX7_readServant 87 = .ok (.iadd, 1) := by decide +kernel
theorem dX7_readServant_88 : decode cX7_readServant 88 = .ok (.putfield 121, 3) := by decide +kernel
theorem dX7_readServant_91 : decode cX7_readServant 91 = .ok (.aload_n 0, 1) := by decide +kernel
theorem dX7_readServant_92 : decode cX7_readServant 92 = .ok (.bipush 59, 2) := by decide +kernel
theorem dX7_readServant_94 : decode cX7_readServant 94 = .ok (.invokevirtual 70, 3) := by decide +kernel
theorem dX7_readServant_97 : decode cX7_readServant 97 = .ok (.ireturn, 1) := by decide +kernel
theorem dX7_readPay_0 : decode cX7_readPay 0 = .ok (.aload_n 0, 1) := by decide +kernel
theorem dX7_readPay_1 : decode cX7_readPay 1 = .ok (.getfield 25, 3) := by decide +kernel
theorem dX7_readPay_4 : decode cX7_readPay 4 = .ok (.ifCond .eq 13, 3) := by decide +kernel
theorem dX7_readPay_7 : decode cX7_readPay 7 = .ok (.aload_n 0, 1) := by decide +kernel
theorem dX7_readPay_8 : decode cX7_readPay 8 = .ok (.iconst 3, 1) := by decide +kernel
theorem dX7_readPay_9 : decode cX7_readPay 9 = .ok (.aload_n 0, 1) := by decide +kernel
theorem dX7_readPay_10 : decode cX7_readPay 10 = .ok (.getfield 15, 3) := by decide +kernel
theorem dX7_readPay_13 : decode cX7_readPay 13 = .ok (.invokevirtual 84, 3) := by decide +kernel
theorem dX7_readPay_16 : decode cX7_readPay 16 = .ok (.ireturn, 1) := by decide +kernel
theorem dX7_readPay_17 : decode cX7_readPay 17 = .ok (.aload_n 0, 1) := by decide +kernel
theorem dX7_readPay_18 : decode cX7_readPay 18 = .ok (.iconst 1, 1) := by decide +kernel
theorem dX7_readPay_19 : decode cX7_readPay 19 = .ok (.putfield 25, 3) := by decide +kernel
theorem dX7_readPay_22 : decode cX7_readPay 22 = .ok (.aload_n 0, 1) := by decide +kernel
theorem dX7_readPay_23 : decode cX7_readPay 23 = .ok (.bipush 112, 2) := by decide +kernel
theorem dX7_readPay_25 : decode cX7_readPay 25 = .ok (.invokevirtual 70, 3) := by decide +kernel
theorem dX7_readPay_28 : decode cX7_readPay 28 = .ok (.ifCond .eq 13, 3) := by decide +kernel
theorem dX7_readPay_31 : decode cX7_readPay 31 = .ok (.aload_n 0, 1) := by decide +kernel
theorem dX7_readPay_32 : decode cX7_readPay 32 = .ok (.iconst 1, 1) := by decide +kernel
theorem dX7_readPay_33 : decode cX7_readPay 33 = .ok (.bipush 99, 2) := by decide +kernel
theorem dX7_readPay_35 : decode cX7_readPay 35 = .ok (.invokevirtual 88, 3) := by decide +kernel
theorem dX7_readPay_38 : decode cX7_readPay 38 = .ok (.ifCond .ne 5, 3) := by decide +kernel
theorem dX7_readPay_41 : decode cX7_readPay 41 = .ok (.iconst 0, 1) := by decide +kernel
theorem dX7_readPay_42 : decode cX7_readPay 42 = .ok (.ireturn, 1) := by decide +kernel
theorem dX7_readPay_43 : decode cX7_readPay 43 = .ok (.aload_n 0, 1) := by decide +kernel
theorem dX7_readPay_44 : decode cX7_readPay 44 = .ok (.getfield 21, 3) := by decide +kernel
theorem dX7_readPay_47 : decode cX7_readPay 47 = .ok (.aload_n 0, 1) := by decide +kernel
theorem dX7_readPay_48 : decode cX7_readPay 48 = .ok (.getfield 29, 3) := by decide +kernel
theorem dX7_readPay_51 : decode cX7_readPay 51 = .ok (.putfield 57, 3) := by decide +kernel
theorem dX7_readPay_54 : decode cX7_readPay 54 = .ok (.aload_n 0, 1) := by decide +kernel
theorem dX7_readPay_55 : decode cX7_readPay 55 = .ok (.iconst 1, 1) := by decide +kernel
theorem dX7_readPay_56 : decode cX7_readPay 56 = .ok (.bipush 30, 2) := by decide +kernel
theorem dX7_readPay_58 : decode cX7_readPay 58 = .ok (.invokevirtual 88, 3) := by decide +kernel
theorem dX7_readPay_61 : decode cX7_readPay 61 = .ok (.ifCond .ne 5, 3) := by decide +kernel
theorem dX7_readPay_64 : decode cX7_readPay 64 = .ok (.iconst 0, 1) := by decide +kernel
theorem dX7_readPay_65 : decode cX7_readPay 65 = .ok (.ireturn, 1) := by decide +kernel
theorem dX7_readPay_66 : decode cX7_readPay 66 = .ok (.aload_n 0, 1) := by decide +kernel
theorem dX7_readPay_67 : decode cX7_readPay 67 = .ok (.getfield 21, 3) := by decide +kernel
theorem dX7_readPay_70 : decode cX7_readPay 70 = .ok (.aload_n 0, 1) := by decide +kernel
theorem dX7_readPay_71 : decode cX7_readPay 71 = .ok (.getfield 29, 3) := by decide +kernel
theorem dX7_readPay_74 : decode cX7_readPay 74 = .ok (.putfield 60, 3) := by decide +kernel
theorem dX7_readPay_77 : decode cX7_readPay 77 = .ok (.aload_n 0, 1) := by decide +kernel
theorem dX7_readPay_78 : decode cX7_readPay 78 = .ok (.bipush 59, 2) := by decide +kernel
theorem dX7_readPay_80 : decode cX7_readPay 80 = .ok (.invokevirtual 70, 3) := by decide +kernel
theorem dX7_readPay_83 : decode cX7_readPay 83 = .ok (.ireturn, 1) := by decide +kernel
theorem dX7_readWaySet_0 : decode cX7_readWaySet 0 = .ok (.aload_n 0, 1) := by decide +kernel
theorem dX7_readWaySet_1 : decode cX7_readWaySet 1 = .ok (.iload_n 1, 1) := by decide +kernel
theorem dX7_readWaySet_2 : decode cX7_readWaySet 2 = .ok (.sipush 255, 3) := by decide +kernel
theorem dX7_readWaySet_5 : decode cX7_readWaySet 5 = .ok (.invokevirtual 88, 3) := by decide +kernel
theorem dX7_readWaySet_8 : decode cX7_readWaySet 8 = .ok (.ifCond .ne 5, 3) := by decide +kernel
theorem dX7_readWaySet_11 : decode cX7_readWaySet 11 = .ok (.iconst 0, 1) := by decide +kernel
theorem dX7_readWaySet_12 : decode cX7_readWaySet 12 = .ok (.ireturn, 1) := by decide +kernel
theorem dX7_readWaySet_13 : decode cX7_readWaySet 13 = .ok (.aload_n 0, 1) := by decide +kernel
theorem dX7_readWaySet_14 : decode cX7_readWaySet 14 = .ok (.getfield 21, 3) := by decide +kernel
theorem dX7_readWaySet_17 : decode cX7_readWaySet 17 = .ok (.aload_n 0, 1) := by decide +kernel
theorem dX7_readWaySet_18 : decode cX7_readWaySet 18 = .ok (.getfield 29, 3) := by decide +kernel
theorem dX7_readWaySet_21 : decode cX7_readWaySet 21 = .ok (.invokevirtual 130, 3) := by decide +kernel
theorem dX7_readWaySet_24 : decode cX7_readWaySet 24 = .ok (.ifCond .ne 15, 3) := by decide +kernel
theorem dX7_readWaySet_27 : decode cX7_readWaySet 27 = .ok (.aload_n 0, 1) := by decide +kernel
theorem dX7_readWaySet_28 : decode cX7_readWaySet 28 = .ok (.iconst 2, 1) := by decide +kernel
theorem dX7_readWaySet_29 : decode cX7_readWaySet 29 = .ok (.aload_n 0, 1) := by decide +kernel
theorem dX7_readWaySet_30 : decode cX7_readWaySet 30 = .ok (.getfield 32, 3) := by decide +kernel
theorem dX7_readWaySet_33 : decode cX7_readWaySet 33 = .ok (.invokevirtual 84, 3) := by decide +kernel
theorem dX7_readWaySet_36 : decode cX7_readWaySet 36 = .ok (.ifCond .eq 7, 3) := by decide +kernel
theorem dX7_readWaySet_39 : decode cX7_readWaySet 39 = .ok (.iconst 1, 1) := by decide +kernel
theorem dX7_readWaySet_40 : decode cX7_readWaySet 40 = .ok (.goto 4, 3) := by decide +kernel
theorem dX7_readWaySet_43 : decode cX7_readWaySet 43 = .ok (.iconst 0, 1) := by decide +kernel
theorem dX7_readWaySet_44 : decode cX7_readWaySet 44 = .ok (.ireturn, 1) := by decide +kernel
theorem dX7_readNumber_0 : decode cX7_readNumber 0 = .ok (.aload_n 0, 1) := by decide +kernel
theorem dX7_readNumber_1 : decode cX7_readNumber 1 = .ok (.invokevirtual 77, 3) := by decide +kernel
theorem dX7_readNumber_4 : decode cX7_readNumber 4 = .ok (.invokestatic 133, 3) := by decide +kernel
theorem dX7_readNumber_7 : decode cX7_readNumber 7 = .ok (.ifCond .ne 13, 3) := by decide +kernel
theorem dX7_readNumber_10 : decode cX7_readNumber 10 = .ok (.aload_n 0, 1) := by decide +kernel
theorem dX7_readNumber_11 : decode cX7_readNumber 11 = .ok (.iconst 1, 1) := by decide +kernel
theorem dX7_readNumber_12 : decode cX7_readNumber 12 = .ok (.aload_n 0, 1) := by decide +kernel
theorem dX7_readNumber_13 : decode cX7_readNumber 13 = .ok (.getfield 15, 3) := by decide +kernel
theorem dX7_readNumber_16 : decode cX7_readNumber 16 = .ok (.invokevirtual 84, 3) := by decide +kernel
theorem dX7_readNumber_19 : decode cX7_readNumber 19 = .ok (.ireturn, 1) := by decide +kernel
theorem dX7_readNumber_20 : decode cX7_readNumber 20 = .ok (.aload_n 0, 1) := by decide +kernel
theorem dX7_readNumber_21 : decode cX7_readNumber 21 = .ok (.aload_n 0, 1) := by decide +kernel
theorem dX7_readNumber_22 : decode cX7_readNumber 22 = .ok (.getfield 15, 3) := by decide +kernel
theorem dX7_readNumber_25 : decode cX7_readNumber 25 = .ok (.putfield 32, 3) := by decide +kernel
theorem dX7_readNumber_28 : decode cX7_readNumber 28 = .ok (.aload_n 0, 1) := by decide +kernel
theorem dX7_readNumber_29 : decode cX7_readNumber 29 = .ok (.iconst 0, 1) := by decide +kernel
theorem dX7_readNumber_30 : decode cX7_readNumber 30 = .ok (.putfield 29, 3) := by decide +kernel
theorem dX7_readNumber_33 : decode cX7_readNumber 33 = .ok (.aload_n 0, 1) := by decide +kernel
theorem dX7_readNumber_34 : decode cX7_readNumber 34 = .ok (.getfield 15, 3) := by decide +kernel
theorem dX7_readNumber_37 : decode cX7_readNumber 37 = .ok (.aload_n 0, 1) := by decide +kernel
theorem dX7_readNumber_38 : decode cX7_readNumber 38 = .ok (.getfield 9, 3) := by decide +kernel
theorem dX7_readNumber_41 : decode cX7_readNumber 41 = .ok (.if_icmp .ge 68, 3) := by decide +kernel
theorem dX7_readNumber_44 : decode cX7_readNumber 44 = .ok (.aload_n 0, 1) := by decide +kernel
theorem dX7_readNumber_45 : decode cX7_readNumber 45 = .ok (.getfield 41, 3) := by decide +kernel
theorem dX7_readNumber_48 : decode cX7_readNumber 48 = .ok (.aload_n 0, 1) := by decide +kernel
theorem dX7_readNumber_49 : decode cX7_readNumber 49 = .ok (.getfield 15, 3) := by decide +kernel
theorem dX7_readNumber_52 : decode cX7_readNumber 52 = .ok (.iaload, 1) := by decide +kernel
theorem dX7_readNumber_53 : decode cX7_readNumber 53 = .ok (.invokestatic 133, 3) := by decide +kernel
theorem dX7_readNumber_56 : decode cX7_readNumber 56 = .ok (.ifCond .eq 53, 3) := by decide +kernel
theorem dX7_readNumber_59 : decode cX7_readNumber 59 = .ok (.aload_n 0, 1) := by decide +kernel
theorem dX7_readNumber_60 : decode cX7_readNumber 60 = .ok (.getfield 15, 3) := by decide +kernel
theorem dX7_readNumber_63 : decode cX7_readNumber 63 = .ok (.aload_n 0, 1) := by decide +kernel
theorem dX7_readNumber_64 : decode cX7_readNumber 64 = .ok (.getfield 32, 3) := by decide +kernel
theorem dX7_readNumber_67 : decode cX7_readNumber 67 = .ok (.isub, 1) := by decide +kernel
theorem dX7_readNumber_68 : decode cX7_readNumber 68 = .ok (.iconst 3, 1) := by decide +kernel
theorem dX7_readNumber_69 : decode cX7_readNumber 69 = .ok (.if_icmp .gt 27, 3) := by decide +kernel
theorem dX7_readNumber_72 : decode cX7_readNumber 72 = .ok (.aload_n 0, 1) := by decide +kernel
theorem dX7_readNumber_73 : decode cX7_readNumber 73 = .ok (.aload_n 0, 1) := by decide +kernel
theorem dX7_readNumber_74 : decode cX7_readNumber 74 = .ok (.getfield 29, 3) := by decide +kernel
theorem dX7_readNumber_77 : decode cX7_readNumber 77 = .ok (.bipush 10, 2) := by decide +kernel
theorem dX7_readNumber_79 : decode cX7_readNumber 79 = .ok (.imul, 1) := by decide +kernel
theorem dX7_readNumber_80 : decode cX7_readNumber 80 = .ok (.aload_n 0, 1) := by decide +kernel
theorem dX7_readNumber_81 : decode cX7_readNumber 81 = .ok (.getfield 41, 3) := by decide +kernel
theorem dX7_readNumber_84 : decode cX7_readNumber 84 = .ok (.aload_n 0, 1) := by decide +kernel
theorem dX7_readNumber_85 : decode cX7_readNumber 85 = .ok (.getfield 15, 3) := by decide +kernel
theorem dX7_readNumber_88 : decode cX7_readNumber 88 = .ok (.iaload, 1) := by decide +kernel
theorem dX7_readNumber_89 : decode cX7_readNumber 89 = .ok (.iadd, 1) := by decide +kernel
theorem dX7_readNumber_90 : decode cX7_readNumber 90 = .ok (.bipush 48, 2) := by decide +kernel
theorem dX7_readNumber_92 : decode cX7_readNumber 92 = .ok (.isub, 1) := by decide +kernel
theorem dX7_readNumber_93 : decode cX7_readNumber 93 = .ok (.putfield 29, 3) := by decide +kernel
theorem dX7_readNumber_96 : decode cX7_readNumber 96 = .ok (.aload_n 0, 1) := by decide +kernel
theorem dX7_readNumber_97 : decode cX7_readNumber 97 = .ok (.dup, 1) := by decide +kernel
theorem dX7_readNumber_98 : decode cX7_readNumber 98 = .ok (.getfield 15, 3) := by decide +kernel
theorem dX7_readNumber_101 : decode cX7_readNumber 101 = .ok (.iconst 1, 1) := by decide +kernel
theorem dX7_readNumber_102 : decode cX7_readNumber 102 = .ok (.iadd, 1) := by decide +kernel
theorem dX7_readNumber_103 : decode cX7_readNumber 103 = .ok (.putfield 15, 3) := by decide +kernel
theorem dX7_readNumber_106 : decode cX7_readNumber 106 = .ok (.goto (-73), 3) := by decide +kernel
theorem dX7_readNumber_109 : decode cX7_readNumber 109 = .ok (.aload_n 0, 1) := by decide +kernel
theorem dX7_readNumber_110 : decode cX7_readNumber 110 = .ok (.getfield 15, 3) := by decide +kernel
theorem dX7_readNumber_113 : decode cX7_readNumber 113 = .ok (.aload_n 0, 1) := by decide +kernel
theorem dX7_readNumber_114 : decode cX7_readNumber 114 = .ok (.getfield 32, 3) := by decide +kernel
theorem dX7_readNumber_117 : decode cX7_readNumber 117 = .ok (.isub, 1) := by decide +kernel
theorem dX7_readNumber_118 : decode cX7_readNumber 118 = .ok (.iconst 3, 1) := by decide +kernel
theorem dX7_readNumber_119 : decode cX7_readNumber 119 = .ok (.if_icmp .gt 15, 3) := by decide +kernel
theorem dX7_readNumber_122 : decode cX7_readNumber 122 = .ok (.aload_n 0, 1) := by decide +kernel
theorem dX7_readNumber_123 : decode cX7_readNumber 123 = .ok (.getfield 29, 3) := by decide +kernel
theorem dX7_readNumber_126 : decode cX7_readNumber 126 = .ok (.iload_n 1, 1) := by decide +kernel
theorem dX7_readNumber_127 : decode cX7_readNumber 127 = .ok (.iload_n 2, 1) := by decide +kernel
theorem dX7_readNumber_128 : decode cX7_readNumber 128 = .ok (.invokestatic 136, 3) := by decide +kernel
theorem dX7_readNumber_131 : decode cX7_readNumber 131 = .ok (.ifCond .ne 13, 3) := by decide +kernel
theorem dX7_readNumber_134 : decode cX7_readNumber 134 = .ok (.aload_n 0, 1) := by decide +kernel
theorem dX7_readNumber_135 : decode cX7_readNumber 135 = .ok (.iconst 2, 1) := by decide +kernel
theorem dX7_readNumber_136 : decode cX7_readNumber 136 = .ok (.aload_n 0, 1) := by decide +kernel
theorem dX7_readNumber_137 : decode cX7_readNumber 137 = .ok (.getfield 32, 3) := by decide +kernel
theorem dX7_readNumber_140 : decode cX7_readNumber 140 = .ok (.invokevirtual 84, 3) := by decide +kernel
theorem dX7_readNumber_143 : decode cX7_readNumber 143 = .ok (.ireturn, 1) := by decide +kernel
theorem dX7_readNumber_144 : decode cX7_readNumber 144 = .ok (.aload_n 0, 1) := by decide +kernel
theorem dX7_readNumber_145 : decode cX7_readNumber 145 = .ok (.invokevirtual 54, 3) := by decide +kernel
theorem dX7_readNumber_148 : decode cX7_readNumber 148 = .ok (.iconst 1, 1) := by decide +kernel
theorem dX7_readNumber_149 : decode cX7_readNumber 149 = .ok (.ireturn, 1) := by decide +kernel
theorem dX7_take_0 : decode cX7_take 0 = .ok (.aload_n 0, 1) := by decide +kernel
theorem dX7_take_1 : decode cX7_take 1 = .ok (.invokevirtual 77, 3) := by decide +kernel
theorem dX7_take_4 : decode cX7_take 4 = .ok (.iload_n 1, 1) := by decide +kernel
theorem dX7_take_5 : decode cX7_take 5 = .ok (.if_icmp .eq 13, 3) := by decide +kernel
theorem dX7_take_8 : decode cX7_take 8 = .ok (.aload_n 0, 1) := by decide +kernel
theorem dX7_take_9 : decode cX7_take 9 = .ok (.iconst 1, 1) := by decide +kernel
theorem dX7_take_10 : decode cX7_take 10 = .ok (.aload_n 0, 1) := by decide +kernel
theorem dX7_take_11 : decode cX7_take 11 = .ok (.getfield 15, 3) := by decide +kernel
theorem dX7_take_14 : decode cX7_take 14 = .ok (.invokevirtual 84, 3) := by decide +kernel
theorem dX7_take_17 : decode cX7_take 17 = .ok (.ireturn, 1) := by decide +kernel
theorem dX7_take_18 : decode cX7_take 18 = .ok (.aload_n 0, 1) := by decide +kernel
theorem dX7_take_19 : decode cX7_take 19 = .ok (.dup, 1) := by decide +kernel
theorem dX7_take_20 : decode cX7_take 20 = .ok (.getfield 15, 3) := by decide +kernel
theorem dX7_take_23 : decode cX7_take 23 = .ok (.iconst 1, 1) := by decide +kernel
theorem dX7_take_24 : decode cX7_take 24 = .ok (.iadd, 1) := by decide +kernel
theorem dX7_take_25 : decode cX7_take 25 = .ok (.putfield 15, 3) := by decide +kernel
theorem dX7_take_28 : decode cX7_take 28 = .ok (.aload_n 0, 1) := by decide +kernel
theorem dX7_take_29 : decode cX7_take 29 = .ok (.invokevirtual 54, 3) := by decide +kernel
theorem dX7_take_32 : decode cX7_take 32 = .ok (.iconst 1, 1) := by decide +kernel
theorem dX7_take_33 : decode cX7_take 33 = .ok (.ireturn, 1) := by decide +kernel
theorem dX7_letter_0 : decode cX7_letter 0 = .ok (.aload_n 0, 1) := by decide +kernel
theorem dX7_letter_1 : decode cX7_letter 1 = .ok (.getfield 15, 3) := by decide +kernel
theorem dX7_letter_4 : decode cX7_letter 4 = .ok (.aload_n 0, 1) := by decide +kernel
theorem dX7_letter_5 : decode cX7_letter 5 = .ok (.getfield 9, 3) := by decide +kernel
theorem dX7_letter_8 : decode cX7_letter 8 = .ok (.if_icmp .ge 15, 3) := by decide +kernel
theorem dX7_letter_11 : decode cX7_letter 11 = .ok (.aload_n 0, 1) := by decide +kernel
theorem dX7_letter_12 : decode cX7_letter 12 = .ok (.getfield 41, 3) := by decide +kernel
theorem dX7_letter_15 : decode cX7_letter 15 = .ok (.aload_n 0, 1) := by decide +kernel
theorem dX7_letter_16 : decode cX7_letter 16 = .ok (.getfield 15, 3) := by decide +kernel
theorem dX7_letter_19 : decode cX7_letter 19 = .ok (.iaload, 1) := by decide +kernel
theorem dX7_letter_20 : decode cX7_letter 20 = .ok (.goto 4, 3) := by decide +kernel
theorem dX7_letter_23 : decode cX7_letter 23 = .ok (.iconst (-1), 1) := by decide +kernel
theorem dX7_letter_24 : decode cX7_letter 24 = .ok (.ireturn, 1) := by decide +kernel
theorem dX7_skipBlanks_0 : decode cX7_skipBlanks 0 = .ok (.aload_n 0, 1) := by decide +kernel
theorem dX7_skipBlanks_1 : decode cX7_skipBlanks 1 = .ok (.getfield 15, 3) := by decide +kernel
theorem dX7_skipBlanks_4 : decode cX7_skipBlanks 4 = .ok (.aload_n 0, 1) := by decide +kernel
theorem dX7_skipBlanks_5 : decode cX7_skipBlanks 5 = .ok (.getfield 9, 3) := by decide +kernel
theorem dX7_skipBlanks_8 : decode cX7_skipBlanks 8 = .ok (.if_icmp .ge 30, 3) := by decide +kernel
theorem dX7_skipBlanks_11 : decode cX7_skipBlanks 11 = .ok (.aload_n 0, 1) := by decide +kernel
theorem dX7_skipBlanks_12 : decode cX7_skipBlanks 12 = .ok (.getfield 41, 3) := by decide +kernel
theorem dX7_skipBlanks_15 : decode cX7_skipBlanks 15 = .ok (.aload_n 0, 1) := by decide +kernel
theorem dX7_skipBlanks_16 : decode cX7_skipBlanks 16 = .ok (.getfield 15, 3) := by decide +kernel
theorem dX7_skipBlanks_19 : decode cX7_skipBlanks 19 = .ok (.iaload, 1) := by decide +kernel
theorem dX7_skipBlanks_20 : decode cX7_skipBlanks 20 = .ok (.bipush 32, 2) := by decide +kernel
theorem dX7_skipBlanks_22 : decode cX7_skipBlanks 22 = .ok (.if_icmp .ne 16, 3) := by decide +kernel
theorem dX7_skipBlanks_25 : decode cX7_skipBlanks 25 = .ok (.aload_n 0, 1) := by decide +kernel
theorem dX7_skipBlanks_26 : decode cX7_skipBlanks 26 = .ok (.dup, 1) := by decide +kernel
theorem dX7_skipBlanks_27 : decode cX7_skipBlanks 27 = .ok (.getfield 15, 3) := by decide +kernel
theorem dX7_skipBlanks_30 : decode cX7_skipBlanks 30 = .ok (.iconst 1, 1) := by decide +kernel
theorem dX7_skipBlanks_31 : decode cX7_skipBlanks 31 = .ok (.iadd, 1) := by decide +kernel
theorem dX7_skipBlanks_32 : decode cX7_skipBlanks 32 = .ok (.putfield 15, 3) := by decide +kernel
theorem dX7_skipBlanks_35 : decode cX7_skipBlanks 35 = .ok (.goto (-35), 3) := by decide +kernel
theorem dX7_skipBlanks_38 : decode cX7_skipBlanks 38 = .ok (.return_, 1) := by decide +kernel
theorem dX7_isFigure_0 : decode cX7_isFigure 0 = .ok (.iload_n 0, 1) := by decide +kernel
theorem dX7_isFigure_1 : decode cX7_isFigure 1 = .ok (.bipush 48, 2) := by decide +kernel
theorem dX7_isFigure_3 : decode cX7_isFigure 3 = .ok (.if_icmp .lt 13, 3) := by decide +kernel
theorem dX7_isFigure_6 : decode cX7_isFigure 6 = .ok (.iload_n 0, 1) := by decide +kernel
theorem dX7_isFigure_7 : decode cX7_isFigure 7 = .ok (.bipush 57, 2) := by decide +kernel
theorem dX7_isFigure_9 : decode cX7_isFigure 9 = .ok (.if_icmp .gt 7, 3) := by decide +kernel
theorem dX7_isFigure_12 : decode cX7_isFigure 12 = .ok (.iconst 1, 1) := by decide +kernel
theorem dX7_isFigure_13 : decode cX7_isFigure 13 = .ok (.goto 4, 3) := by decide +kernel
theorem dX7_isFigure_16 : decode cX7_isFigure 16 = .ok (.iconst 0, 1) := by decide +kernel
theorem dX7_isFigure_17 : decode cX7_isFigure 17 = .ok (.ireturn, 1) := by decide +kernel
theorem dX7_refuse_0 : decode cX7_refuse 0 = .ok (.aload_n 0, 1) := by decide +kernel
theorem dX7_refuse_1 : decode cX7_refuse 1 = .ok (.iload_n 1, 1) := by decide +kernel
theorem dX7_refuse_2 : decode cX7_refuse 2 = .ok (.putfield 35, 3) := by decide +kernel
theorem dX7_refuse_5 : decode cX7_refuse 5 = .ok (.aload_n 0, 1) := by decide +kernel
theorem dX7_refuse_6 : decode cX7_refuse 6 = .ok (.iload_n 2, 1) := by decide +kernel
theorem dX7_refuse_7 : decode cX7_refuse 7 = .ok (.putfield 38, 3) := by decide +kernel
theorem dX7_refuse_10 : decode cX7_refuse 10 = .ok (.iconst 0, 1) := by decide +kernel
theorem dX7_refuse_11 : decode cX7_refuse 11 = .ok (.ireturn, 1) := by decide +kernel
theorem dX8_init_0 : decode cX8_init 0 = .ok (.aload_n 0, 1) := by decide +kernel
theorem dX8_init_1 : decode cX8_init 1 = .ok (.invokespecial 1, 3) := by decide +kernel
theorem dX8_init_4 : decode cX8_init 4 = .ok (.aload_n 0, 1) := by decide +kernel
theorem dX8_init_5 : decode cX8_init 5 = .ok (.sipush 240, 3) := by decide +kernel
theorem dX8_init_8 : decode cX8_init 8 = .ok (.newarray .int, 2) := by decide +kernel
theorem dX8_init_10 : decode cX8_init 10 = .ok (.putfield 9, 3) := by decide +kernel
theorem dX8_init_13 : decode cX8_init 13 = .ok (.aload_n 0, 1) := by decide +kernel
theorem dX8_init_14 : decode cX8_init 14 = .ok (.iconst 0, 1) := by decide +kernel
theorem dX8_init_15 : decode cX8_init 15 = .ok (.putfield 13, 3) := by decide +kernel
theorem dX8_init_18 : decode cX8_init 18 = .ok (.aload_n 0, 1) := by decide +kernel
theorem dX8_init_19 : decode cX8_init 19 = .ok (.iconst (-1), 1) := by decide +kernel
theorem dX8_init_20 : decode cX8_init 20 = .ok (.putfield 17, 3) := by decide +kernel
theorem dX8_init_23 : decode cX8_init 23 = .ok (.aload_n 0, 1) := by decide +kernel
theorem dX8_init_24 : decode cX8_init 24 = .ok (.new 20, 3) := by decide +kernel
theorem dX8_init_27 : decode cX8_init 27 = .ok (.dup, 1) := by decide +kernel
theorem dX8_init_28 : decode cX8_init 28 = .ok (.aload_n 0, 1) := by decide +kernel
theorem dX8_init_29 : decode cX8_init 29 = .ok (.getfield 9, 3) := by decide +kernel
theorem dX8_init_32 : decode cX8_init 32 = .ok (.invokespecial 22, 3) := by decide +kernel
theorem dX8_init_35 : decode cX8_init 35 = .ok (.putfield 25, 3) := by decide +kernel
theorem dX8_init_38 : decode cX8_init 38 = .ok (.aload_n 0, 1) := by decide +kernel
theorem dX8_init_39 : decode cX8_init 39 = .ok (.new 29, 3) := by decide +kernel
theorem dX8_init_42 : decode cX8_init 42 = .ok (.dup, 1) := by decide +kernel
theorem dX8_init_43 : decode cX8_init 43 = .ok (.invokespecial 31, 3) := by decide +kernel
theorem dX8_init_46 : decode cX8_init 46 = .ok (.putfield 32, 3) := by decide +kernel
theorem dX8_init_49 : decode cX8_init 49 = .ok (.aload_n 0, 1) := by decide +kernel
theorem dX8_init_50 : decode cX8_init 50 = .ok (.new 36, 3) := by decide +kernel
theorem dX8_init_53 : decode cX8_init 53 = .ok (.dup, 1) := by decide +kernel
theorem dX8_init_54 : decode cX8_init 54 = .ok (.invokespecial 38, 3) := by decide +kernel
theorem dX8_init_57 : decode cX8_init 57 = .ok (.putfield 39, 3) := by decide +kernel
theorem dX8_init_60 : decode cX8_init 60 = .ok (.aload_n 0, 1) := by decide +kernel
theorem dX8_init_61 : decode cX8_init 61 = .ok (.new 43, 3) := by decide +kernel
theorem dX8_init_64 : decode cX8_init 64 = .ok (.dup, 1) := by decide +kernel
theorem dX8_init_65 : decode cX8_init 65 = .ok (.invokespecial 45, 3) := by decide +kernel
theorem dX8_init_68 : decode cX8_init 68 = .ok (.putfield 46, 3) := by decide +kernel
theorem dX8_init_71 : decode cX8_init 71 = .ok (.aload_n 0, 1) := by decide +kernel
theorem dX8_init_72 : decode cX8_init 72 = .ok (.new 50, 3) := by decide +kernel
theorem dX8_init_75 : decode cX8_init 75 = .ok (.dup, 1) := by decide +kernel
theorem dX8_init_76 : decode cX8_init 76 = .ok (.invokespecial 52, 3) := by decide +kernel
theorem dX8_init_79 : decode cX8_init 79 = .ok (.putfield 53, 3) := by decide +kernel
theorem dX8_init_82 : decode cX8_init 82 = .ok (.aload_n 0, 1) := by decide +kernel
theorem dX8_init_83 : decode cX8_init 83 = .ok (.new 57, 3) := by decide +kernel
theorem dX8_init_86 : decode cX8_init 86 = .ok (.dup, 1) := by decide +kernel
theorem dX8_init_87 : decode cX8_init 87 = .ok (.invokespecial 59, 3) := by decide +kernel
theorem dX8_init_90 : decode cX8_init 90 = .ok (.putfield 60, 3) := by decide +kernel
theorem dX8_init_93 : decode cX8_init 93 = .ok (.aload_n 0, 1) := by decide +kernel
theorem dX8_init_94 : decode cX8_init 94 = .ok (.new 64, 3) := by decide +kernel
theorem dX8_init_97 : decode cX8_init 97 = .ok (.dup, 1) := by decide +kernel
theorem dX8_init_98 : decode cX8_init 98 = .ok (.invokespecial 66, 3) := by decide +kernel
theorem dX8_init_101 : decode cX8_init 101 = .ok (.putfield 67, 3) := by decide +kernel
theorem dX8_init_104 : decode cX8_init 104 = .ok (.aload_n 0, 1) := by decide +kernel
theorem dX8_init_105 : decode cX8_init 105 = .ok (.iconst 2, 1) := by decide +kernel
theorem dX8_init_106 : decode cX8_init 106 = .ok (.anewarray 71, 3) := by decide +kernel
theorem dX8_init_109 : decode cX8_init 109 = .ok (.putfield 73, 3) := by decide +kernel
theorem dX8_init_112 : decode cX8_init 112 = .ok (.iconst 0, 1) := by decide +kernel
theorem dX8_init_113 : decode cX8_init 113 = .ok (.istore_n 1, 1) := by decide +kernel
theorem dX8_init_114 : decode cX8_init 114 = .ok (.iload_n 1, 1) := by decide +kernel
theorem dX8_init_115 : decode cX8_init 115 = .ok (.iconst 2, 1) := by decide +kernel
theorem dX8_init_116 : decode cX8_init 116 = .ok (.if_icmp .ge 22, 3) := by decide +kernel
theorem dX8_init_119 : decode cX8_init 119 = .ok (.aload_n 0, 1) := by decide +kernel
theorem dX8_init_120 : decode cX8_init 120 = .ok (.getfield 73, 3) := by decide +kernel
theorem dX8_init_123 : decode cX8_init 123 = .ok (.iload_n 1, 1) := by decide +kernel
theorem dX8_init_124 : decode cX8_init 124 = .ok (.new 71, 3) := by decide +kernel
theorem dX8_init_127 : decode cX8_init 127 = .ok (.dup, 1) := by decide +kernel
theorem dX8_init_128 : decode cX8_init 128 = .ok (.invokespecial 77, 3) := by decide +kernel
theorem dX8_init_131 : decode cX8_init 131 = .ok (.aastore, 1) := by decide +kernel
theorem dX8_init_132 : decode cX8_init 132 = .ok (.iinc 1 1, 3) := by decide +kernel
theorem dX8_init_135 : decode cX8_init 135 = .ok (.goto (-21), 3) := by decide +kernel
theorem dX8_init_138 : decode cX8_init 138 = .ok (.return_, 1) := by decide +kernel
theorem dX8_feed_0 : decode cX8_feed 0 = .ok (.iload_n 1, 1) := by decide +kernel
theorem dX8_feed_1 : decode cX8_feed 1 = .ok (.iconst 0, 1) := by decide +kernel
theorem dX8_feed_2 : decode cX8_feed 2 = .ok (.sipush 255, 3) := by decide +kernel
theorem dX8_feed_5 : decode cX8_feed 5 = .ok (.invokestatic 78, 3) := by decide +kernel
theorem dX8_feed_8 : decode cX8_feed 8 = .ok (.ifCond .ne 6, 3) := by decide +kernel
theorem dX8_feed_11 : decode cX8_feed 11 = .ok (.ldc 82, 2) := by decide +kernel
theorem dX8_feed_13 : decode cX8_feed 13 = .ok (.ireturn, 1) := by decide +kernel
theorem dX8_feed_14 : decode cX8_feed 14 = .ok (.aload_n 0, 1) := by decide +kernel
theorem dX8_feed_15 : decode cX8_feed 15 = .ok (.getfield 13, 3) := by decide +kernel
theorem dX8_feed_18 : decode cX8_feed 18 = .ok (.sipush 240, 3) := by decide +kernel
theorem dX8_feed_21 : decode cX8_feed 21 = .ok (.if_icmp .lt 6, 3) := by decide +kernel
theorem dX8_feed_24 : decode cX8_feed 24 = .ok (.ldc 83, 2) := by decide +kernel
theorem dX8_feed_26 : decode cX8_feed 26 = .ok (.ireturn, 1) := by decide +kernel
theorem dX8_feed_27 : decode cX8_feed 27 = .ok (.aload_n 0, 1) := by decide +kernel
theorem dX8_feed_28 : decode cX8_feed 28 = .ok (.getfield 9, 3) := by decide +kernel
theorem dX8_feed_31 : decode cX8_feed 31 = .ok (.aload_n 0, 1) := by decide +kernel
theorem dX8_feed_32 : decode cX8_feed 32 = .ok (.getfield 13, 3) := by decide +kernel
theorem dX8_feed_35 : decode cX8_feed 35 = .ok (.iload_n 1, 1) := by decide +kernel
theorem dX8_feed_36 : decode cX8_feed 36 = .ok (.iastore, 1) := by decide +kernel
theorem dX8_feed_37 : decode cX8_feed 37 = .ok (.aload_n 0, 1) := by decide +kernel
theorem dX8_feed_38 : decode cX8_feed 38 = .ok (.dup, 1) := by decide +kernel
theorem dX8_feed_39 : decode cX8_feed 39 = .ok (.getfield 13, 3) := by decide +kernel
theorem dX8_feed_42 : decode cX8_feed 42 = .ok (.iconst 1, 1) := by decide +kernel
theorem dX8_feed_43 : decode cX8_feed 43 = .ok (.iadd, 1) := by decide +kernel
theorem dX8_feed_44 : decode cX8_feed 44 = .ok (.putfield 13, 3) := by decide +kernel
theorem dX8_feed_47 : decode cX8_feed 47 = .ok (.aload_n 0, 1) := by decide +kernel
theorem dX8_feed_48 : decode cX8_feed 48 = .ok (.getfield 13, 3) := by decide +kernel
theorem dX8_feed_51 : decode cX8_feed 51 = .ok (.ireturn, 1) := by decide +kernel
theorem dX8_castle_0 : decode cX8_castle 0 = .ok (.aload_n 0, 1) := by decide +kernel
theorem dX8_castle_1 : decode cX8_castle 1 = .ok (.getfield 25, 3) := by decide +kernel
theorem dX8_castle_4 : decode cX8_castle 4 = .ok (.aload_n 0, 1) := by decide +kernel
theorem dX8_castle_5 : decode cX8_castle 5 = .ok (.getfield 13, 3) := by decide +kernel
theorem dX8_castle_8 : decode cX8_castle 8 = .ok (.invokevirtual 84, 3) := by decide +kernel
theorem dX8_castle_11 : decode cX8_castle 11 = .ok (.istore_n 1, 1) := by decide +kernel
theorem dX8_castle_12 : decode cX8_castle 12 = .ok (.aload_n 0, 1) := by decide +kernel
theorem dX8_castle_13 : decode cX8_castle 13 = .ok (.iconst 0, 1) := by decide +kernel
theorem dX8_castle_14 : decode cX8_castle 14 = .ok (.putfield 13, 3) := by decide +kernel
theorem dX8_castle_17 : decode cX8_castle 17 = .ok (.iload_n 1, 1) := by decide +kernel
theorem dX8_castle_18 : decode cX8_castle 18 = .ok (.ifCond .eq 19, 3) := by decide +kernel
theorem dX8_castle_21 : decode cX8_castle 21 = .ok (.aload_n 0, 1) := by decide +kernel
theorem dX8_castle_22 : decode cX8_castle 22 = .ok (.aload_n 0, 1) := by decide +kernel
theorem dX8_castle_23 : decode cX8_castle 23 = .ok (.getfield 25, 3) := by decide +kernel
theorem dX8_castle_26 : decode cX8_castle 26 = .ok (.getfield 88, 3) := by decide +kernel
theorem dX8_castle_29 : decode cX8_castle 29 = .ok (.putfield 17, 3) := by decide +kernel
theorem dX8_castle_32 : decode cX8_castle 32 = .ok (.bipush (-10), 2) := by decide +kernel
theorem dX8_castle_34 : decode cX8_castle 34 = .ok (.iload_n 1, 1) := by decide +kernel
theorem dX8_castle_35 : decode cX8_castle 35 = .ok (.isub, 1) := by decide +kernel
theorem dX8_castle_36 : decode cX8_castle 36 = .ok (.ireturn, 1) := by decide +kernel
theorem dX8_castle_37 : decode cX8_castle 37 = .ok (.aload_n 0, 1) := by decide +kernel
theorem dX8_castle_38 : decode cX8_castle 38 = .ok (.iconst (-1), 1) := by decide +kernel
theorem dX8_castle_39 : decode cX8_castle 39 = .ok (.putfield 17, 3) := by decide +kernel
theorem dX8_castle_42 : decode cX8_castle 42 = .ok (.aload_n 0, 1) := by decide +kernel
theorem dX8_castle_43 : decode cX8_castle 43 = .ok (.aload_n 0, 1) := by decide +kernel
theorem dX8_castle_44 : decode cX8_castle 44 = .ok (.getfield 25, 3) := by decide +kernel
theorem dX8_castle_47 : decode cX8_castle 47 = .ok (.aload_n 0, 1) := by decide +kernel
theorem dX8_castle_48 : decode cX8_castle 48 = .ok (.getfield 32, 3) := by decide +kernel
theorem dX8_castle_51 : decode cX8_castle 51 = .ok (.invokevirtual 91, 3) := by decide +kernel
theorem dX8_castle_54 : decode cX8_castle 54 = .ok (.putfield 32, 3) := by decide +kernel
theorem dX8_castle_57 : decode cX8_castle 57 = .ok (.aload_n 0, 1) := by decide +kernel
theorem dX8_castle_58 : decode cX8_castle 58 = .ok (.invokevirtual 95, 3) := by decide +kernel
theorem dX8_castle_61 : decode cX8_castle 61 = .ok (.aload_n 0, 1) := by decide +kernel
theorem dX8_castle_62 : decode cX8_castle 62 = .ok (.getfield 32, 3) := by decide +kernel
theorem dX8_castle_65 : decode cX8_castle 65 = .ok (.getfield 98, 3) := by decide +kernel
theorem dX8_castle_68 : decode cX8_castle 68 = .ok (.ireturn, 1) := by decide +kernel
theorem dX8_fault_0 : decode cX8_fault 0 = .ok (.aload_n 0, 1) := by decide +kernel
theorem dX8_fault_1 : decode cX8_fault 1 = .ok (.getfield 17, 3) := by decide +kernel
theorem dX8_fault_4 : decode cX8_fault 4 = .ok (.ireturn, 1) := by decide +kernel
theorem dX8_told_0 : decode cX8_told 0 = .ok (.iload_n 1, 1) := by decide +kernel
theorem dX8_told_1 : decode cX8_told 1 = .ok (.tableswitch 245 0 17 #[87, 95, 103, 111, 116, 124, 132, 140, 148, 164, 180, 188, 193, 208, 216, 221, 229, 237], 87) := by decide +kernel
theorem dX8_told_88 : decode cX8_told 88 = .ok (.aload_n 0, 1) := by decide +kernel
theorem dX8_told_89 : decode cX8_told 89 = .ok (.getfield 32, 3) := by decide +kernel
theorem dX8_told_92 : decode cX8_told 92 = .ok (.getfield 98, 3) := by decide +kernel
theorem dX8_told_95 : decode cX8_told 95 = .ok (.ireturn, 1) := by decide +kernel
theorem dX8_told_96 : decode cX8_told 96 = .ok (.aload_n 0, 1) := by decide +kernel
theorem dX8_told_97 : decode cX8_told 97 = .ok (.getfield 32, 3) := by decide +kernel
theorem dX8_told_100 : decode cX8_told 100 = .ok (.getfield 101, 3) := by decide +kernel
theorem dX8_told_103 : decode cX8_told 103 = .ok (.ireturn, 1) := by decide +kernel
theorem dX8_told_104 : decode cX8_told 104 = .ok (.aload_n 0, 1) := by decide +kernel
theorem dX8_told_105 : decode cX8_told 105 = .ok (.getfield 32, 3) := by decide +kernel
theorem dX8_told_108 : decode cX8_told 108 = .ok (.getfield 104, 3) := by decide +kernel
theorem dX8_told_111 : decode cX8_told 111 = .ok (.ireturn, 1) := by decide +kernel
theorem dX8_told_112 : decode cX8_told 112 = .ok (.aload_n 0, 1) := by decide +kernel
theorem dX8_told_113 : decode cX8_told 113 = .ok (.getfield 13, 3) := by decide +kernel
theorem dX8_told_116 : decode cX8_told 116 = .ok (.ireturn, 1) := by decide +kernel
theorem dX8_told_117 : decode cX8_told 117 = .ok (.aload_n 0, 1) := by decide +kernel
theorem dX8_told_118 : decode cX8_told 118 = .ok (.getfield 32, 3) := by decide +kernel
theorem dX8_told_121 : decode cX8_told 121 = .ok (.getfield 107, 3) := by decide +kernel
theorem dX8_told_124 : decode cX8_told 124 = .ok (.ireturn, 1) := by decide +kernel
theorem dX8_told_125 : decode cX8_told 125 = .ok (.aload_n 0, 1) := by decide +kernel
theorem dX8_told_126 : decode cX8_told 126 = .ok (.getfield 32, 3) := by decide +kernel
theorem dX8_told_129 : decode cX8_told 129 = .ok (.getfield 110, 3) := by decide +kernel
theorem dX8_told_132 : decode cX8_told 132 = .ok (.ireturn, 1) := by decide +kernel
theorem dX8_told_133 : decode cX8_told 133 = .ok (.aload_n 0, 1) := by decide +kernel
theorem dX8_told_134 : decode cX8_told 134 = .ok (.getfield 39, 3) := by decide +kernel
theorem dX8_told_137 : decode cX8_told 137 = .ok (.getfield 113, 3) := by decide +kernel
theorem dX8_told_140 : decode cX8_told 140 = .ok (.ireturn, 1) := by decide +kernel
theorem dX8_told_141 : decode cX8_told 141 = .ok (.aload_n 0, 1) := by decide +kernel
theorem dX8_told_142 : decode cX8_told 142 = .ok (.getfield 39, 3) := by decide +kernel
theorem dX8_told_145 : decode cX8_told 145 = .ok (.getfield 116, 3) := by decide +kernel
theorem dX8_told_148 : decode cX8_told 148 = .ok (.ireturn, 1) := by decide +kernel
theorem dX8_told_149 : decode cX8_told 149 = .ok (.aload_n 0, 1) := by decide +kernel
theorem dX8_told_150 : decode cX8_told 150 = .ok (.getfield 39, 3) := by decide +kernel
theorem dX8_told_153 : decode cX8_told 153 = .ok (.getfield 119, 3) := by decide +kernel
theorem dX8_told_156 : decode cX8_told 156 = .ok (.ifCond .eq 7, 3) := by decide +kernel
theorem dX8_told_159 : decode cX8_told 159 = .ok (.iconst 1, 1) := by decide +kernel
theorem dX8_told_160 : decode cX8_told 160 = .ok (.goto 4, 3) := by decide +kernel
theorem dX8_told_163 : decode cX8_told 163 = .ok (.iconst 0, 1) := by decide +kernel
theorem dX8_told_164 : decode cX8_told 164 = .ok (.ireturn, 1) := by decide +kernel
theorem dX8_told_165 : decode cX8_told 165 = .ok (.aload_n 0, 1) := by decide +kernel
theorem dX8_told_166 : decode cX8_told 166 = .ok (.getfield 39, 3) := by decide +kernel
theorem dX8_told_169 : decode cX8_told 169 = .ok (.getfield 123, 3) := by decide +kernel
theorem dX8_told_172 : decode cX8_told 172 = .ok (.ifCond .eq 7, 3) := by decide +kernel
theorem dX8_told_175 : decode cX8_told 175 = .ok (.iconst 1, 1) := by decide +kernel
theorem dX8_told_176 : decode cX8_told 176 = .ok (.goto 4, 3) := by decide +kernel
theorem dX8_told_179 : decode cX8_told 179 = .ok (.iconst 0, 1) := by decide +kernel
theorem dX8_told_180 : decode cX8_told 180 = .ok (.ireturn, 1) := by decide +kernel
theorem dX8_told_181 : decode cX8_told 181 = .ok (.aload_n 0, 1) := by decide +kernel
theorem dX8_told_182 : decode cX8_told 182 = .ok (.getfield 39, 3) := by decide +kernel
theorem dX8_told_185 : decode cX8_told 185 = .ok (.getfield 126, 3) := by decide +kernel
theorem dX8_told_188 : decode cX8_told 188 = .ok (.ireturn, 1) := by decide +kernel
theorem dX8_told_189 : decode cX8_told 189 = .ok (.aload_n 0, 1) := by decide +kernel
theorem dX8_told_190 : decode cX8_told 190 = .ok (.invokevirtual 129, 3) := by decide +kernel
theorem dX8_told_193 : decode cX8_told 193 = .ok (.ireturn, 1) := by decide +kernel
theorem dX8_told_194 : decode cX8_told 194 = .ok (.aload_n 0, 1) := by decide +kernel
theorem dX8_told_195 : decode cX8_told 195 = .ok (.getfield 32, 3) := by decide +kernel
theorem dX8_told_198 : decode cX8_told 198 = .ok (.aload_n 0, 1) := by decide +kernel
theorem dX8_told_199 : decode cX8_told 199 = .ok (.getfield 39, 3) := by decide +kernel
theorem dX8_told_202 : decode cX8_told 202 = .ok (.getfield 126, 3) := by decide +kernel
theorem dX8_told_205 : decode cX8_told 205 = .ok (.invokevirtual 133, 3) := by decide +kernel
theorem dX8_told_208 : decode cX8_told 208 = .ok (.ireturn, 1) := by decide +kernel
theorem dX8_told_209 : decode cX8_told 209 = .ok (.aload_n 0, 1) := by decide +kernel
theorem dX8_told_210 : decode cX8_told 210 = .ok (.getfield 39, 3) := by decide +kernel
theorem dX8_told_213 : decode cX8_told 213 = .ok (.getfield 136, 3) := by decide +kernel
theorem dX8_told_216 : decode cX8_told 216 = .ok (.ireturn, 1) := by decide +kernel
theorem dX8_told_217 : decode cX8_told 217 = .ok (.aload_n 0, 1) := by decide +kernel
theorem dX8_told_218 : decode cX8_told 218 = .ok (.invokevirtual 139, 3) := by decide +kernel
theorem dX8_told_221 : decode cX8_told 221 = .ok (.ireturn, 1) := by decide +kernel
theorem dX8_told_222 : decode cX8_told 222 = .ok (.aload_n 0, 1) := by decide +kernel
theorem dX8_told_223 : decode cX8_told 223 = .ok (.getfield 53, 3) := by decide +kernel
theorem dX8_told_226 : decode cX8_told 226 = .ok (.getfield 142, 3) := by decide +kernel
theorem dX8_told_229 : decode cX8_told 229 = .ok (.ireturn, 1) := by decide +kernel
theorem dX8_told_230 : decode cX8_told 230 = .ok (.aload_n 0, 1) := by decide +kernel
theorem dX8_told_231 : decode cX8_told 231 = .ok (.getfield 60, 3) := by decide +kernel
theorem dX8_told_234 : decode cX8_told 234 = .ok (.getfield 145, 3) := by decide +kernel
theorem dX8_told_237 : decode cX8_told 237 = .ok (.ireturn, 1) := by decide +kernel
theorem dX8_told_238 : decode cX8_told 238 = .ok (.aload_n 0, 1) := by decide +kernel
theorem dX8_told_239 : decode cX8_told 239 = .ok (.getfield 46, 3) := by decide +kernel
theorem dX8_told_242 : decode cX8_told 242 = .ok (.getfield 146, 3) := by decide +kernel
theorem dX8_told_245 : decode cX8_told 245 = .ok (.ireturn, 1) := by decide +kernel
theorem dX8_told_246 : decode cX8_told 246 = .ok (.ldc 82, 2) := by decide +kernel
theorem dX8_told_248 : decode cX8_told 248 = .ok (.ireturn, 1) := by decide +kernel
theorem dX8_likely_0 : decode cX8_likely 0 = .ok (.aload_n 0, 1) := by decide +kernel
theorem dX8_likely_1 : decode cX8_likely 1 = .ok (.getfield 32, 3) := by decide +kernel
theorem dX8_likely_4 : decode cX8_likely 4 = .ok (.iload_n 1, 1) := by decide +kernel
theorem dX8_likely_5 : decode cX8_likely 5 = .ok (.invokevirtual 147, 3) := by decide +kernel
theorem dX8_likely_8 : decode cX8_likely 8 = .ok (.ifCond .eq 15, 3) := by decide +kernel
theorem dX8_likely_11 : decode cX8_likely 11 = .ok (.aload_n 0, 1) := by decide +kernel
theorem dX8_likely_12 : decode cX8_likely 12 = .ok (.getfield 32, 3) := by decide +kernel
theorem dX8_likely_15 : decode cX8_likely 15 = .ok (.getfield 151, 3) := by decide +kernel
theorem dX8_likely_18 : decode cX8_likely 18 = .ok (.iload_n 1, 1) := by decide +kernel
theorem dX8_likely_19 : decode cX8_likely 19 = .ok (.iaload, 1) := by decide +kernel
theorem dX8_likely_20 : decode cX8_likely 20 = .ok (.goto 5, 3) := by decide +kernel
theorem dX8_likely_23 : decode cX8_likely 23 = .ok (.ldc 154, 2) := by decide +kernel
theorem dX8_likely_25 : decode cX8_likely 25 = .ok (.ireturn, 1) := by decide +kernel
theorem dX8_test_0 : decode cX8_test 0 = .ok (.aload_n 0, 1) := by decide +kernel
theorem dX8_test_1 : decode cX8_test 1 = .ok (.getfield 32, 3) := by decide +kernel
theorem dX8_test_4 : decode cX8_test 4 = .ok (.iload_n 1, 1) := by decide +kernel
theorem dX8_test_5 : decode cX8_test 5 = .ok (.invokevirtual 155, 3) := by decide +kernel
theorem dX8_test_8 : decode cX8_test 8 = .ok (.ifCond .ne 6, 3) := by decide +kernel
theorem dX8_test_11 : decode cX8_test 11 = .ok (.ldc 154, 2) := by decide +kernel
theorem dX8_test_13 : decode cX8_test 13 = .ok (.ireturn, 1) := by decide +kernel
theorem dX8_test_14 : decode cX8_test 14 = .ok (.iload_n 2, 1) := by decide +kernel
theorem dX8_test_15 : decode cX8_test 15 = .ok (.tableswitch 79 0 3 #[29, 39, 49, 59], 29) := by decide +kernel
theorem dX8_test_44 : decode cX8_test 44 = .ok (.aload_n 0, 1) := by decide +kernel
theorem dX8_test_45 : decode cX8_test 45 = .ok (.getfield 32, 3) := by decide +kernel
theorem dX8_test_48 : decode cX8_test 48 = .ok (.getfield 158, 3) := by decide +kernel
theorem dX8_test_51 : decode cX8_test 51 = .ok (.iload_n 1, 1) := by decide +kernel
theorem dX8_test_52 : decode cX8_test 52 = .ok (.iaload, 1) := by decide +kernel
theorem dX8_test_53 : decode cX8_test 53 = .ok (.ireturn, 1) := by decide +kernel
theorem dX8_test_54 : decode cX8_test 54 = .ok (.aload_n 0, 1) := by decide +kernel
theorem dX8_test_55 : decode cX8_test 55 = .ok (.getfield 32, 3) := by decide +kernel
theorem dX8_test_58 : decode cX8_test 58 = .ok (.getfield 161, 3) := by decide +kernel
theorem dX8_test_61 : decode cX8_test 61 = .ok (.iload_n 1, 1) := by decide +kernel
theorem dX8_test_62 : decode cX8_test 62 = .ok (.iaload, 1) := by decide +kernel
theorem dX8_test_63 : decode cX8_test 63 = .ok (.ireturn, 1) := by decide +kernel
theorem dX8_test_64 : decode cX8_test 64 = .ok (.aload_n 0, 1) := by decide +kernel
theorem dX8_test_65 : decode cX8_test 65 = .ok (.getfield 32, 3) := by decide +kernel
theorem dX8_test_68 : decode cX8_test 68 = .ok (.getfield 164, 3) := by decide +kernel
theorem dX8_test_71 : decode cX8_test 71 = .ok (.iload_n 1, 1) := by decide +kernel
theorem dX8_test_72 : decode cX8_test 72 = .ok (.iaload, 1) := by decide +kernel
theorem dX8_test_73 : decode cX8_test 73 = .ok (.ireturn, 1) := by decide +kernel
theorem dX8_test_74 : decode cX8_test 74 = .ok (.aload_n 0, 1) := by decide +kernel
theorem dX8_test_75 : decode cX8_test 75 = .ok (.getfield 39, 3) := by decide +kernel
theorem dX8_test_78 : decode cX8_test 78 = .ok (.getfield 126, 3) := by decide +kernel
theorem dX8_test_81 : decode cX8_test 81 = .ok (.iload_n 1, 1) := by decide +kernel
theorem dX8_test_82 : decode cX8_test 82 = .ok (.invokestatic 167, 3) := by decide +kernel
theorem dX8_test_85 : decode cX8_test 85 = .ok (.ifCond .eq 7, 3) := by decide +kernel
theorem dX8_test_88 : decode cX8_test 88 = .ok (.iconst 1, 1) := by decide +kernel
theorem dX8_test_89 : decode cX8_test 89 = .ok (.goto 4, 3) := by decide +kernel
theorem dX8_test_92 : decode cX8_test 92 = .ok (.iconst 0, 1) := by decide +kernel
theorem dX8_test_93 : decode cX8_test 93 = .ok (.ireturn, 1) := by decide +kernel
theorem dX8_test_94 : decode cX8_test 94 = .ok (.ldc 82, 2) := by decide +kernel
theorem dX8_test_96 : decode cX8_test 96 = .ok (.ireturn, 1) := by decide +kernel
theorem dX8_servant_0 : decode cX8_servant 0 = .ok (.aload_n 0, 1) := by decide +kernel
theorem dX8_servant_1 : decode cX8_servant 1 = .ok (.getfield 32, 3) := by decide +kernel
theorem dX8_servant_4 : decode cX8_servant 4 = .ok (.iload_n 1, 1) := by decide +kernel
theorem dX8_servant_5 : decode cX8_servant 5 = .ok (.invokevirtual 171, 3) := by decide +kernel
theorem dX8_servant_8 : decode cX8_servant 8 = .ok (.ifCond .ne 6, 3) := by decide +kernel
theorem dX8_servant_11 : decode cX8_servant 11 = .ok (.ldc 154, 2) := by decide +kernel
theorem dX8_servant_13 : decode cX8_servant 13 = .ok (.ireturn, 1) := by decide +kernel
theorem dX8_servant_14 : decode cX8_servant 14 = .ok (.iload_n 2, 1) := by decide +kernel
theorem dX8_servant_15 : decode cX8_servant 15 = .ok (.tableswitch 87 0 3 #[29, 39, 49, 59], 29) := by decide +kernel
theorem dX8_servant_44 : decode cX8_servant 44 = .ok (.aload_n 0, 1) := by decide +kernel
theorem dX8_servant_45 : decode cX8_servant 45 = .ok (.getfield 39, 3) := by decide +kernel
theorem dX8_servant_48 : decode cX8_servant 48 = .ok (.getfield 174, 3) := by decide +kernel
theorem dX8_servant_51 : decode cX8_servant 51 = .ok (.iload_n 1, 1) := by decide +kernel
theorem dX8_servant_52 : decode cX8_servant 52 = .ok (.iaload, 1) := by decide +kernel
theorem dX8_servant_53 : decode cX8_servant 53 = .ok (.ireturn, 1) := by decide +kernel
theorem dX8_servant_54 : decode cX8_servant 54 = .ok (.aload_n 0, 1) := by decide +kernel
theorem dX8_servant_55 : decode cX8_servant 55 = .ok (.getfield 32, 3) := by decide +kernel
theorem dX8_servant_58 : decode cX8_servant 58 = .ok (.getfield 177, 3) := by decide +kernel
theorem dX8_servant_61 : decode cX8_servant 61 = .ok (.iload_n 1, 1) := by decide +kernel
theorem dX8_servant_62 : decode cX8_servant 62 = .ok (.iaload, 1) := by decide +kernel
theorem dX8_servant_63 : decode cX8_servant 63 = .ok (.ireturn, 1) := by decide +kernel
theorem dX8_servant_64 : decode cX8_servant 64 = .ok (.aload_n 0, 1) := by decide +kernel
theorem dX8_servant_65 : decode cX8_servant 65 = .ok (.getfield 39, 3) := by decide +kernel
theorem dX8_servant_68 : decode cX8_servant 68 = .ok (.getfield 180, 3) := by decide +kernel
theorem dX8_servant_71 : decode cX8_servant 71 = .ok (.iload_n 1, 1) := by decide +kernel
theorem dX8_servant_72 : decode cX8_servant 72 = .ok (.iaload, 1) := by decide +kernel
theorem dX8_servant_73 : decode cX8_servant 73 = .ok (.ireturn, 1) := by decide +kernel
theorem dX8_servant_74 : decode cX8_servant 74 = .ok (.aload_n 0, 1) := by decide +kernel
theorem dX8_servant_75 : decode cX8_servant 75 = .ok (.getfield 39, 3) := by decide +kernel
theorem dX8_servant_78 : decode cX8_servant 78 = .ok (.getfield 136, 3) := by decide +kernel
theorem dX8_servant_81 : decode cX8_servant 81 = .ok (.iload_n 1, 1) := by decide +kernel
theorem dX8_servant_82 : decode cX8_servant 82 = .ok (.invokestatic 167, 3) := by decide +kernel
theorem dX8_servant_85 : decode cX8_servant 85 = .ok (.ifCond .eq 15, 3) := by decide +kernel
theorem dX8_servant_88 : decode cX8_servant 88 = .ok (.aload_n 0, 1) := by decide +kernel
theorem dX8_servant_89 : decode cX8_servant 89 = .ok (.getfield 39, 3) := by decide +kernel
theorem dX8_servant_92 : decode cX8_servant 92 = .ok (.getfield 183, 3) := by decide +kernel
theorem dX8_servant_95 : decode cX8_servant 95 = .ok (.iload_n 1, 1) := by decide +kernel
theorem dX8_servant_96 : decode cX8_servant 96 = .ok (.iaload, 1) := by decide +kernel
theorem dX8_servant_97 : decode cX8_servant 97 = .ok (.goto 4, 3) := by decide +kernel
theorem dX8_servant_100 : decode cX8_servant 100 = .ok (.iconst (-1), 1) := by decide +kernel
theorem dX8_servant_101 : decode cX8_servant 101 = .ok (.ireturn, 1) := by decide +kernel
theorem dX8_servant_102 : decode cX8_servant 102 = .ok (.ldc 82, 2) := by decide +kernel
theorem dX8_servant_104 : decode cX8_servant 104 = .ok (.ireturn, 1) := by decide +kernel
theorem dX8_day_0 : decode cX8_day 0 = .ok (.aload_n 0, 1) := by decide +kernel
theorem dX8_day_1 : decode cX8_day 1 = .ok (.iload_n 1, 1) := by decide +kernel
theorem dX8_day_2 : decode cX8_day 2 = .ok (.invokevirtual 186, 3) := by decide +kernel
theorem dX8_day_5 : decode cX8_day 5 = .ok (.istore_n 2, 1) := by decide +kernel
theorem dX8_day_6 : decode cX8_day 6 = .ok (.iload_n 2, 1) := by decide +kernel
theorem dX8_day_7 : decode cX8_day 7 = .ok (.ifCond .eq 5, 3) := by decide +kernel
theorem dX8_day_10 : decode cX8_day 10 = .ok (.iload_n 2, 1) := by decide +kernel
theorem dX8_day_11 : decode cX8_day 11 = .ok (.ireturn, 1) := by decide +kernel
theorem dX8_day_12 : decode cX8_day 12 = .ok (.aload_n 0, 1) := by decide +kernel
theorem dX8_day_13 : decode cX8_day 13 = .ok (.getfield 46, 3) := by decide +kernel
theorem dX8_day_16 : decode cX8_day 16 = .ok (.aload_n 0, 1) := by decide +kernel
theorem dX8_day_17 : decode cX8_day 17 = .ok (.getfield 39, 3) := by decide +kernel
theorem dX8_day_20 : decode cX8_day 20 = .ok (.invokevirtual 189, 3) := by decide +kernel
theorem dX8_day_23 : decode cX8_day 23 = .ok (.iconst 0, 1) := by decide +kernel
theorem dX8_day_24 : decode cX8_day 24 = .ok (.istore_n 3, 1) := by decide +kernel
theorem dX8_day_25 : decode cX8_day 25 = .ok (.iload_n 3, 1) := by decide +kernel
theorem dX8_day_26 : decode cX8_day 26 = .ok (.iload_n 1, 1) := by decide +kernel
theorem dX8_day_27 : decode cX8_day 27 = .ok (.if_icmp .ge 20, 3) := by decide +kernel
theorem dX8_day_30 : decode cX8_day 30 = .ok (.aload_n 0, 1) := by decide +kernel
theorem dX8_day_31 : decode cX8_day 31 = .ok (.getfield 39, 3) := by decide +kernel
theorem dX8_day_34 : decode cX8_day 34 = .ok (.aload_n 0, 1) := by decide +kernel
theorem dX8_day_35 : decode cX8_day 35 = .ok (.getfield 32, 3) := by decide +kernel
theorem dX8_day_38 : decode cX8_day 38 = .ok (.invokevirtual 193, 3) := by decide +kernel
theorem dX8_day_41 : decode cX8_day 41 = .ok (.iinc 3 1, 3) := by decide +kernel
theorem dX8_day_44 : decode cX8_day 44 = .ok (.goto (-19), 3) := by decide +kernel
theorem dX8_day_47 : decode cX8_day 47 = .ok (.aload_n 0, 1) := by decide +kernel
theorem dX8_day_48 : decode cX8_day 48 = .ok (.getfield 39, 3) := by decide +kernel
theorem dX8_day_51 : decode cX8_day 51 = .ok (.getfield 113, 3) := by decide +kernel
theorem dX8_day_54 : decode cX8_day 54 = .ok (.ireturn, 1) := by decide +kernel
theorem dX8_make_0 : decode cX8_make 0 = .ok (.aload_n 0, 1) := by decide +kernel
theorem dX8_make_1 : decode cX8_make 1 = .ok (.getfield 32, 3) := by decide +kernel
theorem dX8_make_4 : decode cX8_make 4 = .ok (.iload_n 1, 1) := by decide +kernel
theorem dX8_make_5 : decode cX8_make 5 = .ok (.invokevirtual 155, 3) := by decide +kernel
theorem dX8_make_8 : decode cX8_make 8 = .ok (.ifCond .ne 6, 3) := by decide +kernel
theorem dX8_make_11 : decode cX8_make 11 = .ok (.ldc 154, 2) := by decide +kernel
theorem dX8_make_13 : decode cX8_make 13 = .ok (.ireturn, 1) := by decide +kernel
theorem dX8_make_14 : decode cX8_make 14 = .ok (.aload_n 0, 1) := by decide +kernel
theorem dX8_make_15 : decode cX8_make 15 = .ok (.getfield 39, 3) := by decide +kernel
theorem dX8_make_18 : decode cX8_make 18 = .ok (.aload_n 0, 1) := by decide +kernel
theorem dX8_make_19 : decode cX8_make 19 = .ok (.getfield 32, 3) := by decide +kernel
theorem dX8_make_22 : decode cX8_make 22 = .ok (.iload_n 1, 1) := by decide +kernel
theorem dX8_make_23 : decode cX8_make 23 = .ok (.invokevirtual 197, 3) := by decide +kernel
theorem dX8_make_26 : decode cX8_make 26 = .ok (.ifCond .ne 6, 3) := by decide +kernel
theorem dX8_make_29 : decode cX8_make 29 = .ok (.ldc 201, 2) := by decide +kernel
theorem dX8_make_31 : decode cX8_make 31 = .ok (.ireturn, 1) := by decide +kernel
theorem dX8_make_32 : decode cX8_make 32 = .ok (.aload_n 0, 1) := by decide +kernel
theorem dX8_make_33 : decode cX8_make 33 = .ok (.getfield 46, 3) := by decide +kernel
theorem dX8_make_36 : decode cX8_make 36 = .ok (.aload_n 0, 1) := by decide +kernel
theorem dX8_make_37 : decode cX8_make 37 = .ok (.getfield 39, 3) := by decide +kernel
theorem dX8_make_40 : decode cX8_make 40 = .ok (.invokevirtual 189, 3) := by decide +kernel
theorem dX8_make_43 : decode cX8_make 43 = .ok (.aload_n 0, 1) := by decide +kernel
theorem dX8_make_44 : decode cX8_make 44 = .ok (.getfield 39, 3) := by decide +kernel
theorem dX8_make_47 : decode cX8_make 47 = .ok (.dup, 1) := by decide +kernel
theorem dX8_make_48 : decode cX8_make 48 = .ok (.getfield 126, 3) := by decide +kernel
theorem dX8_make_51 : decode cX8_make 51 = .ok (.iconst 1, 1) := by decide +kernel
theorem dX8_make_52 : decode cX8_make 52 = .ok (.iload_n 1, 1) := by decide +kernel
theorem dX8_make_53 : decode cX8_make 53 = .ok (.ishl, 1) := by decide +kernel
theorem dX8_make_54 : decode cX8_make 54 = .ok (.ior, 1) := by decide +kernel
theorem dX8_make_55 : decode cX8_make 55 = .ok (.putfield 126, 3) := by decide +kernel
theorem dX8_make_58 : decode cX8_make 58 = .ok (.aload_n 0, 1) := by decide +kernel
theorem dX8_make_59 : decode cX8_make 59 = .ok (.invokevirtual 129, 3) := by decide +kernel
theorem dX8_make_62 : decode cX8_make 62 = .ok (.ireturn, 1) := by decide +kernel
theorem dX8_seal_0 : decode cX8_seal 0 = .ok (.aload_n 0, 1) := by decide +kernel
theorem dX8_seal_1 : decode cX8_seal 1 = .ok (.getfield 32, 3) := by decide +kernel
theorem dX8_seal_4 : decode cX8_seal 4 = .ok (.invokevirtual 202, 3) := by decide +kernel
theorem dX8_seal_7 : decode cX8_seal 7 = .ok (.ifCond .ne 6, 3) := by decide +kernel
theorem dX8_seal_10 : decode cX8_seal 10 = .ok (.ldc 201, 2) := by decide +kernel
theorem dX8_seal_12 : decode cX8_seal 12 = .ok (.ireturn, 1) := by decide +kernel
theorem dX8_seal_13 : decode cX8_seal 13 = .ok (.aload_n 0, 1) := by decide +kernel
theorem dX8_seal_14 : decode cX8_seal 14 = .ok (.getfield 46, 3) := by decide +kernel
theorem dX8_seal_17 : decode cX8_seal 17 = .ok (.aload_n 0, 1) := by decide +kernel
theorem dX8_seal_18 : decode cX8_seal 18 = .ok (.getfield 39, 3) := by decide +kernel
theorem dX8_seal_21 : decode cX8_seal 21 = .ok (.invokevirtual 189, 3) := by decide +kernel
theorem dX8_seal_24 : decode cX8_seal 24 = .ok (.aload_n 0, 1) := by decide +kernel
theorem dX8_seal_25 : decode cX8_seal 25 = .ok (.getfield 39, 3) := by decide +kernel
theorem dX8_seal_28 : decode cX8_seal 28 = .ok (.getfield 123, 3) := by decide +kernel
theorem dX8_seal_31 : decode cX8_seal 31 = .ok (.ifCond .eq 7, 3) := by decide +kernel
theorem dX8_seal_34 : decode cX8_seal 34 = .ok (.iconst 1, 1) := by decide +kernel
theorem dX8_seal_35 : decode cX8_seal 35 = .ok (.goto 4, 3) := by decide +kernel
theorem dX8_seal_38 : decode cX8_seal 38 = .ok (.iconst 0, 1) := by decide +kernel
theorem dX8_seal_39 : decode cX8_seal 39 = .ok (.istore_n 2, 1) := by decide +kernel
theorem dX8_seal_40 : decode cX8_seal 40 = .ok (.aload_n 0, 1) := by decide +kernel
theorem dX8_seal_41 : decode cX8_seal 41 = .ok (.getfield 39, 3) := by decide +kernel
theorem dX8_seal_44 : decode cX8_seal 44 = .ok (.iload_n 1, 1) := by decide +kernel
theorem dX8_seal_45 : decode cX8_seal 45 = .ok (.putfield 123, 3) := by decide +kernel
theorem dX8_seal_48 : decode cX8_seal 48 = .ok (.iload_n 2, 1) := by decide +kernel
theorem dX8_seal_49 : decode cX8_seal 49 = .ok (.ireturn, 1) := by decide +kernel
theorem dX8_smash_0 : decode cX8_smash 0 = .ok (.aload_n 0, 1) := by decide +kernel
theorem dX8_smash_1 : decode cX8_smash 1 = .ok (.getfield 32, 3) := by decide +kernel
theorem dX8_smash_4 : decode cX8_smash 4 = .ok (.invokevirtual 202, 3) := by decide +kernel
theorem dX8_smash_7 : decode cX8_smash 7 = .ok (.ifCond .eq 13, 3) := by decide +kernel
theorem dX8_smash_10 : decode cX8_smash 10 = .ok (.aload_n 0, 1) := by decide +kernel
theorem dX8_smash_11 : decode cX8_smash 11 = .ok (.getfield 39, 3) := by decide +kernel
theorem dX8_smash_14 : decode cX8_smash 14 = .ok (.getfield 119, 3) := by decide +kernel
theorem dX8_smash_17 : decode cX8_smash 17 = .ok (.ifCond .ne 6, 3) := by decide +kernel
theorem dX8_smash_20 : decode cX8_smash 20 = .ok (.ldc 201, 2) := by decide +kernel
theorem dX8_smash_22 : decode cX8_smash 22 = .ok (.ireturn, 1) := by decide +kernel
theorem dX8_smash_23 : decode cX8_smash 23 = .ok (.aload_n 0, 1) := by decide +kernel
theorem dX8_smash_24 : decode cX8_smash 24 = .ok (.getfield 46, 3) := by decide +kernel
theorem dX8_smash_27 : decode cX8_smash 27 = .ok (.aload_n 0, 1) := by decide +kernel
theorem dX8_smash_28 : decode cX8_smash 28 = .ok (.getfield 39, 3) := by decide +kernel
theorem dX8_smash_31 : decode cX8_smash 31 = .ok (.invokevirtual 189, 3) := by decide +kernel
theorem dX8_smash_34 : decode cX8_smash 34 = .ok (.aload_n 0, 1) := by decide +kernel
theorem dX8_smash_35 : decode cX8_smash 35 = .ok (.getfield 39, 3) := by decide +kernel
theorem dX8_smash_38 : decode cX8_smash 38 = .ok (.iconst 0, 1) := by decide +kernel
theorem dX8_smash_39 : decode cX8_smash 39 = .ok (.putfield 119, 3) := by decide +kernel
theorem dX8_smash_42 : decode cX8_smash 42 = .ok (.aload_n 0, 1) := by decide +kernel
theorem dX8_smash_43 : decode cX8_smash 43 = .ok (.getfield 39, 3) := by decide +kernel
theorem dX8_smash_46 : decode cX8_smash 46 = .ok (.getfield 116, 3) := by decide +kernel
theorem dX8_smash_49 : decode cX8_smash 49 = .ok (.ireturn, 1) := by decide +kernel
theorem dX8_hire_0 : decode cX8_hire 0 = .ok (.aload_n 0, 1) := by decide +kernel
theorem dX8_hire_1 : decode cX8_hire 1 = .ok (.getfield 32, 3) := by decide +kernel
theorem dX8_hire_4 : decode cX8_hire 4 = .ok (.iload_n 1, 1) := by decide +kernel
theorem dX8_hire_5 : decode cX8_hire 5 = .ok (.invokevirtual 171, 3) := by decide +kernel
theorem dX8_hire_8 : decode cX8_hire 8 = .ok (.ifCond .ne 6, 3) := by decide +kernel
theorem dX8_hire_11 : decode cX8_hire 11 = .ok (.ldc 154, 2) := by decide +kernel
theorem dX8_hire_13 : decode cX8_hire 13 = .ok (.ireturn, 1) := by decide +kernel
theorem dX8_hire_14 : decode cX8_hire 14 = .ok (.aload_n 0, 1) := by decide +kernel
theorem dX8_hire_15 : decode cX8_hire 15 = .ok (.getfield 46, 3) := by decide +kernel
theorem dX8_hire_18 : decode cX8_hire 18 = .ok (.aload_n 0, 1) := by decide +kernel
theorem dX8_hire_19 : decode cX8_hire 19 = .ok (.getfield 39, 3) := by decide +kernel
theorem dX8_hire_22 : decode cX8_hire 22 = .ok (.invokevirtual 189, 3) := by decide +kernel
theorem dX8_hire_25 : decode cX8_hire 25 = .ok (.aload_n 0, 1) := by decide +kernel
theorem dX8_hire_26 : decode cX8_hire 26 = .ok (.getfield 39, 3) := by decide +kernel
theorem dX8_hire_29 : decode cX8_hire 29 = .ok (.getfield 136, 3) := by decide +kernel
theorem dX8_hire_32 : decode cX8_hire 32 = .ok (.iload_n 1, 1) := by decide +kernel
theorem dX8_hire_33 : decode cX8_hire 33 = .ok (.invokestatic 167, 3) := by decide +kernel
theorem dX8_hire_36 : decode cX8_hire 36 = .ok (.ifCond .eq 7, 3) := by decide +kernel
theorem dX8_hire_39 : decode cX8_hire 39 = .ok (.iconst 1, 1) := by decide +kernel
theorem dX8_hire_40 : decode cX8_hire 40 = .ok (.goto 4, 3) := by decide +kernel
theorem dX8_hire_43 : decode cX8_hire 43 = .ok (.iconst 0, 1) := by decide +kernel
theorem dX8_hire_44 : decode cX8_hire 44 = .ok (.istore_n 3, 1) := by decide +kernel
theorem dX8_hire_45 : decode cX8_hire 45 = .ok (.aload_n 0, 1) := by decide +kernel
theorem dX8_hire_46 : decode cX8_hire 46 = .ok (.getfield 39, 3) := by decide +kernel
theorem dX8_hire_49 : decode cX8_hire 49 = .ok (.iload_n 1, 1) := by decide +kernel
theorem dX8_hire_50 : decode cX8_hire 50 = .ok (.iload_n 2, 1) := by decide +kernel
theorem dX8_hire_51 : decode cX8_hire 51 = .ok (.invokevirtual 206, 3) := by decide +kernel
theorem dX8_hire_54 : decode cX8_hire 54 = .ok (.iload_n 3, 1) := by decide +kernel
theorem dX8_hire_55 : decode cX8_hire 55 = .ok (.ireturn, 1) := by decide +kernel
theorem dX8_buy_0 : decode cX8_buy 0 = .ok (.aload_n 0, 1) := by decide +kernel
theorem dX8_buy_1 : decode cX8_buy 1 = .ok (.getfield 32, 3) := by decide +kernel
theorem dX8_buy_4 : decode cX8_buy 4 = .ok (.iload_n 1, 1) := by decide +kernel
theorem dX8_buy_5 : decode cX8_buy 5 = .ok (.invokevirtual 171, 3) := by decide +kernel
theorem dX8_buy_8 : decode cX8_buy 8 = .ok (.ifCond .eq 18, 3) := by decide +kernel
theorem dX8_buy_11 : decode cX8_buy 11 = .ok (.aload_n 0, 1) := by decide +kernel
theorem dX8_buy_12 : decode cX8_buy 12 = .ok (.getfield 32, 3) := by decide +kernel
theorem dX8_buy_15 : decode cX8_buy 15 = .ok (.iload_n 2, 1) := by decide +kernel
theorem dX8_buy_16 : decode cX8_buy 16 = .ok (.invokevirtual 210, 3) := by decide +kernel
theorem dX8_buy_19 : decode cX8_buy 19 = .ok (.ifCond .eq 7, 3) := by decide +kernel
theorem dX8_buy_22 : decode cX8_buy 22 = .ok (.iload_n 2, 1) := by decide +kernel
theorem dX8_buy_23 : decode cX8_buy 23 = .ok (.ifCond .ne 6, 3) := by decide +kernel
theorem dX8_buy_26 : decode cX8_buy 26 = .ok (.ldc 154, 2) := by decide +kernel
theorem dX8_buy_28 : decode cX8_buy 28 = .ok (.ireturn, 1) := by decide +kernel
theorem dX8_buy_29 : decode cX8_buy 29 = .ok (.iload_n 3, 1) := by decide +kernel
theorem dX8_buy_30 : decode cX8_buy 30 = .ok (.iconst 0, 1) := by decide +kernel
theorem dX8_buy_31 : decode cX8_buy 31 = .ok (.sipush 9999, 3) := by decide +kernel
theorem dX8_buy_34 : decode cX8_buy 34 = .ok (.invokestatic 78, 3) := by decide +kernel
theorem dX8_buy_37 : decode cX8_buy 37 = .ok (.ifCond .ne 6, 3) := by decide +kernel
theorem dX8_buy_40 : decode cX8_buy 40 = .ok (.ldc 82, 2) := by decide +kernel
theorem dX8_buy_42 : decode cX8_buy 42 = .ok (.ireturn, 1) := by decide +kernel
theorem dX8_buy_43 : decode cX8_buy 43 = .ok (.iload_n 3, 1) := by decide +kernel
theorem dX8_buy_44 : decode cX8_buy 44 = .ok (.aload_n 0, 1) := by decide +kernel
theorem dX8_buy_45 : decode cX8_buy 45 = .ok (.getfield 32, 3) := by decide +kernel
theorem dX8_buy_48 : decode cX8_buy 48 = .ok (.getfield 177, 3) := by decide +kernel
theorem dX8_buy_51 : decode cX8_buy 51 = .ok (.iload_n 1, 1) := by decide +kernel
theorem dX8_buy_52 : decode cX8_buy 52 = .ok (.iaload, 1) := by decide +kernel
theorem dX8_buy_53 : decode cX8_buy 53 = .ok (.if_icmp .ge 6, 3) := by decide +kernel
theorem dX8_buy_56 : decode cX8_buy 56 = .ok (.ldc 201, 2) := by decide +kernel
theorem dX8_buy_58 : decode cX8_buy 58 = .ok (.ireturn, 1) := by decide +kernel
theorem dX8_buy_59 : decode cX8_buy 59 = .ok (.aload_n 0, 1) := by decide +kernel
theorem dX8_buy_60 : decode cX8_buy 60 = .ok (.getfield 46, 3) := by decide +kernel
theorem dX8_buy_63 : decode cX8_buy 63 = .ok (.aload_n 0, 1) := by decide +kernel
theorem dX8_buy_64 : decode cX8_buy 64 = .ok (.getfield 39, 3) := by decide +kernel
theorem dX8_buy_67 : decode cX8_buy 67 = .ok (.invokevirtual 189, 3) := by decide +kernel
theorem dX8_buy_70 : decode cX8_buy 70 = .ok (.aload_n 0, 1) := by decide +kernel
theorem dX8_buy_71 : decode cX8_buy 71 = .ok (.getfield 39, 3) := by decide +kernel
theorem dX8_buy_74 : decode cX8_buy 74 = .ok (.getfield 174, 3) := by decide +kernel
theorem dX8_buy_77 : decode cX8_buy 77 = .ok (.iload_n 1, 1) := by decide +kernel
theorem dX8_buy_78 : decode cX8_buy 78 = .ok (.iload_n 2, 1) := by decide +kernel
theorem dX8_buy_79 : decode cX8_buy 79 = .ok (.iastore, 1) := by decide +kernel
theorem dX8_buy_80 : decode cX8_buy 80 = .ok (.aload_n 0, 1) := by decide +kernel
theorem dX8_buy_81 : decode cX8_buy 81 = .ok (.getfield 39, 3) := by decide +kernel
theorem dX8_buy_84 : decode cX8_buy 84 = .ok (.iload_n 1, 1) := by decide +kernel
theorem dX8_buy_85 : decode cX8_buy 85 = .ok (.iload_n 3, 1) := by decide +kernel
theorem dX8_buy_86 : decode cX8_buy 86 = .ok (.invokevirtual 213, 3) := by decide +kernel
theorem dX8_buy_89 : decode cX8_buy 89 = .ok (.aload_n 0, 1) := by decide +kernel
theorem dX8_buy_90 : decode cX8_buy 90 = .ok (.getfield 39, 3) := by decide +kernel
theorem dX8_buy_93 : decode cX8_buy 93 = .ok (.getfield 180, 3) := by decide +kernel
theorem dX8_buy_96 : decode cX8_buy 96 = .ok (.iload_n 1, 1) := by decide +kernel
theorem dX8_buy_97 : decode cX8_buy 97 = .ok (.iaload, 1) := by decide +kernel
theorem dX8_buy_98 : decode cX8_buy 98 = .ok (.ireturn, 1) := by decide +kernel
theorem dX8_drift_0 : decode cX8_drift 0 = .ok (.aload_n 0, 1) := by decide +kernel
theorem dX8_drift_1 : decode cX8_drift 1 = .ok (.iload_n 1, 1) := by decide +kernel
theorem dX8_drift_2 : decode cX8_drift 2 = .ok (.invokevirtual 186, 3) := by decide +kernel
theorem dX8_drift_5 : decode cX8_drift 5 = .ok (.istore_n 2, 1) := by decide +kernel
theorem dX8_drift_6 : decode cX8_drift 6 = .ok (.iload_n 2, 1) := by decide +kernel
theorem dX8_drift_7 : decode cX8_drift 7 = .ok (.ifCond .eq 5, 3) := by decide +kernel
theorem dX8_drift_10 : decode cX8_drift 10 = .ok (.iload_n 2, 1) := by decide +kernel
theorem dX8_drift_11 : decode cX8_drift 11 = .ok (.ireturn, 1) := by decide +kernel
theorem dX8_drift_12 : decode cX8_drift 12 = .ok (.aload_n 0, 1) := by decide +kernel
theorem dX8_drift_13 : decode cX8_drift 13 = .ok (.getfield 46, 3) := by decide +kernel
theorem dX8_drift_16 : decode cX8_drift 16 = .ok (.aload_n 0, 1) := by decide +kernel
theorem dX8_drift_17 : decode cX8_drift 17 = .ok (.getfield 39, 3) := by decide +kernel
theorem dX8_drift_20 : decode cX8_drift 20 = .ok (.invokevirtual 189, 3) := by decide +kernel
theorem dX8_drift_23 : decode cX8_drift 23 = .ok (.iconst 0, 1) := by decide +kernel
theorem dX8_drift_24 : decode cX8_drift 24 = .ok (.istore_n 3, 1) := by decide +kernel
theorem dX8_drift_25 : decode cX8_drift 25 = .ok (.iload_n 3, 1) := by decide +kernel
theorem dX8_drift_26 : decode cX8_drift 26 = .ok (.iload_n 1, 1) := by decide +kernel
theorem dX8_drift_27 : decode cX8_drift 27 = .ok (.if_icmp .ge 24, 3) := by decide +kernel
theorem dX8_drift_30 : decode cX8_drift 30 = .ok (.aload_n 0, 1) := by decide +kernel
theorem dX8_drift_31 : decode cX8_drift 31 = .ok (.invokevirtual 217, 3) := by decide +kernel
theorem dX8_drift_34 : decode cX8_drift 34 = .ok (.aload_n 0, 1) := by decide +kernel
theorem dX8_drift_35 : decode cX8_drift 35 = .ok (.getfield 39, 3) := by decide +kernel
theorem dX8_drift_38 : decode cX8_drift 38 = .ok (.aload_n 0, 1) := by decide +kernel
theorem dX8_drift_39 : decode cX8_drift 39 = .ok (.getfield 32, 3) := by decide +kernel
theorem dX8_drift_42 : decode cX8_drift 42 = .ok (.invokevirtual 193, 3) := by decide +kernel
theorem dX8_drift_45 : decode cX8_drift 45 = .ok (.iinc 3 1, 3) := by decide +kernel
theorem dX8_drift_48 : decode cX8_drift 48 = .ok (.goto (-23), 3) := by decide +kernel
theorem dX8_drift_51 : decode cX8_drift 51 = .ok (.aload_n 0, 1) := by decide +kernel
theorem dX8_drift_52 : decode cX8_drift 52 = .ok (.invokevirtual 129, 3) := by decide +kernel
theorem dX8_drift_55 : decode cX8_drift 55 = .ok (.ireturn, 1) := by decide +kernel
theorem dX8_undo_0 : decode cX8_undo 0 = .ok (.aload_n 0, 1) := by decide +kernel
theorem dX8_undo_1 : decode cX8_undo 1 = .ok (.getfield 46, 3) := by decide +kernel
theorem dX8_undo_4 : decode cX8_undo 4 = .ok (.getfield 146, 3) := by decide +kernel
theorem dX8_undo_7 : decode cX8_undo 7 = .ok (.ifCond .ne 6, 3) := by decide +kernel
theorem dX8_undo_10 : decode cX8_undo 10 = .ok (.ldc 201, 2) := by decide +kernel
theorem dX8_undo_12 : decode cX8_undo 12 = .ok (.ireturn, 1) := by decide +kernel
theorem dX8_undo_13 : decode cX8_undo 13 = .ok (.aload_n 0, 1) := by decide +kernel
theorem dX8_undo_14 : decode cX8_undo 14 = .ok (.getfield 46, 3) := by decide +kernel
theorem dX8_undo_17 : decode cX8_undo 17 = .ok (.aload_n 0, 1) := by decide +kernel
theorem dX8_undo_18 : decode cX8_undo 18 = .ok (.getfield 39, 3) := by decide +kernel
theorem dX8_undo_21 : decode cX8_undo 21 = .ok (.invokevirtual 220, 3) := by decide +kernel
theorem dX8_undo_24 : decode cX8_undo 24 = .ok (.aload_n 0, 1) := by decide +kernel
theorem dX8_undo_25 : decode cX8_undo 25 = .ok (.getfield 46, 3) := by decide +kernel
theorem dX8_undo_28 : decode cX8_undo 28 = .ok (.getfield 146, 3) := by decide +kernel
theorem dX8_undo_31 : decode cX8_undo 31 = .ok (.ireturn, 1) := by decide +kernel
theorem dX8_belief_0 : decode cX8_belief 0 = .ok (.aload_n 0, 1) := by decide +kernel
theorem dX8_belief_1 : decode cX8_belief 1 = .ok (.getfield 32, 3) := by decide +kernel
theorem dX8_belief_4 : decode cX8_belief 4 = .ok (.iload_n 1, 1) := by decide +kernel
theorem dX8_belief_5 : decode cX8_belief 5 = .ok (.invokevirtual 147, 3) := by decide +kernel
theorem dX8_belief_8 : decode cX8_belief 8 = .ok (.ifCond .eq 18, 3) := by decide +kernel
theorem dX8_belief_11 : decode cX8_belief 11 = .ok (.aload_n 0, 1) := by decide +kernel
theorem dX8_belief_12 : decode cX8_belief 12 = .ok (.getfield 32, 3) := by decide +kernel
theorem dX8_belief_15 : decode cX8_belief 15 = .ok (.iload_n 1, 1) := by decide +kernel
theorem dX8_belief_16 : decode cX8_belief 16 = .ok (.aload_n 0, 1) := by decide +kernel
theorem dX8_belief_17 : decode cX8_belief 17 = .ok (.invokevirtual 129, 3) := by decide +kernel
theorem dX8_belief_20 : decode cX8_belief 20 = .ok (.invokevirtual 223, 3) := by decide +kernel
theorem dX8_belief_23 : decode cX8_belief 23 = .ok (.goto 5, 3) := by decide +kernel
theorem dX8_belief_26 : decode cX8_belief 26 = .ok (.ldc 154, 2) := by decide +kernel
theorem dX8_belief_28 : decode cX8_belief 28 = .ok (.ireturn, 1) := by decide +kernel
theorem dX8_liars_0 : decode cX8_liars 0 = .ok (.aload_n 0, 1) := by decide +kernel
theorem dX8_liars_1 : decode cX8_liars 1 = .ok (.getfield 32, 3) := by decide +kernel
theorem dX8_liars_4 : decode cX8_liars 4 = .ok (.iload_n 1, 1) := by decide +kernel
theorem dX8_liars_5 : decode cX8_liars 5 = .ok (.invokevirtual 147, 3) := by decide +kernel
theorem dX8_liars_8 : decode cX8_liars 8 = .ok (.ifCond .eq 11, 3) := by decide +kernel
theorem dX8_liars_11 : decode cX8_liars 11 = .ok (.aload_n 0, 1) := by decide +kernel
theorem dX8_liars_12 : decode cX8_liars 12 = .ok (.iload_n 1, 1) := by decide +kernel
theorem dX8_liars_13 : decode cX8_liars 13 = .ok (.invokevirtual 227, 3) := by decide +kernel
theorem dX8_liars_16 : decode cX8_liars 16 = .ok (.goto 5, 3) := by decide +kernel
theorem dX8_liars_19 : decode cX8_liars 19 = .ok (.ldc 154, 2) := by decide +kernel
theorem dX8_liars_21 : decode cX8_liars 21 = .ok (.ireturn, 1) := by decide +kernel
theorem dX8_leastLiars_0 : decode cX8_leastLiars 0 = .ok (.iload_n 1, 1) := by decide +kernel
theorem dX8_leastLiars_1 : decode cX8_leastLiars 1 = .ok (.iconst 0, 1) := by decide +kernel
theorem dX8_leastLiars_2 : decode cX8_leastLiars 2 = .ok (.iconst 1, 1) := by decide +kernel
theorem dX8_leastLiars_3 : decode cX8_leastLiars 3 = .ok (.invokestatic 78, 3) := by decide +kernel
theorem dX8_leastLiars_6 : decode cX8_leastLiars 6 = .ok (.ifCond .ne 6, 3) := by decide +kernel
theorem dX8_leastLiars_9 : decode cX8_leastLiars 9 = .ok (.ldc 82, 2) := by decide +kernel
theorem dX8_leastLiars_11 : decode cX8_leastLiars 11 = .ok (.ireturn, 1) := by decide +kernel
theorem dX8_leastLiars_12 : decode cX8_leastLiars 12 = .ok (.aload_n 0, 1) := by decide +kernel
theorem dX8_leastLiars_13 : decode cX8_leastLiars 13 = .ok (.getfield 32, 3) := by decide +kernel
theorem dX8_leastLiars_16 : decode cX8_leastLiars 16 = .ok (.invokevirtual 202, 3) := by decide +kernel
theorem dX8_leastLiars_19 : decode cX8_leastLiars 19 = .ok (.ifCond .ne 6, 3) := by decide +kernel
theorem dX8_leastLiars_22 : decode cX8_leastLiars 22 = .ok (.ldc 201, 2) := by decide +kernel
theorem dX8_leastLiars_24 : decode cX8_leastLiars 24 = .ok (.ireturn, 1) := by decide +kernel
theorem dX8_leastLiars_25 : decode cX8_leastLiars 25 = .ok (.aload_n 0, 1) := by decide +kernel
theorem dX8_leastLiars_26 : decode cX8_leastLiars 26 = .ok (.invokevirtual 230, 3) := by decide +kernel
theorem dX8_leastLiars_29 : decode cX8_leastLiars 29 = .ok (.istore_n 2, 1) := by decide +kernel
theorem dX8_leastLiars_30 : decode cX8_leastLiars 30 = .ok (.iload_n 1, 1) := by decide +kernel
theorem dX8_leastLiars_31 : decode cX8_leastLiars 31 = .ok (.ifCond .ne 7, 3) := by decide +kernel
theorem dX8_leastLiars_34 : decode cX8_leastLiars 34 = .ok (.iload_n 2, 1) := by decide +kernel
theorem dX8_leastLiars_35 : decode cX8_leastLiars 35 = .ok (.goto 11, 3) := by decide +kernel
theorem dX8_leastLiars_38 : decode cX8_leastLiars 38 = .ok (.aload_n 0, 1) := by decide +kernel
theorem dX8_leastLiars_39 : decode cX8_leastLiars 39 = .ok (.iload_n 2, 1) := by decide +kernel
theorem dX8_leastLiars_40 : decode cX8_leastLiars 40 = .ok (.invokevirtual 227, 3) := by decide +kernel
theorem dX8_leastLiars_43 : decode cX8_leastLiars 43 = .ok (.invokestatic 233, 3) := by decide +kernel
theorem dX8_leastLiars_46 : decode cX8_leastLiars 46 = .ok (.ireturn, 1) := by decide +kernel
theorem dX8_ruleOut_0 : decode cX8_ruleOut 0 = .ok (.aload_n 0, 1) := by decide +kernel
theorem dX8_ruleOut_1 : decode cX8_ruleOut 1 = .ok (.getfield 32, 3) := by decide +kernel
theorem dX8_ruleOut_4 : decode cX8_ruleOut 4 = .ok (.iload_n 1, 1) := by decide +kernel
theorem dX8_ruleOut_5 : decode cX8_ruleOut 5 = .ok (.invokevirtual 210, 3) := by decide +kernel
theorem dX8_ruleOut_8 : decode cX8_ruleOut 8 = .ok (.ifCond .eq 21, 3) := by decide +kernel
theorem dX8_ruleOut_11 : decode cX8_ruleOut 11 = .ok (.iload_n 1, 1) := by decide +kernel
theorem dX8_ruleOut_12 : decode cX8_ruleOut 12 = .ok (.iconst 0, 1) := by decide +kernel
theorem dX8_ruleOut_13 : decode cX8_ruleOut 13 = .ok (.invokestatic 167, 3) := by decide +kernel
theorem dX8_ruleOut_16 : decode cX8_ruleOut 16 = .ok (.ifCond .ne 13, 3) := by decide +kernel
theorem dX8_ruleOut_19 : decode cX8_ruleOut 19 = .ok (.iload_n 2, 1) := by decide +kernel
theorem dX8_ruleOut_20 : decode cX8_ruleOut 20 = .ok (.iconst 0, 1) := by decide +kernel
theorem dX8_ruleOut_21 : decode cX8_ruleOut 21 = .ok (.bipush 63, 2) := by decide +kernel
theorem dX8_ruleOut_23 : decode cX8_ruleOut 23 = .ok (.invokestatic 78, 3) := by decide +kernel
theorem dX8_ruleOut_26 : decode cX8_ruleOut 26 = .ok (.ifCond .ne 6, 3) := by decide +kernel
theorem dX8_ruleOut_29 : decode cX8_ruleOut 29 = .ok (.ldc 154, 2) := by decide +kernel
theorem dX8_ruleOut_31 : decode cX8_ruleOut 31 = .ok (.ireturn, 1) := by decide +kernel
theorem dX8_ruleOut_32 : decode cX8_ruleOut 32 = .ok (.iload_n 3, 1) := by decide +kernel
theorem dX8_ruleOut_33 : decode cX8_ruleOut 33 = .ok (.iconst 0, 1) := by decide +kernel
theorem dX8_ruleOut_34 : decode cX8_ruleOut 34 = .ok (.iconst 1, 1) := by decide +kernel
theorem dX8_ruleOut_35 : decode cX8_ruleOut 35 = .ok (.invokestatic 78, 3) := by decide +kernel
theorem dX8_ruleOut_38 : decode cX8_ruleOut 38 = .ok (.ifCond .ne 6, 3) := by decide +kernel
theorem dX8_ruleOut_41 : decode cX8_ruleOut 41 = .ok (.ldc 82, 2) := by decide +kernel
theorem dX8_ruleOut_43 : decode cX8_ruleOut 43 = .ok (.ireturn, 1) := by decide +kernel
theorem dX8_ruleOut_44 : decode cX8_ruleOut 44 = .ok (.aload_n 0, 1) := by decide +kernel
theorem dX8_ruleOut_45 : decode cX8_ruleOut 45 = .ok (.iload_n 1, 1) := by decide +kernel
theorem dX8_ruleOut_46 : decode cX8_ruleOut 46 = .ok (.iload_n 2, 1) := by decide +kernel
theorem dX8_ruleOut_47 : decode cX8_ruleOut 47 = .ok (.invokevirtual 238, 3) := by decide +kernel
theorem dX8_ruleOut_50 : decode cX8_ruleOut 50 = .ok (.istore 4, 2) := by decide +kernel
theorem dX8_ruleOut_52 : decode cX8_ruleOut 52 = .ok (.iload 4, 2) := by decide +kernel
theorem dX8_ruleOut_54 : decode cX8_ruleOut 54 = .ok (.iconst (-1), 1) := by decide +kernel
theorem dX8_ruleOut_55 : decode cX8_ruleOut 55 = .ok (.if_icmp .eq 7, 3) := by decide +kernel
theorem dX8_ruleOut_58 : decode cX8_ruleOut 58 = .ok (.iload_n 3, 1) := by decide +kernel
theorem dX8_ruleOut_59 : decode cX8_ruleOut 59 = .ok (.ifCond .ne 6, 3) := by decide +kernel
theorem dX8_ruleOut_62 : decode cX8_ruleOut 62 = .ok (.iload 4, 2) := by decide +kernel
theorem dX8_ruleOut_64 : decode cX8_ruleOut 64 = .ok (.ireturn, 1) := by decide +kernel
theorem dX8_ruleOut_65 : decode cX8_ruleOut 65 = .ok (.aload_n 0, 1) := by decide +kernel
theorem dX8_ruleOut_66 : decode cX8_ruleOut 66 = .ok (.iload 4, 2) := by decide +kernel
theorem dX8_ruleOut_68 : decode cX8_ruleOut 68 = .ok (.invokevirtual 241, 3) := by decide +kernel
theorem dX8_ruleOut_71 : decode cX8_ruleOut 71 = .ok (.ireturn, 1) := by decide +kernel
theorem dX8_next_0 : decode cX8_next 0 = .ok (.aload_n 0, 1) := by decide +kernel
theorem dX8_next_1 : decode cX8_next 1 = .ok (.invokevirtual 129, 3) := by decide +kernel
theorem dX8_next_4 : decode cX8_next 4 = .ok (.istore_n 1, 1) := by decide +kernel
theorem dX8_next_5 : decode cX8_next 5 = .ok (.iconst (-1), 1) := by decide +kernel
theorem dX8_next_6 : decode cX8_next 6 = .ok (.istore_n 2, 1) := by decide +kernel
theorem dX8_next_7 : decode cX8_next 7 = .ok (.aload_n 0, 1) := by decide +kernel
theorem dX8_next_8 : decode cX8_next 8 = .ok (.getfield 32, 3) := by decide +kernel
theorem dX8_next_11 : decode cX8_next 11 = .ok (.iload_n 1, 1) := by decide +kernel
theorem dX8_next_12 : decode cX8_next 12 = .ok (.invokevirtual 244, 3) := by decide +kernel
theorem dX8_next_15 : decode cX8_next 15 = .ok (.istore_n 3, 1) := by decide +kernel
theorem dX8_next_16 : decode cX8_next 16 = .ok (.iconst 0, 1) := by decide +kernel
theorem dX8_next_17 : decode cX8_next 17 = .ok (.istore 4, 2) := by decide +kernel
theorem dX8_next_19 : decode cX8_next 19 = .ok (.iload 4, 2) := by decide +kernel
theorem dX8_next_21 : decode cX8_next 21 = .ok (.aload_n 0, 1) := by decide +kernel
theorem dX8_next_22 : decode cX8_next 22 = .ok (.getfield 32, 3) := by decide +kernel
theorem dX8_next_25 : decode cX8_next 25 = .ok (.getfield 101, 3) := by decide +kernel
theorem dX8_next_28 : decode cX8_next 28 = .ok (.if_icmp .ge 107, 3) := by decide +kernel
theorem dX8_next_31 : decode cX8_next 31 = .ok (.aload_n 0, 1) := by decide +kernel
theorem dX8_next_32 : decode cX8_next 32 = .ok (.getfield 39, 3) := by decide +kernel
theorem dX8_next_35 : decode cX8_next 35 = .ok (.getfield 126, 3) := by decide +kernel
theorem dX8_next_38 : decode cX8_next 38 = .ok (.iload 4, 2) := by decide +kernel
theorem dX8_next_40 : decode cX8_next 40 = .ok (.invokestatic 167, 3) := by decide +kernel
theorem dX8_next_43 : decode cX8_next 43 = .ok (.ifCond .eq 6, 3) := by decide +kernel
theorem dX8_next_46 : decode cX8_next 46 = .ok (.goto 83, 3) := by decide +kernel
theorem dX8_next_49 : decode cX8_next 49 = .ok (.aload_n 0, 1) := by decide +kernel
theorem dX8_next_50 : decode cX8_next 50 = .ok (.getfield 32, 3) := by decide +kernel
theorem dX8_next_53 : decode cX8_next 53 = .ok (.iload_n 1, 1) := by decide +kernel
theorem dX8_next_54 : decode cX8_next 54 = .ok (.aload_n 0, 1) := by decide +kernel
theorem dX8_next_55 : decode cX8_next 55 = .ok (.getfield 32, 3) := by decide +kernel
theorem dX8_next_58 : decode cX8_next 58 = .ok (.getfield 158, 3) := by decide +kernel
theorem dX8_next_61 : decode cX8_next 61 = .ok (.iload 4, 2) := by decide +kernel
theorem dX8_next_63 : decode cX8_next 63 = .ok (.iaload, 1) := by decide +kernel
theorem dX8_next_64 : decode cX8_next 64 = .ok (.iconst (-1), 1) := by decide +kernel
theorem dX8_next_65 : decode cX8_next 65 = .ok (.ixor, 1) := by decide +kernel
theorem dX8_next_66 : decode cX8_next 66 = .ok (.iand, 1) := by decide +kernel
theorem dX8_next_67 : decode cX8_next 67 = .ok (.invokevirtual 244, 3) := by decide +kernel
theorem dX8_next_70 : decode cX8_next 70 = .ok (.istore 5, 2) := by decide +kernel
theorem dX8_next_72 : decode cX8_next 72 = .ok (.iload_n 2, 1) := by decide +kernel
theorem dX8_next_73 : decode cX8_next 73 = .ok (.iconst (-1), 1) := by decide +kernel
theorem dX8_next_74 : decode cX8_next 74 = .ok (.if_icmp .eq 35, 3) := by decide +kernel
theorem dX8_next_77 : decode cX8_next 77 = .ok (.iload 5, 2) := by decide +kernel
theorem dX8_next_79 : decode cX8_next 79 = .ok (.iload_n 3, 1) := by decide +kernel
theorem dX8_next_80 : decode cX8_next 80 = .ok (.if_icmp .ne 29, 3) := by decide +kernel
theorem dX8_next_83 : decode cX8_next 83 = .ok (.aload_n 0, 1) := by decide +kernel
theorem dX8_next_84 : decode cX8_next 84 = .ok (.getfield 32, 3) := by decide +kernel
theorem dX8_next_87 : decode cX8_next 87 = .ok (.getfield 164, 3) := by decide +kernel
theorem dX8_next_90 : decode cX8_next 90 = .ok (.iload 4, 2) := by decide +kernel
theorem dX8_next_92 : decode cX8_next 92 = .ok (.iaload, 1) := by decide +kernel
theorem dX8_next_93 : decode cX8_next 93 = .ok (.aload_n 0, 1) := by decide +kernel
theorem dX8_next_94 : decode cX8_next 94 = .ok (.getfield 32, 3) := by decide +kernel
theorem dX8_next_97 : decode cX8_next 97 = .ok (.getfield 164, 3) := by decide +kernel
theorem dX8_next_100 : decode cX8_next 100 = .ok (.iload_n 2, 1) := by decide +kernel
theorem dX8_next_101 : decode cX8_next 101 = .ok (.iaload, 1) := by decide +kernel
theorem dX8_next_102 : decode cX8_next 102 = .ok (.if_icmp .ge 7, 3) := by decide +kernel
theorem dX8_next_105 : decode cX8_next 105 = .ok (.iconst 1, 1) := by decide +kernel
theorem dX8_next_106 : decode cX8_next 106 = .ok (.goto 4, 3) := by decide +kernel
theorem dX8_next_109 : decode cX8_next 109 = .ok (.iconst 0, 1) := by decide +kernel
theorem dX8_next_110 : decode cX8_next 110 = .ok (.istore 6, 2) := by decide +kernel
theorem dX8_next_112 : decode cX8_next 112 = .ok (.iload 5, 2) := by decide +kernel
theorem dX8_next_114 : decode cX8_next 114 = .ok (.iload_n 3, 1) := by decide +kernel
theorem dX8_next_115 : decode cX8_next 115 = .ok (.if_icmp .lt 8, 3) := by decide +kernel
theorem dX8_next_118 : decode cX8_next 118 = .ok (.iload 6, 2) := by decide +kernel
theorem dX8_next_120 : decode cX8_next 120 = .ok (.ifCond .eq 9, 3) := by decide +kernel
theorem dX8_next_123 : decode cX8_next 123 = .ok (.iload 4, 2) := by decide +kernel
theorem dX8_next_125 : decode cX8_next 125 = .ok (.istore_n 2, 1) := by decide +kernel
theorem dX8_next_126 : decode cX8_next 126 = .ok (.iload 5, 2) := by decide +kernel
theorem dX8_next_128 : decode cX8_next 128 = .ok (.istore_n 3, 1) := by decide +kernel
theorem dX8_next_129 : decode cX8_next 129 = .ok (.iinc 4 1, 3) := by decide +kernel
theorem dX8_next_132 : decode cX8_next 132 = .ok (.goto (-113), 3) := by decide +kernel
theorem dX8_next_135 : decode cX8_next 135 = .ok (.iload_n 2, 1) := by decide +kernel
theorem dX8_next_136 : decode cX8_next 136 = .ok (.ireturn, 1) := by decide +kernel
theorem dX8_offer_0 : decode cX8_offer 0 = .ok (.iload_n 1, 1) := by decide +kernel
theorem dX8_offer_1 : decode cX8_offer 1 = .ok (.iconst 0, 1) := by decide +kernel
theorem dX8_offer_2 : decode cX8_offer 2 = .ok (.sipush 9999, 3) := by decide +kernel
theorem dX8_offer_5 : decode cX8_offer 5 = .ok (.invokestatic 78, 3) := by decide +kernel
theorem dX8_offer_8 : decode cX8_offer 8 = .ok (.ifCond .eq 14, 3) := by decide +kernel
theorem dX8_offer_11 : decode cX8_offer 11 = .ok (.iload_n 2, 1) := by decide +kernel
theorem dX8_offer_12 : decode cX8_offer 12 = .ok (.iconst 0, 1) := by decide +kernel
theorem dX8_offer_13 : decode cX8_offer 13 = .ok (.sipush 9999, 3) := by decide +kernel
theorem dX8_offer_16 : decode cX8_offer 16 = .ok (.invokestatic 78, 3) := by decide +kernel
theorem dX8_offer_19 : decode cX8_offer 19 = .ok (.ifCond .ne 6, 3) := by decide +kernel
theorem dX8_offer_22 : decode cX8_offer 22 = .ok (.ldc 82, 2) := by decide +kernel
theorem dX8_offer_24 : decode cX8_offer 24 = .ok (.ireturn, 1) := by decide +kernel
theorem dX8_offer_25 : decode cX8_offer 25 = .ok (.aload_n 0, 1) := by decide +kernel
theorem dX8_offer_26 : decode cX8_offer 26 = .ok (.getfield 32, 3) := by decide +kernel
theorem dX8_offer_29 : decode cX8_offer 29 = .ok (.invokevirtual 202, 3) := by decide +kernel
theorem dX8_offer_32 : decode cX8_offer 32 = .ok (.ifCond .ne 6, 3) := by decide +kernel
theorem dX8_offer_35 : decode cX8_offer 35 = .ok (.ldc 201, 2) := by decide +kernel
theorem dX8_offer_37 : decode cX8_offer 37 = .ok (.ireturn, 1) := by decide +kernel
theorem dX8_offer_38 : decode cX8_offer 38 = .ok (.aload_n 0, 1) := by decide +kernel
theorem dX8_offer_39 : decode cX8_offer 39 = .ok (.iload_n 1, 1) := by decide +kernel
theorem dX8_offer_40 : decode cX8_offer 40 = .ok (.iload_n 2, 1) := by decide +kernel
theorem dX8_offer_41 : decode cX8_offer 41 = .ok (.aload_n 0, 1) := by decide +kernel
theorem dX8_offer_42 : decode cX8_offer 42 = .ok (.invokevirtual 129, 3) := by decide +kernel
theorem dX8_offer_45 : decode cX8_offer 45 = .ok (.invokevirtual 247, 3) := by decide +kernel
theorem dX8_offer_48 : decode cX8_offer 48 = .ok (.ireturn, 1) := by decide +kernel
theorem dX8_both_0 : decode cX8_both 0 = .ok (.iload_n 1, 1) := by decide +kernel
theorem dX8_both_1 : decode cX8_both 1 = .ok (.iconst 0, 1) := by decide +kernel
theorem dX8_both_2 : decode cX8_both 2 = .ok (.sipush 9999, 3) := by decide +kernel
theorem dX8_both_5 : decode cX8_both 5 = .ok (.invokestatic 78, 3) := by decide +kernel
theorem dX8_both_8 : decode cX8_both 8 = .ok (.ifCond .eq 25, 3) := by decide +kernel
theorem dX8_both_11 : decode cX8_both 11 = .ok (.iload_n 2, 1) := by decide +kernel
theorem dX8_both_12 : decode cX8_both 12 = .ok (.iconst 0, 1) := by decide +kernel
theorem dX8_both_13 : decode cX8_both 13 = .ok (.sipush 9999, 3) := by decide +kernel
theorem dX8_both_16 : decode cX8_both 16 = .ok (.invokestatic 78, 3) := by decide +kernel
theorem dX8_both_19 : decode cX8_both 19 = .ok (.ifCond .eq 14, 3) := by decide +kernel
theorem dX8_both_22 : decode cX8_both 22 = .ok (.iload_n 3, 1) := by decide +kernel
theorem dX8_both_23 : decode cX8_both 23 = .ok (.iconst 0, 1) := by decide +kernel
theorem dX8_both_24 : decode cX8_both 24 = .ok (.sipush 9999, 3) := by decide +kernel
theorem dX8_both_27 : decode cX8_both 27 = .ok (.invokestatic 78, 3) := by decide +kernel
theorem dX8_both_30 : decode cX8_both 30 = .ok (.ifCond .ne 6, 3) := by decide +kernel
theorem dX8_both_33 : decode cX8_both 33 = .ok (.ldc 82, 2) := by decide +kernel
theorem dX8_both_35 : decode cX8_both 35 = .ok (.ireturn, 1) := by decide +kernel
theorem dX8_both_36 : decode cX8_both 36 = .ok (.aload_n 0, 1) := by decide +kernel
theorem dX8_both_37 : decode cX8_both 37 = .ok (.getfield 32, 3) := by decide +kernel
theorem dX8_both_40 : decode cX8_both 40 = .ok (.invokevirtual 202, 3) := by decide +kernel
theorem dX8_both_43 : decode cX8_both 43 = .ok (.ifCond .ne 6, 3) := by decide +kernel
theorem dX8_both_46 : decode cX8_both 46 = .ok (.ldc 201, 2) := by decide +kernel
theorem dX8_both_48 : decode cX8_both 48 = .ok (.ireturn, 1) := by decide +kernel
theorem dX8_both_49 : decode cX8_both 49 = .ok (.aload_n 0, 1) := by decide +kernel
theorem dX8_both_50 : decode cX8_both 50 = .ok (.iload_n 1, 1) := by decide +kernel
theorem dX8_both_51 : decode cX8_both 51 = .ok (.iload_n 2, 1) := by decide +kernel
theorem dX8_both_52 : decode cX8_both 52 = .ok (.aload_n 0, 1) := by decide +kernel
theorem dX8_both_53 : decode cX8_both 53 = .ok (.invokevirtual 129, 3) := by decide +kernel
theorem dX8_both_56 : decode cX8_both 56 = .ok (.invokevirtual 247, 3) := by decide +kernel
theorem dX8_both_59 : decode cX8_both 59 = .ok (.istore 4, 2) := by decide +kernel
theorem dX8_both_61 : decode cX8_both 61 = .ok (.iload 4, 2) := by decide +kernel
theorem dX8_both_63 : decode cX8_both 63 = .ok (.iload_n 3, 1) := by decide +kernel
theorem dX8_both_64 : decode cX8_both 64 = .ok (.if_icmp .le 12, 3) := by decide +kernel
theorem dX8_both_67 : decode cX8_both 67 = .ok (.iload 4, 2) := by decide +kernel
theorem dX8_both_69 : decode cX8_both 69 = .ok (.iload_n 3, 1) := by decide +kernel
theorem dX8_both_70 : decode cX8_both 70 = .ok (.isub, 1) := by decide +kernel
theorem dX8_both_71 : decode cX8_both 71 = .ok (.iconst 2, 1) := by decide +kernel
theorem dX8_both_72 : decode cX8_both 72 = .ok (.idiv, 1) := by decide +kernel
theorem dX8_both_73 : decode cX8_both 73 = .ok (.goto 4, 3) := by decide +kernel
theorem dX8_both_76 : decode cX8_both 76 = .ok (.iconst 0, 1) := by decide +kernel
theorem dX8_both_77 : decode cX8_both 77 = .ok (.ireturn, 1) := by decide +kernel
theorem dX8_worth_0 : decode cX8_worth 0 = .ok (.aload_n 0, 1) := by decide +kernel
theorem dX8_worth_1 : decode cX8_worth 1 = .ok (.getfield 32, 3) := by decide +kernel
theorem dX8_worth_4 : decode cX8_worth 4 = .ok (.iload_n 1, 1) := by decide +kernel
theorem dX8_worth_5 : decode cX8_worth 5 = .ok (.invokevirtual 155, 3) := by decide +kernel
theorem dX8_worth_8 : decode cX8_worth 8 = .ok (.ifCond .ne 6, 3) := by decide +kernel
theorem dX8_worth_11 : decode cX8_worth 11 = .ok (.ldc 154, 2) := by decide +kernel
theorem dX8_worth_13 : decode cX8_worth 13 = .ok (.ireturn, 1) := by decide +kernel
theorem dX8_worth_14 : decode cX8_worth 14 = .ok (.iload_n 2, 1) := by decide +kernel
theorem dX8_worth_15 : decode cX8_worth 15 = .ok (.iconst 0, 1) := by decide +kernel
theorem dX8_worth_16 : decode cX8_worth 16 = .ok (.sipush 9999, 3) := by decide +kernel
theorem dX8_worth_19 : decode cX8_worth 19 = .ok (.invokestatic 78, 3) := by decide +kernel
theorem dX8_worth_22 : decode cX8_worth 22 = .ok (.ifCond .ne 6, 3) := by decide +kernel
theorem dX8_worth_25 : decode cX8_worth 25 = .ok (.ldc 82, 2) := by decide +kernel
theorem dX8_worth_27 : decode cX8_worth 27 = .ok (.ireturn, 1) := by decide +kernel
theorem dX8_worth_28 : decode cX8_worth 28 = .ok (.aload_n 0, 1) := by decide +kernel
theorem dX8_worth_29 : decode cX8_worth 29 = .ok (.invokevirtual 129, 3) := by decide +kernel
theorem dX8_worth_32 : decode cX8_worth 32 = .ok (.istore_n 3, 1) := by decide +kernel
theorem dX8_worth_33 : decode cX8_worth 33 = .ok (.aload_n 0, 1) := by decide +kernel
theorem dX8_worth_34 : decode cX8_worth 34 = .ok (.iload_n 2, 1) := by decide +kernel
theorem dX8_worth_35 : decode cX8_worth 35 = .ok (.iconst 0, 1) := by decide +kernel
theorem dX8_worth_36 : decode cX8_worth 36 = .ok (.iload_n 3, 1) := by decide +kernel
theorem dX8_worth_37 : decode cX8_worth 37 = .ok (.aload_n 0, 1) := by decide +kernel
theorem dX8_worth_38 : decode cX8_worth 38 = .ok (.getfield 32, 3) := by decide +kernel
theorem dX8_worth_41 : decode cX8_worth 41 = .ok (.getfield 158, 3) := by decide +kernel
theorem dX8_worth_44 : decode cX8_worth 44 = .ok (.iload_n 1, 1) := by decide +kernel
theorem dX8_worth_45 : decode cX8_worth 45 = .ok (.iaload, 1) := by decide +kernel
theorem dX8_worth_46 : decode cX8_worth 46 = .ok (.iconst (-1), 1) := by decide +kernel
theorem dX8_worth_47 : decode cX8_worth 47 = .ok (.ixor, 1) := by decide +kernel
theorem dX8_worth_48 : decode cX8_worth 48 = .ok (.iand, 1) := by decide +kernel
theorem dX8_worth_49 : decode cX8_worth 49 = .ok (.invokevirtual 247, 3) := by decide +kernel
theorem dX8_worth_52 : decode cX8_worth 52 = .ok (.istore 4, 2) := by decide +kernel
theorem dX8_worth_54 : decode cX8_worth 54 = .ok (.iload 4, 2) := by decide +kernel
theorem dX8_worth_56 : decode cX8_worth 56 = .ok (.aload_n 0, 1) := by decide +kernel
theorem dX8_worth_57 : decode cX8_worth 57 = .ok (.iload_n 2, 1) := by decide +kernel
theorem dX8_worth_58 : decode cX8_worth 58 = .ok (.iconst 0, 1) := by decide +kernel
theorem dX8_worth_59 : decode cX8_worth 59 = .ok (.iload_n 3, 1) := by decide +kernel
theorem dX8_worth_60 : decode cX8_worth 60 = .ok (.invokevirtual 247, 3) := by decide +kernel
theorem dX8_worth_63 : decode cX8_worth 63 = .ok (.isub, 1) := by decide +kernel
theorem dX8_worth_64 : decode cX8_worth 64 = .ok (.aload_n 0, 1) := by decide +kernel
theorem dX8_worth_65 : decode cX8_worth 65 = .ok (.getfield 32, 3) := by decide +kernel
theorem dX8_worth_68 : decode cX8_worth 68 = .ok (.getfield 164, 3) := by decide +kernel
theorem dX8_worth_71 : decode cX8_worth 71 = .ok (.iload_n 1, 1) := by decide +kernel
theorem dX8_worth_72 : decode cX8_worth 72 = .ok (.iaload, 1) := by decide +kernel
theorem dX8_worth_73 : decode cX8_worth 73 = .ok (.isub, 1) := by decide +kernel
theorem dX8_worth_74 : decode cX8_worth 74 = .ok (.ldc 251, 2) := by decide +kernel
theorem dX8_worth_76 : decode cX8_worth 76 = .ok (.iadd, 1) := by decide +kernel
theorem dX8_worth_77 : decode cX8_worth 77 = .ok (.ireturn, 1) := by decide +kernel
theorem dX8_secret_0 : decode cX8_secret 0 = .ok (.iload_n 1, 1) := by decide +kernel
theorem dX8_secret_1 : decode cX8_secret 1 = .ok (.iconst 0, 1) := by decide +kernel
theorem dX8_secret_2 : decode cX8_secret 2 = .ok (.bipush 60, 2) := by decide +kernel
theorem dX8_secret_4 : decode cX8_secret 4 = .ok (.invokestatic 78, 3) := by decide +kernel
theorem dX8_secret_7 : decode cX8_secret 7 = .ok (.ifCond .eq 13, 3) := by decide +kernel
theorem dX8_secret_10 : decode cX8_secret 10 = .ok (.iload_n 2, 1) := by decide +kernel
theorem dX8_secret_11 : decode cX8_secret 11 = .ok (.iconst 0, 1) := by decide +kernel
theorem dX8_secret_12 : decode cX8_secret 12 = .ok (.bipush 100, 2) := by decide +kernel
theorem dX8_secret_14 : decode cX8_secret 14 = .ok (.invokestatic 78, 3) := by decide +kernel
theorem dX8_secret_17 : decode cX8_secret 17 = .ok (.ifCond .ne 6, 3) := by decide +kernel
theorem dX8_secret_20 : decode cX8_secret 20 = .ok (.ldc 82, 2) := by decide +kernel
theorem dX8_secret_22 : decode cX8_secret 22 = .ok (.ireturn, 1) := by decide +kernel
theorem dX8_secret_23 : decode cX8_secret 23 = .ok (.ldc 252, 2) := by decide +kernel
theorem dX8_secret_25 : decode cX8_secret 25 = .ok (.istore_n 3, 1) := by decide +kernel
theorem dX8_secret_26 : decode cX8_secret 26 = .ok (.iconst 0, 1) := by decide +kernel
theorem dX8_secret_27 : decode cX8_secret 27 = .ok (.istore 4, 2) := by decide +kernel
theorem dX8_secret_29 : decode cX8_secret 29 = .ok (.iload 4, 2) := by decide +kernel
theorem dX8_secret_31 : decode cX8_secret 31 = .ok (.iload_n 1, 1) := by decide +kernel
theorem dX8_secret_32 : decode cX8_secret 32 = .ok (.if_icmp .ge 19, 3) := by decide +kernel
theorem dX8_secret_35 : decode cX8_secret 35 = .ok (.iload_n 3, 1) := by decide +kernel
theorem dX8_secret_36 : decode cX8_secret 36 = .ok (.bipush 100, 2) := by decide +kernel
theorem dX8_secret_38 : decode cX8_secret 38 = .ok (.iload_n 2, 1) := by decide +kernel
theorem dX8_secret_39 : decode cX8_secret 39 = .ok (.isub, 1) := by decide +kernel
theorem dX8_secret_40 : decode cX8_secret 40 = .ok (.imul, 1) := by decide +kernel
theorem dX8_secret_41 : decode cX8_secret 41 = .ok (.bipush 100, 2) := by decide +kernel
theorem dX8_secret_43 : decode cX8_secret 43 = .ok (.idiv, 1) := by decide +kernel
theorem dX8_secret_44 : decode cX8_secret 44 = .ok (.istore_n 3, 1) := by decide +kernel
theorem dX8_secret_45 : decode cX8_secret 45 = .ok (.iinc 4 1, 3) := by decide +kernel
theorem dX8_secret_48 : decode cX8_secret 48 = .ok (.goto (-19), 3) := by decide +kernel
theorem dX8_secret_51 : decode cX8_secret 51 = .ok (.iload_n 3, 1) := by decide +kernel
theorem dX8_secret_52 : decode cX8_secret 52 = .ok (.ireturn, 1) := by decide +kernel
theorem dX8_hear_0 : decode cX8_hear 0 = .ok (.iload_n 1, 1) := by decide +kernel
theorem dX8_hear_1 : decode cX8_hear 1 = .ok (.iconst 0, 1) := by decide +kernel
theorem dX8_hear_2 : decode cX8_hear 2 = .ok (.bipush 59, 2) := by decide +kernel
theorem dX8_hear_4 : decode cX8_hear 4 = .ok (.invokestatic 78, 3) := by decide +kernel
theorem dX8_hear_7 : decode cX8_hear 7 = .ok (.ifCond .ne 6, 3) := by decide +kernel
theorem dX8_hear_10 : decode cX8_hear 10 = .ok (.ldc 82, 2) := by decide +kernel
theorem dX8_hear_12 : decode cX8_hear 12 = .ok (.ireturn, 1) := by decide +kernel
theorem dX8_hear_13 : decode cX8_hear 13 = .ok (.aload_n 0, 1) := by decide +kernel
theorem dX8_hear_14 : decode cX8_hear 14 = .ok (.getfield 32, 3) := by decide +kernel
theorem dX8_hear_17 : decode cX8_hear 17 = .ok (.invokevirtual 202, 3) := by decide +kernel
theorem dX8_hear_20 : decode cX8_hear 20 = .ok (.ifCond .ne 6, 3) := by decide +kernel
theorem dX8_hear_23 : decode cX8_hear 23 = .ok (.ldc 201, 2) := by decide +kernel
theorem dX8_hear_25 : decode cX8_hear 25 = .ok (.ireturn, 1) := by decide +kernel
theorem dX8_hear_26 : decode cX8_hear 26 = .ok (.aload_n 0, 1) := by decide +kernel
theorem dX8_hear_27 : decode cX8_hear 27 = .ok (.getfield 53, 3) := by decide +kernel
theorem dX8_hear_30 : decode cX8_hear 30 = .ok (.iload_n 1, 1) := by decide +kernel
theorem dX8_hear_31 : decode cX8_hear 31 = .ok (.iload_n 2, 1) := by decide +kernel
theorem dX8_hear_32 : decode cX8_hear 32 = .ok (.invokevirtual 253, 3) := by decide +kernel
theorem dX8_hear_35 : decode cX8_hear 35 = .ok (.ifCond .eq 13, 3) := by decide +kernel
theorem dX8_hear_38 : decode cX8_hear 38 = .ok (.aload_n 0, 1) := by decide +kernel
theorem dX8_hear_39 : decode cX8_hear 39 = .ok (.getfield 53, 3) := by decide +kernel
theorem dX8_hear_42 : decode cX8_hear 42 = .ok (.getfield 142, 3) := by decide +kernel
theorem dX8_hear_45 : decode cX8_hear 45 = .ok (.goto 5, 3) := by decide +kernel
theorem dX8_hear_48 : decode cX8_hear 48 = .ok (.ldc 83, 2) := by decide +kernel
theorem dX8_hear_50 : decode cX8_hear 50 = .ok (.ireturn, 1) := by decide +kernel
theorem dX8_paid_0 : decode cX8_paid 0 = .ok (.aload_n 0, 1) := by decide +kernel
theorem dX8_paid_1 : decode cX8_paid 1 = .ok (.getfield 32, 3) := by decide +kernel
theorem dX8_paid_4 : decode cX8_paid 4 = .ok (.invokevirtual 202, 3) := by decide +kernel
theorem dX8_paid_7 : decode cX8_paid 7 = .ok (.ifCond .eq 20, 3) := by decide +kernel
theorem dX8_paid_10 : decode cX8_paid 10 = .ok (.aload_n 0, 1) := by decide +kernel
theorem dX8_paid_11 : decode cX8_paid 11 = .ok (.getfield 53, 3) := by decide +kernel
theorem dX8_paid_14 : decode cX8_paid 14 = .ok (.aload_n 0, 1) := by decide +kernel
theorem dX8_paid_15 : decode cX8_paid 15 = .ok (.getfield 32, 3) := by decide +kernel
theorem dX8_paid_18 : decode cX8_paid 18 = .ok (.getfield 110, 3) := by decide +kernel
theorem dX8_paid_21 : decode cX8_paid 21 = .ok (.invokevirtual 257, 3) := by decide +kernel
theorem dX8_paid_24 : decode cX8_paid 24 = .ok (.goto 5, 3) := by decide +kernel
theorem dX8_paid_27 : decode cX8_paid 27 = .ok (.ldc 201, 2) := by decide +kernel
theorem dX8_paid_29 : decode cX8_paid 29 = .ok (.ireturn, 1) := by decide +kernel
theorem dX8_ask_0 : decode cX8_ask 0 = .ok (.aload_n 0, 1) := by decide +kernel
theorem dX8_ask_1 : decode cX8_ask 1 = .ok (.getfield 32, 3) := by decide +kernel
theorem dX8_ask_4 : decode cX8_ask 4 = .ok (.invokevirtual 202, 3) := by decide +kernel
theorem dX8_ask_7 : decode cX8_ask 7 = .ok (.ifCond .eq 20, 3) := by decide +kernel
theorem dX8_ask_10 : decode cX8_ask 10 = .ok (.aload_n 0, 1) := by decide +kernel
theorem dX8_ask_11 : decode cX8_ask 11 = .ok (.getfield 53, 3) := by decide +kernel
theorem dX8_ask_14 : decode cX8_ask 14 = .ok (.aload_n 0, 1) := by decide +kernel
theorem dX8_ask_15 : decode cX8_ask 15 = .ok (.getfield 32, 3) := by decide +kernel
theorem dX8_ask_18 : decode cX8_ask 18 = .ok (.getfield 110, 3) := by decide +kernel
theorem dX8_ask_21 : decode cX8_ask 21 = .ok (.invokevirtual 260, 3) := by decide +kernel
theorem dX8_ask_24 : decode cX8_ask 24 = .ok (.goto 5, 3) := by decide +kernel
theorem dX8_ask_27 : decode cX8_ask 27 = .ok (.ldc 201, 2) := by decide +kernel
theorem dX8_ask_29 : decode cX8_ask 29 = .ok (.ireturn, 1) := by decide +kernel
theorem dX8_write_0 : decode cX8_write 0 = .ok (.aload_n 0, 1) := by decide +kernel
theorem dX8_write_1 : decode cX8_write 1 = .ok (.getfield 32, 3) := by decide +kernel
theorem dX8_write_4 : decode cX8_write 4 = .ok (.iload_n 1, 1) := by decide +kernel
theorem dX8_write_5 : decode cX8_write 5 = .ok (.invokevirtual 210, 3) := by decide +kernel
theorem dX8_write_8 : decode cX8_write 8 = .ok (.ifCond .ne 6, 3) := by decide +kernel
theorem dX8_write_11 : decode cX8_write 11 = .ok (.ldc 154, 2) := by decide +kernel
theorem dX8_write_13 : decode cX8_write 13 = .ok (.ireturn, 1) := by decide +kernel
theorem dX8_write_14 : decode cX8_write 14 = .ok (.aload_n 0, 1) := by decide +kernel
theorem dX8_write_15 : decode cX8_write 15 = .ok (.getfield 60, 3) := by decide +kernel
theorem dX8_write_18 : decode cX8_write 18 = .ok (.iload_n 1, 1) := by decide +kernel
theorem dX8_write_19 : decode cX8_write 19 = .ok (.invokevirtual 263, 3) := by decide +kernel
theorem dX8_write_22 : decode cX8_write 22 = .ok (.ifCond .eq 13, 3) := by decide +kernel
theorem dX8_write_25 : decode cX8_write 25 = .ok (.aload_n 0, 1) := by decide +kernel
theorem dX8_write_26 : decode cX8_write 26 = .ok (.getfield 60, 3) := by decide +kernel
theorem dX8_write_29 : decode cX8_write 29 = .ok (.getfield 145, 3) := by decide +kernel
theorem dX8_write_32 : decode cX8_write 32 = .ok (.goto 5, 3) := by decide +kernel
theorem dX8_write_35 : decode cX8_write 35 = .ok (.ldc 83, 2) := by decide +kernel
theorem dX8_write_37 : decode cX8_write 37 = .ok (.ireturn, 1) := by decide +kernel
theorem dX8_tear_0 : decode cX8_tear 0 = .ok (.aload_n 0, 1) := by decide +kernel
theorem dX8_tear_1 : decode cX8_tear 1 = .ok (.getfield 53, 3) := by decide +kernel
theorem dX8_tear_4 : decode cX8_tear 4 = .ok (.getfield 142, 3) := by decide +kernel
theorem dX8_tear_7 : decode cX8_tear 7 = .ok (.aload_n 0, 1) := by decide +kernel
theorem dX8_tear_8 : decode cX8_tear 8 = .ok (.getfield 60, 3) := by decide +kernel
theorem dX8_tear_11 : decode cX8_tear 11 = .ok (.getfield 145, 3) := by decide +kernel
theorem dX8_tear_14 : decode cX8_tear 14 = .ok (.iadd, 1) := by decide +kernel
theorem dX8_tear_15 : decode cX8_tear 15 = .ok (.istore_n 1, 1) := by decide +kernel
theorem dX8_tear_16 : decode cX8_tear 16 = .ok (.aload_n 0, 1) := by decide +kernel
theorem dX8_tear_17 : decode cX8_tear 17 = .ok (.getfield 53, 3) := by decide +kernel
theorem dX8_tear_20 : decode cX8_tear 20 = .ok (.iconst 0, 1) := by decide +kernel
theorem dX8_tear_21 : decode cX8_tear 21 = .ok (.putfield 142, 3) := by decide +kernel
theorem dX8_tear_24 : decode cX8_tear 24 = .ok (.aload_n 0, 1) := by decide +kernel
theorem dX8_tear_25 : decode cX8_tear 25 = .ok (.getfield 60, 3) := by decide +kernel
theorem dX8_tear_28 : decode cX8_tear 28 = .ok (.iconst 0, 1) := by decide +kernel
theorem dX8_tear_29 : decode cX8_tear 29 = .ok (.putfield 145, 3) := by decide +kernel
theorem dX8_tear_32 : decode cX8_tear 32 = .ok (.iload_n 1, 1) := by decide +kernel
theorem dX8_tear_33 : decode cX8_tear 33 = .ok (.ireturn, 1) := by decide +kernel
theorem dX8_judge_0 : decode cX8_judge 0 = .ok (.aload_n 0, 1) := by decide +kernel
theorem dX8_judge_1 : decode cX8_judge 1 = .ok (.getfield 60, 3) := by decide +kernel
theorem dX8_judge_4 : decode cX8_judge 4 = .ok (.aload_n 0, 1) := by decide +kernel
theorem dX8_judge_5 : decode cX8_judge 5 = .ok (.invokevirtual 129, 3) := by decide +kernel
theorem dX8_judge_8 : decode cX8_judge 8 = .ok (.invokevirtual 265, 3) := by decide +kernel
theorem dX8_judge_11 : decode cX8_judge 11 = .ok (.ireturn, 1) := by decide +kernel
theorem dX8_seed_0 : decode cX8_seed 0 = .ok (.iload_n 1, 1) := by decide +kernel
theorem dX8_seed_1 : decode cX8_seed 1 = .ok (.ifCond .ge 6, 3) := by decide +kernel
theorem dX8_seed_4 : decode cX8_seed 4 = .ok (.ldc 82, 2) := by decide +kernel
theorem dX8_seed_6 : decode cX8_seed 6 = .ok (.ireturn, 1) := by decide +kernel
theorem dX8_seed_7 : decode cX8_seed 7 = .ok (.aload_n 0, 1) := by decide +kernel
theorem dX8_seed_8 : decode cX8_seed 8 = .ok (.getfield 67, 3) := by decide +kernel
theorem dX8_seed_11 : decode cX8_seed 11 = .ok (.getfield 268, 3) := by decide +kernel
theorem dX8_seed_14 : decode cX8_seed 14 = .ok (.istore_n 2, 1) := by decide +kernel
theorem dX8_seed_15 : decode cX8_seed 15 = .ok (.aload_n 0, 1) := by decide +kernel
theorem dX8_seed_16 : decode cX8_seed 16 = .ok (.getfield 67, 3) := by decide +kernel
theorem dX8_seed_19 : decode cX8_seed 19 = .ok (.iload_n 1, 1) := by decide +kernel
theorem dX8_seed_20 : decode cX8_seed 20 = .ok (.putfield 268, 3) := by decide +kernel
theorem dX8_seed_23 : decode cX8_seed 23 = .ok (.iload_n 2, 1) := by decide +kernel
theorem dX8_seed_24 : decode cX8_seed 24 = .ok (.ireturn, 1) := by decide +kernel
theorem dX8_keep_0 : decode cX8_keep 0 = .ok (.iload_n 1, 1) := by decide +kernel
theorem dX8_keep_1 : decode cX8_keep 1 = .ok (.iconst 0, 1) := by decide +kernel
theorem dX8_keep_2 : decode cX8_keep 2 = .ok (.iconst 1, 1) := by decide +kernel
theorem dX8_keep_3 : decode cX8_keep 3 = .ok (.invokestatic 78, 3) := by decide +kernel
theorem dX8_keep_6 : decode cX8_keep 6 = .ok (.ifCond .ne 6, 3) := by decide +kernel
theorem dX8_keep_9 : decode cX8_keep 9 = .ok (.ldc 154, 2) := by decide +kernel
theorem dX8_keep_11 : decode cX8_keep 11 = .ok (.ireturn, 1) := by decide +kernel
theorem dX8_keep_12 : decode cX8_keep 12 = .ok (.aload_n 0, 1) := by decide +kernel
theorem dX8_keep_13 : decode cX8_keep 13 = .ok (.getfield 73, 3) := by decide +kernel
theorem dX8_keep_16 : decode cX8_keep 16 = .ok (.iload_n 1, 1) := by decide +kernel
theorem dX8_keep_17 : decode cX8_keep 17 = .ok (.aaload, 1) := by decide +kernel
theorem dX8_keep_18 : decode cX8_keep 18 = .ok (.iconst 1, 1) := by decide +kernel
theorem dX8_keep_19 : decode cX8_keep 19 = .ok (.putfield 271, 3) := by decide +kernel
theorem dX8_keep_22 : decode cX8_keep 22 = .ok (.aload_n 0, 1) := by decide +kernel
theorem dX8_keep_23 : decode cX8_keep 23 = .ok (.getfield 73, 3) := by decide +kernel
theorem dX8_keep_26 : decode cX8_keep 26 = .ok (.iload_n 1, 1) := by decide +kernel
theorem dX8_keep_27 : decode cX8_keep 27 = .ok (.aaload, 1) := by decide +kernel
theorem dX8_keep_28 : decode cX8_keep 28 = .ok (.getfield 274, 3) := by decide +kernel
theorem dX8_keep_31 : decode cX8_keep 31 = .ok (.aload_n 0, 1) := by decide +kernel
theorem dX8_keep_32 : decode cX8_keep 32 = .ok (.getfield 39, 3) := by decide +kernel
theorem dX8_keep_35 : decode cX8_keep 35 = .ok (.invokevirtual 277, 3) := by decide +kernel
theorem dX8_keep_38 : decode cX8_keep 38 = .ok (.aload_n 0, 1) := by decide +kernel
theorem dX8_keep_39 : decode cX8_keep 39 = .ok (.getfield 73, 3) := by decide +kernel
theorem dX8_keep_42 : decode cX8_keep 42 = .ok (.iload_n 1, 1) := by decide +kernel
theorem dX8_keep_43 : decode cX8_keep 43 = .ok (.aaload, 1) := by decide +kernel
theorem dX8_keep_44 : decode cX8_keep 44 = .ok (.aload_n 0, 1) := by decide +kernel
theorem dX8_keep_45 : decode cX8_keep 45 = .ok (.getfield 67, 3) := by decide +kernel
theorem dX8_keep_48 : decode cX8_keep 48 = .ok (.getfield 268, 3) := by decide +kernel
theorem dX8_keep_51 : decode cX8_keep 51 = .ok (.putfield 280, 3) := by decide +kernel
theorem dX8_keep_54 : decode cX8_keep 54 = .ok (.aload_n 0, 1) := by decide +kernel
theorem dX8_keep_55 : decode cX8_keep 55 = .ok (.getfield 46, 3) := by decide +kernel
theorem dX8_keep_58 : decode cX8_keep 58 = .ok (.invokevirtual 283, 3) := by decide +kernel
theorem dX8_keep_61 : decode cX8_keep 61 = .ok (.iconst 1, 1) := by decide +kernel
theorem dX8_keep_62 : decode cX8_keep 62 = .ok (.ireturn, 1) := by decide +kernel
theorem dX8_goBack_0 : decode cX8_goBack 0 = .ok (.iload_n 1, 1) := by decide +kernel
theorem dX8_goBack_1 : decode cX8_goBack 1 = .ok (.iconst 0, 1) := by decide +kernel
theorem dX8_goBack_2 : decode cX8_goBack 2 = .ok (.iconst 1, 1) := by decide +kernel
theorem dX8_goBack_3 : decode cX8_goBack 3 = .ok (.invokestatic 78, 3) := by decide +kernel
theorem dX8_goBack_6 : decode cX8_goBack 6 = .ok (.ifCond .ne 6, 3) := by decide +kernel
theorem dX8_goBack_9 : decode cX8_goBack 9 = .ok (.ldc 154, 2) := by decide +kernel
theorem dX8_goBack_11 : decode cX8_goBack 11 = .ok (.ireturn, 1) := by decide +kernel
theorem dX8_goBack_12 : decode cX8_goBack 12 = .ok (.aload_n 0, 1) := by decide +kernel
theorem dX8_goBack_13 : decode cX8_goBack 13 = .ok (.getfield 73, 3) := by decide +kernel
theorem dX8_goBack_16 : decode cX8_goBack 16 = .ok (.iload_n 1, 1) := by decide +kernel
theorem dX8_goBack_17 : decode cX8_goBack 17 = .ok (.aaload, 1) := by decide +kernel
theorem dX8_goBack_18 : decode cX8_goBack 18 = .ok (.getfield 271, 3) := by decide +kernel
theorem dX8_goBack_21 : decode cX8_goBack 21 = .ok (.ifCond .ne 6, 3) := by decide +kernel
theorem dX8_goBack_24 : decode cX8_goBack 24 = .ok (.ldc 201, 2) := by decide +kernel
theorem dX8_goBack_26 : decode cX8_goBack 26 = .ok (.ireturn, 1) := by decide +kernel
theorem dX8_goBack_27 : decode cX8_goBack 27 = .ok (.aload_n 0, 1) := by decide +kernel
theorem dX8_goBack_28 : decode cX8_goBack 28 = .ok (.getfield 39, 3) := by decide +kernel
theorem dX8_goBack_31 : decode cX8_goBack 31 = .ok (.aload_n 0, 1) := by decide +kernel
theorem dX8_goBack_32 : decode cX8_goBack 32 = .ok (.getfield 73, 3) := by decide +kernel
theorem dX8_goBack_35 : decode cX8_goBack 35 = .ok (.iload_n 1, 1) := by decide +kernel
theorem dX8_goBack_36 : decode cX8_goBack 36 = .ok (.aaload, 1) := by decide +kernel
theorem dX8_goBack_37 : decode cX8_goBack 37 = .ok (.getfield 274, 3) := by decide +kernel
theorem dX8_goBack_40 : decode cX8_goBack 40 = .ok (.invokevirtual 277, 3) := by decide +kernel
theorem dX8_goBack_43 : decode cX8_goBack 43 = .ok (.aload_n 0, 1) := by decide +kernel
theorem dX8_goBack_44 : decode cX8_goBack 44 = .ok (.getfield 67, 3) := by decide +kernel
theorem dX8_goBack_47 : decode cX8_goBack 47 = .ok (.aload_n 0, 1) := by decide +kernel
theorem dX8_goBack_48 : decode cX8_goBack 48 = .ok (.getfield 73, 3) := by decide +kernel
theorem dX8_goBack_51 : decode cX8_goBack 51 = .ok (.iload_n 1, 1) := by decide +kernel
theorem dX8_goBack_52 : decode cX8_goBack 52 = .ok (.aaload, 1) := by decide +kernel
theorem dX8_goBack_53 : decode cX8_goBack 53 = .ok (.getfield 280, 3) := by decide +kernel
theorem dX8_goBack_56 : decode cX8_goBack 56 = .ok (.putfield 268, 3) := by decide +kernel
theorem dX8_goBack_59 : decode cX8_goBack 59 = .ok (.aload_n 0, 1) := by decide +kernel
theorem dX8_goBack_60 : decode cX8_goBack 60 = .ok (.getfield 46, 3) := by decide +kernel
theorem dX8_goBack_63 : decode cX8_goBack 63 = .ok (.invokevirtual 283, 3) := by decide +kernel
theorem dX8_goBack_66 : decode cX8_goBack 66 = .ok (.iconst 1, 1) := by decide +kernel
theorem dX8_goBack_67 : decode cX8_goBack 67 = .ok (.ireturn, 1) := by decide +kernel
theorem dX8_within_0 : decode cX8_within 0 = .ok (.iload_n 0, 1) := by decide +kernel
theorem dX8_within_1 : decode cX8_within 1 = .ok (.iload_n 1, 1) := by decide +kernel
theorem dX8_within_2 : decode cX8_within 2 = .ok (.if_icmp .lt 12, 3) := by decide +kernel
theorem dX8_within_5 : decode cX8_within 5 = .ok (.iload_n 0, 1) := by decide +kernel
theorem dX8_within_6 : decode cX8_within 6 = .ok (.iload_n 2, 1) := by decide +kernel
theorem dX8_within_7 : decode cX8_within 7 = .ok (.if_icmp .gt 7, 3) := by decide +kernel
theorem dX8_within_10 : decode cX8_within 10 = .ok (.iconst 1, 1) := by decide +kernel
theorem dX8_within_11 : decode cX8_within 11 = .ok (.goto 4, 3) := by decide +kernel
theorem dX8_within_14 : decode cX8_within 14 = .ok (.iconst 0, 1) := by decide +kernel
theorem dX8_within_15 : decode cX8_within 15 = .ok (.ireturn, 1) := by decide +kernel
theorem dX8_has_0 : decode cX8_has 0 = .ok (.iload_n 0, 1) := by decide +kernel
theorem dX8_has_1 : decode cX8_has 1 = .ok (.iload_n 1, 1) := by decide +kernel
theorem dX8_has_2 : decode cX8_has 2 = .ok (.ishr, 1) := by decide +kernel
theorem dX8_has_3 : decode cX8_has 3 = .ok (.iconst 1, 1) := by decide +kernel
theorem dX8_has_4 : decode cX8_has 4 = .ok (.iand, 1) := by decide +kernel
theorem dX8_has_5 : decode cX8_has 5 = .ok (.iconst 1, 1) := by decide +kernel
theorem dX8_has_6 : decode cX8_has 6 = .ok (.if_icmp .ne 7, 3) := by decide +kernel
theorem dX8_has_9 : decode cX8_has 9 = .ok (.iconst 1, 1) := by decide +kernel
theorem dX8_has_10 : decode cX8_has 10 = .ok (.goto 4, 3) := by decide +kernel
theorem dX8_has_13 : decode cX8_has 13 = .ok (.iconst 0, 1) := by decide +kernel
theorem dX8_has_14 : decode cX8_has 14 = .ok (.ireturn, 1) := by decide +kernel
theorem dX8_beginAnew_0 : decode cX8_beginAnew 0 = .ok (.aload_n 0, 1) := by decide +kernel
theorem dX8_beginAnew_1 : decode cX8_beginAnew 1 = .ok (.getfield 39, 3) := by decide +kernel
theorem dX8_beginAnew_4 : decode cX8_beginAnew 4 = .ok (.aload_n 0, 1) := by decide +kernel
theorem dX8_beginAnew_5 : decode cX8_beginAnew 5 = .ok (.getfield 32, 3) := by decide +kernel
theorem dX8_beginAnew_8 : decode cX8_beginAnew 8 = .ok (.invokevirtual 286, 3) := by decide +kernel
theorem dX8_beginAnew_11 : decode cX8_beginAnew 11 = .ok (.aload_n 0, 1) := by decide +kernel
theorem dX8_beginAnew_12 : decode cX8_beginAnew 12 = .ok (.getfield 46, 3) := by decide +kernel
theorem dX8_beginAnew_15 : decode cX8_beginAnew 15 = .ok (.invokevirtual 283, 3) := by decide +kernel
theorem dX8_beginAnew_18 : decode cX8_beginAnew 18 = .ok (.aload_n 0, 1) := by decide +kernel
theorem dX8_beginAnew_19 : decode cX8_beginAnew 19 = .ok (.getfield 53, 3) := by decide +kernel
theorem dX8_beginAnew_22 : decode cX8_beginAnew 22 = .ok (.iconst 0, 1) := by decide +kernel
theorem dX8_beginAnew_23 : decode cX8_beginAnew 23 = .ok (.putfield 142, 3) := by decide +kernel
theorem dX8_beginAnew_26 : decode cX8_beginAnew 26 = .ok (.aload_n 0, 1) := by decide +kernel
theorem dX8_beginAnew_27 : decode cX8_beginAnew 27 = .ok (.getfield 60, 3) := by decide +kernel
theorem dX8_beginAnew_30 : decode cX8_beginAnew 30 = .ok (.iconst 0, 1) := by decide +kernel
theorem dX8_beginAnew_31 : decode cX8_beginAnew 31 = .ok (.putfield 145, 3) := by decide +kernel
theorem dX8_beginAnew_34 : decode cX8_beginAnew 34 = .ok (.iconst 0, 1) := by decide +kernel
theorem dX8_beginAnew_35 : decode cX8_beginAnew 35 = .ok (.istore_n 1, 1) := by decide +kernel
theorem dX8_beginAnew_36 : decode cX8_beginAnew 36 = .ok (.iload_n 1, 1) := by decide +kernel
theorem dX8_beginAnew_37 : decode cX8_beginAnew 37 = .ok (.iconst 2, 1) := by decide +kernel
theorem dX8_beginAnew_38 : decode cX8_beginAnew 38 = .ok (.if_icmp .ge 19, 3) := by decide +kernel
theorem dX8_beginAnew_41 : decode cX8_beginAnew 41 = .ok (.aload_n 0, 1) := by decide +kernel
theorem dX8_beginAnew_42 : decode cX8_beginAnew 42 = .ok (.getfield 73, 3) := by decide +kernel
theorem dX8_beginAnew_45 : decode cX8_beginAnew 45 = .ok (.iload_n 1, 1) := by decide +kernel
theorem dX8_beginAnew_46 : decode cX8_beginAnew 46 = .ok (.aaload, 1) := by decide +kernel
theorem dX8_beginAnew_47 : decode cX8_beginAnew 47 = .ok (.iconst 0, 1) := by decide +kernel
theorem dX8_beginAnew_48 : decode cX8_beginAnew 48 = .ok (.putfield 271, 3) := by decide +kernel
theorem dX8_beginAnew_51 : decode cX8_beginAnew 51 = .ok (.iinc 1 1, 3) := by decide +kernel
theorem dX8_beginAnew_54 : decode cX8_beginAnew 54 = .ok (.goto (-18), 3) := by decide +kernel
theorem dX8_beginAnew_57 : decode cX8_beginAnew 57 = .ok (.return_, 1) := by decide +kernel
theorem dX8_waysLeft_0 : decode cX8_waysLeft 0 = .ok (.aload_n 0, 1) := by decide +kernel
theorem dX8_waysLeft_1 : decode cX8_waysLeft 1 = .ok (.getfield 32, 3) := by decide +kernel
theorem dX8_waysLeft_4 : decode cX8_waysLeft 4 = .ok (.aload_n 0, 1) := by decide +kernel
theorem dX8_waysLeft_5 : decode cX8_waysLeft 5 = .ok (.getfield 39, 3) := by decide +kernel
theorem dX8_waysLeft_8 : decode cX8_waysLeft 8 = .ok (.getfield 126, 3) := by decide +kernel
theorem dX8_waysLeft_11 : decode cX8_waysLeft 11 = .ok (.invokevirtual 289, 3) := by decide +kernel
theorem dX8_waysLeft_14 : decode cX8_waysLeft 14 = .ok (.ireturn, 1) := by decide +kernel
theorem dX8_spent_0 : decode cX8_spent 0 = .ok (.aload_n 0, 1) := by decide +kernel
theorem dX8_spent_1 : decode cX8_spent 1 = .ok (.getfield 32, 3) := by decide +kernel
theorem dX8_spent_4 : decode cX8_spent 4 = .ok (.aload_n 0, 1) := by decide +kernel
theorem dX8_spent_5 : decode cX8_spent 5 = .ok (.getfield 39, 3) := by decide +kernel
theorem dX8_spent_8 : decode cX8_spent 8 = .ok (.getfield 126, 3) := by decide +kernel
theorem dX8_spent_11 : decode cX8_spent 11 = .ok (.invokevirtual 292, 3) := by decide +kernel
theorem dX8_spent_14 : decode cX8_spent 14 = .ok (.istore_n 1, 1) := by decide +kernel
theorem dX8_spent_15 : decode cX8_spent 15 = .ok (.iconst 0, 1) := by decide +kernel
theorem dX8_spent_16 : decode cX8_spent 16 = .ok (.istore_n 2, 1) := by decide +kernel
theorem dX8_spent_17 : decode cX8_spent 17 = .ok (.iload_n 2, 1) := by decide +kernel
theorem dX8_spent_18 : decode cX8_spent 18 = .ok (.aload_n 0, 1) := by decide +kernel
theorem dX8_spent_19 : decode cX8_spent 19 = .ok (.getfield 32, 3) := by decide +kernel
theorem dX8_spent_22 : decode cX8_spent 22 = .ok (.getfield 104, 3) := by decide +kernel
theorem dX8_spent_25 : decode cX8_spent 25 = .ok (.if_icmp .ge 21, 3) := by decide +kernel
theorem dX8_spent_28 : decode cX8_spent 28 = .ok (.iload_n 1, 1) := by decide +kernel
theorem dX8_spent_29 : decode cX8_spent 29 = .ok (.aload_n 0, 1) := by decide +kernel
theorem dX8_spent_30 : decode cX8_spent 30 = .ok (.getfield 39, 3) := by decide +kernel
theorem dX8_spent_33 : decode cX8_spent 33 = .ok (.getfield 180, 3) := by decide +kernel
theorem dX8_spent_36 : decode cX8_spent 36 = .ok (.iload_n 2, 1) := by decide +kernel
theorem dX8_spent_37 : decode cX8_spent 37 = .ok (.iaload, 1) := by decide +kernel
theorem dX8_spent_38 : decode cX8_spent 38 = .ok (.iadd, 1) := by decide +kernel
theorem dX8_spent_39 : decode cX8_spent 39 = .ok (.istore_n 1, 1) := by decide +kernel
theorem dX8_spent_40 : decode cX8_spent 40 = .ok (.iinc 2 1, 3) := by decide +kernel
theorem dX8_spent_43 : decode cX8_spent 43 = .ok (.goto (-26), 3) := by decide +kernel
theorem dX8_spent_46 : decode cX8_spent 46 = .ok (.iload_n 1, 1) := by decide +kernel
theorem dX8_spent_47 : decode cX8_spent 47 = .ok (.ldc_w 295, 3) := by decide +kernel
theorem dX8_spent_50 : decode cX8_spent 50 = .ok (.invokestatic 296, 3) := by decide +kernel
theorem dX8_spent_53 : decode cX8_spent 53 = .ok (.ireturn, 1) := by decide +kernel
theorem dX8_refusalOfDays_0 : decode cX8_refusalOfDays 0 = .ok (.iload_n 1, 1) := by decide +kernel
theorem dX8_refusalOfDays_1 : decode cX8_refusalOfDays 1 = .ok (.iconst 1, 1) := by decide +kernel
theorem dX8_refusalOfDays_2 : decode cX8_refusalOfDays 2 = .ok (.bipush 60, 2) := by decide +kernel
theorem dX8_refusalOfDays_4 : decode cX8_refusalOfDays 4 = .ok (.invokestatic 78, 3) := by decide +kernel
theorem dX8_refusalOfDays_7 : decode cX8_refusalOfDays 7 = .ok (.ifCond .ne 6, 3) := by decide +kernel
theorem dX8_refusalOfDays_10 : decode cX8_refusalOfDays 10 = .ok (.ldc 82, 2) := by decide +kernel
theorem dX8_refusalOfDays_12 : decode cX8_refusalOfDays 12 = .ok (.ireturn, 1) := by decide +kernel
theorem dX8_refusalOfDays_13 : decode cX8_refusalOfDays 13 = .ok (.aload_n 0, 1) := by decide +kernel
theorem dX8_refusalOfDays_14 : decode cX8_refusalOfDays 14 = .ok (.getfield 32, 3) := by decide +kernel
theorem dX8_refusalOfDays_17 : decode cX8_refusalOfDays 17 = .ok (.invokevirtual 202, 3) := by decide +kernel
theorem dX8_refusalOfDays_20 : decode cX8_refusalOfDays 20 = .ok (.ifCond .ne 6, 3) := by decide +kernel
theorem dX8_refusalOfDays_23 : decode cX8_refusalOfDays 23 = .ok (.ldc 201, 2) := by decide +kernel
theorem dX8_refusalOfDays_25 : decode cX8_refusalOfDays 25 = .ok (.ireturn, 1) := by decide +kernel
theorem dX8_refusalOfDays_26 : decode cX8_refusalOfDays 26 = .ok (.aload_n 0, 1) := by decide +kernel
theorem dX8_refusalOfDays_27 : decode cX8_refusalOfDays 27 = .ok (.getfield 39, 3) := by decide +kernel
theorem dX8_refusalOfDays_30 : decode cX8_refusalOfDays 30 = .ok (.getfield 113, 3) := by decide +kernel
theorem dX8_refusalOfDays_33 : decode cX8_refusalOfDays 33 = .ok (.sipush 9000, 3) := by decide +kernel
theorem dX8_refusalOfDays_36 : decode cX8_refusalOfDays 36 = .ok (.if_icmp .le 8, 3) := by decide +kernel
theorem dX8_refusalOfDays_39 : decode cX8_refusalOfDays 39 = .ok (.ldc 83, 2) := by decide +kernel
theorem dX8_refusalOfDays_41 : decode cX8_refusalOfDays 41 = .ok (.goto 4, 3) := by decide +kernel
theorem dX8_refusalOfDays_44 : decode cX8_refusalOfDays 44 = .ok (.iconst 0, 1) := by decide +kernel
theorem dX8_refusalOfDays_45 : decode cX8_refusalOfDays 45 = .ok (.ireturn, 1) := by decide +kernel
theorem dX8_doByDraw_0 : decode cX8_doByDraw 0 = .ok (.aload_n 0, 1) := by decide +kernel
theorem dX8_doByDraw_1 : decode cX8_doByDraw 1 = .ok (.getfield 67, 3) := by decide +kernel
theorem dX8_doByDraw_4 : decode cX8_doByDraw 4 = .ok (.bipush 8, 2) := by decide +kernel
theorem dX8_doByDraw_6 : decode cX8_doByDraw 6 = .ok (.invokevirtual 301, 3) := by decide +kernel
theorem dX8_doByDraw_9 : decode cX8_doByDraw 9 = .ok (.istore_n 1, 1) := by decide +kernel
theorem dX8_doByDraw_10 : decode cX8_doByDraw 10 = .ok (.iload_n 1, 1) := by decide +kernel
theorem dX8_doByDraw_11 : decode cX8_doByDraw 11 = .ok (.ifCond .ne 61, 3) := by decide +kernel
theorem dX8_doByDraw_14 : decode cX8_doByDraw 14 = .ok (.aload_n 0, 1) := by decide +kernel
theorem dX8_doByDraw_15 : decode cX8_doByDraw 15 = .ok (.getfield 32, 3) := by decide +kernel
theorem dX8_doByDraw_18 : decode cX8_doByDraw 18 = .ok (.getfield 101, 3) := by decide +kernel
theorem dX8_doByDraw_21 : decode cX8_doByDraw 21 = .ok (.ifCond .le 51, 3) := by decide +kernel
theorem dX8_doByDraw_24 : decode cX8_doByDraw 24 = .ok (.aload_n 0, 1) := by decide +kernel
theorem dX8_doByDraw_25 : decode cX8_doByDraw 25 = .ok (.getfield 67, 3) := by decide +kernel
theorem dX8_doByDraw_28 : decode cX8_doByDraw 28 = .ok (.aload_n 0, 1) := by decide +kernel
theorem dX8_doByDraw_29 : decode cX8_doByDraw 29 = .ok (.getfield 32, 3) := by decide +kernel
theorem dX8_doByDraw_32 : decode cX8_doByDraw 32 = .ok (.getfield 101, 3) := by decide +kernel
theorem dX8_doByDraw_35 : decode cX8_doByDraw 35 = .ok (.invokevirtual 301, 3) := by decide +kernel
theorem dX8_doByDraw_38 : decode cX8_doByDraw 38 = .ok (.istore_n 2, 1) := by decide +kernel
theorem dX8_doByDraw_39 : decode cX8_doByDraw 39 = .ok (.aload_n 0, 1) := by decide +kernel
theorem dX8_doByDraw_40 : decode cX8_doByDraw 40 = .ok (.getfield 39, 3) := by decide +kernel
theorem dX8_doByDraw_43 : decode cX8_doByDraw 43 = .ok (.aload_n 0, 1) := by decide +kernel
theorem dX8_doByDraw_44 : decode cX8_doByDraw 44 = .ok (.getfield 32, 3) := by decide +kernel
theorem dX8_doByDraw_47 : decode cX8_doByDraw 47 = .ok (.iload_n 2, 1) := by decide +kernel
theorem dX8_doByDraw_48 : decode cX8_doByDraw 48 = .ok (.invokevirtual 197, 3) := by decide +kernel
theorem dX8_doByDraw_51 : decode cX8_doByDraw 51 = .ok (.ifCond .eq 18, 3) := by decide +kernel
theorem dX8_doByDraw_54 : decode cX8_doByDraw 54 = .ok (.aload_n 0, 1) := by decide +kernel
theorem dX8_doByDraw_55 : decode cX8_doByDraw 55 = .ok (.getfield 39, 3) := by decide +kernel
theorem dX8_doByDraw_58 : decode cX8_doByDraw 58 = .ok (.dup, 1) := by decide +kernel
theorem dX8_doByDraw_59 : decode cX8_doByDraw 59 = .ok (.getfield 126, 3) := by decide +kernel
theorem dX8_doByDraw_62 : decode cX8_doByDraw 62 = .ok (.iconst 1, 1) := by decide +kernel
theorem dX8_doByDraw_63 : decode cX8_doByDraw 63 = .ok (.iload_n 2, 1) := by decide +kernel
theorem dX8_doByDraw_64 : decode cX8_doByDraw 64 = .ok (.ishl, 1) := by decide +kernel
theorem dX8_doByDraw_65 : decode cX8_doByDraw 65 = .ok (.ior, 1) := by decide +kernel
theorem dX8_doByDraw_66 : decode cX8_doByDraw 66 = .ok (.putfield 126, 3) := by decide +kernel
theorem dX8_doByDraw_69 : decode cX8_doByDraw 69 = .ok (.goto 90, 3) := by decide +kernel
theorem dX8_doByDraw_72 : decode cX8_doByDraw 72 = .ok (.iload_n 1, 1) := by decide +kernel
theorem dX8_doByDraw_73 : decode cX8_doByDraw 73 = .ok (.iconst 1, 1) := by decide +kernel
theorem dX8_doByDraw_74 : decode cX8_doByDraw 74 = .ok (.if_icmp .ne 58, 3) := by decide +kernel
theorem dX8_doByDraw_77 : decode cX8_doByDraw 77 = .ok (.aload_n 0, 1) := by decide +kernel
theorem dX8_doByDraw_78 : decode cX8_doByDraw 78 = .ok (.getfield 32, 3) := by decide +kernel
theorem dX8_doByDraw_81 : decode cX8_doByDraw 81 = .ok (.getfield 104, 3) := by decide +kernel
theorem dX8_doByDraw_84 : decode cX8_doByDraw 84 = .ok (.ifCond .le 48, 3) := by decide +kernel
theorem dX8_doByDraw_87 : decode cX8_doByDraw 87 = .ok (.aload_n 0, 1) := by decide +kernel
theorem dX8_doByDraw_88 : decode cX8_doByDraw 88 = .ok (.getfield 67, 3) := by decide +kernel
theorem dX8_doByDraw_91 : decode cX8_doByDraw 91 = .ok (.aload_n 0, 1) := by decide +kernel
theorem dX8_doByDraw_92 : decode cX8_doByDraw 92 = .ok (.getfield 32, 3) := by decide +kernel
theorem dX8_doByDraw_95 : decode cX8_doByDraw 95 = .ok (.getfield 104, 3) := by decide +kernel
theorem dX8_doByDraw_98 : decode cX8_doByDraw 98 = .ok (.invokevirtual 301, 3) := by decide +kernel
theorem dX8_doByDraw_101 : decode cX8_doByDraw 101 = .ok (.istore_n 2, 1) := by decide +kernel
theorem dX8_doByDraw_102 : decode cX8_doByDraw 102 = .ok (.aload_n 0, 1) := by decide +kernel
theorem dX8_doByDraw_103 : decode cX8_doByDraw 103 = .ok (.getfield 39, 3) := by decide +kernel
theorem dX8_doByDraw_106 : decode cX8_doByDraw 106 = .ok (.iload_n 2, 1) := by decide +kernel
theorem dX8_doByDraw_107 : decode cX8_doByDraw 107 = .ok (.aload_n 0, 1) := by decide +kernel
theorem dX8_doByDraw_108 : decode cX8_doByDraw 108 = .ok (.getfield 39, 3) := by decide +kernel
theorem dX8_doByDraw_111 : decode cX8_doByDraw 111 = .ok (.getfield 136, 3) := by decide +kernel
theorem dX8_doByDraw_114 : decode cX8_doByDraw 114 = .ok (.iload_n 2, 1) := by decide +kernel
theorem dX8_doByDraw_115 : decode cX8_doByDraw 115 = .ok (.invokestatic 167, 3) := by decide +kernel
theorem dX8_doByDraw_118 : decode cX8_doByDraw 118 = .ok (.ifCond .ne 7, 3) := by decide +kernel
theorem dX8_doByDraw_121 : decode cX8_doByDraw 121 = .ok (.iconst 1, 1) := by decide +kernel
theorem dX8_doByDraw_122 : decode cX8_doByDraw 122 = .ok (.goto 4, 3) := by decide +kernel
theorem dX8_doByDraw_125 : decode cX8_doByDraw 125 = .ok (.iconst 0, 1) := by decide +kernel
theorem dX8_doByDraw_126 : decode cX8_doByDraw 126 = .ok (.invokevirtual 206, 3) := by decide +kernel
theorem dX8_doByDraw_129 : decode cX8_doByDraw 129 = .ok (.goto 30, 3) := by decide +kernel
theorem dX8_doByDraw_132 : decode cX8_doByDraw 132 = .ok (.iload_n 1, 1) := by decide +kernel
theorem dX8_doByDraw_133 : decode cX8_doByDraw 133 = .ok (.iconst 2, 1) := by decide +kernel
theorem dX8_doByDraw_134 : decode cX8_doByDraw 134 = .ok (.if_icmp .ne 25, 3) := by decide +kernel
theorem dX8_doByDraw_137 : decode cX8_doByDraw 137 = .ok (.aload_n 0, 1) := by decide +kernel
theorem dX8_doByDraw_138 : decode cX8_doByDraw 138 = .ok (.getfield 39, 3) := by decide +kernel
theorem dX8_doByDraw_141 : decode cX8_doByDraw 141 = .ok (.aload_n 0, 1) := by decide +kernel
theorem dX8_doByDraw_142 : decode cX8_doByDraw 142 = .ok (.getfield 39, 3) := by decide +kernel
theorem dX8_doByDraw_145 : decode cX8_doByDraw 145 = .ok (.getfield 123, 3) := by decide +kernel
theorem dX8_doByDraw_148 : decode cX8_doByDraw 148 = .ok (.ifCond .ne 7, 3) := by decide +kernel
theorem dX8_doByDraw_151 : decode cX8_doByDraw 151 = .ok (.iconst 1, 1) := by decide +kernel
theorem dX8_doByDraw_152 : decode cX8_doByDraw 152 = .ok (.goto 4, 3) := by decide +kernel
theorem dX8_doByDraw_155 : decode cX8_doByDraw 155 = .ok (.iconst 0, 1) := by decide +kernel
theorem dX8_doByDraw_156 : decode cX8_doByDraw 156 = .ok (.putfield 123, 3) := by decide +kernel
theorem dX8_doByDraw_159 : decode cX8_doByDraw 159 = .ok (.return_, 1) := by decide +kernel
theorem dX8_liarsBy_0 : decode cX8_liarsBy 0 = .ok (.iconst 0, 1) := by decide +kernel
theorem dX8_liarsBy_1 : decode cX8_liarsBy 1 = .ok (.istore_n 2, 1) := by decide +kernel
theorem dX8_liarsBy_2 : decode cX8_liarsBy 2 = .ok (.iconst 0, 1) := by decide +kernel
theorem dX8_liarsBy_3 : decode cX8_liarsBy 3 = .ok (.istore_n 3, 1) := by decide +kernel
theorem dX8_liarsBy_4 : decode cX8_liarsBy 4 = .ok (.iload_n 3, 1) := by decide +kernel
theorem dX8_liarsBy_5 : decode cX8_liarsBy 5 = .ok (.aload_n 0, 1) := by decide +kernel
theorem dX8_liarsBy_6 : decode cX8_liarsBy 6 = .ok (.getfield 32, 3) := by decide +kernel
theorem dX8_liarsBy_9 : decode cX8_liarsBy 9 = .ok (.getfield 104, 3) := by decide +kernel
theorem dX8_liarsBy_12 : decode cX8_liarsBy 12 = .ok (.if_icmp .ge 31, 3) := by decide +kernel
theorem dX8_liarsBy_15 : decode cX8_liarsBy 15 = .ok (.aload_n 0, 1) := by decide +kernel
theorem dX8_liarsBy_16 : decode cX8_liarsBy 16 = .ok (.getfield 39, 3) := by decide +kernel
theorem dX8_liarsBy_19 : decode cX8_liarsBy 19 = .ok (.getfield 174, 3) := by decide +kernel
theorem dX8_liarsBy_22 : decode cX8_liarsBy 22 = .ok (.iload_n 3, 1) := by decide +kernel
theorem dX8_liarsBy_23 : decode cX8_liarsBy 23 = .ok (.iaload, 1) := by decide +kernel
theorem dX8_liarsBy_24 : decode cX8_liarsBy 24 = .ok (.iload_n 1, 1) := by decide +kernel
theorem dX8_liarsBy_25 : decode cX8_liarsBy 25 = .ok (.invokestatic 167, 3) := by decide +kernel
theorem dX8_liarsBy_28 : decode cX8_liarsBy 28 = .ok (.ifCond .ne 9, 3) := by decide +kernel
theorem dX8_liarsBy_31 : decode cX8_liarsBy 31 = .ok (.iload_n 2, 1) := by decide +kernel
theorem dX8_liarsBy_32 : decode cX8_liarsBy 32 = .ok (.iconst 1, 1) := by decide +kernel
theorem dX8_liarsBy_33 : decode cX8_liarsBy 33 = .ok (.iload_n 3, 1) := by decide +kernel
theorem dX8_liarsBy_34 : decode cX8_liarsBy 34 = .ok (.ishl, 1) := by decide +kernel
theorem dX8_liarsBy_35 : decode cX8_liarsBy 35 = .ok (.ior, 1) := by decide +kernel
theorem dX8_liarsBy_36 : decode cX8_liarsBy 36 = .ok (.istore_n 2, 1) := by decide +kernel
theorem dX8_liarsBy_37 : decode cX8_liarsBy 37 = .ok (.iinc 3 1, 3) := by decide +kernel
theorem dX8_liarsBy_40 : decode cX8_liarsBy 40 = .ok (.goto (-36), 3) := by decide +kernel
theorem dX8_liarsBy_43 : decode cX8_liarsBy 43 = .ok (.iload_n 2, 1) := by decide +kernel
theorem dX8_liarsBy_44 : decode cX8_liarsBy 44 = .ok (.ireturn, 1) := by decide +kernel
theorem dX8_wayOfFewestLiars_0 : decode cX8_wayOfFewestLiars 0 = .ok (.aload_n 0, 1) := by decide +kernel
theorem dX8_wayOfFewestLiars_1 : decode cX8_wayOfFewestLiars 1 = .ok (.invokevirtual 129, 3) := by decide +kernel
theorem dX8_wayOfFewestLiars_4 : decode cX8_wayOfFewestLiars 4 = .ok (.istore_n 1, 1) := by decide +kernel
theorem dX8_wayOfFewestLiars_5 : decode cX8_wayOfFewestLiars 5 = .ok (.iconst 0, 1) := by decide +kernel
theorem dX8_wayOfFewestLiars_6 : decode cX8_wayOfFewestLiars 6 = .ok (.istore_n 2, 1) := by decide +kernel
theorem dX8_wayOfFewestLiars_7 : decode cX8_wayOfFewestLiars 7 = .ok (.bipush 6, 2) := by decide +kernel
theorem dX8_wayOfFewestLiars_9 : decode cX8_wayOfFewestLiars 9 = .ok (.istore_n 3, 1) := by decide +kernel
theorem dX8_wayOfFewestLiars_10 : decode cX8_wayOfFewestLiars 10 = .ok (.iconst 0, 1) := by decide +kernel
theorem dX8_wayOfFewestLiars_11 : decode cX8_wayOfFewestLiars 11 = .ok (.istore 4, 2) := by decide +kernel
theorem dX8_wayOfFewestLiars_13 : decode cX8_wayOfFewestLiars 13 = .ok (.iload 4, 2) := by decide +kernel
theorem dX8_wayOfFewestLiars_15 : decode cX8_wayOfFewestLiars 15 = .ok (.aload_n 0, 1) := by decide +kernel
theorem dX8_wayOfFewestLiars_16 : decode cX8_wayOfFewestLiars 16 = .ok (.getfield 32, 3) := by decide +kernel
theorem dX8_wayOfFewestLiars_19 : decode cX8_wayOfFewestLiars 19 = .ok (.getfield 98, 3) := by decide +kernel
theorem dX8_wayOfFewestLiars_22 : decode cX8_wayOfFewestLiars 22 = .ok (.if_icmp .ge 41, 3) := by decide +kernel
theorem dX8_wayOfFewestLiars_25 : decode cX8_wayOfFewestLiars 25 = .ok (.aload_n 0, 1) := by decide +kernel
theorem dX8_wayOfFewestLiars_26 : decode cX8_wayOfFewestLiars 26 = .ok (.iload 4, 2) := by decide +kernel
theorem dX8_wayOfFewestLiars_28 : decode cX8_wayOfFewestLiars 28 = .ok (.invokevirtual 227, 3) := by decide +kernel
theorem dX8_wayOfFewestLiars_31 : decode cX8_wayOfFewestLiars 31 = .ok (.invokestatic 233, 3) := by decide +kernel
theorem dX8_wayOfFewestLiars_34 : decode cX8_wayOfFewestLiars 34 = .ok (.istore 5, 2) := by decide +kernel
theorem dX8_wayOfFewestLiars_36 : decode cX8_wayOfFewestLiars 36 = .ok (.iload_n 1, 1) := by decide +kernel
theorem dX8_wayOfFewestLiars_37 : decode cX8_wayOfFewestLiars 37 = .ok (.iload 4, 2) := by decide +kernel
theorem dX8_wayOfFewestLiars_39 : decode cX8_wayOfFewestLiars 39 = .ok (.invokestatic 167, 3) := by decide +kernel
theorem dX8_wayOfFewestLiars_42 : decode cX8_wayOfFewestLiars 42 = .ok (.ifCond .eq 15, 3) := by decide +kernel
theorem dX8_wayOfFewestLiars_45 : decode cX8_wayOfFewestLiars 45 = .ok (.iload 5, 2) := by decide +kernel
theorem dX8_wayOfFewestLiars_47 : decode cX8_wayOfFewestLiars 47 = .ok (.iload_n 3, 1) := by decide +kernel
theorem dX8_wayOfFewestLiars_48 : decode cX8_wayOfFewestLiars 48 = .ok (.if_icmp .ge 9, 3) := by decide +kernel
theorem dX8_wayOfFewestLiars_51 : decode cX8_wayOfFewestLiars 51 = .ok (.iload 4, 2) := by decide +kernel
theorem dX8_wayOfFewestLiars_53 : decode cX8_wayOfFewestLiars 53 = .ok (.istore_n 2, 1) := by decide +kernel
theorem dX8_wayOfFewestLiars_54 : decode cX8_wayOfFewestLiars 54 = .ok (.iload 5, 2) := by decide +kernel
theorem dX8_wayOfFewestLiars_56 : decode cX8_wayOfFewestLiars 56 = .ok (.istore_n 3, 1) := by decide +kernel
theorem dX8_wayOfFewestLiars_57 : decode cX8_wayOfFewestLiars 57 = .ok (.iinc 4 1, 3) := by decide +kernel
theorem dX8_wayOfFewestLiars_60 : decode cX8_wayOfFewestLiars 60 = .ok (.goto (-47), 3) := by decide +kernel
theorem dX8_wayOfFewestLiars_63 : decode cX8_wayOfFewestLiars 63 = .ok (.iload_n 2, 1) := by decide +kernel
theorem dX8_wayOfFewestLiars_64 : decode cX8_wayOfFewestLiars 64 = .ok (.ireturn, 1) := by decide +kernel
theorem dX8_cheapestTests_0 : decode cX8_cheapestTests 0 = .ok (.iconst (-1), 1) := by decide +kernel
theorem dX8_cheapestTests_1 : decode cX8_cheapestTests 1 = .ok (.istore_n 3, 1) := by decide +kernel
theorem dX8_cheapestTests_2 : decode cX8_cheapestTests 2 = .ok (.iconst 0, 1) := by decide +kernel
theorem dX8_cheapestTests_3 : decode cX8_cheapestTests 3 = .ok (.istore 4, 2) := by decide +kernel
theorem dX8_cheapestTests_5 : decode cX8_cheapestTests 5 = .ok (.iconst 0, 1) := by decide +kernel
theorem dX8_cheapestTests_6 : decode cX8_cheapestTests 6 = .ok (.istore 5, 2) := by decide +kernel
theorem dX8_cheapestTests_8 : decode cX8_cheapestTests 8 = .ok (.iload 5, 2) := by decide +kernel
theorem dX8_cheapestTests_10 : decode cX8_cheapestTests 10 = .ok (.iconst 1, 1) := by decide +kernel
theorem dX8_cheapestTests_11 : decode cX8_cheapestTests 11 = .ok (.aload_n 0, 1) := by decide +kernel
theorem dX8_cheapestTests_12 : decode cX8_cheapestTests 12 = .ok (.getfield 32, 3) := by decide +kernel
theorem dX8_cheapestTests_15 : decode cX8_cheapestTests 15 = .ok (.getfield 101, 3) := by decide +kernel
theorem dX8_cheapestTests_18 : decode cX8_cheapestTests 18 = .ok (.ishl, 1) := by decide +kernel
theorem dX8_cheapestTests_19 : decode cX8_cheapestTests 19 = .ok (.if_icmp .ge 90, 3) := by decide +kernel
theorem dX8_cheapestTests_22 : decode cX8_cheapestTests 22 = .ok (.iload_n 1, 1) := by decide +kernel
theorem dX8_cheapestTests_23 : decode cX8_cheapestTests 23 = .ok (.aload_n 0, 1) := by decide +kernel
theorem dX8_cheapestTests_24 : decode cX8_cheapestTests 24 = .ok (.getfield 32, 3) := by decide +kernel
theorem dX8_cheapestTests_27 : decode cX8_cheapestTests 27 = .ok (.iload 5, 2) := by decide +kernel
theorem dX8_cheapestTests_29 : decode cX8_cheapestTests 29 = .ok (.invokevirtual 289, 3) := by decide +kernel
theorem dX8_cheapestTests_32 : decode cX8_cheapestTests 32 = .ok (.iand, 1) := by decide +kernel
theorem dX8_cheapestTests_33 : decode cX8_cheapestTests 33 = .ok (.ifCond .ne 7, 3) := by decide +kernel
theorem dX8_cheapestTests_36 : decode cX8_cheapestTests 36 = .ok (.iconst 1, 1) := by decide +kernel
theorem dX8_cheapestTests_37 : decode cX8_cheapestTests 37 = .ok (.goto 4, 3) := by decide +kernel
theorem dX8_cheapestTests_40 : decode cX8_cheapestTests 40 = .ok (.iconst 0, 1) := by decide +kernel
theorem dX8_cheapestTests_41 : decode cX8_cheapestTests 41 = .ok (.istore 6, 2) := by decide +kernel
theorem dX8_cheapestTests_43 : decode cX8_cheapestTests 43 = .ok (.aload_n 0, 1) := by decide +kernel
theorem dX8_cheapestTests_44 : decode cX8_cheapestTests 44 = .ok (.getfield 32, 3) := by decide +kernel
theorem dX8_cheapestTests_47 : decode cX8_cheapestTests 47 = .ok (.iload 5, 2) := by decide +kernel
theorem dX8_cheapestTests_49 : decode cX8_cheapestTests 49 = .ok (.invokevirtual 133, 3) := by decide +kernel
theorem dX8_cheapestTests_52 : decode cX8_cheapestTests 52 = .ok (.iload_n 2, 1) := by decide +kernel
theorem dX8_cheapestTests_53 : decode cX8_cheapestTests 53 = .ok (.iconst (-1), 1) := by decide +kernel
theorem dX8_cheapestTests_54 : decode cX8_cheapestTests 54 = .ok (.ixor, 1) := by decide +kernel
theorem dX8_cheapestTests_55 : decode cX8_cheapestTests 55 = .ok (.iand, 1) := by decide +kernel
theorem dX8_cheapestTests_56 : decode cX8_cheapestTests 56 = .ok (.ifCond .ne 7, 3) := by decide +kernel
theorem dX8_cheapestTests_59 : decode cX8_cheapestTests 59 = .ok (.iconst 1, 1) := by decide +kernel
theorem dX8_cheapestTests_60 : decode cX8_cheapestTests 60 = .ok (.goto 4, 3) := by decide +kernel
theorem dX8_cheapestTests_63 : decode cX8_cheapestTests 63 = .ok (.iconst 0, 1) := by decide +kernel
theorem dX8_cheapestTests_64 : decode cX8_cheapestTests 64 = .ok (.istore 7, 2) := by decide +kernel
theorem dX8_cheapestTests_66 : decode cX8_cheapestTests 66 = .ok (.aload_n 0, 1) := by decide +kernel
theorem dX8_cheapestTests_67 : decode cX8_cheapestTests 67 = .ok (.iload 5, 2) := by decide +kernel
theorem dX8_cheapestTests_69 : decode cX8_cheapestTests 69 = .ok (.invokevirtual 241, 3) := by decide +kernel
theorem dX8_cheapestTests_72 : decode cX8_cheapestTests 72 = .ok (.istore 8, 2) := by decide +kernel
theorem dX8_cheapestTests_74 : decode cX8_cheapestTests 74 = .ok (.iload 6, 2) := by decide +kernel
theorem dX8_cheapestTests_76 : decode cX8_cheapestTests 76 = .ok (.ifCond .eq 27, 3) := by decide +kernel
theorem dX8_cheapestTests_79 : decode cX8_cheapestTests 79 = .ok (.iload 7, 2) := by decide +kernel
theorem dX8_cheapestTests_81 : decode cX8_cheapestTests 81 = .ok (.ifCond .eq 22, 3) := by decide +kernel
theorem dX8_cheapestTests_84 : decode cX8_cheapestTests 84 = .ok (.iload_n 3, 1) := by decide +kernel
theorem dX8_cheapestTests_85 : decode cX8_cheapestTests 85 = .ok (.iconst (-1), 1) := by decide +kernel
theorem dX8_cheapestTests_86 : decode cX8_cheapestTests 86 = .ok (.if_icmp .eq 10, 3) := by decide +kernel
theorem dX8_cheapestTests_89 : decode cX8_cheapestTests 89 = .ok (.iload 8, 2) := by decide +kernel
theorem dX8_cheapestTests_91 : decode cX8_cheapestTests 91 = .ok (.iload 4, 2) := by decide +kernel
theorem dX8_cheapestTests_93 : decode cX8_cheapestTests 93 = .ok (.if_icmp .ge 10, 3) := by decide +kernel
theorem dX8_cheapestTests_96 : decode cX8_cheapestTests 96 = .ok (.iload 5, 2) := by decide +kernel
theorem dX8_cheapestTests_98 : decode cX8_cheapestTests 98 = .ok (.istore_n 3, 1) := by decide +kernel
theorem dX8_cheapestTests_99 : decode cX8_cheapestTests 99 = .ok (.iload 8, 2) := by decide +kernel
theorem dX8_cheapestTests_101 : decode cX8_cheapestTests 101 = .ok (.istore 4, 2) := by decide +kernel
theorem dX8_cheapestTests_103 : decode cX8_cheapestTests 103 = .ok (.iinc 5 1, 3) := by decide +kernel
theorem dX8_cheapestTests_106 : decode cX8_cheapestTests 106 = .ok (.goto (-98), 3) := by decide +kernel
theorem dX8_cheapestTests_109 : decode cX8_cheapestTests 109 = .ok (.iload_n 3, 1) := by decide +kernel
theorem dX8_cheapestTests_110 : decode cX8_cheapestTests 110 = .ok (.ireturn, 1) := by decide +kernel
theorem dX8_costYet_0 : decode cX8_costYet 0 = .ok (.aload_n 0, 1) := by decide +kernel
theorem dX8_costYet_1 : decode cX8_costYet 1 = .ok (.getfield 32, 3) := by decide +kernel
theorem dX8_costYet_4 : decode cX8_costYet 4 = .ok (.iload_n 1, 1) := by decide +kernel
theorem dX8_costYet_5 : decode cX8_costYet 5 = .ok (.aload_n 0, 1) := by decide +kernel
theorem dX8_costYet_6 : decode cX8_costYet 6 = .ok (.getfield 39, 3) := by decide +kernel
theorem dX8_costYet_9 : decode cX8_costYet 9 = .ok (.getfield 126, 3) := by decide +kernel
theorem dX8_costYet_12 : decode cX8_costYet 12 = .ok (.iconst (-1), 1) := by decide +kernel
theorem dX8_costYet_13 : decode cX8_costYet 13 = .ok (.ixor, 1) := by decide +kernel
theorem dX8_costYet_14 : decode cX8_costYet 14 = .ok (.iand, 1) := by decide +kernel
theorem dX8_costYet_15 : decode cX8_costYet 15 = .ok (.invokevirtual 292, 3) := by decide +kernel
theorem dX8_costYet_18 : decode cX8_costYet 18 = .ok (.ireturn, 1) := by decide +kernel
theorem dX8_offerFor_0 : decode cX8_offerFor 0 = .ok (.iload_n 1, 1) := by decide +kernel
theorem dX8_offerFor_1 : decode cX8_offerFor 1 = .ok (.i2l, 1) := by decide +kernel
theorem dX8_offerFor_2 : decode cX8_offerFor 2 = .ok (.aload_n 0, 1) := by decide +kernel
theorem dX8_offerFor_3 : decode cX8_offerFor 3 = .ok (.getfield 32, 3) := by decide +kernel
theorem dX8_offerFor_6 : decode cX8_offerFor 6 = .ok (.iconst 0, 1) := by decide +kernel
theorem dX8_offerFor_7 : decode cX8_offerFor 7 = .ok (.iload_n 3, 1) := by decide +kernel
theorem dX8_offerFor_8 : decode cX8_offerFor 8 = .ok (.invokevirtual 223, 3) := by decide +kernel
theorem dX8_offerFor_11 : decode cX8_offerFor 11 = .ok (.i2l, 1) := by decide +kernel
theorem dX8_offerFor_12 : decode cX8_offerFor 12 = .ok (.lmul, 1) := by decide +kernel
theorem dX8_offerFor_13 : decode cX8_offerFor 13 = .ok (.ldc2_w 304, 3) := by decide +kernel
theorem dX8_offerFor_16 : decode cX8_offerFor 16 = .ok (.ldiv, 1) := by decide +kernel
theorem dX8_offerFor_17 : decode cX8_offerFor 17 = .ok (.lstore 4, 2) := by decide +kernel
theorem dX8_offerFor_19 : decode cX8_offerFor 19 = .ok (.lload 4, 2) := by decide +kernel
theorem dX8_offerFor_21 : decode cX8_offerFor 21 = .ok (.l2i, 1) := by decide +kernel
theorem dX8_offerFor_22 : decode cX8_offerFor 22 = .ok (.iload_n 2, 1) := by decide +kernel
theorem dX8_offerFor_23 : decode cX8_offerFor 23 = .ok (.isub, 1) := by decide +kernel
theorem dX8_offerFor_24 : decode cX8_offerFor 24 = .ok (.iconst 0, 1) := by decide +kernel
theorem dX8_offerFor_25 : decode cX8_offerFor 25 = .ok (.invokestatic 306, 3) := by decide +kernel
theorem dX8_offerFor_28 : decode cX8_offerFor 28 = .ok (.ireturn, 1) := by decide +kernel
theorem dJ6_bitCount_0f7a4_0 : decode cJ6_bitCount_0f7a4 0 = .ok (.iload_n 0, 1) := by decide +kernel
theorem dJ6_bitCount_0f7a4_1 : decode cJ6_bitCount_0f7a4 1 = .ok (.iload_n 0, 1) := by decide +kernel
theorem dJ6_bitCount_0f7a4_2 : decode cJ6_bitCount_0f7a4 2 = .ok (.iconst 1, 1) := by decide +kernel
theorem dJ6_bitCount_0f7a4_3 : decode cJ6_bitCount_0f7a4 3 = .ok (.iushr, 1) := by decide +kernel
theorem dJ6_bitCount_0f7a4_4 : decode cJ6_bitCount_0f7a4 4 = .ok (.ldc_w 265, 3) := by decide +kernel
theorem dJ6_bitCount_0f7a4_7 : decode cJ6_bitCount_0f7a4 7 = .ok (.iand, 1) := by decide +kernel
theorem dJ6_bitCount_0f7a4_8 : decode cJ6_bitCount_0f7a4 8 = .ok (.isub, 1) := by decide +kernel
theorem dJ6_bitCount_0f7a4_9 : decode cJ6_bitCount_0f7a4 9 = .ok (.istore_n 0, 1) := by decide +kernel
theorem dJ6_bitCount_0f7a4_10 : decode cJ6_bitCount_0f7a4 10 = .ok (.iload_n 0, 1) := by decide +kernel
theorem dJ6_bitCount_0f7a4_11 : decode cJ6_bitCount_0f7a4 11 = .ok (.ldc_w 266, 3) := by decide +kernel
theorem dJ6_bitCount_0f7a4_14 : decode cJ6_bitCount_0f7a4 14 = .ok (.iand, 1) := by decide +kernel
theorem dJ6_bitCount_0f7a4_15 : decode cJ6_bitCount_0f7a4 15 = .ok (.iload_n 0, 1) := by decide +kernel
theorem dJ6_bitCount_0f7a4_16 : decode cJ6_bitCount_0f7a4 16 = .ok (.iconst 2, 1) := by decide +kernel
theorem dJ6_bitCount_0f7a4_17 : decode cJ6_bitCount_0f7a4 17 = .ok (.iushr, 1) := by decide +kernel
theorem dJ6_bitCount_0f7a4_18 : decode cJ6_bitCount_0f7a4 18 = .ok (.ldc_w 266, 3) := by decide +kernel
theorem dJ6_bitCount_0f7a4_21 : decode cJ6_bitCount_0f7a4 21 = .ok (.iand, 1) := by decide +kernel
theorem dJ6_bitCount_0f7a4_22 : decode cJ6_bitCount_0f7a4 22 = .ok (.iadd, 1) := by decide +kernel
theorem dJ6_bitCount_0f7a4_23 : decode cJ6_bitCount_0f7a4 23 = .ok (.istore_n 0, 1) := by decide +kernel
theorem dJ6_bitCount_0f7a4_24 : decode cJ6_bitCount_0f7a4 24 = .ok (.iload_n 0, 1) := by decide +kernel
theorem dJ6_bitCount_0f7a4_25 : decode cJ6_bitCount_0f7a4 25 = .ok (.iload_n 0, 1) := by decide +kernel
theorem dJ6_bitCount_0f7a4_26 : decode cJ6_bitCount_0f7a4 26 = .ok (.iconst 4, 1) := by decide +kernel
theorem dJ6_bitCount_0f7a4_27 : decode cJ6_bitCount_0f7a4 27 = .ok (.iushr, 1) := by decide +kernel
theorem dJ6_bitCount_0f7a4_28 : decode cJ6_bitCount_0f7a4 28 = .ok (.iadd, 1) := by decide +kernel
theorem dJ6_bitCount_0f7a4_29 : decode cJ6_bitCount_0f7a4 29 = .ok (.ldc_w 267, 3) := by decide +kernel
theorem dJ6_bitCount_0f7a4_32 : decode cJ6_bitCount_0f7a4 32 = .ok (.iand, 1) := by decide +kernel
theorem dJ6_bitCount_0f7a4_33 : decode cJ6_bitCount_0f7a4 33 = .ok (.istore_n 0, 1) := by decide +kernel
theorem dJ6_bitCount_0f7a4_34 : decode cJ6_bitCount_0f7a4 34 = .ok (.iload_n 0, 1) := by decide +kernel
theorem dJ6_bitCount_0f7a4_35 : decode cJ6_bitCount_0f7a4 35 = .ok (.iload_n 0, 1) := by decide +kernel
theorem dJ6_bitCount_0f7a4_36 : decode cJ6_bitCount_0f7a4 36 = .ok (.bipush 8, 2) := by decide +kernel
theorem dJ6_bitCount_0f7a4_38 : decode cJ6_bitCount_0f7a4 38 = .ok (.iushr, 1) := by decide +kernel
theorem dJ6_bitCount_0f7a4_39 : decode cJ6_bitCount_0f7a4 39 = .ok (.iadd, 1) := by decide +kernel
theorem dJ6_bitCount_0f7a4_40 : decode cJ6_bitCount_0f7a4 40 = .ok (.istore_n 0, 1) := by decide +kernel
theorem dJ6_bitCount_0f7a4_41 : decode cJ6_bitCount_0f7a4 41 = .ok (.iload_n 0, 1) := by decide +kernel
theorem dJ6_bitCount_0f7a4_42 : decode cJ6_bitCount_0f7a4 42 = .ok (.iload_n 0, 1) := by decide +kernel
theorem dJ6_bitCount_0f7a4_43 : decode cJ6_bitCount_0f7a4 43 = .ok (.bipush 16, 2) := by decide +kernel
theorem dJ6_bitCount_0f7a4_45 : decode cJ6_bitCount_0f7a4 45 = .ok (.iushr, 1) := by decide +kernel
theorem dJ6_bitCount_0f7a4_46 : decode cJ6_bitCount_0f7a4 46 = .ok (.iadd, 1) := by decide +kernel
theorem dJ6_bitCount_0f7a4_47 : decode cJ6_bitCount_0f7a4 47 = .ok (.istore_n 0, 1) := by decide +kernel
theorem dJ6_bitCount_0f7a4_48 : decode cJ6_bitCount_0f7a4 48 = .ok (.iload_n 0, 1) := by decide +kernel
theorem dJ6_bitCount_0f7a4_49 : decode cJ6_bitCount_0f7a4 49 = .ok (.bipush 63, 2) := by decide +kernel
theorem dJ6_bitCount_0f7a4_51 : decode cJ6_bitCount_0f7a4 51 = .ok (.iand, 1) := by decide +kernel
theorem dJ6_bitCount_0f7a4_52 : decode cJ6_bitCount_0f7a4 52 = .ok (.ireturn, 1) := by decide +kernel
theorem dJ9_max_7cf53_0 : decode cJ9_max_7cf53 0 = .ok (.iload_n 0, 1) := by decide +kernel
theorem dJ9_max_7cf53_1 : decode cJ9_max_7cf53 1 = .ok (.iload_n 1, 1) := by decide +kernel
theorem dJ9_max_7cf53_2 : decode cJ9_max_7cf53 2 = .ok (.if_icmp .lt 7, 3) := by decide +kernel
theorem dJ9_max_7cf53_5 : decode cJ9_max_7cf53 5 = .ok (.iload_n 0, 1) := by decide +kernel
theorem dJ9_max_7cf53_6 : decode cJ9_max_7cf53 6 = .ok (.goto 4, 3) := by decide +kernel
theorem dJ9_max_7cf53_9 : decode cJ9_max_7cf53 9 = .ok (.iload_n 1, 1) := by decide +kernel
theorem dJ9_max_7cf53_10 : decode cJ9_max_7cf53 10 = .ok (.ireturn, 1) := by decide +kernel
theorem dJ9_min_7cf53_0 : decode cJ9_min_7cf53 0 = .ok (.iload_n 0, 1) := by decide +kernel
theorem dJ9_min_7cf53_1 : decode cJ9_min_7cf53 1 = .ok (.iload_n 1, 1) := by decide +kernel
theorem dJ9_min_7cf53_2 : decode cJ9_min_7cf53 2 = .ok (.if_icmp .gt 7, 3) := by decide +kernel
theorem dJ9_min_7cf53_5 : decode cJ9_min_7cf53 5 = .ok (.iload_n 0, 1) := by decide +kernel
theorem dJ9_min_7cf53_6 : decode cJ9_min_7cf53 6 = .ok (.goto 4, 3) := by decide +kernel
theorem dJ9_min_7cf53_9 : decode cJ9_min_7cf53 9 = .ok (.iload_n 1, 1) := by decide +kernel
theorem dJ9_min_7cf53_10 : decode cJ9_min_7cf53 10 = .ok (.ireturn, 1) := by decide +kernel
end
section
theorem dX9_init_0 : decode cX9_init 0 = .ok (.aload_n 0, 1) := by decide +kernel
theorem dX9_init_1 : decode cX9_init 1 = .ok (.invokespecial 1, 3) := by decide +kernel
theorem dX9_init_4 : decode cX9_init 4 = .ok (.aload_n 0, 1) := by decide +kernel
theorem dX9_init_5 : decode cX9_init 5 = .ok (.sipush 240, 3) := by decide +kernel
theorem dX9_init_8 : decode cX9_init 8 = .ok (.newarray .int, 2) := by decide +kernel
theorem dX9_init_10 : decode cX9_init 10 = .ok (.putfield 7, 3) := by decide +kernel
theorem dX9_init_13 : decode cX9_init 13 = .ok (.aload_n 0, 1) := by decide +kernel
theorem dX9_init_14 : decode cX9_init 14 = .ok (.iconst (-1), 1) := by decide +kernel
theorem dX9_init_15 : decode cX9_init 15 = .ok (.putfield 13, 3) := by decide +kernel
theorem dX9_init_18 : decode cX9_init 18 = .ok (.aload_n 0, 1) := by decide +kernel
theorem dX9_init_19 : decode cX9_init 19 = .ok (.iconst 5, 1) := by decide +kernel
theorem dX9_init_20 : decode cX9_init 20 = .ok (.newarray .int, 2) := by decide +kernel
theorem dX9_init_22 : decode cX9_init 22 = .ok (.putfield 17, 3) := by decide +kernel
theorem dX9_init_25 : decode cX9_init 25 = .ok (.aload_n 0, 1) := by decide +kernel
theorem dX9_init_26 : decode cX9_init 26 = .ok (.bipush 8, 2) := by decide +kernel
theorem dX9_init_28 : decode cX9_init 28 = .ok (.newarray .int, 2) := by decide +kernel
theorem dX9_init_30 : decode cX9_init 30 = .ok (.putfield 20, 3) := by decide +kernel
theorem dX9_init_33 : decode cX9_init 33 = .ok (.aload_n 0, 1) := by decide +kernel
theorem dX9_init_34 : decode cX9_init 34 = .ok (.bipush 18, 2) := by decide +kernel
theorem dX9_init_36 : decode cX9_init 36 = .ok (.newarray .int, 2) := by decide +kernel
theorem dX9_init_38 : decode cX9_init 38 = .ok (.putfield 23, 3) := by decide +kernel
theorem dX9_init_41 : decode cX9_init 41 = .ok (.aload_n 0, 1) := by decide +kernel
theorem dX9_init_42 : decode cX9_init 42 = .ok (.bipush 10, 2) := by decide +kernel
theorem dX9_init_44 : decode cX9_init 44 = .ok (.newarray .int, 2) := by decide +kernel
theorem dX9_init_46 : decode cX9_init 46 = .ok (.putfield 26, 3) := by decide +kernel
theorem dX9_init_49 : decode cX9_init 49 = .ok (.aload_n 0, 1) := by decide +kernel
theorem dX9_init_50 : decode cX9_init 50 = .ok (.iconst 5, 1) := by decide +kernel
theorem dX9_init_51 : decode cX9_init 51 = .ok (.newarray .int, 2) := by decide +kernel
theorem dX9_init_53 : decode cX9_init 53 = .ok (.putfield 29, 3) := by decide +kernel
theorem dX9_init_56 : decode cX9_init 56 = .ok (.aload_n 0, 1) := by decide +kernel
theorem dX9_init_57 : decode cX9_init 57 = .ok (.bipush 8, 2) := by decide +kernel
theorem dX9_init_59 : decode cX9_init 59 = .ok (.newarray .int, 2) := by decide +kernel
theorem dX9_init_61 : decode cX9_init 61 = .ok (.putfield 32, 3) := by decide +kernel
theorem dX9_init_64 : decode cX9_init 64 = .ok (.aload_n 0, 1) := by decide +kernel
theorem dX9_init_65 : decode cX9_init 65 = .ok (.bipush 18, 2) := by decide +kernel
theorem dX9_init_67 : decode cX9_init 67 = .ok (.newarray .int, 2) := by decide +kernel
theorem dX9_init_69 : decode cX9_init 69 = .ok (.putfield 35, 3) := by decide +kernel
theorem dX9_init_72 : decode cX9_init 72 = .ok (.aload_n 0, 1) := by decide +kernel
theorem dX9_init_73 : decode cX9_init 73 = .ok (.bipush 10, 2) := by decide +kernel
theorem dX9_init_75 : decode cX9_init 75 = .ok (.newarray .int, 2) := by decide +kernel
theorem dX9_init_77 : decode cX9_init 77 = .ok (.putfield 38, 3) := by decide +kernel
theorem dX9_init_80 : decode cX9_init 80 = .ok (.aload_n 0, 1) := by decide +kernel
theorem dX9_init_81 : decode cX9_init 81 = .ok (.bipush 21, 2) := by decide +kernel
theorem dX9_init_83 : decode cX9_init 83 = .ok (.newarray .int, 2) := by decide +kernel
theorem dX9_init_85 : decode cX9_init 85 = .ok (.putfield 41, 3) := by decide +kernel
theorem dX9_init_88 : decode cX9_init 88 = .ok (.aload_n 0, 1) := by decide +kernel
theorem dX9_init_89 : decode cX9_init 89 = .ok (.sipush 420, 3) := by decide +kernel
theorem dX9_init_92 : decode cX9_init 92 = .ok (.newarray .int, 2) := by decide +kernel
theorem dX9_init_94 : decode cX9_init 94 = .ok (.putfield 44, 3) := by decide +kernel
theorem dX9_init_97 : decode cX9_init 97 = .ok (.aload_n 0, 1) := by decide +kernel
theorem dX9_init_98 : decode cX9_init 98 = .ok (.bipush 42, 2) := by decide +kernel
theorem dX9_init_100 : decode cX9_init 100 = .ok (.newarray .int, 2) := by decide +kernel
theorem dX9_init_102 : decode cX9_init 102 = .ok (.putfield 47, 3) := by decide +kernel
theorem dX9_init_105 : decode cX9_init 105 = .ok (.aload_n 0, 1) := by decide +kernel
theorem dX9_init_106 : decode cX9_init 106 = .ok (.iconst 2, 1) := by decide +kernel
theorem dX9_init_107 : decode cX9_init 107 = .ok (.newarray .int, 2) := by decide +kernel
theorem dX9_init_109 : decode cX9_init 109 = .ok (.putfield 50, 3) := by decide +kernel
theorem dX9_init_112 : decode cX9_init 112 = .ok (.aload_n 0, 1) := by decide +kernel
theorem dX9_init_113 : decode cX9_init 113 = .ok (.iconst 2, 1) := by decide +kernel
theorem dX9_init_114 : decode cX9_init 114 = .ok (.newarray .boolean, 2) := by decide +kernel
theorem dX9_init_116 : decode cX9_init 116 = .ok (.putfield 53, 3) := by decide +kernel
theorem dX9_init_119 : decode cX9_init 119 = .ok (.aload_n 0, 1) := by decide +kernel
theorem dX9_init_120 : decode cX9_init 120 = .ok (.bipush 12, 2) := by decide +kernel
theorem dX9_init_122 : decode cX9_init 122 = .ok (.newarray .int, 2) := by decide +kernel
theorem dX9_init_124 : decode cX9_init 124 = .ok (.putfield 57, 3) := by decide +kernel
theorem dX9_init_127 : decode cX9_init 127 = .ok (.aload_n 0, 1) := by decide +kernel
theorem dX9_init_128 : decode cX9_init 128 = .ok (.bipush 15, 2) := by decide +kernel
theorem dX9_init_130 : decode cX9_init 130 = .ok (.newarray .int, 2) := by decide +kernel
theorem dX9_init_132 : decode cX9_init 132 = .ok (.putfield 60, 3) := by decide +kernel
theorem dX9_init_135 : decode cX9_init 135 = .ok (.return_, 1) := by decide +kernel
theorem dX9_in_0 : decode cX9_in 0 = .ok (.iload_n 0, 1) := by decide +kernel
theorem dX9_in_1 : decode cX9_in 1 = .ok (.iload_n 1, 1) := by decide +kernel
theorem dX9_in_2 : decode cX9_in 2 = .ok (.if_icmp .lt 12, 3) := by decide +kernel
theorem dX9_in_5 : decode cX9_in 5 = .ok (.iload_n 0, 1) := by decide +kernel
theorem dX9_in_6 : decode cX9_in 6 = .ok (.iload_n 2, 1) := by decide +kernel
theorem dX9_in_7 : decode cX9_in 7 = .ok (.if_icmp .gt 7, 3) := by decide +kernel
theorem dX9_in_10 : decode cX9_in 10 = .ok (.iconst 1, 1) := by decide +kernel
theorem dX9_in_11 : decode cX9_in 11 = .ok (.goto 4, 3) := by decide +kernel
theorem dX9_in_14 : decode cX9_in 14 = .ok (.iconst 0, 1) := by decide +kernel
theorem dX9_in_15 : decode cX9_in 15 = .ok (.ireturn, 1) := by decide +kernel
theorem dX9_has_0 : decode cX9_has 0 = .ok (.iload_n 0, 1) := by decide +kernel
theorem dX9_has_1 : decode cX9_has 1 = .ok (.iload_n 1, 1) := by decide +kernel
theorem dX9_has_2 : decode cX9_has 2 = .ok (.ishr, 1) := by decide +kernel
theorem dX9_has_3 : decode cX9_has 3 = .ok (.iconst 1, 1) := by decide +kernel
theorem dX9_has_4 : decode cX9_has 4 = .ok (.iand, 1) := by decide +kernel
theorem dX9_has_5 : decode cX9_has 5 = .ok (.iconst 1, 1) := by decide +kernel
theorem dX9_has_6 : decode cX9_has 6 = .ok (.if_icmp .ne 7, 3) := by decide +kernel
theorem dX9_has_9 : decode cX9_has 9 = .ok (.iconst 1, 1) := by decide +kernel
theorem dX9_has_10 : decode cX9_has 10 = .ok (.goto 4, 3) := by decide +kernel
theorem dX9_has_13 : decode cX9_has 13 = .ok (.iconst 0, 1) := by decide +kernel
theorem dX9_has_14 : decode cX9_has 14 = .ok (.ireturn, 1) := by decide +kernel
theorem dX9_ones_0 : decode cX9_ones 0 = .ok (.iconst 0, 1) := by decide +kernel
theorem dX9_ones_1 : decode cX9_ones 1 = .ok (.istore_n 1, 1) := by decide +kernel
theorem dX9_ones_2 : decode cX9_ones 2 = .ok (.iconst 0, 1) := by decide +kernel
theorem dX9_ones_3 : decode cX9_ones 3 = .ok (.istore_n 2, 1) := by decide +kernel
theorem dX9_ones_4 : decode cX9_ones 4 = .ok (.iload_n 2, 1) := by decide +kernel
theorem dX9_ones_5 : decode cX9_ones 5 = .ok (.bipush 30, 2) := by decide +kernel
theorem dX9_ones_7 : decode cX9_ones 7 = .ok (.if_icmp .ge 17, 3) := by decide +kernel
theorem dX9_ones_10 : decode cX9_ones 10 = .ok (.iload_n 1, 1) := by decide +kernel
theorem dX9_ones_11 : decode cX9_ones 11 = .ok (.iload_n 0, 1) := by decide +kernel
theorem dX9_ones_12 : decode cX9_ones 12 = .ok (.iload_n 2, 1) := by decide +kernel
theorem dX9_ones_13 : decode cX9_ones 13 = .ok (.ishr, 1) := by decide +kernel
theorem dX9_ones_14 : decode cX9_ones 14 = .ok (.iconst 1, 1) := by decide +kernel
theorem dX9_ones_15 : decode cX9_ones 15 = .ok (.iand, 1) := by decide +kernel
theorem dX9_ones_16 : decode cX9_ones 16 = .ok (.iadd, 1) := by decide +kernel
theorem dX9_ones_17 : decode cX9_ones 17 = .ok (.istore_n 1, 1) := by decide +kernel
theorem dX9_ones_18 : decode cX9_ones 18 = .ok (.iinc 2 1, 3) := by decide +kernel
theorem dX9_ones_21 : decode cX9_ones 21 = .ok (.goto (-17), 3) := by decide +kernel
theorem dX9_ones_24 : decode cX9_ones 24 = .ok (.iload_n 1, 1) := by decide +kernel
theorem dX9_ones_25 : decode cX9_ones 25 = .ok (.ireturn, 1) := by decide +kernel
theorem dX9_feed_0 : decode cX9_feed 0 = .ok (.iload_n 1, 1) := by decide +kernel
theorem dX9_feed_1 : decode cX9_feed 1 = .ok (.iconst 0, 1) := by decide +kernel
theorem dX9_feed_2 : decode cX9_feed 2 = .ok (.sipush 255, 3) := by decide +kernel
theorem dX9_feed_5 : decode cX9_feed 5 = .ok (.invokestatic 63, 3) := by decide +kernel
theorem dX9_feed_8 : decode cX9_feed 8 = .ok (.ifCond .ne 6, 3) := by decide +kernel
theorem dX9_feed_11 : decode cX9_feed 11 = .ok (.ldc 67, 2) := by decide +kernel
theorem dX9_feed_13 : decode cX9_feed 13 = .ok (.ireturn, 1) := by decide +kernel
theorem dX9_feed_14 : decode cX9_feed 14 = .ok (.aload_n 0, 1) := by decide +kernel
theorem dX9_feed_15 : decode cX9_feed 15 = .ok (.getfield 68, 3) := by decide +kernel
theorem dX9_feed_18 : decode cX9_feed 18 = .ok (.sipush 240, 3) := by decide +kernel
theorem dX9_feed_21 : decode cX9_feed 21 = .ok (.if_icmp .ne 6, 3) := by decide +kernel
theorem dX9_feed_24 : decode cX9_feed 24 = .ok (.ldc 71, 2) := by decide +kernel
theorem dX9_feed_26 : decode cX9_feed 26 = .ok (.ireturn, 1) := by decide +kernel
theorem dX9_feed_27 : decode cX9_feed 27 = .ok (.aload_n 0, 1) := by decide +kernel
theorem dX9_feed_28 : decode cX9_feed 28 = .ok (.getfield 7, 3) := by decide +kernel
theorem dX9_feed_31 : decode cX9_feed 31 = .ok (.aload_n 0, 1) := by decide +kernel
theorem dX9_feed_32 : decode cX9_feed 32 = .ok (.getfield 68, 3) := by decide +kernel
theorem dX9_feed_35 : decode cX9_feed 35 = .ok (.iload_n 1, 1) := by decide +kernel
theorem dX9_feed_36 : decode cX9_feed 36 = .ok (.iastore, 1) := by decide +kernel
theorem dX9_feed_37 : decode cX9_feed 37 = .ok (.aload_n 0, 1) := by decide +kernel
theorem dX9_feed_38 : decode cX9_feed 38 = .ok (.dup, 1) := by decide +kernel
theorem dX9_feed_39 : decode cX9_feed 39 = .ok (.getfield 68, 3) := by decide +kernel
theorem dX9_feed_42 : decode cX9_feed 42 = .ok (.iconst 1, 1) := by decide +kernel
theorem dX9_feed_43 : decode cX9_feed 43 = .ok (.iadd, 1) := by decide +kernel
theorem dX9_feed_44 : decode cX9_feed 44 = .ok (.putfield 68, 3) := by decide +kernel
theorem dX9_feed_47 : decode cX9_feed 47 = .ok (.aload_n 0, 1) := by decide +kernel
theorem dX9_feed_48 : decode cX9_feed 48 = .ok (.getfield 68, 3) := by decide +kernel
theorem dX9_feed_51 : decode cX9_feed 51 = .ok (.ireturn, 1) := by decide +kernel
theorem dX9_look_0 : decode cX9_look 0 = .ok (.aload_n 0, 1) := by decide +kernel
theorem dX9_look_1 : decode cX9_look 1 = .ok (.getfield 72, 3) := by decide +kernel
theorem dX9_look_4 : decode cX9_look 4 = .ok (.aload_n 0, 1) := by decide +kernel
theorem dX9_look_5 : decode cX9_look 5 = .ok (.getfield 68, 3) := by decide +kernel
theorem dX9_look_8 : decode cX9_look 8 = .ok (.if_icmp .ge 15, 3) := by decide +kernel
theorem dX9_look_11 : decode cX9_look 11 = .ok (.aload_n 0, 1) := by decide +kernel
theorem dX9_look_12 : decode cX9_look 12 = .ok (.getfield 7, 3) := by decide +kernel
theorem dX9_look_15 : decode cX9_look 15 = .ok (.aload_n 0, 1) := by decide +kernel
theorem dX9_look_16 : decode cX9_look 16 = .ok (.getfield 72, 3) := by decide +kernel
theorem dX9_look_19 : decode cX9_look 19 = .ok (.iaload, 1) := by decide +kernel
theorem dX9_look_20 : decode cX9_look 20 = .ok (.goto 4, 3) := by decide +kernel
theorem dX9_look_23 : decode cX9_look 23 = .ok (.iconst (-1), 1) := by decide +kernel
theorem dX9_look_24 : decode cX9_look 24 = .ok (.ireturn, 1) := by decide +kernel
theorem dX9_skips_0 : decode cX9_skips 0 = .ok (.aload_n 0, 1) := by decide +kernel
theorem dX9_skips_1 : decode cX9_skips 1 = .ok (.getfield 75, 3) := by decide +kernel
theorem dX9_skips_4 : decode cX9_skips 4 = .ok (.ifCond .ne 25, 3) := by decide +kernel
theorem dX9_skips_7 : decode cX9_skips 7 = .ok (.aload_n 0, 1) := by decide +kernel
theorem dX9_skips_8 : decode cX9_skips 8 = .ok (.invokevirtual 78, 3) := by decide +kernel
theorem dX9_skips_11 : decode cX9_skips 11 = .ok (.bipush 32, 2) := by decide +kernel
theorem dX9_skips_13 : decode cX9_skips 13 = .ok (.if_icmp .ne 16, 3) := by decide +kernel
theorem dX9_skips_16 : decode cX9_skips 16 = .ok (.aload_n 0, 1) := by decide +kernel
theorem dX9_skips_17 : decode cX9_skips 17 = .ok (.dup, 1) := by decide +kernel
theorem dX9_skips_18 : decode cX9_skips 18 = .ok (.getfield 72, 3) := by decide +kernel
theorem dX9_skips_21 : decode cX9_skips 21 = .ok (.iconst 1, 1) := by decide +kernel
theorem dX9_skips_22 : decode cX9_skips 22 = .ok (.iadd, 1) := by decide +kernel
theorem dX9_skips_23 : decode cX9_skips 23 = .ok (.putfield 72, 3) := by decide +kernel
theorem dX9_skips_26 : decode cX9_skips 26 = .ok (.goto (-26), 3) := by decide +kernel
theorem dX9_skips_29 : decode cX9_skips 29 = .ok (.return_, 1) := by decide +kernel
theorem dX9_fails_0 : decode cX9_fails 0 = .ok (.aload_n 0, 1) := by decide +kernel
theorem dX9_fails_1 : decode cX9_fails 1 = .ok (.aload_n 0, 1) := by decide +kernel
theorem dX9_fails_2 : decode cX9_fails 2 = .ok (.getfield 75, 3) := by decide +kernel
theorem dX9_fails_5 : decode cX9_fails 5 = .ok (.ifCond .ne 7, 3) := by decide +kernel
theorem dX9_fails_8 : decode cX9_fails 8 = .ok (.iload_n 1, 1) := by decide +kernel
theorem dX9_fails_9 : decode cX9_fails 9 = .ok (.goto 7, 3) := by decide +kernel
theorem dX9_fails_12 : decode cX9_fails 12 = .ok (.aload_n 0, 1) := by decide +kernel
theorem dX9_fails_13 : decode cX9_fails 13 = .ok (.getfield 75, 3) := by decide +kernel
theorem dX9_fails_16 : decode cX9_fails 16 = .ok (.putfield 75, 3) := by decide +kernel
theorem dX9_fails_19 : decode cX9_fails 19 = .ok (.return_, 1) := by decide +kernel
theorem dX9_word_0 : decode cX9_word 0 = .ok (.aload_n 0, 1) := by decide +kernel
theorem dX9_word_1 : decode cX9_word 1 = .ok (.invokevirtual 82, 3) := by decide +kernel
theorem dX9_word_4 : decode cX9_word 4 = .ok (.aload_n 0, 1) := by decide +kernel
theorem dX9_word_5 : decode cX9_word 5 = .ok (.getfield 75, 3) := by decide +kernel
theorem dX9_word_8 : decode cX9_word 8 = .ok (.ifCond .ne 29, 3) := by decide +kernel
theorem dX9_word_11 : decode cX9_word 11 = .ok (.aload_n 0, 1) := by decide +kernel
theorem dX9_word_12 : decode cX9_word 12 = .ok (.invokevirtual 78, 3) := by decide +kernel
theorem dX9_word_15 : decode cX9_word 15 = .ok (.iload_n 1, 1) := by decide +kernel
theorem dX9_word_16 : decode cX9_word 16 = .ok (.if_icmp .ne 16, 3) := by decide +kernel
theorem dX9_word_19 : decode cX9_word 19 = .ok (.aload_n 0, 1) := by decide +kernel
theorem dX9_word_20 : decode cX9_word 20 = .ok (.dup, 1) := by decide +kernel
theorem dX9_word_21 : decode cX9_word 21 = .ok (.getfield 72, 3) := by decide +kernel
theorem dX9_word_24 : decode cX9_word 24 = .ok (.iconst 1, 1) := by decide +kernel
theorem dX9_word_25 : decode cX9_word 25 = .ok (.iadd, 1) := by decide +kernel
theorem dX9_word_26 : decode cX9_word 26 = .ok (.putfield 72, 3) := by decide +kernel
theorem dX9_word_29 : decode cX9_word 29 = .ok (.goto 8, 3) := by decide +kernel
theorem dX9_word_32 : decode cX9_word 32 = .ok (.aload_n 0, 1) := by decide +kernel
theorem dX9_word_33 : decode cX9_word 33 = .ok (.iconst 1, 1) := by decide +kernel
theorem dX9_word_34 : decode cX9_word 34 = .ok (.invokevirtual 85, 3) := by decide +kernel
theorem dX9_word_37 : decode cX9_word 37 = .ok (.return_, 1) := by decide +kernel
theorem dX9_number_0 : decode cX9_number 0 = .ok (.aload_n 0, 1) := by decide +kernel
theorem dX9_number_1 : decode cX9_number 1 = .ok (.invokevirtual 82, 3) := by decide +kernel
theorem dX9_number_4 : decode cX9_number 4 = .ok (.aload_n 0, 1) := by decide +kernel
theorem dX9_number_5 : decode cX9_number 5 = .ok (.getfield 75, 3) := by decide +kernel
theorem dX9_number_8 : decode cX9_number 8 = .ok (.ifCond .eq 5, 3) := by decide +kernel
theorem dX9_number_11 : decode cX9_number 11 = .ok (.iconst 0, 1) := by decide +kernel
theorem dX9_number_12 : decode cX9_number 12 = .ok (.ireturn, 1) := by decide +kernel
theorem dX9_number_13 : decode cX9_number 13 = .ok (.aload_n 0, 1) := by decide +kernel
theorem dX9_number_14 : decode cX9_number 14 = .ok (.invokevirtual 78, 3) := by decide +kernel
theorem dX9_number_17 : decode cX9_number 17 = .ok (.bipush 48, 2) := by decide +kernel
theorem dX9_number_19 : decode cX9_number 19 = .ok (.bipush 57, 2) := by decide +kernel
theorem dX9_number_21 : decode cX9_number 21 = .ok (.invokestatic 63, 3) := by decide +kernel
theorem dX9_number_24 : decode cX9_number 24 = .ok (.ifCond .ne 10, 3) := by decide +kernel
theorem dX9_number_27 : decode cX9_number 27 = .ok (.aload_n 0, 1) := by decide +kernel
theorem dX9_number_28 : decode cX9_number 28 = .ok (.iconst 1, 1) := by decide +kernel
theorem dX9_number_29 : decode cX9_number 29 = .ok (.invokevirtual 85, 3) := by decide +kernel
theorem dX9_number_32 : decode cX9_number 32 = .ok (.iconst 0, 1) := by decide +kernel
theorem dX9_number_33 : decode cX9_number 33 = .ok (.ireturn, 1) := by decide +kernel
theorem dX9_number_34 : decode cX9_number 34 = .ok (.aload_n 0, 1) := by decide +kernel
theorem dX9_number_35 : decode cX9_number 35 = .ok (.getfield 72, 3) := by decide +kernel
theorem dX9_number_38 : decode cX9_number 38 = .ok (.istore_n 3, 1) := by decide +kernel
theorem dX9_number_39 : decode cX9_number 39 = .ok (.iconst 0, 1) := by decide +kernel
theorem dX9_number_40 : decode cX9_number 40 = .ok (.istore 4, 2) := by decide +kernel
theorem dX9_number_42 : decode cX9_number 42 = .ok (.aload_n 0, 1) := by decide +kernel
theorem dX9_number_43 : decode cX9_number 43 = .ok (.invokevirtual 78, 3) := by decide +kernel
theorem dX9_number_46 : decode cX9_number 46 = .ok (.bipush 48, 2) := by decide +kernel
theorem dX9_number_48 : decode cX9_number 48 = .ok (.bipush 57, 2) := by decide +kernel
theorem dX9_number_50 : decode cX9_number 50 = .ok (.invokestatic 63, 3) := by decide +kernel
theorem dX9_number_53 : decode cX9_number 53 = .ok (.ifCond .eq 46, 3) := by decide +kernel
theorem dX9_number_56 : decode cX9_number 56 = .ok (.aload_n 0, 1) := by decide +kernel
theorem dX9_number_57 : decode cX9_number 57 = .ok (.getfield 72, 3) := by decide +kernel
theorem dX9_number_60 : decode cX9_number 60 = .ok (.iload_n 3, 1) := by decide +kernel
theorem dX9_number_61 : decode cX9_number 61 = .ok (.isub, 1) := by decide +kernel
theorem dX9_number_62 : decode cX9_number 62 = .ok (.iconst 3, 1) := by decide +kernel
theorem dX9_number_63 : decode cX9_number 63 = .ok (.if_icmp .ge 19, 3) := by decide +kernel
theorem dX9_number_66 : decode cX9_number 66 = .ok (.bipush 10, 2) := by decide +kernel
theorem dX9_number_68 : decode cX9_number 68 = .ok (.iload 4, 2) := by decide +kernel
theorem dX9_number_70 : decode cX9_number 70 = .ok (.imul, 1) := by decide +kernel
theorem dX9_number_71 : decode cX9_number 71 = .ok (.aload_n 0, 1) := by decide +kernel
theorem dX9_number_72 : decode cX9_number 72 = .ok (.invokevirtual 78, 3) := by decide +kernel
theorem dX9_number_75 : decode cX9_number 75 = .ok (.iadd, 1) := by decide +kernel
theorem dX9_number_76 : decode cX9_number 76 = .ok (.bipush 48, 2) := by decide +kernel
theorem dX9_number_78 : decode cX9_number 78 = .ok (.isub, 1) := by decide +kernel
theorem dX9_number_79 : decode cX9_number 79 = .ok (.goto 5, 3) := by decide +kernel
theorem dX9_number_82 : decode cX9_number 82 = .ok (.iload 4, 2) := by decide +kernel
theorem dX9_number_84 : decode cX9_number 84 = .ok (.istore 4, 2) := by decide +kernel
theorem dX9_number_86 : decode cX9_number 86 = .ok (.aload_n 0, 1) := by decide +kernel
theorem dX9_number_87 : decode cX9_number 87 = .ok (.dup, 1) := by decide +kernel
theorem dX9_number_88 : decode cX9_number 88 = .ok (.getfield 72, 3) := by decide +kernel
theorem dX9_number_91 : decode cX9_number 91 = .ok (.iconst 1, 1) := by decide +kernel
theorem dX9_number_92 : decode cX9_number 92 = .ok (.iadd, 1) := by decide +kernel
theorem dX9_number_93 : decode cX9_number 93 = .ok (.putfield 72, 3) := by decide +kernel
theorem dX9_number_96 : decode cX9_number 96 = .ok (.goto (-54), 3) := by decide +kernel
theorem dX9_number_99 : decode cX9_number 99 = .ok (.aload_n 0, 1) := by decide +kernel
theorem dX9_number_100 : decode cX9_number 100 = .ok (.getfield 72, 3) := by decide +kernel
theorem dX9_number_103 : decode cX9_number 103 = .ok (.iload_n 3, 1) := by decide +kernel
theorem dX9_number_104 : decode cX9_number 104 = .ok (.isub, 1) := by decide +kernel
theorem dX9_number_105 : decode cX9_number 105 = .ok (.iconst 3, 1) := by decide +kernel
theorem dX9_number_106 : decode cX9_number 106 = .ok (.if_icmp .gt 13, 3) := by decide +kernel
theorem dX9_number_109 : decode cX9_number 109 = .ok (.iload 4, 2) := by decide +kernel
theorem dX9_number_111 : decode cX9_number 111 = .ok (.iload_n 1, 1) := by decide +kernel
theorem dX9_number_112 : decode cX9_number 112 = .ok (.iload_n 2, 1) := by decide +kernel
theorem dX9_number_113 : decode cX9_number 113 = .ok (.invokestatic 63, 3) := by decide +kernel
theorem dX9_number_116 : decode cX9_number 116 = .ok (.ifCond .ne 13, 3) := by decide +kernel
theorem dX9_number_119 : decode cX9_number 119 = .ok (.aload_n 0, 1) := by decide +kernel
theorem dX9_number_120 : decode cX9_number 120 = .ok (.iload_n 3, 1) := by decide +kernel
theorem dX9_number_121 : decode cX9_number 121 = .ok (.putfield 72, 3) := by decide +kernel
theorem dX9_number_124 : decode cX9_number 124 = .ok (.aload_n 0, 1) := by decide +kernel
theorem dX9_number_125 : decode cX9_number 125 = .ok (.iconst 2, 1) := by decide +kernel
theorem dX9_number_126 : decode cX9_number 126 = .ok (.invokevirtual 85, 3) := by decide +kernel
theorem dX9_number_129 : decode cX9_number 129 = .ok (.iload 4, 2) := by decide +kernel
theorem dX9_number_131 : decode cX9_number 131 = .ok (.ireturn, 1) := by decide +kernel
theorem dX9_opens_0 : decode cX9_opens 0 = .ok (.iload_n 1, 1) := by decide +kernel
theorem dX9_opens_1 : decode cX9_opens 1 = .ok (.ifCond .eq 8, 3) := by decide +kernel
theorem dX9_opens_4 : decode cX9_opens 4 = .ok (.aload_n 0, 1) := by decide +kernel
theorem dX9_opens_5 : decode cX9_opens 5 = .ok (.iconst 3, 1) := by decide +kernel
theorem dX9_opens_6 : decode cX9_opens 6 = .ok (.invokevirtual 85, 3) := by decide +kernel
theorem dX9_opens_9 : decode cX9_opens 9 = .ok (.aload_n 0, 1) := by decide +kernel
theorem dX9_opens_10 : decode cX9_opens 10 = .ok (.dup, 1) := by decide +kernel
theorem dX9_opens_11 : decode cX9_opens 11 = .ok (.getfield 72, 3) := by decide +kernel
theorem dX9_opens_14 : decode cX9_opens 14 = .ok (.iload_n 1, 1) := by decide +kernel
theorem dX9_opens_15 : decode cX9_opens 15 = .ok (.ifCond .eq 7, 3) := by decide +kernel
theorem dX9_opens_18 : decode cX9_opens 18 = .ok (.iconst 0, 1) := by decide +kernel
theorem dX9_opens_19 : decode cX9_opens 19 = .ok (.goto 4, 3) := by decide +kernel
theorem dX9_opens_22 : decode cX9_opens 22 = .ok (.iconst 1, 1) := by decide +kernel
theorem dX9_opens_23 : decode cX9_opens 23 = .ok (.iadd, 1) := by decide +kernel
theorem dX9_opens_24 : decode cX9_opens 24 = .ok (.putfield 72, 3) := by decide +kernel
theorem dX9_opens_27 : decode cX9_opens 27 = .ok (.iload_n 1, 1) := by decide +kernel
theorem dX9_opens_28 : decode cX9_opens 28 = .ok (.ifCond .ne 7, 3) := by decide +kernel
theorem dX9_opens_31 : decode cX9_opens 31 = .ok (.iconst 1, 1) := by decide +kernel
theorem dX9_opens_32 : decode cX9_opens 32 = .ok (.goto 4, 3) := by decide +kernel
theorem dX9_opens_35 : decode cX9_opens 35 = .ok (.iconst 0, 1) := by decide +kernel
theorem dX9_opens_36 : decode cX9_opens 36 = .ok (.ireturn, 1) := by decide +kernel
theorem dX9_readsWays_0 : decode cX9_readsWays 0 = .ok (.aload_n 0, 1) := by decide +kernel
theorem dX9_readsWays_1 : decode cX9_readsWays 1 = .ok (.aload_n 0, 1) := by decide +kernel
theorem dX9_readsWays_2 : decode cX9_readsWays 2 = .ok (.getfield 29, 3) := by decide +kernel
theorem dX9_readsWays_5 : decode cX9_readsWays 5 = .ok (.iconst 0, 1) := by decide +kernel
theorem dX9_readsWays_6 : decode cX9_readsWays 6 = .ok (.iaload, 1) := by decide +kernel
theorem dX9_readsWays_7 : decode cX9_readsWays 7 = .ok (.ifCond .le 7, 3) := by decide +kernel
theorem dX9_readsWays_10 : decode cX9_readsWays 10 = .ok (.iconst 1, 1) := by decide +kernel
theorem dX9_readsWays_11 : decode cX9_readsWays 11 = .ok (.goto 4, 3) := by decide +kernel
theorem dX9_readsWays_14 : decode cX9_readsWays 14 = .ok (.iconst 0, 1) := by decide +kernel
theorem dX9_readsWays_15 : decode cX9_readsWays 15 = .ok (.invokevirtual 89, 3) := by decide +kernel
theorem dX9_readsWays_18 : decode cX9_readsWays 18 = .ok (.ifCond .eq 134, 3) := by decide +kernel
theorem dX9_readsWays_21 : decode cX9_readsWays 21 = .ok (.aload_n 0, 1) := by decide +kernel
theorem dX9_readsWays_22 : decode cX9_readsWays 22 = .ok (.getfield 32, 3) := by decide +kernel
theorem dX9_readsWays_25 : decode cX9_readsWays 25 = .ok (.iconst 0, 1) := by decide +kernel
theorem dX9_readsWays_26 : decode cX9_readsWays 26 = .ok (.aload_n 0, 1) := by decide +kernel
theorem dX9_readsWays_27 : decode cX9_readsWays 27 = .ok (.iconst 1, 1) := by decide +kernel
theorem dX9_readsWays_28 : decode cX9_readsWays 28 = .ok (.sipush 999, 3) := by decide +kernel
theorem dX9_readsWays_31 : decode cX9_readsWays 31 = .ok (.invokevirtual 93, 3) := by decide +kernel
theorem dX9_readsWays_34 : decode cX9_readsWays 34 = .ok (.iastore, 1) := by decide +kernel
theorem dX9_readsWays_35 : decode cX9_readsWays 35 = .ok (.aload_n 0, 1) := by decide +kernel
theorem dX9_readsWays_36 : decode cX9_readsWays 36 = .ok (.getfield 29, 3) := by decide +kernel
theorem dX9_readsWays_39 : decode cX9_readsWays 39 = .ok (.iconst 0, 1) := by decide +kernel
theorem dX9_readsWays_40 : decode cX9_readsWays 40 = .ok (.iconst 1, 1) := by decide +kernel
theorem dX9_readsWays_41 : decode cX9_readsWays 41 = .ok (.iastore, 1) := by decide +kernel
theorem dX9_readsWays_42 : decode cX9_readsWays 42 = .ok (.aload_n 0, 1) := by decide +kernel
theorem dX9_readsWays_43 : decode cX9_readsWays 43 = .ok (.invokevirtual 82, 3) := by decide +kernel
theorem dX9_readsWays_46 : decode cX9_readsWays 46 = .ok (.aload_n 0, 1) := by decide +kernel
theorem dX9_readsWays_47 : decode cX9_readsWays 47 = .ok (.getfield 75, 3) := by decide +kernel
theorem dX9_readsWays_50 : decode cX9_readsWays 50 = .ok (.ifCond .ne 96, 3) := by decide +kernel
theorem dX9_readsWays_53 : decode cX9_readsWays 53 = .ok (.aload_n 0, 1) := by decide +kernel
theorem dX9_readsWays_54 : decode cX9_readsWays 54 = .ok (.invokevirtual 78, 3) := by decide +kernel
theorem dX9_readsWays_57 : decode cX9_readsWays 57 = .ok (.bipush 44, 2) := by decide +kernel
theorem dX9_readsWays_59 : decode cX9_readsWays 59 = .ok (.if_icmp .eq 13, 3) := by decide +kernel
theorem dX9_readsWays_62 : decode cX9_readsWays 62 = .ok (.aload_n 0, 1) := by decide +kernel
theorem dX9_readsWays_63 : decode cX9_readsWays 63 = .ok (.getfield 29, 3) := by decide +kernel
theorem dX9_readsWays_66 : decode cX9_readsWays 66 = .ok (.iconst 0, 1) := by decide +kernel
theorem dX9_readsWays_67 : decode cX9_readsWays 67 = .ok (.iaload, 1) := by decide +kernel
theorem dX9_readsWays_68 : decode cX9_readsWays 68 = .ok (.iconst 1, 1) := by decide +kernel
theorem dX9_readsWays_69 : decode cX9_readsWays 69 = .ok (.if_icmp .ne 77, 3) := by decide +kernel
theorem dX9_readsWays_72 : decode cX9_readsWays 72 = .ok (.aload_n 0, 1) := by decide +kernel
theorem dX9_readsWays_73 : decode cX9_readsWays 73 = .ok (.invokevirtual 78, 3) := by decide +kernel
theorem dX9_readsWays_76 : decode cX9_readsWays 76 = .ok (.bipush 44, 2) := by decide +kernel
theorem dX9_readsWays_78 : decode cX9_readsWays 78 = .ok (.if_icmp .ne 14, 3) := by decide +kernel
theorem dX9_readsWays_81 : decode cX9_readsWays 81 = .ok (.aload_n 0, 1) := by decide +kernel
theorem dX9_readsWays_82 : decode cX9_readsWays 82 = .ok (.getfield 29, 3) := by decide +kernel
theorem dX9_readsWays_85 : decode cX9_readsWays 85 = .ok (.iconst 0, 1) := by decide +kernel
theorem dX9_readsWays_86 : decode cX9_readsWays 86 = .ok (.iaload, 1) := by decide +kernel
theorem dX9_readsWays_87 : decode cX9_readsWays 87 = .ok (.bipush 8, 2) := by decide +kernel
theorem dX9_readsWays_89 : decode cX9_readsWays 89 = .ok (.if_icmp .ne 11, 3) := by decide +kernel
theorem dX9_readsWays_92 : decode cX9_readsWays 92 = .ok (.aload_n 0, 1) := by decide +kernel
theorem dX9_readsWays_93 : decode cX9_readsWays 93 = .ok (.iconst 1, 1) := by decide +kernel
theorem dX9_readsWays_94 : decode cX9_readsWays 94 = .ok (.invokevirtual 85, 3) := by decide +kernel
theorem dX9_readsWays_97 : decode cX9_readsWays 97 = .ok (.goto 42, 3) := by decide +kernel
theorem dX9_readsWays_100 : decode cX9_readsWays 100 = .ok (.aload_n 0, 1) := by decide +kernel
theorem dX9_readsWays_101 : decode cX9_readsWays 101 = .ok (.dup, 1) := by decide +kernel
theorem dX9_readsWays_102 : decode cX9_readsWays 102 = .ok (.getfield 72, 3) := by decide +kernel
theorem dX9_readsWays_105 : decode cX9_readsWays 105 = .ok (.iconst 1, 1) := by decide +kernel
theorem dX9_readsWays_106 : decode cX9_readsWays 106 = .ok (.iadd, 1) := by decide +kernel
theorem dX9_readsWays_107 : decode cX9_readsWays 107 = .ok (.putfield 72, 3) := by decide +kernel
theorem dX9_readsWays_110 : decode cX9_readsWays 110 = .ok (.aload_n 0, 1) := by decide +kernel
theorem dX9_readsWays_111 : decode cX9_readsWays 111 = .ok (.getfield 32, 3) := by decide +kernel
theorem dX9_readsWays_114 : decode cX9_readsWays 114 = .ok (.aload_n 0, 1) := by decide +kernel
theorem dX9_readsWays_115 : decode cX9_readsWays 115 = .ok (.getfield 29, 3) := by decide +kernel
theorem dX9_readsWays_118 : decode cX9_readsWays 118 = .ok (.iconst 0, 1) := by decide +kernel
theorem dX9_readsWays_119 : decode cX9_readsWays 119 = .ok (.iaload, 1) := by decide +kernel
theorem dX9_readsWays_120 : decode cX9_readsWays 120 = .ok (.aload_n 0, 1) := by decide +kernel
theorem dX9_readsWays_121 : decode cX9_readsWays 121 = .ok (.iconst 1, 1) := by decide +kernel
theorem dX9_readsWays_122 : decode cX9_readsWays 122 = .ok (.sipush 999, 3) := by decide +kernel
theorem dX9_readsWays_125 : decode cX9_readsWays 125 = .ok (.invokevirtual 93, 3) := by decide +kernel
theorem dX9_readsWays_128 : decode cX9_readsWays 128 = .ok (.iastore, 1) := by decide +kernel
theorem dX9_readsWays_129 : decode cX9_readsWays 129 = .ok (.aload_n 0, 1) := by decide +kernel
theorem dX9_readsWays_130 : decode cX9_readsWays 130 = .ok (.getfield 29, 3) := by decide +kernel
theorem dX9_readsWays_133 : decode cX9_readsWays 133 = .ok (.iconst 0, 1) := by decide +kernel
theorem dX9_readsWays_134 : decode cX9_readsWays 134 = .ok (.dup2, 1) := by decide +kernel
theorem dX9_readsWays_135 : decode cX9_readsWays 135 = .ok (.iaload, 1) := by decide +kernel
theorem dX9_readsWays_136 : decode cX9_readsWays 136 = .ok (.iconst 1, 1) := by decide +kernel
theorem dX9_readsWays_137 : decode cX9_readsWays 137 = .ok (.iadd, 1) := by decide +kernel
theorem dX9_readsWays_138 : decode cX9_readsWays 138 = .ok (.iastore, 1) := by decide +kernel
theorem dX9_readsWays_139 : decode cX9_readsWays 139 = .ok (.aload_n 0, 1) := by decide +kernel
theorem dX9_readsWays_140 : decode cX9_readsWays 140 = .ok (.invokevirtual 82, 3) := by decide +kernel
theorem dX9_readsWays_143 : decode cX9_readsWays 143 = .ok (.goto (-97), 3) := by decide +kernel
theorem dX9_readsWays_146 : decode cX9_readsWays 146 = .ok (.aload_n 0, 1) := by decide +kernel
theorem dX9_readsWays_147 : decode cX9_readsWays 147 = .ok (.bipush 59, 2) := by decide +kernel
theorem dX9_readsWays_149 : decode cX9_readsWays 149 = .ok (.invokevirtual 97, 3) := by decide +kernel
theorem dX9_readsWays_152 : decode cX9_readsWays 152 = .ok (.return_, 1) := by decide +kernel
theorem dX9_waysOf_0 : decode cX9_waysOf 0 = .ok (.aload_n 0, 1) := by decide +kernel
theorem dX9_waysOf_1 : decode cX9_waysOf 1 = .ok (.invokevirtual 82, 3) := by decide +kernel
theorem dX9_waysOf_4 : decode cX9_waysOf 4 = .ok (.aload_n 0, 1) := by decide +kernel
theorem dX9_waysOf_5 : decode cX9_waysOf 5 = .ok (.getfield 72, 3) := by decide +kernel
theorem dX9_waysOf_8 : decode cX9_waysOf 8 = .ok (.istore_n 3, 1) := by decide +kernel
theorem dX9_waysOf_9 : decode cX9_waysOf 9 = .ok (.aload_n 0, 1) := by decide +kernel
theorem dX9_waysOf_10 : decode cX9_waysOf 10 = .ok (.iload_n 2, 1) := by decide +kernel
theorem dX9_waysOf_11 : decode cX9_waysOf 11 = .ok (.sipush 255, 3) := by decide +kernel
theorem dX9_waysOf_14 : decode cX9_waysOf 14 = .ok (.invokevirtual 93, 3) := by decide +kernel
theorem dX9_waysOf_17 : decode cX9_waysOf 17 = .ok (.istore 4, 2) := by decide +kernel
theorem dX9_waysOf_19 : decode cX9_waysOf 19 = .ok (.aload_n 0, 1) := by decide +kernel
theorem dX9_waysOf_20 : decode cX9_waysOf 20 = .ok (.getfield 75, 3) := by decide +kernel
theorem dX9_waysOf_23 : decode cX9_waysOf 23 = .ok (.ifCond .ne 22, 3) := by decide +kernel
theorem dX9_waysOf_26 : decode cX9_waysOf 26 = .ok (.iload 4, 2) := by decide +kernel
theorem dX9_waysOf_28 : decode cX9_waysOf 28 = .ok (.iload_n 1, 1) := by decide +kernel
theorem dX9_waysOf_29 : decode cX9_waysOf 29 = .ok (.iconst (-1), 1) := by decide +kernel
theorem dX9_waysOf_30 : decode cX9_waysOf 30 = .ok (.ixor, 1) := by decide +kernel
theorem dX9_waysOf_31 : decode cX9_waysOf 31 = .ok (.iand, 1) := by decide +kernel
theorem dX9_waysOf_32 : decode cX9_waysOf 32 = .ok (.ifCond .eq 13, 3) := by decide +kernel
theorem dX9_waysOf_35 : decode cX9_waysOf 35 = .ok (.aload_n 0, 1) := by decide +kernel
theorem dX9_waysOf_36 : decode cX9_waysOf 36 = .ok (.iload_n 3, 1) := by decide +kernel
theorem dX9_waysOf_37 : decode cX9_waysOf 37 = .ok (.putfield 72, 3) := by decide +kernel
theorem dX9_waysOf_40 : decode cX9_waysOf 40 = .ok (.aload_n 0, 1) := by decide +kernel
theorem dX9_waysOf_41 : decode cX9_waysOf 41 = .ok (.iconst 2, 1) := by decide +kernel
theorem dX9_waysOf_42 : decode cX9_waysOf 42 = .ok (.invokevirtual 85, 3) := by decide +kernel
theorem dX9_waysOf_45 : decode cX9_waysOf 45 = .ok (.iload 4, 2) := by decide +kernel
theorem dX9_waysOf_47 : decode cX9_waysOf 47 = .ok (.ireturn, 1) := by decide +kernel
theorem dX9_allOf_0 : decode cX9_allOf 0 = .ok (.iconst 1, 1) := by decide +kernel
theorem dX9_allOf_1 : decode cX9_allOf 1 = .ok (.iload_n 0, 1) := by decide +kernel
theorem dX9_allOf_2 : decode cX9_allOf 2 = .ok (.ishl, 1) := by decide +kernel
theorem dX9_allOf_3 : decode cX9_allOf 3 = .ok (.iconst 1, 1) := by decide +kernel
theorem dX9_allOf_4 : decode cX9_allOf 4 = .ok (.isub, 1) := by decide +kernel
theorem dX9_allOf_5 : decode cX9_allOf 5 = .ok (.ireturn, 1) := by decide +kernel
theorem dX9_readsTest_0 : decode cX9_readsTest 0 = .ok (.aload_n 0, 1) := by decide +kernel
theorem dX9_readsTest_1 : decode cX9_readsTest 1 = .ok (.aload_n 0, 1) := by decide +kernel
theorem dX9_readsTest_2 : decode cX9_readsTest 2 = .ok (.getfield 29, 3) := by decide +kernel
theorem dX9_readsTest_5 : decode cX9_readsTest 5 = .ok (.iconst 1, 1) := by decide +kernel
theorem dX9_readsTest_6 : decode cX9_readsTest 6 = .ok (.iaload, 1) := by decide +kernel
theorem dX9_readsTest_7 : decode cX9_readsTest 7 = .ok (.bipush 6, 2) := by decide +kernel
theorem dX9_readsTest_9 : decode cX9_readsTest 9 = .ok (.if_icmp .ne 7, 3) := by decide +kernel
theorem dX9_readsTest_12 : decode cX9_readsTest 12 = .ok (.iconst 1, 1) := by decide +kernel
theorem dX9_readsTest_13 : decode cX9_readsTest 13 = .ok (.goto 4, 3) := by decide +kernel
theorem dX9_readsTest_16 : decode cX9_readsTest 16 = .ok (.iconst 0, 1) := by decide +kernel
theorem dX9_readsTest_17 : decode cX9_readsTest 17 = .ok (.invokevirtual 89, 3) := by decide +kernel
theorem dX9_readsTest_20 : decode cX9_readsTest 20 = .ok (.ifCond .eq 82, 3) := by decide +kernel
theorem dX9_readsTest_23 : decode cX9_readsTest 23 = .ok (.iconst 3, 1) := by decide +kernel
theorem dX9_readsTest_24 : decode cX9_readsTest 24 = .ok (.aload_n 0, 1) := by decide +kernel
theorem dX9_readsTest_25 : decode cX9_readsTest 25 = .ok (.getfield 29, 3) := by decide +kernel
theorem dX9_readsTest_28 : decode cX9_readsTest 28 = .ok (.iconst 1, 1) := by decide +kernel
theorem dX9_readsTest_29 : decode cX9_readsTest 29 = .ok (.iaload, 1) := by decide +kernel
theorem dX9_readsTest_30 : decode cX9_readsTest 30 = .ok (.imul, 1) := by decide +kernel
theorem dX9_readsTest_31 : decode cX9_readsTest 31 = .ok (.istore_n 1, 1) := by decide +kernel
theorem dX9_readsTest_32 : decode cX9_readsTest 32 = .ok (.aload_n 0, 1) := by decide +kernel
theorem dX9_readsTest_33 : decode cX9_readsTest 33 = .ok (.getfield 35, 3) := by decide +kernel
theorem dX9_readsTest_36 : decode cX9_readsTest 36 = .ok (.iload_n 1, 1) := by decide +kernel
theorem dX9_readsTest_37 : decode cX9_readsTest 37 = .ok (.aload_n 0, 1) := by decide +kernel
theorem dX9_readsTest_38 : decode cX9_readsTest 38 = .ok (.aload_n 0, 1) := by decide +kernel
theorem dX9_readsTest_39 : decode cX9_readsTest 39 = .ok (.getfield 29, 3) := by decide +kernel
theorem dX9_readsTest_42 : decode cX9_readsTest 42 = .ok (.iconst 0, 1) := by decide +kernel
theorem dX9_readsTest_43 : decode cX9_readsTest 43 = .ok (.iaload, 1) := by decide +kernel
theorem dX9_readsTest_44 : decode cX9_readsTest 44 = .ok (.invokestatic 100, 3) := by decide +kernel
theorem dX9_readsTest_47 : decode cX9_readsTest 47 = .ok (.bipush (-2), 2) := by decide +kernel
theorem dX9_readsTest_49 : decode cX9_readsTest 49 = .ok (.iand, 1) := by decide +kernel
theorem dX9_readsTest_50 : decode cX9_readsTest 50 = .ok (.iconst 0, 1) := by decide +kernel
theorem dX9_readsTest_51 : decode cX9_readsTest 51 = .ok (.invokevirtual 104, 3) := by decide +kernel
theorem dX9_readsTest_54 : decode cX9_readsTest 54 = .ok (.iastore, 1) := by decide +kernel
theorem dX9_readsTest_55 : decode cX9_readsTest 55 = .ok (.aload_n 0, 1) := by decide +kernel
theorem dX9_readsTest_56 : decode cX9_readsTest 56 = .ok (.getfield 35, 3) := by decide +kernel
theorem dX9_readsTest_59 : decode cX9_readsTest 59 = .ok (.iload_n 1, 1) := by decide +kernel
theorem dX9_readsTest_60 : decode cX9_readsTest 60 = .ok (.iconst 1, 1) := by decide +kernel
theorem dX9_readsTest_61 : decode cX9_readsTest 61 = .ok (.iadd, 1) := by decide +kernel
theorem dX9_readsTest_62 : decode cX9_readsTest 62 = .ok (.aload_n 0, 1) := by decide +kernel
theorem dX9_readsTest_63 : decode cX9_readsTest 63 = .ok (.iconst 0, 1) := by decide +kernel
theorem dX9_readsTest_64 : decode cX9_readsTest 64 = .ok (.bipush 63, 2) := by decide +kernel
theorem dX9_readsTest_66 : decode cX9_readsTest 66 = .ok (.invokevirtual 93, 3) := by decide +kernel
theorem dX9_readsTest_69 : decode cX9_readsTest 69 = .ok (.iastore, 1) := by decide +kernel
theorem dX9_readsTest_70 : decode cX9_readsTest 70 = .ok (.aload_n 0, 1) := by decide +kernel
theorem dX9_readsTest_71 : decode cX9_readsTest 71 = .ok (.getfield 35, 3) := by decide +kernel
theorem dX9_readsTest_74 : decode cX9_readsTest 74 = .ok (.iload_n 1, 1) := by decide +kernel
theorem dX9_readsTest_75 : decode cX9_readsTest 75 = .ok (.iconst 2, 1) := by decide +kernel
theorem dX9_readsTest_76 : decode cX9_readsTest 76 = .ok (.iadd, 1) := by decide +kernel
theorem dX9_readsTest_77 : decode cX9_readsTest 77 = .ok (.aload_n 0, 1) := by decide +kernel
theorem dX9_readsTest_78 : decode cX9_readsTest 78 = .ok (.iconst 0, 1) := by decide +kernel
theorem dX9_readsTest_79 : decode cX9_readsTest 79 = .ok (.sipush 999, 3) := by decide +kernel
theorem dX9_readsTest_82 : decode cX9_readsTest 82 = .ok (.invokevirtual 93, 3) := by decide +kernel
theorem dX9_readsTest_85 : decode cX9_readsTest 85 = .ok (.iastore, 1) := by decide +kernel
theorem dX9_readsTest_86 : decode cX9_readsTest 86 = .ok (.aload_n 0, 1) := by decide +kernel
theorem dX9_readsTest_87 : decode cX9_readsTest 87 = .ok (.bipush 59, 2) := by decide +kernel
theorem dX9_readsTest_89 : decode cX9_readsTest 89 = .ok (.invokevirtual 97, 3) := by decide +kernel
theorem dX9_readsTest_92 : decode cX9_readsTest 92 = .ok (.aload_n 0, 1) := by decide +kernel
theorem dX9_readsTest_93 : decode cX9_readsTest 93 = .ok (.getfield 29, 3) := by decide +kernel
theorem dX9_readsTest_96 : decode cX9_readsTest 96 = .ok (.iconst 1, 1) := by decide +kernel
theorem dX9_readsTest_97 : decode cX9_readsTest 97 = .ok (.dup2, 1) := by decide +kernel
theorem dX9_readsTest_98 : decode cX9_readsTest 98 = .ok (.iaload, 1) := by decide +kernel
theorem dX9_readsTest_99 : decode cX9_readsTest 99 = .ok (.iconst 1, 1) := by decide +kernel
theorem dX9_readsTest_100 : decode cX9_readsTest 100 = .ok (.iadd, 1) := by decide +kernel
theorem dX9_readsTest_101 : decode cX9_readsTest 101 = .ok (.iastore, 1) := by decide +kernel
theorem dX9_readsTest_102 : decode cX9_readsTest 102 = .ok (.return_, 1) := by decide +kernel
theorem dX9_readsServant_0 : decode cX9_readsServant 0 = .ok (.aload_n 0, 1) := by decide +kernel
theorem dX9_readsServant_1 : decode cX9_readsServant 1 = .ok (.aload_n 0, 1) := by decide +kernel
theorem dX9_readsServant_2 : decode cX9_readsServant 2 = .ok (.getfield 29, 3) := by decide +kernel
theorem dX9_readsServant_5 : decode cX9_readsServant 5 = .ok (.iconst 2, 1) := by decide +kernel
theorem dX9_readsServant_6 : decode cX9_readsServant 6 = .ok (.iaload, 1) := by decide +kernel
theorem dX9_readsServant_7 : decode cX9_readsServant 7 = .ok (.iconst 5, 1) := by decide +kernel
theorem dX9_readsServant_8 : decode cX9_readsServant 8 = .ok (.if_icmp .ne 7, 3) := by decide +kernel
theorem dX9_readsServant_11 : decode cX9_readsServant 11 = .ok (.iconst 1, 1) := by decide +kernel
theorem dX9_readsServant_12 : decode cX9_readsServant 12 = .ok (.goto 4, 3) := by decide +kernel
theorem dX9_readsServant_15 : decode cX9_readsServant 15 = .ok (.iconst 0, 1) := by decide +kernel
theorem dX9_readsServant_16 : decode cX9_readsServant 16 = .ok (.invokevirtual 89, 3) := by decide +kernel
theorem dX9_readsServant_19 : decode cX9_readsServant 19 = .ok (.ifCond .eq 64, 3) := by decide +kernel
theorem dX9_readsServant_22 : decode cX9_readsServant 22 = .ok (.iconst 2, 1) := by decide +kernel
theorem dX9_readsServant_23 : decode cX9_readsServant 23 = .ok (.aload_n 0, 1) := by decide +kernel
theorem dX9_readsServant_24 : decode cX9_readsServant 24 = .ok (.getfield 29, 3) := by decide +kernel
theorem dX9_readsServant_27 : decode cX9_readsServant 27 = .ok (.iconst 2, 1) := by decide +kernel
theorem dX9_readsServant_28 : decode cX9_readsServant 28 = .ok (.iaload, 1) := by decide +kernel
theorem dX9_readsServant_29 : decode cX9_readsServant 29 = .ok (.imul, 1) := by decide +kernel
theorem dX9_readsServant_30 : decode cX9_readsServant 30 = .ok (.istore_n 1, 1) := by decide +kernel
theorem dX9_readsServant_31 : decode cX9_readsServant 31 = .ok (.aload_n 0, 1) := by decide +kernel
theorem dX9_readsServant_32 : decode cX9_readsServant 32 = .ok (.getfield 38, 3) := by decide +kernel
theorem dX9_readsServant_35 : decode cX9_readsServant 35 = .ok (.iload_n 1, 1) := by decide +kernel
theorem dX9_readsServant_36 : decode cX9_readsServant 36 = .ok (.aload_n 0, 1) := by decide +kernel
theorem dX9_readsServant_37 : decode cX9_readsServant 37 = .ok (.aload_n 0, 1) := by decide +kernel
theorem dX9_readsServant_38 : decode cX9_readsServant 38 = .ok (.getfield 29, 3) := by decide +kernel
theorem dX9_readsServant_41 : decode cX9_readsServant 41 = .ok (.iconst 0, 1) := by decide +kernel
theorem dX9_readsServant_42 : decode cX9_readsServant 42 = .ok (.iaload, 1) := by decide +kernel
theorem dX9_readsServant_43 : decode cX9_readsServant 43 = .ok (.invokestatic 100, 3) := by decide +kernel
theorem dX9_readsServant_46 : decode cX9_readsServant 46 = .ok (.iconst 1, 1) := by decide +kernel
theorem dX9_readsServant_47 : decode cX9_readsServant 47 = .ok (.invokevirtual 104, 3) := by decide +kernel
theorem dX9_readsServant_50 : decode cX9_readsServant 50 = .ok (.iastore, 1) := by decide +kernel
theorem dX9_readsServant_51 : decode cX9_readsServant 51 = .ok (.aload_n 0, 1) := by decide +kernel
theorem dX9_readsServant_52 : decode cX9_readsServant 52 = .ok (.getfield 38, 3) := by decide +kernel
theorem dX9_readsServant_55 : decode cX9_readsServant 55 = .ok (.iload_n 1, 1) := by decide +kernel
theorem dX9_readsServant_56 : decode cX9_readsServant 56 = .ok (.iconst 1, 1) := by decide +kernel
theorem dX9_readsServant_57 : decode cX9_readsServant 57 = .ok (.iadd, 1) := by decide +kernel
theorem dX9_readsServant_58 : decode cX9_readsServant 58 = .ok (.aload_n 0, 1) := by decide +kernel
theorem dX9_readsServant_59 : decode cX9_readsServant 59 = .ok (.iconst 0, 1) := by decide +kernel
theorem dX9_readsServant_60 : decode cX9_readsServant 60 = .ok (.sipush 999, 3) := by decide +kernel
theorem dX9_readsServant_63 : decode cX9_readsServant 63 = .ok (.invokevirtual 93, 3) := by decide +kernel
theorem dX9_readsServant_66 : decode cX9_readsServant 66 = .ok (.iastore, 1) := by decide +kernel
theorem dX9_readsServant_67 : decode cX9_readsServant 67 = .ok (.aload_n 0, 1) := by decide +kernel
theorem dX9_readsServant_68 : decode cX9_readsServant 68 = .ok (.bipush 59, 2) := by decide +kernel
theorem dX9_readsServant_70 : decode cX9_readsServant 70 = .ok (.invokevirtual 97, 3) := by decide +kernel
theorem dX9_readsServant_73 : decode cX9_readsServant 73 = .ok (.aload_n 0, 1) := by decide +kernel
theorem dX9_readsServant_74 : decode cX9_readsServant 74 = .ok (.getfield 29, 3) := by decide +kernel
theorem dX9_readsServant_77 : decode cX9_readsServant 77 = .ok (.iconst 2, 1) := by decide +kernel
theorem dX9_readsServant_78 : decode cX9_readsServant 78 = .ok (.dup2, 1) := by decide +kernel
theorem dX9_readsServant_79 : decode cX9_readsServant 79 = .ok (.iaload, 1) := by decide +kernel
theorem dX9_readsServant_80 : decode cX9_readsServant 80 = .ok (.iconst 1, 1) := by decide +kernel
theorem dX9_readsServant_81 : decode cX9_readsServant 81 = .ok (.iadd, 1) := by decide +kernel
theorem dX9_readsServant_82 : decode cX9_readsServant 82 = .ok (.iastore, 1) := by decide +kernel
theorem dX9_readsServant_83 : decode cX9_readsServant 83 = .ok (.return_, 1) := by decide +kernel
theorem dX9_readsPay_0 : decode cX9_readsPay 0 = .ok (.aload_n 0, 1) := by decide +kernel
theorem dX9_readsPay_1 : decode cX9_readsPay 1 = .ok (.aload_n 0, 1) := by decide +kernel
theorem dX9_readsPay_2 : decode cX9_readsPay 2 = .ok (.getfield 29, 3) := by decide +kernel
theorem dX9_readsPay_5 : decode cX9_readsPay 5 = .ok (.iconst 3, 1) := by decide +kernel
theorem dX9_readsPay_6 : decode cX9_readsPay 6 = .ok (.iaload, 1) := by decide +kernel
theorem dX9_readsPay_7 : decode cX9_readsPay 7 = .ok (.ifCond .le 7, 3) := by decide +kernel
theorem dX9_readsPay_10 : decode cX9_readsPay 10 = .ok (.iconst 1, 1) := by decide +kernel
theorem dX9_readsPay_11 : decode cX9_readsPay 11 = .ok (.goto 4, 3) := by decide +kernel
theorem dX9_readsPay_14 : decode cX9_readsPay 14 = .ok (.iconst 0, 1) := by decide +kernel
theorem dX9_readsPay_15 : decode cX9_readsPay 15 = .ok (.invokevirtual 89, 3) := by decide +kernel
theorem dX9_readsPay_18 : decode cX9_readsPay 18 = .ok (.ifCond .eq 35, 3) := by decide +kernel
theorem dX9_readsPay_21 : decode cX9_readsPay 21 = .ok (.aload_n 0, 1) := by decide +kernel
theorem dX9_readsPay_22 : decode cX9_readsPay 22 = .ok (.getfield 29, 3) := by decide +kernel
theorem dX9_readsPay_25 : decode cX9_readsPay 25 = .ok (.iconst 3, 1) := by decide +kernel
theorem dX9_readsPay_26 : decode cX9_readsPay 26 = .ok (.aload_n 0, 1) := by decide +kernel
theorem dX9_readsPay_27 : decode cX9_readsPay 27 = .ok (.iconst 1, 1) := by decide +kernel
theorem dX9_readsPay_28 : decode cX9_readsPay 28 = .ok (.bipush 99, 2) := by decide +kernel
theorem dX9_readsPay_30 : decode cX9_readsPay 30 = .ok (.invokevirtual 93, 3) := by decide +kernel
theorem dX9_readsPay_33 : decode cX9_readsPay 33 = .ok (.iastore, 1) := by decide +kernel
theorem dX9_readsPay_34 : decode cX9_readsPay 34 = .ok (.aload_n 0, 1) := by decide +kernel
theorem dX9_readsPay_35 : decode cX9_readsPay 35 = .ok (.getfield 29, 3) := by decide +kernel
theorem dX9_readsPay_38 : decode cX9_readsPay 38 = .ok (.iconst 4, 1) := by decide +kernel
theorem dX9_readsPay_39 : decode cX9_readsPay 39 = .ok (.aload_n 0, 1) := by decide +kernel
theorem dX9_readsPay_40 : decode cX9_readsPay 40 = .ok (.iconst 1, 1) := by decide +kernel
theorem dX9_readsPay_41 : decode cX9_readsPay 41 = .ok (.bipush 30, 2) := by decide +kernel
theorem dX9_readsPay_43 : decode cX9_readsPay 43 = .ok (.invokevirtual 93, 3) := by decide +kernel
theorem dX9_readsPay_46 : decode cX9_readsPay 46 = .ok (.iastore, 1) := by decide +kernel
theorem dX9_readsPay_47 : decode cX9_readsPay 47 = .ok (.aload_n 0, 1) := by decide +kernel
theorem dX9_readsPay_48 : decode cX9_readsPay 48 = .ok (.bipush 59, 2) := by decide +kernel
theorem dX9_readsPay_50 : decode cX9_readsPay 50 = .ok (.invokevirtual 97, 3) := by decide +kernel
theorem dX9_readsPay_53 : decode cX9_readsPay 53 = .ok (.return_, 1) := by decide +kernel
theorem dX9_reads_0 : decode cX9_reads 0 = .ok (.aload_n 0, 1) := by decide +kernel
theorem dX9_reads_1 : decode cX9_reads 1 = .ok (.getfield 75, 3) := by decide +kernel
theorem dX9_reads_4 : decode cX9_reads 4 = .ok (.ifCond .ne 104, 3) := by decide +kernel
theorem dX9_reads_7 : decode cX9_reads 7 = .ok (.aload_n 0, 1) := by decide +kernel
theorem dX9_reads_8 : decode cX9_reads 8 = .ok (.invokevirtual 78, 3) := by decide +kernel
theorem dX9_reads_11 : decode cX9_reads 11 = .ok (.iconst (-1), 1) := by decide +kernel
theorem dX9_reads_12 : decode cX9_reads 12 = .ok (.if_icmp .eq 96, 3) := by decide +kernel
theorem dX9_reads_15 : decode cX9_reads 15 = .ok (.aload_n 0, 1) := by decide +kernel
theorem dX9_reads_16 : decode cX9_reads 16 = .ok (.invokevirtual 78, 3) := by decide +kernel
theorem dX9_reads_19 : decode cX9_reads 19 = .ok (.bipush 119, 2) := by decide +kernel
theorem dX9_reads_21 : decode cX9_reads 21 = .ok (.if_icmp .ne 10, 3) := by decide +kernel
theorem dX9_reads_24 : decode cX9_reads 24 = .ok (.aload_n 0, 1) := by decide +kernel
theorem dX9_reads_25 : decode cX9_reads 25 = .ok (.invokevirtual 107, 3) := by decide +kernel
theorem dX9_reads_28 : decode cX9_reads 28 = .ok (.goto 73, 3) := by decide +kernel
theorem dX9_reads_31 : decode cX9_reads 31 = .ok (.aload_n 0, 1) := by decide +kernel
theorem dX9_reads_32 : decode cX9_reads 32 = .ok (.getfield 29, 3) := by decide +kernel
theorem dX9_reads_35 : decode cX9_reads 35 = .ok (.iconst 0, 1) := by decide +kernel
theorem dX9_reads_36 : decode cX9_reads 36 = .ok (.iaload, 1) := by decide +kernel
theorem dX9_reads_37 : decode cX9_reads 37 = .ok (.ifCond .ne 11, 3) := by decide +kernel
theorem dX9_reads_40 : decode cX9_reads 40 = .ok (.aload_n 0, 1) := by decide +kernel
theorem dX9_reads_41 : decode cX9_reads 41 = .ok (.iconst 1, 1) := by decide +kernel
theorem dX9_reads_42 : decode cX9_reads 42 = .ok (.invokevirtual 85, 3) := by decide +kernel
theorem dX9_reads_45 : decode cX9_reads 45 = .ok (.goto 56, 3) := by decide +kernel
theorem dX9_reads_48 : decode cX9_reads 48 = .ok (.aload_n 0, 1) := by decide +kernel
theorem dX9_reads_49 : decode cX9_reads 49 = .ok (.invokevirtual 78, 3) := by decide +kernel
theorem dX9_reads_52 : decode cX9_reads 52 = .ok (.bipush 116, 2) := by decide +kernel
theorem dX9_reads_54 : decode cX9_reads 54 = .ok (.if_icmp .ne 10, 3) := by decide +kernel
theorem dX9_reads_57 : decode cX9_reads 57 = .ok (.aload_n 0, 1) := by decide +kernel
theorem dX9_reads_58 : decode cX9_reads 58 = .ok (.invokevirtual 110, 3) := by decide +kernel
theorem dX9_reads_61 : decode cX9_reads 61 = .ok (.goto 40, 3) := by decide +kernel
theorem dX9_reads_64 : decode cX9_reads 64 = .ok (.aload_n 0, 1) := by decide +kernel
theorem dX9_reads_65 : decode cX9_reads 65 = .ok (.invokevirtual 78, 3) := by decide +kernel
theorem dX9_reads_68 : decode cX9_reads 68 = .ok (.bipush 115, 2) := by decide +kernel
theorem dX9_reads_70 : decode cX9_reads 70 = .ok (.if_icmp .ne 10, 3) := by decide +kernel
theorem dX9_reads_73 : decode cX9_reads 73 = .ok (.aload_n 0, 1) := by decide +kernel
theorem dX9_reads_74 : decode cX9_reads 74 = .ok (.invokevirtual 113, 3) := by decide +kernel
theorem dX9_reads_77 : decode cX9_reads 77 = .ok (.goto 24, 3) := by decide +kernel
theorem dX9_reads_80 : decode cX9_reads 80 = .ok (.aload_n 0, 1) := by decide +kernel
theorem dX9_reads_81 : decode cX9_reads 81 = .ok (.invokevirtual 78, 3) := by decide +kernel
theorem dX9_reads_84 : decode cX9_reads 84 = .ok (.bipush 112, 2) := by decide +kernel
theorem dX9_reads_86 : decode cX9_reads 86 = .ok (.if_icmp .ne 10, 3) := by decide +kernel
theorem dX9_reads_89 : decode cX9_reads 89 = .ok (.aload_n 0, 1) := by decide +kernel
theorem dX9_reads_90 : decode cX9_reads 90 = .ok (.invokevirtual 116, 3) := by decide +kernel
theorem dX9_reads_93 : decode cX9_reads 93 = .ok (.goto 8, 3) := by decide +kernel
theorem dX9_reads_96 : decode cX9_reads 96 = .ok (.aload_n 0, 1) := by decide +kernel
theorem dX9_reads_97 : decode cX9_reads 97 = .ok (.iconst 1, 1) := by decide +kernel
theorem dX9_reads_98 : decode cX9_reads 98 = .ok (.invokevirtual 85, 3) := by decide +kernel
theorem dX9_reads_101 : decode cX9_reads 101 = .ok (.aload_n 0, 1) := by decide +kernel
theorem dX9_reads_102 : decode cX9_reads 102 = .ok (.invokevirtual 82, 3) := by decide +kernel
theorem dX9_reads_105 : decode cX9_reads 105 = .ok (.goto (-105), 3) := by decide +kernel
theorem dX9_reads_108 : decode cX9_reads 108 = .ok (.return_, 1) := by decide +kernel
theorem dX9_copies_0 : decode cX9_copies 0 = .ok (.iconst 0, 1) := by decide +kernel
theorem dX9_copies_1 : decode cX9_copies 1 = .ok (.istore 5, 2) := by decide +kernel
theorem dX9_copies_3 : decode cX9_copies 3 = .ok (.iload 5, 2) := by decide +kernel
theorem dX9_copies_5 : decode cX9_copies 5 = .ok (.iload 4, 2) := by decide +kernel
theorem dX9_copies_7 : decode cX9_copies 7 = .ok (.if_icmp .ge 21, 3) := by decide +kernel
theorem dX9_copies_10 : decode cX9_copies 10 = .ok (.aload_n 2, 1) := by decide +kernel
theorem dX9_copies_11 : decode cX9_copies 11 = .ok (.iload_n 3, 1) := by decide +kernel
theorem dX9_copies_12 : decode cX9_copies 12 = .ok (.iload 5, 2) := by decide +kernel
theorem dX9_copies_14 : decode cX9_copies 14 = .ok (.iadd, 1) := by decide +kernel
theorem dX9_copies_15 : decode cX9_copies 15 = .ok (.aload_n 0, 1) := by decide +kernel
theorem dX9_copies_16 : decode cX9_copies 16 = .ok (.iload_n 1, 1) := by decide +kernel
theorem dX9_copies_17 : decode cX9_copies 17 = .ok (.iload 5, 2) := by decide +kernel
theorem dX9_copies_19 : decode cX9_copies 19 = .ok (.iadd, 1) := by decide +kernel
theorem dX9_copies_20 : decode cX9_copies 20 = .ok (.iaload, 1) := by decide +kernel
theorem dX9_copies_21 : decode cX9_copies 21 = .ok (.iastore, 1) := by decide +kernel
theorem dX9_copies_22 : decode cX9_copies 22 = .ok (.iinc 5 1, 3) := by decide +kernel
theorem dX9_copies_25 : decode cX9_copies 25 = .ok (.goto (-22), 3) := by decide +kernel
theorem dX9_copies_28 : decode cX9_copies 28 = .ok (.return_, 1) := by decide +kernel
theorem dX9_castle_0 : decode cX9_castle 0 = .ok (.aload_n 0, 1) := by decide +kernel
theorem dX9_castle_1 : decode cX9_castle 1 = .ok (.iconst 0, 1) := by decide +kernel
theorem dX9_castle_2 : decode cX9_castle 2 = .ok (.putfield 72, 3) := by decide +kernel
theorem dX9_castle_5 : decode cX9_castle 5 = .ok (.aload_n 0, 1) := by decide +kernel
theorem dX9_castle_6 : decode cX9_castle 6 = .ok (.iconst 0, 1) := by decide +kernel
theorem dX9_castle_7 : decode cX9_castle 7 = .ok (.putfield 75, 3) := by decide +kernel
theorem dX9_castle_10 : decode cX9_castle 10 = .ok (.iconst 0, 1) := by decide +kernel
theorem dX9_castle_11 : decode cX9_castle 11 = .ok (.istore_n 1, 1) := by decide +kernel
theorem dX9_castle_12 : decode cX9_castle 12 = .ok (.iload_n 1, 1) := by decide +kernel
theorem dX9_castle_13 : decode cX9_castle 13 = .ok (.bipush 18, 2) := by decide +kernel
theorem dX9_castle_15 : decode cX9_castle 15 = .ok (.if_icmp .ge 45, 3) := by decide +kernel
theorem dX9_castle_18 : decode cX9_castle 18 = .ok (.aload_n 0, 1) := by decide +kernel
theorem dX9_castle_19 : decode cX9_castle 19 = .ok (.getfield 29, 3) := by decide +kernel
theorem dX9_castle_22 : decode cX9_castle 22 = .ok (.iload_n 1, 1) := by decide +kernel
theorem dX9_castle_23 : decode cX9_castle 23 = .ok (.iconst 5, 1) := by decide +kernel
theorem dX9_castle_24 : decode cX9_castle 24 = .ok (.irem, 1) := by decide +kernel
theorem dX9_castle_25 : decode cX9_castle 25 = .ok (.iconst 0, 1) := by decide +kernel
theorem dX9_castle_26 : decode cX9_castle 26 = .ok (.iastore, 1) := by decide +kernel
theorem dX9_castle_27 : decode cX9_castle 27 = .ok (.aload_n 0, 1) := by decide +kernel
theorem dX9_castle_28 : decode cX9_castle 28 = .ok (.getfield 32, 3) := by decide +kernel
theorem dX9_castle_31 : decode cX9_castle 31 = .ok (.iload_n 1, 1) := by decide +kernel
theorem dX9_castle_32 : decode cX9_castle 32 = .ok (.bipush 8, 2) := by decide +kernel
theorem dX9_castle_34 : decode cX9_castle 34 = .ok (.irem, 1) := by decide +kernel
theorem dX9_castle_35 : decode cX9_castle 35 = .ok (.iconst 0, 1) := by decide +kernel
theorem dX9_castle_36 : decode cX9_castle 36 = .ok (.iastore, 1) := by decide +kernel
theorem dX9_castle_37 : decode cX9_castle 37 = .ok (.aload_n 0, 1) := by decide +kernel
theorem dX9_castle_38 : decode cX9_castle 38 = .ok (.getfield 35, 3) := by decide +kernel
theorem dX9_castle_41 : decode cX9_castle 41 = .ok (.iload_n 1, 1) := by decide +kernel
theorem dX9_castle_42 : decode cX9_castle 42 = .ok (.iconst 0, 1) := by decide +kernel
theorem dX9_castle_43 : decode cX9_castle 43 = .ok (.iastore, 1) := by decide +kernel
theorem dX9_castle_44 : decode cX9_castle 44 = .ok (.aload_n 0, 1) := by decide +kernel
theorem dX9_castle_45 : decode cX9_castle 45 = .ok (.getfield 38, 3) := by decide +kernel
theorem dX9_castle_48 : decode cX9_castle 48 = .ok (.iload_n 1, 1) := by decide +kernel
theorem dX9_castle_49 : decode cX9_castle 49 = .ok (.bipush 10, 2) := by decide +kernel
theorem dX9_castle_51 : decode cX9_castle 51 = .ok (.irem, 1) := by decide +kernel
theorem dX9_castle_52 : decode cX9_castle 52 = .ok (.iconst 0, 1) := by decide +kernel
theorem dX9_castle_53 : decode cX9_castle 53 = .ok (.iastore, 1) := by decide +kernel
theorem dX9_castle_54 : decode cX9_castle 54 = .ok (.iinc 1 1, 3) := by decide +kernel
theorem dX9_castle_57 : decode cX9_castle 57 = .ok (.goto (-45), 3) := by decide +kernel
theorem dX9_castle_60 : decode cX9_castle 60 = .ok (.aload_n 0, 1) := by decide +kernel
theorem dX9_castle_61 : decode cX9_castle 61 = .ok (.invokevirtual 82, 3) := by decide +kernel
theorem dX9_castle_64 : decode cX9_castle 64 = .ok (.aload_n 0, 1) := by decide +kernel
theorem dX9_castle_65 : decode cX9_castle 65 = .ok (.invokevirtual 119, 3) := by decide +kernel
theorem dX9_castle_68 : decode cX9_castle 68 = .ok (.aload_n 0, 1) := by decide +kernel
theorem dX9_castle_69 : decode cX9_castle 69 = .ok (.iconst 0, 1) := by decide +kernel
theorem dX9_castle_70 : decode cX9_castle 70 = .ok (.putfield 68, 3) := by decide +kernel
theorem dX9_castle_73 : decode cX9_castle 73 = .ok (.aload_n 0, 1) := by decide +kernel
theorem dX9_castle_74 : decode cX9_castle 74 = .ok (.aload_n 0, 1) := by decide +kernel
theorem dX9_castle_75 : decode cX9_castle 75 = .ok (.getfield 75, 3) := by decide +kernel
theorem dX9_castle_78 : decode cX9_castle 78 = .ok (.ifCond .ne 7, 3) := by decide +kernel
theorem dX9_castle_81 : decode cX9_castle 81 = .ok (.iconst (-1), 1) := by decide +kernel
theorem dX9_castle_82 : decode cX9_castle 82 = .ok (.goto 7, 3) := by decide +kernel
theorem dX9_castle_85 : decode cX9_castle 85 = .ok (.aload_n 0, 1) := by decide +kernel
theorem dX9_castle_86 : decode cX9_castle 86 = .ok (.getfield 72, 3) := by decide +kernel
theorem dX9_castle_89 : decode cX9_castle 89 = .ok (.putfield 13, 3) := by decide +kernel
theorem dX9_castle_92 : decode cX9_castle 92 = .ok (.aload_n 0, 1) := by decide +kernel
theorem dX9_castle_93 : decode cX9_castle 93 = .ok (.getfield 75, 3) := by decide +kernel
theorem dX9_castle_96 : decode cX9_castle 96 = .ok (.ifCond .eq 11, 3) := by decide +kernel
theorem dX9_castle_99 : decode cX9_castle 99 = .ok (.bipush (-10), 2) := by decide +kernel
theorem dX9_castle_101 : decode cX9_castle 101 = .ok (.aload_n 0, 1) := by decide +kernel
theorem dX9_castle_102 : decode cX9_castle 102 = .ok (.getfield 75, 3) := by decide +kernel
theorem dX9_castle_105 : decode cX9_castle 105 = .ok (.isub, 1) := by decide +kernel
theorem dX9_castle_106 : decode cX9_castle 106 = .ok (.ireturn, 1) := by decide +kernel
theorem dX9_castle_107 : decode cX9_castle 107 = .ok (.aload_n 0, 1) := by decide +kernel
theorem dX9_castle_108 : decode cX9_castle 108 = .ok (.getfield 29, 3) := by decide +kernel
theorem dX9_castle_111 : decode cX9_castle 111 = .ok (.iconst 0, 1) := by decide +kernel
theorem dX9_castle_112 : decode cX9_castle 112 = .ok (.iaload, 1) := by decide +kernel
theorem dX9_castle_113 : decode cX9_castle 113 = .ok (.ifCond .le 26, 3) := by decide +kernel
theorem dX9_castle_116 : decode cX9_castle 116 = .ok (.aload_n 0, 1) := by decide +kernel
theorem dX9_castle_117 : decode cX9_castle 117 = .ok (.getfield 29, 3) := by decide +kernel
theorem dX9_castle_120 : decode cX9_castle 120 = .ok (.iconst 3, 1) := by decide +kernel
theorem dX9_castle_121 : decode cX9_castle 121 = .ok (.iaload, 1) := by decide +kernel
theorem dX9_castle_122 : decode cX9_castle 122 = .ok (.ifCond .ne 17, 3) := by decide +kernel
theorem dX9_castle_125 : decode cX9_castle 125 = .ok (.aload_n 0, 1) := by decide +kernel
theorem dX9_castle_126 : decode cX9_castle 126 = .ok (.getfield 29, 3) := by decide +kernel
theorem dX9_castle_129 : decode cX9_castle 129 = .ok (.iconst 3, 1) := by decide +kernel
theorem dX9_castle_130 : decode cX9_castle 130 = .ok (.iconst 1, 1) := by decide +kernel
theorem dX9_castle_131 : decode cX9_castle 131 = .ok (.iastore, 1) := by decide +kernel
theorem dX9_castle_132 : decode cX9_castle 132 = .ok (.aload_n 0, 1) := by decide +kernel
theorem dX9_castle_133 : decode cX9_castle 133 = .ok (.getfield 29, 3) := by decide +kernel
theorem dX9_castle_136 : decode cX9_castle 136 = .ok (.iconst 4, 1) := by decide +kernel
theorem dX9_castle_137 : decode cX9_castle 137 = .ok (.iconst 1, 1) := by decide +kernel
theorem dX9_castle_138 : decode cX9_castle 138 = .ok (.iastore, 1) := by decide +kernel
theorem dX9_castle_139 : decode cX9_castle 139 = .ok (.aload_n 0, 1) := by decide +kernel
theorem dX9_castle_140 : decode cX9_castle 140 = .ok (.getfield 29, 3) := by decide +kernel
theorem dX9_castle_143 : decode cX9_castle 143 = .ok (.iconst 0, 1) := by decide +kernel
theorem dX9_castle_144 : decode cX9_castle 144 = .ok (.aload_n 0, 1) := by decide +kernel
theorem dX9_castle_145 : decode cX9_castle 145 = .ok (.getfield 17, 3) := by decide +kernel
theorem dX9_castle_148 : decode cX9_castle 148 = .ok (.iconst 0, 1) := by decide +kernel
theorem dX9_castle_149 : decode cX9_castle 149 = .ok (.iconst 5, 1) := by decide +kernel
theorem dX9_castle_150 : decode cX9_castle 150 = .ok (.invokestatic 122, 3) := by decide +kernel
theorem dX9_castle_153 : decode cX9_castle 153 = .ok (.aload_n 0, 1) := by decide +kernel
theorem dX9_castle_154 : decode cX9_castle 154 = .ok (.getfield 32, 3) := by decide +kernel
theorem dX9_castle_157 : decode cX9_castle 157 = .ok (.iconst 0, 1) := by decide +kernel
theorem dX9_castle_158 : decode cX9_castle 158 = .ok (.aload_n 0, 1) := by decide +kernel
theorem dX9_castle_159 : decode cX9_castle 159 = .ok (.getfield 20, 3) := by decide +kernel
theorem dX9_castle_162 : decode cX9_castle 162 = .ok (.iconst 0, 1) := by decide +kernel
theorem dX9_castle_163 : decode cX9_castle 163 = .ok (.bipush 8, 2) := by decide +kernel
theorem dX9_castle_165 : decode cX9_castle 165 = .ok (.invokestatic 122, 3) := by decide +kernel
theorem dX9_castle_168 : decode cX9_castle 168 = .ok (.aload_n 0, 1) := by decide +kernel
theorem dX9_castle_169 : decode cX9_castle 169 = .ok (.getfield 35, 3) := by decide +kernel
theorem dX9_castle_172 : decode cX9_castle 172 = .ok (.iconst 0, 1) := by decide +kernel
theorem dX9_castle_173 : decode cX9_castle 173 = .ok (.aload_n 0, 1) := by decide +kernel
theorem dX9_castle_174 : decode cX9_castle 174 = .ok (.getfield 23, 3) := by decide +kernel
theorem dX9_castle_177 : decode cX9_castle 177 = .ok (.iconst 0, 1) := by decide +kernel
theorem dX9_castle_178 : decode cX9_castle 178 = .ok (.bipush 18, 2) := by decide +kernel
theorem dX9_castle_180 : decode cX9_castle 180 = .ok (.invokestatic 122, 3) := by decide +kernel
theorem dX9_castle_183 : decode cX9_castle 183 = .ok (.aload_n 0, 1) := by decide +kernel
theorem dX9_castle_184 : decode cX9_castle 184 = .ok (.getfield 38, 3) := by decide +kernel
theorem dX9_castle_187 : decode cX9_castle 187 = .ok (.iconst 0, 1) := by decide +kernel
theorem dX9_castle_188 : decode cX9_castle 188 = .ok (.aload_n 0, 1) := by decide +kernel
theorem dX9_castle_189 : decode cX9_castle 189 = .ok (.getfield 26, 3) := by decide +kernel
theorem dX9_castle_192 : decode cX9_castle 192 = .ok (.iconst 0, 1) := by decide +kernel
theorem dX9_castle_193 : decode cX9_castle 193 = .ok (.bipush 10, 2) := by decide +kernel
theorem dX9_castle_195 : decode cX9_castle 195 = .ok (.invokestatic 122, 3) := by decide +kernel
theorem dX9_castle_198 : decode cX9_castle 198 = .ok (.iconst 0, 1) := by decide +kernel
theorem dX9_castle_199 : decode cX9_castle 199 = .ok (.istore_n 1, 1) := by decide +kernel
theorem dX9_castle_200 : decode cX9_castle 200 = .ok (.iload_n 1, 1) := by decide +kernel
theorem dX9_castle_201 : decode cX9_castle 201 = .ok (.bipush 21, 2) := by decide +kernel
theorem dX9_castle_203 : decode cX9_castle 203 = .ok (.if_icmp .ge 16, 3) := by decide +kernel
theorem dX9_castle_206 : decode cX9_castle 206 = .ok (.aload_n 0, 1) := by decide +kernel
theorem dX9_castle_207 : decode cX9_castle 207 = .ok (.getfield 41, 3) := by decide +kernel
theorem dX9_castle_210 : decode cX9_castle 210 = .ok (.iload_n 1, 1) := by decide +kernel
theorem dX9_castle_211 : decode cX9_castle 211 = .ok (.iconst 0, 1) := by decide +kernel
theorem dX9_castle_212 : decode cX9_castle 212 = .ok (.iastore, 1) := by decide +kernel
theorem dX9_castle_213 : decode cX9_castle 213 = .ok (.iinc 1 1, 3) := by decide +kernel
theorem dX9_castle_216 : decode cX9_castle 216 = .ok (.goto (-16), 3) := by decide +kernel
theorem dX9_castle_219 : decode cX9_castle 219 = .ok (.aload_n 0, 1) := by decide +kernel
theorem dX9_castle_220 : decode cX9_castle 220 = .ok (.getfield 41, 3) := by decide +kernel
theorem dX9_castle_223 : decode cX9_castle 223 = .ok (.iconst 2, 1) := by decide +kernel
theorem dX9_castle_224 : decode cX9_castle 224 = .ok (.aload_n 0, 1) := by decide +kernel
theorem dX9_castle_225 : decode cX9_castle 225 = .ok (.getfield 17, 3) := by decide +kernel
theorem dX9_castle_228 : decode cX9_castle 228 = .ok (.iconst 0, 1) := by decide +kernel
theorem dX9_castle_229 : decode cX9_castle 229 = .ok (.iaload, 1) := by decide +kernel
theorem dX9_castle_230 : decode cX9_castle 230 = .ok (.ifCond .le 7, 3) := by decide +kernel
theorem dX9_castle_233 : decode cX9_castle 233 = .ok (.iconst 1, 1) := by decide +kernel
theorem dX9_castle_234 : decode cX9_castle 234 = .ok (.goto 4, 3) := by decide +kernel
theorem dX9_castle_237 : decode cX9_castle 237 = .ok (.iconst 0, 1) := by decide +kernel
theorem dX9_castle_238 : decode cX9_castle 238 = .ok (.iastore, 1) := by decide +kernel
theorem dX9_castle_239 : decode cX9_castle 239 = .ok (.aload_n 0, 1) := by decide +kernel
theorem dX9_castle_240 : decode cX9_castle 240 = .ok (.getfield 41, 3) := by decide +kernel
theorem dX9_castle_243 : decode cX9_castle 243 = .ok (.iconst 3, 1) := by decide +kernel
theorem dX9_castle_244 : decode cX9_castle 244 = .ok (.aload_n 0, 1) := by decide +kernel
theorem dX9_castle_245 : decode cX9_castle 245 = .ok (.getfield 41, 3) := by decide +kernel
theorem dX9_castle_248 : decode cX9_castle 248 = .ok (.iconst 2, 1) := by decide +kernel
theorem dX9_castle_249 : decode cX9_castle 249 = .ok (.iaload, 1) := by decide +kernel
theorem dX9_castle_250 : decode cX9_castle 250 = .ok (.iastore, 1) := by decide +kernel
theorem dX9_castle_251 : decode cX9_castle 251 = .ok (.iconst 0, 1) := by decide +kernel
theorem dX9_castle_252 : decode cX9_castle 252 = .ok (.istore_n 1, 1) := by decide +kernel
theorem dX9_castle_253 : decode cX9_castle 253 = .ok (.iload_n 1, 1) := by decide +kernel
theorem dX9_castle_254 : decode cX9_castle 254 = .ok (.aload_n 0, 1) := by decide +kernel
theorem dX9_castle_255 : decode cX9_castle 255 = .ok (.getfield 17, 3) := by decide +kernel
theorem dX9_castle_258 : decode cX9_castle 258 = .ok (.iconst 2, 1) := by decide +kernel
theorem dX9_castle_259 : decode cX9_castle 259 = .ok (.iaload, 1) := by decide +kernel
theorem dX9_castle_260 : decode cX9_castle 260 = .ok (.if_icmp .ge 28, 3) := by decide +kernel
theorem dX9_castle_263 : decode cX9_castle 263 = .ok (.aload_n 0, 1) := by decide +kernel
theorem dX9_castle_264 : decode cX9_castle 264 = .ok (.getfield 41, 3) := by decide +kernel
theorem dX9_castle_267 : decode cX9_castle 267 = .ok (.bipush 6, 2) := by decide +kernel
theorem dX9_castle_269 : decode cX9_castle 269 = .ok (.iconst 3, 1) := by decide +kernel
theorem dX9_castle_270 : decode cX9_castle 270 = .ok (.iload_n 1, 1) := by decide +kernel
theorem dX9_castle_271 : decode cX9_castle 271 = .ok (.imul, 1) := by decide +kernel
theorem dX9_castle_272 : decode cX9_castle 272 = .ok (.iadd, 1) := by decide +kernel
theorem dX9_castle_273 : decode cX9_castle 273 = .ok (.aload_n 0, 1) := by decide +kernel
theorem dX9_castle_274 : decode cX9_castle 274 = .ok (.getfield 26, 3) := by decide +kernel
theorem dX9_castle_277 : decode cX9_castle 277 = .ok (.iconst 2, 1) := by decide +kernel
theorem dX9_castle_278 : decode cX9_castle 278 = .ok (.iload_n 1, 1) := by decide +kernel
theorem dX9_castle_279 : decode cX9_castle 279 = .ok (.imul, 1) := by decide +kernel
theorem dX9_castle_280 : decode cX9_castle 280 = .ok (.iaload, 1) := by decide +kernel
theorem dX9_castle_281 : decode cX9_castle 281 = .ok (.iastore, 1) := by decide +kernel
theorem dX9_castle_282 : decode cX9_castle 282 = .ok (.iinc 1 1, 3) := by decide +kernel
theorem dX9_castle_285 : decode cX9_castle 285 = .ok (.goto (-32), 3) := by decide +kernel
theorem dX9_castle_288 : decode cX9_castle 288 = .ok (.aload_n 0, 1) := by decide +kernel
theorem dX9_castle_289 : decode cX9_castle 289 = .ok (.iconst 0, 1) := by decide +kernel
theorem dX9_castle_290 : decode cX9_castle 290 = .ok (.putfield 126, 3) := by decide +kernel
theorem dX9_castle_293 : decode cX9_castle 293 = .ok (.aload_n 0, 1) := by decide +kernel
theorem dX9_castle_294 : decode cX9_castle 294 = .ok (.iconst 0, 1) := by decide +kernel
theorem dX9_castle_295 : decode cX9_castle 295 = .ok (.putfield 129, 3) := by decide +kernel
theorem dX9_castle_298 : decode cX9_castle 298 = .ok (.aload_n 0, 1) := by decide +kernel
theorem dX9_castle_299 : decode cX9_castle 299 = .ok (.iconst 0, 1) := by decide +kernel
theorem dX9_castle_300 : decode cX9_castle 300 = .ok (.putfield 132, 3) := by decide +kernel
theorem dX9_castle_303 : decode cX9_castle 303 = .ok (.aload_n 0, 1) := by decide +kernel
theorem dX9_castle_304 : decode cX9_castle 304 = .ok (.getfield 53, 3) := by decide +kernel
theorem dX9_castle_307 : decode cX9_castle 307 = .ok (.iconst 0, 1) := by decide +kernel
theorem dX9_castle_308 : decode cX9_castle 308 = .ok (.iconst 0, 1) := by decide +kernel
theorem dX9_castle_309 : decode cX9_castle 309 = .ok (.bastore, 1) := by decide +kernel
theorem dX9_castle_310 : decode cX9_castle 310 = .ok (.aload_n 0, 1) := by decide +kernel
theorem dX9_castle_311 : decode cX9_castle 311 = .ok (.getfield 53, 3) := by decide +kernel
theorem dX9_castle_314 : decode cX9_castle 314 = .ok (.iconst 1, 1) := by decide +kernel
theorem dX9_castle_315 : decode cX9_castle 315 = .ok (.iconst 0, 1) := by decide +kernel
theorem dX9_castle_316 : decode cX9_castle 316 = .ok (.bastore, 1) := by decide +kernel
theorem dX9_castle_317 : decode cX9_castle 317 = .ok (.aload_n 0, 1) := by decide +kernel
theorem dX9_castle_318 : decode cX9_castle 318 = .ok (.getfield 17, 3) := by decide +kernel
theorem dX9_castle_321 : decode cX9_castle 321 = .ok (.iconst 0, 1) := by decide +kernel
theorem dX9_castle_322 : decode cX9_castle 322 = .ok (.iaload, 1) := by decide +kernel
theorem dX9_castle_323 : decode cX9_castle 323 = .ok (.ireturn, 1) := by decide +kernel
theorem dX9_fault_0 : decode cX9_fault 0 = .ok (.aload_n 0, 1) := by decide +kernel
theorem dX9_fault_1 : decode cX9_fault 1 = .ok (.getfield 13, 3) := by decide +kernel
theorem dX9_fault_4 : decode cX9_fault 4 = .ok (.ireturn, 1) := by decide +kernel
theorem dX9_isCastle_0 : decode cX9_isCastle 0 = .ok (.aload_n 0, 1) := by decide +kernel
theorem dX9_isCastle_1 : decode cX9_isCastle 1 = .ok (.getfield 17, 3) := by decide +kernel
theorem dX9_isCastle_4 : decode cX9_isCastle 4 = .ok (.iconst 0, 1) := by decide +kernel
theorem dX9_isCastle_5 : decode cX9_isCastle 5 = .ok (.iaload, 1) := by decide +kernel
theorem dX9_isCastle_6 : decode cX9_isCastle 6 = .ok (.ifCond .le 7, 3) := by decide +kernel
theorem dX9_isCastle_9 : decode cX9_isCastle 9 = .ok (.iconst 1, 1) := by decide +kernel
theorem dX9_isCastle_10 : decode cX9_isCastle 10 = .ok (.goto 4, 3) := by decide +kernel
theorem dX9_isCastle_13 : decode cX9_isCastle 13 = .ok (.iconst 0, 1) := by decide +kernel
theorem dX9_isCastle_14 : decode cX9_isCastle 14 = .ok (.ireturn, 1) := by decide +kernel
theorem dX9_isWay_0 : decode cX9_isWay 0 = .ok (.iload_n 1, 1) := by decide +kernel
theorem dX9_isWay_1 : decode cX9_isWay 1 = .ok (.iconst 0, 1) := by decide +kernel
theorem dX9_isWay_2 : decode cX9_isWay 2 = .ok (.aload_n 0, 1) := by decide +kernel
theorem dX9_isWay_3 : decode cX9_isWay 3 = .ok (.getfield 17, 3) := by decide +kernel
theorem dX9_isWay_6 : decode cX9_isWay 6 = .ok (.iconst 0, 1) := by decide +kernel
theorem dX9_isWay_7 : decode cX9_isWay 7 = .ok (.iaload, 1) := by decide +kernel
theorem dX9_isWay_8 : decode cX9_isWay 8 = .ok (.iconst 1, 1) := by decide +kernel
theorem dX9_isWay_9 : decode cX9_isWay 9 = .ok (.isub, 1) := by decide +kernel
theorem dX9_isWay_10 : decode cX9_isWay 10 = .ok (.invokestatic 63, 3) := by decide +kernel
theorem dX9_isWay_13 : decode cX9_isWay 13 = .ok (.ireturn, 1) := by decide +kernel
theorem dX9_areWays_0 : decode cX9_areWays 0 = .ok (.iload_n 1, 1) := by decide +kernel
theorem dX9_areWays_1 : decode cX9_areWays 1 = .ok (.iconst 0, 1) := by decide +kernel
theorem dX9_areWays_2 : decode cX9_areWays 2 = .ok (.aload_n 0, 1) := by decide +kernel
theorem dX9_areWays_3 : decode cX9_areWays 3 = .ok (.getfield 17, 3) := by decide +kernel
theorem dX9_areWays_6 : decode cX9_areWays 6 = .ok (.iconst 0, 1) := by decide +kernel
theorem dX9_areWays_7 : decode cX9_areWays 7 = .ok (.iaload, 1) := by decide +kernel
theorem dX9_areWays_8 : decode cX9_areWays 8 = .ok (.invokestatic 100, 3) := by decide +kernel
theorem dX9_areWays_11 : decode cX9_areWays 11 = .ok (.invokestatic 63, 3) := by decide +kernel
theorem dX9_areWays_14 : decode cX9_areWays 14 = .ok (.ireturn, 1) := by decide +kernel
theorem dX9_isTest_0 : decode cX9_isTest 0 = .ok (.iload_n 1, 1) := by decide +kernel
theorem dX9_isTest_1 : decode cX9_isTest 1 = .ok (.iconst 0, 1) := by decide +kernel
theorem dX9_isTest_2 : decode cX9_isTest 2 = .ok (.aload_n 0, 1) := by decide +kernel
theorem dX9_isTest_3 : decode cX9_isTest 3 = .ok (.getfield 17, 3) := by decide +kernel
theorem dX9_isTest_6 : decode cX9_isTest 6 = .ok (.iconst 1, 1) := by decide +kernel
theorem dX9_isTest_7 : decode cX9_isTest 7 = .ok (.iaload, 1) := by decide +kernel
theorem dX9_isTest_8 : decode cX9_isTest 8 = .ok (.iconst 1, 1) := by decide +kernel
theorem dX9_isTest_9 : decode cX9_isTest 9 = .ok (.isub, 1) := by decide +kernel
theorem dX9_isTest_10 : decode cX9_isTest 10 = .ok (.invokestatic 63, 3) := by decide +kernel
theorem dX9_isTest_13 : decode cX9_isTest 13 = .ok (.ireturn, 1) := by decide +kernel
theorem dX9_isServant_0 : decode cX9_isServant 0 = .ok (.iload_n 1, 1) := by decide +kernel
theorem dX9_isServant_1 : decode cX9_isServant 1 = .ok (.iconst 0, 1) := by decide +kernel
theorem dX9_isServant_2 : decode cX9_isServant 2 = .ok (.aload_n 0, 1) := by decide +kernel
theorem dX9_isServant_3 : decode cX9_isServant 3 = .ok (.getfield 17, 3) := by decide +kernel
theorem dX9_isServant_6 : decode cX9_isServant 6 = .ok (.iconst 2, 1) := by decide +kernel
theorem dX9_isServant_7 : decode cX9_isServant 7 = .ok (.iaload, 1) := by decide +kernel
theorem dX9_isServant_8 : decode cX9_isServant 8 = .ok (.iconst 1, 1) := by decide +kernel
theorem dX9_isServant_9 : decode cX9_isServant 9 = .ok (.isub, 1) := by decide +kernel
theorem dX9_isServant_10 : decode cX9_isServant 10 = .ok (.invokestatic 63, 3) := by decide +kernel
theorem dX9_isServant_13 : decode cX9_isServant 13 = .ok (.ireturn, 1) := by decide +kernel
theorem dX9_leftBy_0 : decode cX9_leftBy 0 = .ok (.iconst 0, 1) := by decide +kernel
theorem dX9_leftBy_1 : decode cX9_leftBy 1 = .ok (.istore_n 2, 1) := by decide +kernel
theorem dX9_leftBy_2 : decode cX9_leftBy 2 = .ok (.iconst 0, 1) := by decide +kernel
theorem dX9_leftBy_3 : decode cX9_leftBy 3 = .ok (.istore_n 3, 1) := by decide +kernel
theorem dX9_leftBy_4 : decode cX9_leftBy 4 = .ok (.iload_n 3, 1) := by decide +kernel
theorem dX9_leftBy_5 : decode cX9_leftBy 5 = .ok (.aload_n 0, 1) := by decide +kernel
theorem dX9_leftBy_6 : decode cX9_leftBy 6 = .ok (.getfield 17, 3) := by decide +kernel
theorem dX9_leftBy_9 : decode cX9_leftBy 9 = .ok (.iconst 1, 1) := by decide +kernel
theorem dX9_leftBy_10 : decode cX9_leftBy 10 = .ok (.iaload, 1) := by decide +kernel
theorem dX9_leftBy_11 : decode cX9_leftBy 11 = .ok (.if_icmp .ge 32, 3) := by decide +kernel
theorem dX9_leftBy_14 : decode cX9_leftBy 14 = .ok (.iload_n 2, 1) := by decide +kernel
theorem dX9_leftBy_15 : decode cX9_leftBy 15 = .ok (.iload_n 1, 1) := by decide +kernel
theorem dX9_leftBy_16 : decode cX9_leftBy 16 = .ok (.iload_n 3, 1) := by decide +kernel
theorem dX9_leftBy_17 : decode cX9_leftBy 17 = .ok (.invokestatic 135, 3) := by decide +kernel
theorem dX9_leftBy_20 : decode cX9_leftBy 20 = .ok (.ifCond .eq 14, 3) := by decide +kernel
theorem dX9_leftBy_23 : decode cX9_leftBy 23 = .ok (.aload_n 0, 1) := by decide +kernel
theorem dX9_leftBy_24 : decode cX9_leftBy 24 = .ok (.getfield 23, 3) := by decide +kernel
theorem dX9_leftBy_27 : decode cX9_leftBy 27 = .ok (.iconst 3, 1) := by decide +kernel
theorem dX9_leftBy_28 : decode cX9_leftBy 28 = .ok (.iload_n 3, 1) := by decide +kernel
theorem dX9_leftBy_29 : decode cX9_leftBy 29 = .ok (.imul, 1) := by decide +kernel
theorem dX9_leftBy_30 : decode cX9_leftBy 30 = .ok (.iaload, 1) := by decide +kernel
theorem dX9_leftBy_31 : decode cX9_leftBy 31 = .ok (.goto 4, 3) := by decide +kernel
theorem dX9_leftBy_34 : decode cX9_leftBy 34 = .ok (.iconst 0, 1) := by decide +kernel
theorem dX9_leftBy_35 : decode cX9_leftBy 35 = .ok (.ior, 1) := by decide +kernel
theorem dX9_leftBy_36 : decode cX9_leftBy 36 = .ok (.istore_n 2, 1) := by decide +kernel
theorem dX9_leftBy_37 : decode cX9_leftBy 37 = .ok (.iinc 3 1, 3) := by decide +kernel
theorem dX9_leftBy_40 : decode cX9_leftBy 40 = .ok (.goto (-36), 3) := by decide +kernel
theorem dX9_leftBy_43 : decode cX9_leftBy 43 = .ok (.aload_n 0, 1) := by decide +kernel
theorem dX9_leftBy_44 : decode cX9_leftBy 44 = .ok (.getfield 17, 3) := by decide +kernel
theorem dX9_leftBy_47 : decode cX9_leftBy 47 = .ok (.iconst 0, 1) := by decide +kernel
theorem dX9_leftBy_48 : decode cX9_leftBy 48 = .ok (.iaload, 1) := by decide +kernel
theorem dX9_leftBy_49 : decode cX9_leftBy 49 = .ok (.invokestatic 100, 3) := by decide +kernel
theorem dX9_leftBy_52 : decode cX9_leftBy 52 = .ok (.iload_n 2, 1) := by decide +kernel
theorem dX9_leftBy_53 : decode cX9_leftBy 53 = .ok (.iconst (-1), 1) := by decide +kernel
theorem dX9_leftBy_54 : decode cX9_leftBy 54 = .ok (.ixor, 1) := by decide +kernel
theorem dX9_leftBy_55 : decode cX9_leftBy 55 = .ok (.iand, 1) := by decide +kernel
theorem dX9_leftBy_56 : decode cX9_leftBy 56 = .ok (.ireturn, 1) := by decide +kernel
theorem dX9_shownBy_0 : decode cX9_shownBy 0 = .ok (.iconst 0, 1) := by decide +kernel
theorem dX9_shownBy_1 : decode cX9_shownBy 1 = .ok (.istore_n 2, 1) := by decide +kernel
theorem dX9_shownBy_2 : decode cX9_shownBy 2 = .ok (.iconst 0, 1) := by decide +kernel
theorem dX9_shownBy_3 : decode cX9_shownBy 3 = .ok (.istore_n 3, 1) := by decide +kernel
theorem dX9_shownBy_4 : decode cX9_shownBy 4 = .ok (.iload_n 3, 1) := by decide +kernel
theorem dX9_shownBy_5 : decode cX9_shownBy 5 = .ok (.aload_n 0, 1) := by decide +kernel
theorem dX9_shownBy_6 : decode cX9_shownBy 6 = .ok (.getfield 17, 3) := by decide +kernel
theorem dX9_shownBy_9 : decode cX9_shownBy 9 = .ok (.iconst 1, 1) := by decide +kernel
theorem dX9_shownBy_10 : decode cX9_shownBy 10 = .ok (.iaload, 1) := by decide +kernel
theorem dX9_shownBy_11 : decode cX9_shownBy 11 = .ok (.if_icmp .ge 34, 3) := by decide +kernel
theorem dX9_shownBy_14 : decode cX9_shownBy 14 = .ok (.iload_n 2, 1) := by decide +kernel
theorem dX9_shownBy_15 : decode cX9_shownBy 15 = .ok (.iload_n 1, 1) := by decide +kernel
theorem dX9_shownBy_16 : decode cX9_shownBy 16 = .ok (.iload_n 3, 1) := by decide +kernel
theorem dX9_shownBy_17 : decode cX9_shownBy 17 = .ok (.invokestatic 135, 3) := by decide +kernel
theorem dX9_shownBy_20 : decode cX9_shownBy 20 = .ok (.ifCond .eq 16, 3) := by decide +kernel
theorem dX9_shownBy_23 : decode cX9_shownBy 23 = .ok (.aload_n 0, 1) := by decide +kernel
theorem dX9_shownBy_24 : decode cX9_shownBy 24 = .ok (.getfield 23, 3) := by decide +kernel
theorem dX9_shownBy_27 : decode cX9_shownBy 27 = .ok (.iconst 3, 1) := by decide +kernel
theorem dX9_shownBy_28 : decode cX9_shownBy 28 = .ok (.iload_n 3, 1) := by decide +kernel
theorem dX9_shownBy_29 : decode cX9_shownBy 29 = .ok (.imul, 1) := by decide +kernel
theorem dX9_shownBy_30 : decode cX9_shownBy 30 = .ok (.iconst 1, 1) := by decide +kernel
theorem dX9_shownBy_31 : decode cX9_shownBy 31 = .ok (.iadd, 1) := by decide +kernel
theorem dX9_shownBy_32 : decode cX9_shownBy 32 = .ok (.iaload, 1) := by decide +kernel
theorem dX9_shownBy_33 : decode cX9_shownBy 33 = .ok (.goto 4, 3) := by decide +kernel
theorem dX9_shownBy_36 : decode cX9_shownBy 36 = .ok (.iconst 0, 1) := by decide +kernel
theorem dX9_shownBy_37 : decode cX9_shownBy 37 = .ok (.ior, 1) := by decide +kernel
theorem dX9_shownBy_38 : decode cX9_shownBy 38 = .ok (.istore_n 2, 1) := by decide +kernel
theorem dX9_shownBy_39 : decode cX9_shownBy 39 = .ok (.iinc 3 1, 3) := by decide +kernel
theorem dX9_shownBy_42 : decode cX9_shownBy 42 = .ok (.goto (-38), 3) := by decide +kernel
theorem dX9_shownBy_45 : decode cX9_shownBy 45 = .ok (.iload_n 2, 1) := by decide +kernel
theorem dX9_shownBy_46 : decode cX9_shownBy 46 = .ok (.ireturn, 1) := by decide +kernel
theorem dX9_spent_0 : decode cX9_spent 0 = .ok (.iconst 0, 1) := by decide +kernel
theorem dX9_spent_1 : decode cX9_spent 1 = .ok (.istore_n 1, 1) := by decide +kernel
theorem dX9_spent_2 : decode cX9_spent 2 = .ok (.iconst 0, 1) := by decide +kernel
theorem dX9_spent_3 : decode cX9_spent 3 = .ok (.istore_n 2, 1) := by decide +kernel
theorem dX9_spent_4 : decode cX9_spent 4 = .ok (.iload_n 2, 1) := by decide +kernel
theorem dX9_spent_5 : decode cX9_spent 5 = .ok (.aload_n 0, 1) := by decide +kernel
theorem dX9_spent_6 : decode cX9_spent 6 = .ok (.getfield 17, 3) := by decide +kernel
theorem dX9_spent_9 : decode cX9_spent 9 = .ok (.iconst 1, 1) := by decide +kernel
theorem dX9_spent_10 : decode cX9_spent 10 = .ok (.iaload, 1) := by decide +kernel
theorem dX9_spent_11 : decode cX9_spent 11 = .ok (.if_icmp .ge 39, 3) := by decide +kernel
theorem dX9_spent_14 : decode cX9_spent 14 = .ok (.iload_n 1, 1) := by decide +kernel
theorem dX9_spent_15 : decode cX9_spent 15 = .ok (.aload_n 0, 1) := by decide +kernel
theorem dX9_spent_16 : decode cX9_spent 16 = .ok (.getfield 41, 3) := by decide +kernel
theorem dX9_spent_19 : decode cX9_spent 19 = .ok (.iconst 4, 1) := by decide +kernel
theorem dX9_spent_20 : decode cX9_spent 20 = .ok (.iaload, 1) := by decide +kernel
theorem dX9_spent_21 : decode cX9_spent 21 = .ok (.iload_n 2, 1) := by decide +kernel
theorem dX9_spent_22 : decode cX9_spent 22 = .ok (.invokestatic 135, 3) := by decide +kernel
theorem dX9_spent_25 : decode cX9_spent 25 = .ok (.ifCond .eq 16, 3) := by decide +kernel
theorem dX9_spent_28 : decode cX9_spent 28 = .ok (.aload_n 0, 1) := by decide +kernel
theorem dX9_spent_29 : decode cX9_spent 29 = .ok (.getfield 23, 3) := by decide +kernel
theorem dX9_spent_32 : decode cX9_spent 32 = .ok (.iconst 3, 1) := by decide +kernel
theorem dX9_spent_33 : decode cX9_spent 33 = .ok (.iload_n 2, 1) := by decide +kernel
theorem dX9_spent_34 : decode cX9_spent 34 = .ok (.imul, 1) := by decide +kernel
theorem dX9_spent_35 : decode cX9_spent 35 = .ok (.iconst 2, 1) := by decide +kernel
theorem dX9_spent_36 : decode cX9_spent 36 = .ok (.iadd, 1) := by decide +kernel
theorem dX9_spent_37 : decode cX9_spent 37 = .ok (.iaload, 1) := by decide +kernel
theorem dX9_spent_38 : decode cX9_spent 38 = .ok (.goto 4, 3) := by decide +kernel
theorem dX9_spent_41 : decode cX9_spent 41 = .ok (.iconst 0, 1) := by decide +kernel
theorem dX9_spent_42 : decode cX9_spent 42 = .ok (.iadd, 1) := by decide +kernel
theorem dX9_spent_43 : decode cX9_spent 43 = .ok (.istore_n 1, 1) := by decide +kernel
theorem dX9_spent_44 : decode cX9_spent 44 = .ok (.iinc 2 1, 3) := by decide +kernel
theorem dX9_spent_47 : decode cX9_spent 47 = .ok (.goto (-43), 3) := by decide +kernel
theorem dX9_spent_50 : decode cX9_spent 50 = .ok (.iconst 0, 1) := by decide +kernel
theorem dX9_spent_51 : decode cX9_spent 51 = .ok (.istore_n 2, 1) := by decide +kernel
theorem dX9_spent_52 : decode cX9_spent 52 = .ok (.iload_n 2, 1) := by decide +kernel
theorem dX9_spent_53 : decode cX9_spent 53 = .ok (.aload_n 0, 1) := by decide +kernel
theorem dX9_spent_54 : decode cX9_spent 54 = .ok (.getfield 17, 3) := by decide +kernel
theorem dX9_spent_57 : decode cX9_spent 57 = .ok (.iconst 2, 1) := by decide +kernel
theorem dX9_spent_58 : decode cX9_spent 58 = .ok (.iaload, 1) := by decide +kernel
theorem dX9_spent_59 : decode cX9_spent 59 = .ok (.if_icmp .ge 25, 3) := by decide +kernel
theorem dX9_spent_62 : decode cX9_spent 62 = .ok (.iload_n 1, 1) := by decide +kernel
theorem dX9_spent_63 : decode cX9_spent 63 = .ok (.aload_n 0, 1) := by decide +kernel
theorem dX9_spent_64 : decode cX9_spent 64 = .ok (.getfield 41, 3) := by decide +kernel
theorem dX9_spent_67 : decode cX9_spent 67 = .ok (.bipush 6, 2) := by decide +kernel
theorem dX9_spent_69 : decode cX9_spent 69 = .ok (.iconst 3, 1) := by decide +kernel
theorem dX9_spent_70 : decode cX9_spent 70 = .ok (.iload_n 2, 1) := by decide +kernel
theorem dX9_spent_71 : decode cX9_spent 71 = .ok (.imul, 1) := by decide +kernel
theorem dX9_spent_72 : decode cX9_spent 72 = .ok (.iadd, 1) := by decide +kernel
theorem dX9_spent_73 : decode cX9_spent 73 = .ok (.iconst 1, 1) := by decide +kernel
theorem dX9_spent_74 : decode cX9_spent 74 = .ok (.iadd, 1) := by decide +kernel
theorem dX9_spent_75 : decode cX9_spent 75 = .ok (.iaload, 1) := by decide +kernel
theorem dX9_spent_76 : decode cX9_spent 76 = .ok (.iadd, 1) := by decide +kernel
theorem dX9_spent_77 : decode cX9_spent 77 = .ok (.istore_n 1, 1) := by decide +kernel
theorem dX9_spent_78 : decode cX9_spent 78 = .ok (.iinc 2 1, 3) := by decide +kernel
theorem dX9_spent_81 : decode cX9_spent 81 = .ok (.goto (-29), 3) := by decide +kernel
theorem dX9_spent_84 : decode cX9_spent 84 = .ok (.iload_n 1, 1) := by decide +kernel
theorem dX9_spent_85 : decode cX9_spent 85 = .ok (.ldc 139, 2) := by decide +kernel
theorem dX9_spent_87 : decode cX9_spent 87 = .ok (.if_icmp .le 8, 3) := by decide +kernel
theorem dX9_spent_90 : decode cX9_spent 90 = .ok (.ldc 139, 2) := by decide +kernel
theorem dX9_spent_92 : decode cX9_spent 92 = .ok (.goto 4, 3) := by decide +kernel
theorem dX9_spent_95 : decode cX9_spent 95 = .ok (.iload_n 1, 1) := by decide +kernel
theorem dX9_spent_96 : decode cX9_spent 96 = .ok (.ireturn, 1) := by decide +kernel
theorem dX9_told_0 : decode cX9_told 0 = .ok (.iload_n 1, 1) := by decide +kernel
theorem dX9_told_1 : decode cX9_told 1 = .ok (.tableswitch 211 0 17 #[87, 94, 101, 108, 113, 120, 127, 134, 141, 148, 155, 162, 173, 184, 191, 196, 201, 206], 87) := by decide +kernel
theorem dX9_told_88 : decode cX9_told 88 = .ok (.aload_n 0, 1) := by decide +kernel
theorem dX9_told_89 : decode cX9_told 89 = .ok (.getfield 17, 3) := by decide +kernel
theorem dX9_told_92 : decode cX9_told 92 = .ok (.iconst 0, 1) := by decide +kernel
theorem dX9_told_93 : decode cX9_told 93 = .ok (.iaload, 1) := by decide +kernel
theorem dX9_told_94 : decode cX9_told 94 = .ok (.ireturn, 1) := by decide +kernel
theorem dX9_told_95 : decode cX9_told 95 = .ok (.aload_n 0, 1) := by decide +kernel
theorem dX9_told_96 : decode cX9_told 96 = .ok (.getfield 17, 3) := by decide +kernel
theorem dX9_told_99 : decode cX9_told 99 = .ok (.iconst 1, 1) := by decide +kernel
theorem dX9_told_100 : decode cX9_told 100 = .ok (.iaload, 1) := by decide +kernel
theorem dX9_told_101 : decode cX9_told 101 = .ok (.ireturn, 1) := by decide +kernel
theorem dX9_told_102 : decode cX9_told 102 = .ok (.aload_n 0, 1) := by decide +kernel
theorem dX9_told_103 : decode cX9_told 103 = .ok (.getfield 17, 3) := by decide +kernel
theorem dX9_told_106 : decode cX9_told 106 = .ok (.iconst 2, 1) := by decide +kernel
theorem dX9_told_107 : decode cX9_told 107 = .ok (.iaload, 1) := by decide +kernel
theorem dX9_told_108 : decode cX9_told 108 = .ok (.ireturn, 1) := by decide +kernel
theorem dX9_told_109 : decode cX9_told 109 = .ok (.aload_n 0, 1) := by decide +kernel
theorem dX9_told_110 : decode cX9_told 110 = .ok (.getfield 68, 3) := by decide +kernel
theorem dX9_told_113 : decode cX9_told 113 = .ok (.ireturn, 1) := by decide +kernel
theorem dX9_told_114 : decode cX9_told 114 = .ok (.aload_n 0, 1) := by decide +kernel
theorem dX9_told_115 : decode cX9_told 115 = .ok (.getfield 17, 3) := by decide +kernel
theorem dX9_told_118 : decode cX9_told 118 = .ok (.iconst 3, 1) := by decide +kernel
theorem dX9_told_119 : decode cX9_told 119 = .ok (.iaload, 1) := by decide +kernel
theorem dX9_told_120 : decode cX9_told 120 = .ok (.ireturn, 1) := by decide +kernel
theorem dX9_told_121 : decode cX9_told 121 = .ok (.aload_n 0, 1) := by decide +kernel
theorem dX9_told_122 : decode cX9_told 122 = .ok (.getfield 17, 3) := by decide +kernel
theorem dX9_told_125 : decode cX9_told 125 = .ok (.iconst 4, 1) := by decide +kernel
theorem dX9_told_126 : decode cX9_told 126 = .ok (.iaload, 1) := by decide +kernel
theorem dX9_told_127 : decode cX9_told 127 = .ok (.ireturn, 1) := by decide +kernel
theorem dX9_told_128 : decode cX9_told 128 = .ok (.aload_n 0, 1) := by decide +kernel
theorem dX9_told_129 : decode cX9_told 129 = .ok (.getfield 41, 3) := by decide +kernel
theorem dX9_told_132 : decode cX9_told 132 = .ok (.iconst 0, 1) := by decide +kernel
theorem dX9_told_133 : decode cX9_told 133 = .ok (.iaload, 1) := by decide +kernel
theorem dX9_told_134 : decode cX9_told 134 = .ok (.ireturn, 1) := by decide +kernel
theorem dX9_told_135 : decode cX9_told 135 = .ok (.aload_n 0, 1) := by decide +kernel
theorem dX9_told_136 : decode cX9_told 136 = .ok (.getfield 41, 3) := by decide +kernel
theorem dX9_told_139 : decode cX9_told 139 = .ok (.iconst 1, 1) := by decide +kernel
theorem dX9_told_140 : decode cX9_told 140 = .ok (.iaload, 1) := by decide +kernel
theorem dX9_told_141 : decode cX9_told 141 = .ok (.ireturn, 1) := by decide +kernel
theorem dX9_told_142 : decode cX9_told 142 = .ok (.aload_n 0, 1) := by decide +kernel
theorem dX9_told_143 : decode cX9_told 143 = .ok (.getfield 41, 3) := by decide +kernel
theorem dX9_told_146 : decode cX9_told 146 = .ok (.iconst 2, 1) := by decide +kernel
theorem dX9_told_147 : decode cX9_told 147 = .ok (.iaload, 1) := by decide +kernel
theorem dX9_told_148 : decode cX9_told 148 = .ok (.ireturn, 1) := by decide +kernel
theorem dX9_told_149 : decode cX9_told 149 = .ok (.aload_n 0, 1) := by decide +kernel
theorem dX9_told_150 : decode cX9_told 150 = .ok (.getfield 41, 3) := by decide +kernel
theorem dX9_told_153 : decode cX9_told 153 = .ok (.iconst 3, 1) := by decide +kernel
theorem dX9_told_154 : decode cX9_told 154 = .ok (.iaload, 1) := by decide +kernel
theorem dX9_told_155 : decode cX9_told 155 = .ok (.ireturn, 1) := by decide +kernel
theorem dX9_told_156 : decode cX9_told 156 = .ok (.aload_n 0, 1) := by decide +kernel
theorem dX9_told_157 : decode cX9_told 157 = .ok (.getfield 41, 3) := by decide +kernel
theorem dX9_told_160 : decode cX9_told 160 = .ok (.iconst 4, 1) := by decide +kernel
theorem dX9_told_161 : decode cX9_told 161 = .ok (.iaload, 1) := by decide +kernel
theorem dX9_told_162 : decode cX9_told 162 = .ok (.ireturn, 1) := by decide +kernel
theorem dX9_told_163 : decode cX9_told 163 = .ok (.aload_n 0, 1) := by decide +kernel
theorem dX9_told_164 : decode cX9_told 164 = .ok (.aload_n 0, 1) := by decide +kernel
theorem dX9_told_165 : decode cX9_told 165 = .ok (.getfield 41, 3) := by decide +kernel
theorem dX9_told_168 : decode cX9_told 168 = .ok (.iconst 4, 1) := by decide +kernel
theorem dX9_told_169 : decode cX9_told 169 = .ok (.iaload, 1) := by decide +kernel
theorem dX9_told_170 : decode cX9_told 170 = .ok (.invokevirtual 140, 3) := by decide +kernel
theorem dX9_told_173 : decode cX9_told 173 = .ok (.ireturn, 1) := by decide +kernel
theorem dX9_told_174 : decode cX9_told 174 = .ok (.aload_n 0, 1) := by decide +kernel
theorem dX9_told_175 : decode cX9_told 175 = .ok (.aload_n 0, 1) := by decide +kernel
theorem dX9_told_176 : decode cX9_told 176 = .ok (.getfield 41, 3) := by decide +kernel
theorem dX9_told_179 : decode cX9_told 179 = .ok (.iconst 4, 1) := by decide +kernel
theorem dX9_told_180 : decode cX9_told 180 = .ok (.iaload, 1) := by decide +kernel
theorem dX9_told_181 : decode cX9_told 181 = .ok (.invokevirtual 143, 3) := by decide +kernel
theorem dX9_told_184 : decode cX9_told 184 = .ok (.ireturn, 1) := by decide +kernel
theorem dX9_told_185 : decode cX9_told 185 = .ok (.aload_n 0, 1) := by decide +kernel
theorem dX9_told_186 : decode cX9_told 186 = .ok (.getfield 41, 3) := by decide +kernel
theorem dX9_told_189 : decode cX9_told 189 = .ok (.iconst 5, 1) := by decide +kernel
theorem dX9_told_190 : decode cX9_told 190 = .ok (.iaload, 1) := by decide +kernel
theorem dX9_told_191 : decode cX9_told 191 = .ok (.ireturn, 1) := by decide +kernel
theorem dX9_told_192 : decode cX9_told 192 = .ok (.aload_n 0, 1) := by decide +kernel
theorem dX9_told_193 : decode cX9_told 193 = .ok (.invokevirtual 146, 3) := by decide +kernel
theorem dX9_told_196 : decode cX9_told 196 = .ok (.ireturn, 1) := by decide +kernel
theorem dX9_told_197 : decode cX9_told 197 = .ok (.aload_n 0, 1) := by decide +kernel
theorem dX9_told_198 : decode cX9_told 198 = .ok (.getfield 129, 3) := by decide +kernel
theorem dX9_told_201 : decode cX9_told 201 = .ok (.ireturn, 1) := by decide +kernel
theorem dX9_told_202 : decode cX9_told 202 = .ok (.aload_n 0, 1) := by decide +kernel
theorem dX9_told_203 : decode cX9_told 203 = .ok (.getfield 132, 3) := by decide +kernel
theorem dX9_told_206 : decode cX9_told 206 = .ok (.ireturn, 1) := by decide +kernel
theorem dX9_told_207 : decode cX9_told 207 = .ok (.aload_n 0, 1) := by decide +kernel
theorem dX9_told_208 : decode cX9_told 208 = .ok (.getfield 126, 3) := by decide +kernel
theorem dX9_told_211 : decode cX9_told 211 = .ok (.ireturn, 1) := by decide +kernel
theorem dX9_told_212 : decode cX9_told 212 = .ok (.ldc 67, 2) := by decide +kernel
theorem dX9_told_214 : decode cX9_told 214 = .ok (.ireturn, 1) := by decide +kernel
theorem dX9_likely_0 : decode cX9_likely 0 = .ok (.aload_n 0, 1) := by decide +kernel
theorem dX9_likely_1 : decode cX9_likely 1 = .ok (.iload_n 1, 1) := by decide +kernel
theorem dX9_likely_2 : decode cX9_likely 2 = .ok (.invokevirtual 149, 3) := by decide +kernel
theorem dX9_likely_5 : decode cX9_likely 5 = .ok (.ifCond .eq 12, 3) := by decide +kernel
theorem dX9_likely_8 : decode cX9_likely 8 = .ok (.aload_n 0, 1) := by decide +kernel
theorem dX9_likely_9 : decode cX9_likely 9 = .ok (.getfield 20, 3) := by decide +kernel
theorem dX9_likely_12 : decode cX9_likely 12 = .ok (.iload_n 1, 1) := by decide +kernel
theorem dX9_likely_13 : decode cX9_likely 13 = .ok (.iaload, 1) := by decide +kernel
theorem dX9_likely_14 : decode cX9_likely 14 = .ok (.goto 5, 3) := by decide +kernel
theorem dX9_likely_17 : decode cX9_likely 17 = .ok (.ldc 153, 2) := by decide +kernel
theorem dX9_likely_19 : decode cX9_likely 19 = .ok (.ireturn, 1) := by decide +kernel
theorem dX9_test_0 : decode cX9_test 0 = .ok (.aload_n 0, 1) := by decide +kernel
theorem dX9_test_1 : decode cX9_test 1 = .ok (.iload_n 1, 1) := by decide +kernel
theorem dX9_test_2 : decode cX9_test 2 = .ok (.invokevirtual 154, 3) := by decide +kernel
theorem dX9_test_5 : decode cX9_test 5 = .ok (.ifCond .ne 6, 3) := by decide +kernel
theorem dX9_test_8 : decode cX9_test 8 = .ok (.ldc 153, 2) := by decide +kernel
theorem dX9_test_10 : decode cX9_test 10 = .ok (.ireturn, 1) := by decide +kernel
theorem dX9_test_11 : decode cX9_test 11 = .ok (.iload_n 2, 1) := by decide +kernel
theorem dX9_test_12 : decode cX9_test 12 = .ok (.iconst 0, 1) := by decide +kernel
theorem dX9_test_13 : decode cX9_test 13 = .ok (.iconst 3, 1) := by decide +kernel
theorem dX9_test_14 : decode cX9_test 14 = .ok (.invokestatic 63, 3) := by decide +kernel
theorem dX9_test_17 : decode cX9_test 17 = .ok (.ifCond .ne 8, 3) := by decide +kernel
theorem dX9_test_20 : decode cX9_test 20 = .ok (.ldc 67, 2) := by decide +kernel
theorem dX9_test_22 : decode cX9_test 22 = .ok (.goto 31, 3) := by decide +kernel
theorem dX9_test_25 : decode cX9_test 25 = .ok (.iload_n 2, 1) := by decide +kernel
theorem dX9_test_26 : decode cX9_test 26 = .ok (.iconst 3, 1) := by decide +kernel
theorem dX9_test_27 : decode cX9_test 27 = .ok (.if_icmp .ge 16, 3) := by decide +kernel
theorem dX9_test_30 : decode cX9_test 30 = .ok (.aload_n 0, 1) := by decide +kernel
theorem dX9_test_31 : decode cX9_test 31 = .ok (.getfield 23, 3) := by decide +kernel
theorem dX9_test_34 : decode cX9_test 34 = .ok (.iconst 3, 1) := by decide +kernel
theorem dX9_test_35 : decode cX9_test 35 = .ok (.iload_n 1, 1) := by decide +kernel
theorem dX9_test_36 : decode cX9_test 36 = .ok (.imul, 1) := by decide +kernel
theorem dX9_test_37 : decode cX9_test 37 = .ok (.iload_n 2, 1) := by decide +kernel
theorem dX9_test_38 : decode cX9_test 38 = .ok (.iadd, 1) := by decide +kernel
theorem dX9_test_39 : decode cX9_test 39 = .ok (.iaload, 1) := by decide +kernel
theorem dX9_test_40 : decode cX9_test 40 = .ok (.goto 13, 3) := by decide +kernel
theorem dX9_test_43 : decode cX9_test 43 = .ok (.aload_n 0, 1) := by decide +kernel
theorem dX9_test_44 : decode cX9_test 44 = .ok (.getfield 41, 3) := by decide +kernel
theorem dX9_test_47 : decode cX9_test 47 = .ok (.iconst 4, 1) := by decide +kernel
theorem dX9_test_48 : decode cX9_test 48 = .ok (.iaload, 1) := by decide +kernel
theorem dX9_test_49 : decode cX9_test 49 = .ok (.iload_n 1, 1) := by decide +kernel
theorem dX9_test_50 : decode cX9_test 50 = .ok (.ishr, 1) := by decide +kernel
theorem dX9_test_51 : decode cX9_test 51 = .ok (.iconst 1, 1) := by decide +kernel
theorem dX9_test_52 : decode cX9_test 52 = .ok (.iand, 1) := by decide +kernel
theorem dX9_test_53 : decode cX9_test 53 = .ok (.ireturn, 1) := by decide +kernel
theorem dX9_servant_0 : decode cX9_servant 0 = .ok (.aload_n 0, 1) := by decide +kernel
theorem dX9_servant_1 : decode cX9_servant 1 = .ok (.iload_n 1, 1) := by decide +kernel
theorem dX9_servant_2 : decode cX9_servant 2 = .ok (.invokevirtual 157, 3) := by decide +kernel
theorem dX9_servant_5 : decode cX9_servant 5 = .ok (.ifCond .ne 6, 3) := by decide +kernel
theorem dX9_servant_8 : decode cX9_servant 8 = .ok (.ldc 153, 2) := by decide +kernel
theorem dX9_servant_10 : decode cX9_servant 10 = .ok (.ireturn, 1) := by decide +kernel
theorem dX9_servant_11 : decode cX9_servant 11 = .ok (.iload_n 2, 1) := by decide +kernel
theorem dX9_servant_12 : decode cX9_servant 12 = .ok (.tableswitch 100 0 3 #[32, 44, 55, 69], 32) := by decide +kernel
theorem dX9_servant_44 : decode cX9_servant 44 = .ok (.aload_n 0, 1) := by decide +kernel
theorem dX9_servant_45 : decode cX9_servant 45 = .ok (.getfield 41, 3) := by decide +kernel
theorem dX9_servant_48 : decode cX9_servant 48 = .ok (.bipush 6, 2) := by decide +kernel
theorem dX9_servant_50 : decode cX9_servant 50 = .ok (.iconst 3, 1) := by decide +kernel
theorem dX9_servant_51 : decode cX9_servant 51 = .ok (.iload_n 1, 1) := by decide +kernel
theorem dX9_servant_52 : decode cX9_servant 52 = .ok (.imul, 1) := by decide +kernel
theorem dX9_servant_53 : decode cX9_servant 53 = .ok (.iadd, 1) := by decide +kernel
theorem dX9_servant_54 : decode cX9_servant 54 = .ok (.iaload, 1) := by decide +kernel
theorem dX9_servant_55 : decode cX9_servant 55 = .ok (.ireturn, 1) := by decide +kernel
theorem dX9_servant_56 : decode cX9_servant 56 = .ok (.aload_n 0, 1) := by decide +kernel
theorem dX9_servant_57 : decode cX9_servant 57 = .ok (.getfield 26, 3) := by decide +kernel
theorem dX9_servant_60 : decode cX9_servant 60 = .ok (.iconst 2, 1) := by decide +kernel
theorem dX9_servant_61 : decode cX9_servant 61 = .ok (.iload_n 1, 1) := by decide +kernel
theorem dX9_servant_62 : decode cX9_servant 62 = .ok (.imul, 1) := by decide +kernel
theorem dX9_servant_63 : decode cX9_servant 63 = .ok (.iconst 1, 1) := by decide +kernel
theorem dX9_servant_64 : decode cX9_servant 64 = .ok (.iadd, 1) := by decide +kernel
theorem dX9_servant_65 : decode cX9_servant 65 = .ok (.iaload, 1) := by decide +kernel
theorem dX9_servant_66 : decode cX9_servant 66 = .ok (.ireturn, 1) := by decide +kernel
theorem dX9_servant_67 : decode cX9_servant 67 = .ok (.aload_n 0, 1) := by decide +kernel
theorem dX9_servant_68 : decode cX9_servant 68 = .ok (.getfield 41, 3) := by decide +kernel
theorem dX9_servant_71 : decode cX9_servant 71 = .ok (.bipush 6, 2) := by decide +kernel
theorem dX9_servant_73 : decode cX9_servant 73 = .ok (.iconst 3, 1) := by decide +kernel
theorem dX9_servant_74 : decode cX9_servant 74 = .ok (.iload_n 1, 1) := by decide +kernel
theorem dX9_servant_75 : decode cX9_servant 75 = .ok (.imul, 1) := by decide +kernel
theorem dX9_servant_76 : decode cX9_servant 76 = .ok (.iadd, 1) := by decide +kernel
theorem dX9_servant_77 : decode cX9_servant 77 = .ok (.iconst 1, 1) := by decide +kernel
theorem dX9_servant_78 : decode cX9_servant 78 = .ok (.iadd, 1) := by decide +kernel
theorem dX9_servant_79 : decode cX9_servant 79 = .ok (.iaload, 1) := by decide +kernel
theorem dX9_servant_80 : decode cX9_servant 80 = .ok (.ireturn, 1) := by decide +kernel
theorem dX9_servant_81 : decode cX9_servant 81 = .ok (.aload_n 0, 1) := by decide +kernel
theorem dX9_servant_82 : decode cX9_servant 82 = .ok (.getfield 41, 3) := by decide +kernel
theorem dX9_servant_85 : decode cX9_servant 85 = .ok (.iconst 5, 1) := by decide +kernel
theorem dX9_servant_86 : decode cX9_servant 86 = .ok (.iaload, 1) := by decide +kernel
theorem dX9_servant_87 : decode cX9_servant 87 = .ok (.iload_n 1, 1) := by decide +kernel
theorem dX9_servant_88 : decode cX9_servant 88 = .ok (.invokestatic 135, 3) := by decide +kernel
theorem dX9_servant_91 : decode cX9_servant 91 = .ok (.ifCond .eq 19, 3) := by decide +kernel
theorem dX9_servant_94 : decode cX9_servant 94 = .ok (.aload_n 0, 1) := by decide +kernel
theorem dX9_servant_95 : decode cX9_servant 95 = .ok (.getfield 41, 3) := by decide +kernel
theorem dX9_servant_98 : decode cX9_servant 98 = .ok (.bipush 6, 2) := by decide +kernel
theorem dX9_servant_100 : decode cX9_servant 100 = .ok (.iconst 3, 1) := by decide +kernel
theorem dX9_servant_101 : decode cX9_servant 101 = .ok (.iload_n 1, 1) := by decide +kernel
theorem dX9_servant_102 : decode cX9_servant 102 = .ok (.imul, 1) := by decide +kernel
theorem dX9_servant_103 : decode cX9_servant 103 = .ok (.iadd, 1) := by decide +kernel
theorem dX9_servant_104 : decode cX9_servant 104 = .ok (.iconst 2, 1) := by decide +kernel
theorem dX9_servant_105 : decode cX9_servant 105 = .ok (.iadd, 1) := by decide +kernel
theorem dX9_servant_106 : decode cX9_servant 106 = .ok (.iaload, 1) := by decide +kernel
theorem dX9_servant_107 : decode cX9_servant 107 = .ok (.goto 4, 3) := by decide +kernel
theorem dX9_servant_110 : decode cX9_servant 110 = .ok (.iconst (-1), 1) := by decide +kernel
theorem dX9_servant_111 : decode cX9_servant 111 = .ok (.ireturn, 1) := by decide +kernel
theorem dX9_servant_112 : decode cX9_servant 112 = .ok (.ldc 67, 2) := by decide +kernel
theorem dX9_servant_114 : decode cX9_servant 114 = .ok (.ireturn, 1) := by decide +kernel
theorem dX9_notes_0 : decode cX9_notes 0 = .ok (.aload_n 0, 1) := by decide +kernel
theorem dX9_notes_1 : decode cX9_notes 1 = .ok (.getfield 126, 3) := by decide +kernel
theorem dX9_notes_4 : decode cX9_notes 4 = .ok (.bipush 20, 2) := by decide +kernel
theorem dX9_notes_6 : decode cX9_notes 6 = .ok (.if_icmp .ne 43, 3) := by decide +kernel
theorem dX9_notes_9 : decode cX9_notes 9 = .ok (.iconst 0, 1) := by decide +kernel
theorem dX9_notes_10 : decode cX9_notes 10 = .ok (.istore_n 1, 1) := by decide +kernel
theorem dX9_notes_11 : decode cX9_notes 11 = .ok (.iload_n 1, 1) := by decide +kernel
theorem dX9_notes_12 : decode cX9_notes 12 = .ok (.sipush 399, 3) := by decide +kernel
theorem dX9_notes_15 : decode cX9_notes 15 = .ok (.if_icmp .ge 24, 3) := by decide +kernel
theorem dX9_notes_18 : decode cX9_notes 18 = .ok (.aload_n 0, 1) := by decide +kernel
theorem dX9_notes_19 : decode cX9_notes 19 = .ok (.getfield 44, 3) := by decide +kernel
theorem dX9_notes_22 : decode cX9_notes 22 = .ok (.iload_n 1, 1) := by decide +kernel
theorem dX9_notes_23 : decode cX9_notes 23 = .ok (.aload_n 0, 1) := by decide +kernel
theorem dX9_notes_24 : decode cX9_notes 24 = .ok (.getfield 44, 3) := by decide +kernel
theorem dX9_notes_27 : decode cX9_notes 27 = .ok (.iload_n 1, 1) := by decide +kernel
theorem dX9_notes_28 : decode cX9_notes 28 = .ok (.bipush 21, 2) := by decide +kernel
theorem dX9_notes_30 : decode cX9_notes 30 = .ok (.iadd, 1) := by decide +kernel
theorem dX9_notes_31 : decode cX9_notes 31 = .ok (.iaload, 1) := by decide +kernel
theorem dX9_notes_32 : decode cX9_notes 32 = .ok (.iastore, 1) := by decide +kernel
theorem dX9_notes_33 : decode cX9_notes 33 = .ok (.iinc 1 1, 3) := by decide +kernel
theorem dX9_notes_36 : decode cX9_notes 36 = .ok (.goto (-25), 3) := by decide +kernel
theorem dX9_notes_39 : decode cX9_notes 39 = .ok (.aload_n 0, 1) := by decide +kernel
theorem dX9_notes_40 : decode cX9_notes 40 = .ok (.dup, 1) := by decide +kernel
theorem dX9_notes_41 : decode cX9_notes 41 = .ok (.getfield 126, 3) := by decide +kernel
theorem dX9_notes_44 : decode cX9_notes 44 = .ok (.iconst 1, 1) := by decide +kernel
theorem dX9_notes_45 : decode cX9_notes 45 = .ok (.isub, 1) := by decide +kernel
theorem dX9_notes_46 : decode cX9_notes 46 = .ok (.putfield 126, 3) := by decide +kernel
theorem dX9_notes_49 : decode cX9_notes 49 = .ok (.aload_n 0, 1) := by decide +kernel
theorem dX9_notes_50 : decode cX9_notes 50 = .ok (.getfield 41, 3) := by decide +kernel
theorem dX9_notes_53 : decode cX9_notes 53 = .ok (.iconst 0, 1) := by decide +kernel
theorem dX9_notes_54 : decode cX9_notes 54 = .ok (.aload_n 0, 1) := by decide +kernel
theorem dX9_notes_55 : decode cX9_notes 55 = .ok (.getfield 44, 3) := by decide +kernel
theorem dX9_notes_58 : decode cX9_notes 58 = .ok (.bipush 21, 2) := by decide +kernel
theorem dX9_notes_60 : decode cX9_notes 60 = .ok (.aload_n 0, 1) := by decide +kernel
theorem dX9_notes_61 : decode cX9_notes 61 = .ok (.getfield 126, 3) := by decide +kernel
theorem dX9_notes_64 : decode cX9_notes 64 = .ok (.imul, 1) := by decide +kernel
theorem dX9_notes_65 : decode cX9_notes 65 = .ok (.bipush 21, 2) := by decide +kernel
theorem dX9_notes_67 : decode cX9_notes 67 = .ok (.invokestatic 122, 3) := by decide +kernel
theorem dX9_notes_70 : decode cX9_notes 70 = .ok (.aload_n 0, 1) := by decide +kernel
theorem dX9_notes_71 : decode cX9_notes 71 = .ok (.dup, 1) := by decide +kernel
theorem dX9_notes_72 : decode cX9_notes 72 = .ok (.getfield 126, 3) := by decide +kernel
theorem dX9_notes_75 : decode cX9_notes 75 = .ok (.iconst 1, 1) := by decide +kernel
theorem dX9_notes_76 : decode cX9_notes 76 = .ok (.iadd, 1) := by decide +kernel
theorem dX9_notes_77 : decode cX9_notes 77 = .ok (.putfield 126, 3) := by decide +kernel
theorem dX9_notes_80 : decode cX9_notes 80 = .ok (.return_, 1) := by decide +kernel
theorem dX9_gets_0 : decode cX9_gets 0 = .ok (.aload_n 0, 1) := by decide +kernel
theorem dX9_gets_1 : decode cX9_gets 1 = .ok (.getfield 41, 3) := by decide +kernel
theorem dX9_gets_4 : decode cX9_gets 4 = .ok (.bipush 6, 2) := by decide +kernel
theorem dX9_gets_6 : decode cX9_gets 6 = .ok (.iconst 3, 1) := by decide +kernel
theorem dX9_gets_7 : decode cX9_gets 7 = .ok (.iload_n 1, 1) := by decide +kernel
theorem dX9_gets_8 : decode cX9_gets 8 = .ok (.imul, 1) := by decide +kernel
theorem dX9_gets_9 : decode cX9_gets 9 = .ok (.iadd, 1) := by decide +kernel
theorem dX9_gets_10 : decode cX9_gets 10 = .ok (.iconst 1, 1) := by decide +kernel
theorem dX9_gets_11 : decode cX9_gets 11 = .ok (.iadd, 1) := by decide +kernel
theorem dX9_gets_12 : decode cX9_gets 12 = .ok (.iaload, 1) := by decide +kernel
theorem dX9_gets_13 : decode cX9_gets 13 = .ok (.iload_n 2, 1) := by decide +kernel
theorem dX9_gets_14 : decode cX9_gets 14 = .ok (.iadd, 1) := by decide +kernel
theorem dX9_gets_15 : decode cX9_gets 15 = .ok (.istore_n 3, 1) := by decide +kernel
theorem dX9_gets_16 : decode cX9_gets 16 = .ok (.aload_n 0, 1) := by decide +kernel
theorem dX9_gets_17 : decode cX9_gets 17 = .ok (.getfield 41, 3) := by decide +kernel
theorem dX9_gets_20 : decode cX9_gets 20 = .ok (.bipush 6, 2) := by decide +kernel
theorem dX9_gets_22 : decode cX9_gets 22 = .ok (.iconst 3, 1) := by decide +kernel
theorem dX9_gets_23 : decode cX9_gets 23 = .ok (.iload_n 1, 1) := by decide +kernel
theorem dX9_gets_24 : decode cX9_gets 24 = .ok (.imul, 1) := by decide +kernel
theorem dX9_gets_25 : decode cX9_gets 25 = .ok (.iadd, 1) := by decide +kernel
theorem dX9_gets_26 : decode cX9_gets 26 = .ok (.iconst 1, 1) := by decide +kernel
theorem dX9_gets_27 : decode cX9_gets 27 = .ok (.iadd, 1) := by decide +kernel
theorem dX9_gets_28 : decode cX9_gets 28 = .ok (.iload_n 3, 1) := by decide +kernel
theorem dX9_gets_29 : decode cX9_gets 29 = .ok (.ldc 139, 2) := by decide +kernel
theorem dX9_gets_31 : decode cX9_gets 31 = .ok (.if_icmp .le 8, 3) := by decide +kernel
theorem dX9_gets_34 : decode cX9_gets 34 = .ok (.ldc 139, 2) := by decide +kernel
theorem dX9_gets_36 : decode cX9_gets 36 = .ok (.goto 4, 3) := by decide +kernel
theorem dX9_gets_39 : decode cX9_gets 39 = .ok (.iload_n 3, 1) := by decide +kernel
theorem dX9_gets_40 : decode cX9_gets 40 = .ok (.iastore, 1) := by decide +kernel
theorem dX9_gets_41 : decode cX9_gets 41 = .ok (.return_, 1) := by decide +kernel
theorem dX9_passes_0 : decode cX9_passes 0 = .ok (.aload_n 0, 1) := by decide +kernel
theorem dX9_passes_1 : decode cX9_passes 1 = .ok (.getfield 41, 3) := by decide +kernel
theorem dX9_passes_4 : decode cX9_passes 4 = .ok (.iconst 0, 1) := by decide +kernel
theorem dX9_passes_5 : decode cX9_passes 5 = .ok (.dup2, 1) := by decide +kernel
theorem dX9_passes_6 : decode cX9_passes 6 = .ok (.iaload, 1) := by decide +kernel
theorem dX9_passes_7 : decode cX9_passes 7 = .ok (.iconst 1, 1) := by decide +kernel
theorem dX9_passes_8 : decode cX9_passes 8 = .ok (.iadd, 1) := by decide +kernel
theorem dX9_passes_9 : decode cX9_passes 9 = .ok (.iastore, 1) := by decide +kernel
theorem dX9_passes_10 : decode cX9_passes 10 = .ok (.aload_n 0, 1) := by decide +kernel
theorem dX9_passes_11 : decode cX9_passes 11 = .ok (.getfield 41, 3) := by decide +kernel
theorem dX9_passes_14 : decode cX9_passes 14 = .ok (.iconst 1, 1) := by decide +kernel
theorem dX9_passes_15 : decode cX9_passes 15 = .ok (.dup2, 1) := by decide +kernel
theorem dX9_passes_16 : decode cX9_passes 16 = .ok (.iaload, 1) := by decide +kernel
theorem dX9_passes_17 : decode cX9_passes 17 = .ok (.aload_n 0, 1) := by decide +kernel
theorem dX9_passes_18 : decode cX9_passes 18 = .ok (.getfield 41, 3) := by decide +kernel
theorem dX9_passes_21 : decode cX9_passes 21 = .ok (.iconst 2, 1) := by decide +kernel
theorem dX9_passes_22 : decode cX9_passes 22 = .ok (.iaload, 1) := by decide +kernel
theorem dX9_passes_23 : decode cX9_passes 23 = .ok (.iadd, 1) := by decide +kernel
theorem dX9_passes_24 : decode cX9_passes 24 = .ok (.iastore, 1) := by decide +kernel
theorem dX9_passes_25 : decode cX9_passes 25 = .ok (.iconst 0, 1) := by decide +kernel
theorem dX9_passes_26 : decode cX9_passes 26 = .ok (.istore_n 1, 1) := by decide +kernel
theorem dX9_passes_27 : decode cX9_passes 27 = .ok (.iload_n 1, 1) := by decide +kernel
theorem dX9_passes_28 : decode cX9_passes 28 = .ok (.aload_n 0, 1) := by decide +kernel
theorem dX9_passes_29 : decode cX9_passes 29 = .ok (.getfield 17, 3) := by decide +kernel
theorem dX9_passes_32 : decode cX9_passes 32 = .ok (.iconst 2, 1) := by decide +kernel
theorem dX9_passes_33 : decode cX9_passes 33 = .ok (.iaload, 1) := by decide +kernel
theorem dX9_passes_34 : decode cX9_passes 34 = .ok (.if_icmp .ge 86, 3) := by decide +kernel
theorem dX9_passes_37 : decode cX9_passes 37 = .ok (.aload_n 0, 1) := by decide +kernel
theorem dX9_passes_38 : decode cX9_passes 38 = .ok (.getfield 41, 3) := by decide +kernel
theorem dX9_passes_41 : decode cX9_passes 41 = .ok (.iconst 5, 1) := by decide +kernel
theorem dX9_passes_42 : decode cX9_passes 42 = .ok (.iaload, 1) := by decide +kernel
theorem dX9_passes_43 : decode cX9_passes 43 = .ok (.iload_n 1, 1) := by decide +kernel
theorem dX9_passes_44 : decode cX9_passes 44 = .ok (.invokestatic 135, 3) := by decide +kernel
theorem dX9_passes_47 : decode cX9_passes 47 = .ok (.ifCond .eq 67, 3) := by decide +kernel
theorem dX9_passes_50 : decode cX9_passes 50 = .ok (.aload_n 0, 1) := by decide +kernel
theorem dX9_passes_51 : decode cX9_passes 51 = .ok (.getfield 41, 3) := by decide +kernel
theorem dX9_passes_54 : decode cX9_passes 54 = .ok (.bipush 6, 2) := by decide +kernel
theorem dX9_passes_56 : decode cX9_passes 56 = .ok (.iconst 3, 1) := by decide +kernel
theorem dX9_passes_57 : decode cX9_passes 57 = .ok (.iload_n 1, 1) := by decide +kernel
theorem dX9_passes_58 : decode cX9_passes 58 = .ok (.imul, 1) := by decide +kernel
theorem dX9_passes_59 : decode cX9_passes 59 = .ok (.iadd, 1) := by decide +kernel
theorem dX9_passes_60 : decode cX9_passes 60 = .ok (.iconst 2, 1) := by decide +kernel
theorem dX9_passes_61 : decode cX9_passes 61 = .ok (.iadd, 1) := by decide +kernel
theorem dX9_passes_62 : decode cX9_passes 62 = .ok (.dup2, 1) := by decide +kernel
theorem dX9_passes_63 : decode cX9_passes 63 = .ok (.iaload, 1) := by decide +kernel
theorem dX9_passes_64 : decode cX9_passes 64 = .ok (.iconst 1, 1) := by decide +kernel
theorem dX9_passes_65 : decode cX9_passes 65 = .ok (.iadd, 1) := by decide +kernel
theorem dX9_passes_66 : decode cX9_passes 66 = .ok (.iastore, 1) := by decide +kernel
theorem dX9_passes_67 : decode cX9_passes 67 = .ok (.aload_n 0, 1) := by decide +kernel
theorem dX9_passes_68 : decode cX9_passes 68 = .ok (.getfield 41, 3) := by decide +kernel
theorem dX9_passes_71 : decode cX9_passes 71 = .ok (.bipush 6, 2) := by decide +kernel
theorem dX9_passes_73 : decode cX9_passes 73 = .ok (.iconst 3, 1) := by decide +kernel
theorem dX9_passes_74 : decode cX9_passes 74 = .ok (.iload_n 1, 1) := by decide +kernel
theorem dX9_passes_75 : decode cX9_passes 75 = .ok (.imul, 1) := by decide +kernel
theorem dX9_passes_76 : decode cX9_passes 76 = .ok (.iadd, 1) := by decide +kernel
theorem dX9_passes_77 : decode cX9_passes 77 = .ok (.iconst 2, 1) := by decide +kernel
theorem dX9_passes_78 : decode cX9_passes 78 = .ok (.iadd, 1) := by decide +kernel
theorem dX9_passes_79 : decode cX9_passes 79 = .ok (.iaload, 1) := by decide +kernel
theorem dX9_passes_80 : decode cX9_passes 80 = .ok (.aload_n 0, 1) := by decide +kernel
theorem dX9_passes_81 : decode cX9_passes 81 = .ok (.getfield 17, 3) := by decide +kernel
theorem dX9_passes_84 : decode cX9_passes 84 = .ok (.iconst 4, 1) := by decide +kernel
theorem dX9_passes_85 : decode cX9_passes 85 = .ok (.iaload, 1) := by decide +kernel
theorem dX9_passes_86 : decode cX9_passes 86 = .ok (.if_icmp .ne 28, 3) := by decide +kernel
theorem dX9_passes_89 : decode cX9_passes 89 = .ok (.aload_n 0, 1) := by decide +kernel
theorem dX9_passes_90 : decode cX9_passes 90 = .ok (.getfield 41, 3) := by decide +kernel
theorem dX9_passes_93 : decode cX9_passes 93 = .ok (.bipush 6, 2) := by decide +kernel
theorem dX9_passes_95 : decode cX9_passes 95 = .ok (.iconst 3, 1) := by decide +kernel
theorem dX9_passes_96 : decode cX9_passes 96 = .ok (.iload_n 1, 1) := by decide +kernel
theorem dX9_passes_97 : decode cX9_passes 97 = .ok (.imul, 1) := by decide +kernel
theorem dX9_passes_98 : decode cX9_passes 98 = .ok (.iadd, 1) := by decide +kernel
theorem dX9_passes_99 : decode cX9_passes 99 = .ok (.iconst 2, 1) := by decide +kernel
theorem dX9_passes_100 : decode cX9_passes 100 = .ok (.iadd, 1) := by decide +kernel
theorem dX9_passes_101 : decode cX9_passes 101 = .ok (.iconst 0, 1) := by decide +kernel
theorem dX9_passes_102 : decode cX9_passes 102 = .ok (.iastore, 1) := by decide +kernel
theorem dX9_passes_103 : decode cX9_passes 103 = .ok (.aload_n 0, 1) := by decide +kernel
theorem dX9_passes_104 : decode cX9_passes 104 = .ok (.iload_n 1, 1) := by decide +kernel
theorem dX9_passes_105 : decode cX9_passes 105 = .ok (.aload_n 0, 1) := by decide +kernel
theorem dX9_passes_106 : decode cX9_passes 106 = .ok (.getfield 17, 3) := by decide +kernel
theorem dX9_passes_109 : decode cX9_passes 109 = .ok (.iconst 3, 1) := by decide +kernel
theorem dX9_passes_110 : decode cX9_passes 110 = .ok (.iaload, 1) := by decide +kernel
theorem dX9_passes_111 : decode cX9_passes 111 = .ok (.invokevirtual 160, 3) := by decide +kernel
theorem dX9_passes_114 : decode cX9_passes 114 = .ok (.iinc 1 1, 3) := by decide +kernel
theorem dX9_passes_117 : decode cX9_passes 117 = .ok (.goto (-90), 3) := by decide +kernel
theorem dX9_passes_120 : decode cX9_passes 120 = .ok (.return_, 1) := by decide +kernel
theorem dX9_barred_0 : decode cX9_barred 0 = .ok (.iload_n 1, 1) := by decide +kernel
theorem dX9_barred_1 : decode cX9_barred 1 = .ok (.iconst 1, 1) := by decide +kernel
theorem dX9_barred_2 : decode cX9_barred 2 = .ok (.bipush 60, 2) := by decide +kernel
theorem dX9_barred_4 : decode cX9_barred 4 = .ok (.invokestatic 63, 3) := by decide +kernel
theorem dX9_barred_7 : decode cX9_barred 7 = .ok (.ifCond .ne 8, 3) := by decide +kernel
theorem dX9_barred_10 : decode cX9_barred 10 = .ok (.ldc 67, 2) := by decide +kernel
theorem dX9_barred_12 : decode cX9_barred 12 = .ok (.goto 33, 3) := by decide +kernel
theorem dX9_barred_15 : decode cX9_barred 15 = .ok (.aload_n 0, 1) := by decide +kernel
theorem dX9_barred_16 : decode cX9_barred 16 = .ok (.invokevirtual 164, 3) := by decide +kernel
theorem dX9_barred_19 : decode cX9_barred 19 = .ok (.ifCond .ne 8, 3) := by decide +kernel
theorem dX9_barred_22 : decode cX9_barred 22 = .ok (.ldc 168, 2) := by decide +kernel
theorem dX9_barred_24 : decode cX9_barred 24 = .ok (.goto 21, 3) := by decide +kernel
theorem dX9_barred_27 : decode cX9_barred 27 = .ok (.aload_n 0, 1) := by decide +kernel
theorem dX9_barred_28 : decode cX9_barred 28 = .ok (.getfield 41, 3) := by decide +kernel
theorem dX9_barred_31 : decode cX9_barred 31 = .ok (.iconst 0, 1) := by decide +kernel
theorem dX9_barred_32 : decode cX9_barred 32 = .ok (.iaload, 1) := by decide +kernel
theorem dX9_barred_33 : decode cX9_barred 33 = .ok (.sipush 9000, 3) := by decide +kernel
theorem dX9_barred_36 : decode cX9_barred 36 = .ok (.if_icmp .le 8, 3) := by decide +kernel
theorem dX9_barred_39 : decode cX9_barred 39 = .ok (.ldc 71, 2) := by decide +kernel
theorem dX9_barred_41 : decode cX9_barred 41 = .ok (.goto 4, 3) := by decide +kernel
theorem dX9_barred_44 : decode cX9_barred 44 = .ok (.iconst 0, 1) := by decide +kernel
theorem dX9_barred_45 : decode cX9_barred 45 = .ok (.ireturn, 1) := by decide +kernel
theorem dX9_day_0 : decode cX9_day 0 = .ok (.aload_n 0, 1) := by decide +kernel
theorem dX9_day_1 : decode cX9_day 1 = .ok (.iload_n 1, 1) := by decide +kernel
theorem dX9_day_2 : decode cX9_day 2 = .ok (.invokevirtual 169, 3) := by decide +kernel
theorem dX9_day_5 : decode cX9_day 5 = .ok (.istore_n 2, 1) := by decide +kernel
theorem dX9_day_6 : decode cX9_day 6 = .ok (.iload_n 2, 1) := by decide +kernel
theorem dX9_day_7 : decode cX9_day 7 = .ok (.ifCond .eq 5, 3) := by decide +kernel
theorem dX9_day_10 : decode cX9_day 10 = .ok (.iload_n 2, 1) := by decide +kernel
theorem dX9_day_11 : decode cX9_day 11 = .ok (.ireturn, 1) := by decide +kernel
theorem dX9_day_12 : decode cX9_day 12 = .ok (.aload_n 0, 1) := by decide +kernel
theorem dX9_day_13 : decode cX9_day 13 = .ok (.invokevirtual 172, 3) := by decide +kernel
theorem dX9_day_16 : decode cX9_day 16 = .ok (.iconst 0, 1) := by decide +kernel
theorem dX9_day_17 : decode cX9_day 17 = .ok (.istore_n 3, 1) := by decide +kernel
theorem dX9_day_18 : decode cX9_day 18 = .ok (.iload_n 3, 1) := by decide +kernel
theorem dX9_day_19 : decode cX9_day 19 = .ok (.iload_n 1, 1) := by decide +kernel
theorem dX9_day_20 : decode cX9_day 20 = .ok (.if_icmp .ge 13, 3) := by decide +kernel
theorem dX9_day_23 : decode cX9_day 23 = .ok (.aload_n 0, 1) := by decide +kernel
theorem dX9_day_24 : decode cX9_day 24 = .ok (.invokevirtual 175, 3) := by decide +kernel
theorem dX9_day_27 : decode cX9_day 27 = .ok (.iinc 3 1, 3) := by decide +kernel
theorem dX9_day_30 : decode cX9_day 30 = .ok (.goto (-12), 3) := by decide +kernel
theorem dX9_day_33 : decode cX9_day 33 = .ok (.aload_n 0, 1) := by decide +kernel
theorem dX9_day_34 : decode cX9_day 34 = .ok (.getfield 41, 3) := by decide +kernel
theorem dX9_day_37 : decode cX9_day 37 = .ok (.iconst 0, 1) := by decide +kernel
theorem dX9_day_38 : decode cX9_day 38 = .ok (.iaload, 1) := by decide +kernel
theorem dX9_day_39 : decode cX9_day 39 = .ok (.ireturn, 1) := by decide +kernel
theorem dX9_canBe_0 : decode cX9_canBe 0 = .ok (.aload_n 0, 1) := by decide +kernel
theorem dX9_canBe_1 : decode cX9_canBe 1 = .ok (.getfield 41, 3) := by decide +kernel
theorem dX9_canBe_4 : decode cX9_canBe 4 = .ok (.iconst 4, 1) := by decide +kernel
theorem dX9_canBe_5 : decode cX9_canBe 5 = .ok (.iaload, 1) := by decide +kernel
theorem dX9_canBe_6 : decode cX9_canBe 6 = .ok (.iload_n 1, 1) := by decide +kernel
theorem dX9_canBe_7 : decode cX9_canBe 7 = .ok (.invokestatic 135, 3) := by decide +kernel
theorem dX9_canBe_10 : decode cX9_canBe 10 = .ok (.ifCond .ne 39, 3) := by decide +kernel
theorem dX9_canBe_13 : decode cX9_canBe 13 = .ok (.aload_n 0, 1) := by decide +kernel
theorem dX9_canBe_14 : decode cX9_canBe 14 = .ok (.getfield 41, 3) := by decide +kernel
theorem dX9_canBe_17 : decode cX9_canBe 17 = .ok (.iconst 2, 1) := by decide +kernel
theorem dX9_canBe_18 : decode cX9_canBe 18 = .ok (.iaload, 1) := by decide +kernel
theorem dX9_canBe_19 : decode cX9_canBe 19 = .ok (.iconst 1, 1) := by decide +kernel
theorem dX9_canBe_20 : decode cX9_canBe 20 = .ok (.if_icmp .ne 29, 3) := by decide +kernel
theorem dX9_canBe_23 : decode cX9_canBe 23 = .ok (.aload_n 0, 1) := by decide +kernel
theorem dX9_canBe_24 : decode cX9_canBe 24 = .ok (.getfield 41, 3) := by decide +kernel
theorem dX9_canBe_27 : decode cX9_canBe 27 = .ok (.iconst 3, 1) := by decide +kernel
theorem dX9_canBe_28 : decode cX9_canBe 28 = .ok (.iaload, 1) := by decide +kernel
theorem dX9_canBe_29 : decode cX9_canBe 29 = .ok (.ifCond .eq 16, 3) := by decide +kernel
theorem dX9_canBe_32 : decode cX9_canBe 32 = .ok (.aload_n 0, 1) := by decide +kernel
theorem dX9_canBe_33 : decode cX9_canBe 33 = .ok (.getfield 23, 3) := by decide +kernel
theorem dX9_canBe_36 : decode cX9_canBe 36 = .ok (.iconst 3, 1) := by decide +kernel
theorem dX9_canBe_37 : decode cX9_canBe 37 = .ok (.iload_n 1, 1) := by decide +kernel
theorem dX9_canBe_38 : decode cX9_canBe 38 = .ok (.imul, 1) := by decide +kernel
theorem dX9_canBe_39 : decode cX9_canBe 39 = .ok (.iconst 1, 1) := by decide +kernel
theorem dX9_canBe_40 : decode cX9_canBe 40 = .ok (.iadd, 1) := by decide +kernel
theorem dX9_canBe_41 : decode cX9_canBe 41 = .ok (.iaload, 1) := by decide +kernel
theorem dX9_canBe_42 : decode cX9_canBe 42 = .ok (.ifCond .ne 7, 3) := by decide +kernel
theorem dX9_canBe_45 : decode cX9_canBe 45 = .ok (.iconst 1, 1) := by decide +kernel
theorem dX9_canBe_46 : decode cX9_canBe 46 = .ok (.goto 4, 3) := by decide +kernel
theorem dX9_canBe_49 : decode cX9_canBe 49 = .ok (.iconst 0, 1) := by decide +kernel
theorem dX9_canBe_50 : decode cX9_canBe 50 = .ok (.ireturn, 1) := by decide +kernel
theorem dX9_make_0 : decode cX9_make 0 = .ok (.aload_n 0, 1) := by decide +kernel
theorem dX9_make_1 : decode cX9_make 1 = .ok (.iload_n 1, 1) := by decide +kernel
theorem dX9_make_2 : decode cX9_make 2 = .ok (.invokevirtual 154, 3) := by decide +kernel
theorem dX9_make_5 : decode cX9_make 5 = .ok (.ifCond .ne 6, 3) := by decide +kernel
theorem dX9_make_8 : decode cX9_make 8 = .ok (.ldc 153, 2) := by decide +kernel
theorem dX9_make_10 : decode cX9_make 10 = .ok (.ireturn, 1) := by decide +kernel
theorem dX9_make_11 : decode cX9_make 11 = .ok (.aload_n 0, 1) := by decide +kernel
theorem dX9_make_12 : decode cX9_make 12 = .ok (.iload_n 1, 1) := by decide +kernel
theorem dX9_make_13 : decode cX9_make 13 = .ok (.invokevirtual 178, 3) := by decide +kernel
theorem dX9_make_16 : decode cX9_make 16 = .ok (.ifCond .ne 6, 3) := by decide +kernel
theorem dX9_make_19 : decode cX9_make 19 = .ok (.ldc 168, 2) := by decide +kernel
theorem dX9_make_21 : decode cX9_make 21 = .ok (.ireturn, 1) := by decide +kernel
theorem dX9_make_22 : decode cX9_make 22 = .ok (.aload_n 0, 1) := by decide +kernel
theorem dX9_make_23 : decode cX9_make 23 = .ok (.invokevirtual 172, 3) := by decide +kernel
theorem dX9_make_26 : decode cX9_make 26 = .ok (.aload_n 0, 1) := by decide +kernel
theorem dX9_make_27 : decode cX9_make 27 = .ok (.getfield 41, 3) := by decide +kernel
theorem dX9_make_30 : decode cX9_make 30 = .ok (.iconst 4, 1) := by decide +kernel
theorem dX9_make_31 : decode cX9_make 31 = .ok (.dup2, 1) := by decide +kernel
theorem dX9_make_32 : decode cX9_make 32 = .ok (.iaload, 1) := by decide +kernel
theorem dX9_make_33 : decode cX9_make 33 = .ok (.iconst 1, 1) := by decide +kernel
theorem dX9_make_34 : decode cX9_make 34 = .ok (.iload_n 1, 1) := by decide +kernel
theorem dX9_make_35 : decode cX9_make 35 = .ok (.ishl, 1) := by decide +kernel
theorem dX9_make_36 : decode cX9_make 36 = .ok (.ior, 1) := by decide +kernel
theorem dX9_make_37 : decode cX9_make 37 = .ok (.iastore, 1) := by decide +kernel
theorem dX9_make_38 : decode cX9_make 38 = .ok (.aload_n 0, 1) := by decide +kernel
theorem dX9_make_39 : decode cX9_make 39 = .ok (.aload_n 0, 1) := by decide +kernel
theorem dX9_make_40 : decode cX9_make 40 = .ok (.getfield 41, 3) := by decide +kernel
theorem dX9_make_43 : decode cX9_make 43 = .ok (.iconst 4, 1) := by decide +kernel
theorem dX9_make_44 : decode cX9_make 44 = .ok (.iaload, 1) := by decide +kernel
theorem dX9_make_45 : decode cX9_make 45 = .ok (.invokevirtual 140, 3) := by decide +kernel
theorem dX9_make_48 : decode cX9_make 48 = .ok (.ireturn, 1) := by decide +kernel
theorem dX9_seal_0 : decode cX9_seal 0 = .ok (.aload_n 0, 1) := by decide +kernel
theorem dX9_seal_1 : decode cX9_seal 1 = .ok (.invokevirtual 164, 3) := by decide +kernel
theorem dX9_seal_4 : decode cX9_seal 4 = .ok (.ifCond .ne 6, 3) := by decide +kernel
theorem dX9_seal_7 : decode cX9_seal 7 = .ok (.ldc 168, 2) := by decide +kernel
theorem dX9_seal_9 : decode cX9_seal 9 = .ok (.ireturn, 1) := by decide +kernel
theorem dX9_seal_10 : decode cX9_seal 10 = .ok (.aload_n 0, 1) := by decide +kernel
theorem dX9_seal_11 : decode cX9_seal 11 = .ok (.invokevirtual 172, 3) := by decide +kernel
theorem dX9_seal_14 : decode cX9_seal 14 = .ok (.aload_n 0, 1) := by decide +kernel
theorem dX9_seal_15 : decode cX9_seal 15 = .ok (.getfield 41, 3) := by decide +kernel
theorem dX9_seal_18 : decode cX9_seal 18 = .ok (.iconst 3, 1) := by decide +kernel
theorem dX9_seal_19 : decode cX9_seal 19 = .ok (.iaload, 1) := by decide +kernel
theorem dX9_seal_20 : decode cX9_seal 20 = .ok (.istore_n 2, 1) := by decide +kernel
theorem dX9_seal_21 : decode cX9_seal 21 = .ok (.aload_n 0, 1) := by decide +kernel
theorem dX9_seal_22 : decode cX9_seal 22 = .ok (.getfield 41, 3) := by decide +kernel
theorem dX9_seal_25 : decode cX9_seal 25 = .ok (.iconst 3, 1) := by decide +kernel
theorem dX9_seal_26 : decode cX9_seal 26 = .ok (.iload_n 1, 1) := by decide +kernel
theorem dX9_seal_27 : decode cX9_seal 27 = .ok (.ifCond .eq 7, 3) := by decide +kernel
theorem dX9_seal_30 : decode cX9_seal 30 = .ok (.iconst 1, 1) := by decide +kernel
theorem dX9_seal_31 : decode cX9_seal 31 = .ok (.goto 4, 3) := by decide +kernel
theorem dX9_seal_34 : decode cX9_seal 34 = .ok (.iconst 0, 1) := by decide +kernel
theorem dX9_seal_35 : decode cX9_seal 35 = .ok (.iastore, 1) := by decide +kernel
theorem dX9_seal_36 : decode cX9_seal 36 = .ok (.iload_n 2, 1) := by decide +kernel
theorem dX9_seal_37 : decode cX9_seal 37 = .ok (.ireturn, 1) := by decide +kernel
theorem dX9_smash_0 : decode cX9_smash 0 = .ok (.aload_n 0, 1) := by decide +kernel
theorem dX9_smash_1 : decode cX9_smash 1 = .ok (.getfield 41, 3) := by decide +kernel
theorem dX9_smash_4 : decode cX9_smash 4 = .ok (.iconst 2, 1) := by decide +kernel
theorem dX9_smash_5 : decode cX9_smash 5 = .ok (.iaload, 1) := by decide +kernel
theorem dX9_smash_6 : decode cX9_smash 6 = .ok (.ifCond .ne 6, 3) := by decide +kernel
theorem dX9_smash_9 : decode cX9_smash 9 = .ok (.ldc 168, 2) := by decide +kernel
theorem dX9_smash_11 : decode cX9_smash 11 = .ok (.ireturn, 1) := by decide +kernel
theorem dX9_smash_12 : decode cX9_smash 12 = .ok (.aload_n 0, 1) := by decide +kernel
theorem dX9_smash_13 : decode cX9_smash 13 = .ok (.invokevirtual 172, 3) := by decide +kernel
theorem dX9_smash_16 : decode cX9_smash 16 = .ok (.aload_n 0, 1) := by decide +kernel
theorem dX9_smash_17 : decode cX9_smash 17 = .ok (.getfield 41, 3) := by decide +kernel
theorem dX9_smash_20 : decode cX9_smash 20 = .ok (.iconst 2, 1) := by decide +kernel
theorem dX9_smash_21 : decode cX9_smash 21 = .ok (.iconst 0, 1) := by decide +kernel
theorem dX9_smash_22 : decode cX9_smash 22 = .ok (.iastore, 1) := by decide +kernel
theorem dX9_smash_23 : decode cX9_smash 23 = .ok (.aload_n 0, 1) := by decide +kernel
theorem dX9_smash_24 : decode cX9_smash 24 = .ok (.getfield 41, 3) := by decide +kernel
theorem dX9_smash_27 : decode cX9_smash 27 = .ok (.iconst 1, 1) := by decide +kernel
theorem dX9_smash_28 : decode cX9_smash 28 = .ok (.iaload, 1) := by decide +kernel
theorem dX9_smash_29 : decode cX9_smash 29 = .ok (.ireturn, 1) := by decide +kernel
theorem dX9_hires_0 : decode cX9_hires 0 = .ok (.aload_n 0, 1) := by decide +kernel
theorem dX9_hires_1 : decode cX9_hires 1 = .ok (.getfield 41, 3) := by decide +kernel
theorem dX9_hires_4 : decode cX9_hires 4 = .ok (.iconst 5, 1) := by decide +kernel
theorem dX9_hires_5 : decode cX9_hires 5 = .ok (.iload_n 2, 1) := by decide +kernel
theorem dX9_hires_6 : decode cX9_hires 6 = .ok (.ifCond .eq 16, 3) := by decide +kernel
theorem dX9_hires_9 : decode cX9_hires 9 = .ok (.aload_n 0, 1) := by decide +kernel
theorem dX9_hires_10 : decode cX9_hires 10 = .ok (.getfield 41, 3) := by decide +kernel
theorem dX9_hires_13 : decode cX9_hires 13 = .ok (.iconst 5, 1) := by decide +kernel
theorem dX9_hires_14 : decode cX9_hires 14 = .ok (.iaload, 1) := by decide +kernel
theorem dX9_hires_15 : decode cX9_hires 15 = .ok (.iconst 1, 1) := by decide +kernel
theorem dX9_hires_16 : decode cX9_hires 16 = .ok (.iload_n 1, 1) := by decide +kernel
theorem dX9_hires_17 : decode cX9_hires 17 = .ok (.ishl, 1) := by decide +kernel
theorem dX9_hires_18 : decode cX9_hires 18 = .ok (.ior, 1) := by decide +kernel
theorem dX9_hires_19 : decode cX9_hires 19 = .ok (.goto 15, 3) := by decide +kernel
theorem dX9_hires_22 : decode cX9_hires 22 = .ok (.aload_n 0, 1) := by decide +kernel
theorem dX9_hires_23 : decode cX9_hires 23 = .ok (.getfield 41, 3) := by decide +kernel
theorem dX9_hires_26 : decode cX9_hires 26 = .ok (.iconst 5, 1) := by decide +kernel
theorem dX9_hires_27 : decode cX9_hires 27 = .ok (.iaload, 1) := by decide +kernel
theorem dX9_hires_28 : decode cX9_hires 28 = .ok (.iconst 1, 1) := by decide +kernel
theorem dX9_hires_29 : decode cX9_hires 29 = .ok (.iload_n 1, 1) := by decide +kernel
theorem dX9_hires_30 : decode cX9_hires 30 = .ok (.ishl, 1) := by decide +kernel
theorem dX9_hires_31 : decode cX9_hires 31 = .ok (.iconst (-1), 1) := by decide +kernel
theorem dX9_hires_32 : decode cX9_hires 32 = .ok (.ixor, 1) := by decide +kernel
theorem dX9_hires_33 : decode cX9_hires 33 = .ok (.iand, 1) := by decide +kernel
theorem dX9_hires_34 : decode cX9_hires 34 = .ok (.iastore, 1) := by decide +kernel
theorem dX9_hires_35 : decode cX9_hires 35 = .ok (.aload_n 0, 1) := by decide +kernel
theorem dX9_hires_36 : decode cX9_hires 36 = .ok (.getfield 41, 3) := by decide +kernel
theorem dX9_hires_39 : decode cX9_hires 39 = .ok (.bipush 6, 2) := by decide +kernel
theorem dX9_hires_41 : decode cX9_hires 41 = .ok (.iconst 3, 1) := by decide +kernel
theorem dX9_hires_42 : decode cX9_hires 42 = .ok (.iload_n 1, 1) := by decide +kernel
theorem dX9_hires_43 : decode cX9_hires 43 = .ok (.imul, 1) := by decide +kernel
theorem dX9_hires_44 : decode cX9_hires 44 = .ok (.iadd, 1) := by decide +kernel
theorem dX9_hires_45 : decode cX9_hires 45 = .ok (.iconst 2, 1) := by decide +kernel
theorem dX9_hires_46 : decode cX9_hires 46 = .ok (.iadd, 1) := by decide +kernel
theorem dX9_hires_47 : decode cX9_hires 47 = .ok (.iconst 0, 1) := by decide +kernel
theorem dX9_hires_48 : decode cX9_hires 48 = .ok (.iastore, 1) := by decide +kernel
theorem dX9_hires_49 : decode cX9_hires 49 = .ok (.return_, 1) := by decide +kernel
theorem dX9_hire_0 : decode cX9_hire 0 = .ok (.aload_n 0, 1) := by decide +kernel
theorem dX9_hire_1 : decode cX9_hire 1 = .ok (.iload_n 1, 1) := by decide +kernel
theorem dX9_hire_2 : decode cX9_hire 2 = .ok (.invokevirtual 157, 3) := by decide +kernel
theorem dX9_hire_5 : decode cX9_hire 5 = .ok (.ifCond .ne 6, 3) := by decide +kernel
theorem dX9_hire_8 : decode cX9_hire 8 = .ok (.ldc 153, 2) := by decide +kernel
theorem dX9_hire_10 : decode cX9_hire 10 = .ok (.ireturn, 1) := by decide +kernel
theorem dX9_hire_11 : decode cX9_hire 11 = .ok (.aload_n 0, 1) := by decide +kernel
theorem dX9_hire_12 : decode cX9_hire 12 = .ok (.invokevirtual 172, 3) := by decide +kernel
theorem dX9_hire_15 : decode cX9_hire 15 = .ok (.aload_n 0, 1) := by decide +kernel
theorem dX9_hire_16 : decode cX9_hire 16 = .ok (.getfield 41, 3) := by decide +kernel
theorem dX9_hire_19 : decode cX9_hire 19 = .ok (.iconst 5, 1) := by decide +kernel
theorem dX9_hire_20 : decode cX9_hire 20 = .ok (.iaload, 1) := by decide +kernel
theorem dX9_hire_21 : decode cX9_hire 21 = .ok (.iload_n 1, 1) := by decide +kernel
theorem dX9_hire_22 : decode cX9_hire 22 = .ok (.ishr, 1) := by decide +kernel
theorem dX9_hire_23 : decode cX9_hire 23 = .ok (.iconst 1, 1) := by decide +kernel
theorem dX9_hire_24 : decode cX9_hire 24 = .ok (.iand, 1) := by decide +kernel
theorem dX9_hire_25 : decode cX9_hire 25 = .ok (.istore_n 3, 1) := by decide +kernel
theorem dX9_hire_26 : decode cX9_hire 26 = .ok (.aload_n 0, 1) := by decide +kernel
theorem dX9_hire_27 : decode cX9_hire 27 = .ok (.iload_n 1, 1) := by decide +kernel
theorem dX9_hire_28 : decode cX9_hire 28 = .ok (.iload_n 2, 1) := by decide +kernel
theorem dX9_hire_29 : decode cX9_hire 29 = .ok (.invokevirtual 181, 3) := by decide +kernel
theorem dX9_hire_32 : decode cX9_hire 32 = .ok (.iload_n 3, 1) := by decide +kernel
theorem dX9_hire_33 : decode cX9_hire 33 = .ok (.ireturn, 1) := by decide +kernel
theorem dX9_buy_0 : decode cX9_buy 0 = .ok (.aload_n 0, 1) := by decide +kernel
theorem dX9_buy_1 : decode cX9_buy 1 = .ok (.iload_n 1, 1) := by decide +kernel
theorem dX9_buy_2 : decode cX9_buy 2 = .ok (.invokevirtual 157, 3) := by decide +kernel
theorem dX9_buy_5 : decode cX9_buy 5 = .ok (.ifCond .eq 15, 3) := by decide +kernel
theorem dX9_buy_8 : decode cX9_buy 8 = .ok (.aload_n 0, 1) := by decide +kernel
theorem dX9_buy_9 : decode cX9_buy 9 = .ok (.iload_n 2, 1) := by decide +kernel
theorem dX9_buy_10 : decode cX9_buy 10 = .ok (.invokevirtual 185, 3) := by decide +kernel
theorem dX9_buy_13 : decode cX9_buy 13 = .ok (.ifCond .eq 7, 3) := by decide +kernel
theorem dX9_buy_16 : decode cX9_buy 16 = .ok (.iload_n 2, 1) := by decide +kernel
theorem dX9_buy_17 : decode cX9_buy 17 = .ok (.ifCond .ne 6, 3) := by decide +kernel
theorem dX9_buy_20 : decode cX9_buy 20 = .ok (.ldc 153, 2) := by decide +kernel
theorem dX9_buy_22 : decode cX9_buy 22 = .ok (.ireturn, 1) := by decide +kernel
theorem dX9_buy_23 : decode cX9_buy 23 = .ok (.iload_n 3, 1) := by decide +kernel
theorem dX9_buy_24 : decode cX9_buy 24 = .ok (.iconst 0, 1) := by decide +kernel
theorem dX9_buy_25 : decode cX9_buy 25 = .ok (.sipush 9999, 3) := by decide +kernel
theorem dX9_buy_28 : decode cX9_buy 28 = .ok (.invokestatic 63, 3) := by decide +kernel
theorem dX9_buy_31 : decode cX9_buy 31 = .ok (.ifCond .ne 6, 3) := by decide +kernel
theorem dX9_buy_34 : decode cX9_buy 34 = .ok (.ldc 67, 2) := by decide +kernel
theorem dX9_buy_36 : decode cX9_buy 36 = .ok (.ireturn, 1) := by decide +kernel
theorem dX9_buy_37 : decode cX9_buy 37 = .ok (.iload_n 3, 1) := by decide +kernel
theorem dX9_buy_38 : decode cX9_buy 38 = .ok (.aload_n 0, 1) := by decide +kernel
theorem dX9_buy_39 : decode cX9_buy 39 = .ok (.getfield 26, 3) := by decide +kernel
theorem dX9_buy_42 : decode cX9_buy 42 = .ok (.iconst 2, 1) := by decide +kernel
theorem dX9_buy_43 : decode cX9_buy 43 = .ok (.iload_n 1, 1) := by decide +kernel
theorem dX9_buy_44 : decode cX9_buy 44 = .ok (.imul, 1) := by decide +kernel
theorem dX9_buy_45 : decode cX9_buy 45 = .ok (.iconst 1, 1) := by decide +kernel
theorem dX9_buy_46 : decode cX9_buy 46 = .ok (.iadd, 1) := by decide +kernel
theorem dX9_buy_47 : decode cX9_buy 47 = .ok (.iaload, 1) := by decide +kernel
theorem dX9_buy_48 : decode cX9_buy 48 = .ok (.if_icmp .ge 6, 3) := by decide +kernel
theorem dX9_buy_51 : decode cX9_buy 51 = .ok (.ldc 168, 2) := by decide +kernel
theorem dX9_buy_53 : decode cX9_buy 53 = .ok (.ireturn, 1) := by decide +kernel
theorem dX9_buy_54 : decode cX9_buy 54 = .ok (.aload_n 0, 1) := by decide +kernel
theorem dX9_buy_55 : decode cX9_buy 55 = .ok (.invokevirtual 172, 3) := by decide +kernel
theorem dX9_buy_58 : decode cX9_buy 58 = .ok (.aload_n 0, 1) := by decide +kernel
theorem dX9_buy_59 : decode cX9_buy 59 = .ok (.getfield 41, 3) := by decide +kernel
theorem dX9_buy_62 : decode cX9_buy 62 = .ok (.bipush 6, 2) := by decide +kernel
theorem dX9_buy_64 : decode cX9_buy 64 = .ok (.iconst 3, 1) := by decide +kernel
theorem dX9_buy_65 : decode cX9_buy 65 = .ok (.iload_n 1, 1) := by decide +kernel
theorem dX9_buy_66 : decode cX9_buy 66 = .ok (.imul, 1) := by decide +kernel
theorem dX9_buy_67 : decode cX9_buy 67 = .ok (.iadd, 1) := by decide +kernel
theorem dX9_buy_68 : decode cX9_buy 68 = .ok (.iload_n 2, 1) := by decide +kernel
theorem dX9_buy_69 : decode cX9_buy 69 = .ok (.iastore, 1) := by decide +kernel
theorem dX9_buy_70 : decode cX9_buy 70 = .ok (.aload_n 0, 1) := by decide +kernel
theorem dX9_buy_71 : decode cX9_buy 71 = .ok (.iload_n 1, 1) := by decide +kernel
theorem dX9_buy_72 : decode cX9_buy 72 = .ok (.iload_n 3, 1) := by decide +kernel
theorem dX9_buy_73 : decode cX9_buy 73 = .ok (.invokevirtual 160, 3) := by decide +kernel
theorem dX9_buy_76 : decode cX9_buy 76 = .ok (.aload_n 0, 1) := by decide +kernel
theorem dX9_buy_77 : decode cX9_buy 77 = .ok (.getfield 41, 3) := by decide +kernel
theorem dX9_buy_80 : decode cX9_buy 80 = .ok (.bipush 6, 2) := by decide +kernel
theorem dX9_buy_82 : decode cX9_buy 82 = .ok (.iconst 3, 1) := by decide +kernel
theorem dX9_buy_83 : decode cX9_buy 83 = .ok (.iload_n 1, 1) := by decide +kernel
theorem dX9_buy_84 : decode cX9_buy 84 = .ok (.imul, 1) := by decide +kernel
theorem dX9_buy_85 : decode cX9_buy 85 = .ok (.iadd, 1) := by decide +kernel
theorem dX9_buy_86 : decode cX9_buy 86 = .ok (.iconst 1, 1) := by decide +kernel
theorem dX9_buy_87 : decode cX9_buy 87 = .ok (.iadd, 1) := by decide +kernel
theorem dX9_buy_88 : decode cX9_buy 88 = .ok (.iaload, 1) := by decide +kernel
theorem dX9_buy_89 : decode cX9_buy 89 = .ok (.ireturn, 1) := by decide +kernel
theorem dX9_draw_0 : decode cX9_draw 0 = .ok (.aload_n 0, 1) := by decide +kernel
theorem dX9_draw_1 : decode cX9_draw 1 = .ok (.aload_n 0, 1) := by decide +kernel
theorem dX9_draw_2 : decode cX9_draw 2 = .ok (.getfield 188, 3) := by decide +kernel
theorem dX9_draw_5 : decode cX9_draw 5 = .ok (.i2l, 1) := by decide +kernel
theorem dX9_draw_6 : decode cX9_draw 6 = .ok (.ldc2_w 191, 3) := by decide +kernel
theorem dX9_draw_9 : decode cX9_draw 9 = .ok (.lmul, 1) := by decide +kernel
theorem dX9_draw_10 : decode cX9_draw 10 = .ok (.ldc2_w 193, 3) := by decide +kernel
theorem dX9_draw_13 : decode cX9_draw 13 = .ok (.ladd, 1) := by decide +kernel
theorem dX9_draw_14 : decode cX9_draw 14 = .ok (.ldc2_w 195, 3) := by decide +kernel
theorem dX9_draw_17 : decode cX9_draw 17 = .ok (.land, 1) := by decide +kernel
theorem dX9_draw_18 : decode cX9_draw 18 = .ok (.l2i, 1) := by decide +kernel
theorem dX9_draw_19 : decode cX9_draw 19 = .ok (.putfield 188, 3) := by decide +kernel
theorem dX9_draw_22 : decode cX9_draw 22 = .ok (.aload_n 0, 1) := by decide +kernel
theorem dX9_draw_23 : decode cX9_draw 23 = .ok (.getfield 188, 3) := by decide +kernel
theorem dX9_draw_26 : decode cX9_draw 26 = .ok (.ldc 197, 2) := by decide +kernel
theorem dX9_draw_28 : decode cX9_draw 28 = .ok (.idiv, 1) := by decide +kernel
theorem dX9_draw_29 : decode cX9_draw 29 = .ok (.iload_n 1, 1) := by decide +kernel
theorem dX9_draw_30 : decode cX9_draw 30 = .ok (.irem, 1) := by decide +kernel
theorem dX9_draw_31 : decode cX9_draw 31 = .ok (.ireturn, 1) := by decide +kernel
theorem dX9_drift_0 : decode cX9_drift 0 = .ok (.aload_n 0, 1) := by decide +kernel
theorem dX9_drift_1 : decode cX9_drift 1 = .ok (.iload_n 1, 1) := by decide +kernel
theorem dX9_drift_2 : decode cX9_drift 2 = .ok (.invokevirtual 169, 3) := by decide +kernel
theorem dX9_drift_5 : decode cX9_drift 5 = .ok (.istore_n 2, 1) := by decide +kernel
theorem dX9_drift_6 : decode cX9_drift 6 = .ok (.iload_n 2, 1) := by decide +kernel
theorem dX9_drift_7 : decode cX9_drift 7 = .ok (.ifCond .eq 5, 3) := by decide +kernel
theorem dX9_drift_10 : decode cX9_drift 10 = .ok (.iload_n 2, 1) := by decide +kernel
theorem dX9_drift_11 : decode cX9_drift 11 = .ok (.ireturn, 1) := by decide +kernel
theorem dX9_drift_12 : decode cX9_drift 12 = .ok (.aload_n 0, 1) := by decide +kernel
theorem dX9_drift_13 : decode cX9_drift 13 = .ok (.invokevirtual 172, 3) := by decide +kernel
theorem dX9_drift_16 : decode cX9_drift 16 = .ok (.iconst 0, 1) := by decide +kernel
theorem dX9_drift_17 : decode cX9_drift 17 = .ok (.istore_n 3, 1) := by decide +kernel
theorem dX9_drift_18 : decode cX9_drift 18 = .ok (.iload_n 3, 1) := by decide +kernel
theorem dX9_drift_19 : decode cX9_drift 19 = .ok (.iload_n 1, 1) := by decide +kernel
theorem dX9_drift_20 : decode cX9_drift 20 = .ok (.if_icmp .ge 151, 3) := by decide +kernel
theorem dX9_drift_23 : decode cX9_drift 23 = .ok (.aload_n 0, 1) := by decide +kernel
theorem dX9_drift_24 : decode cX9_drift 24 = .ok (.bipush 8, 2) := by decide +kernel
theorem dX9_drift_26 : decode cX9_drift 26 = .ok (.invokevirtual 198, 3) := by decide +kernel
theorem dX9_drift_29 : decode cX9_drift 29 = .ok (.istore 4, 2) := by decide +kernel
theorem dX9_drift_31 : decode cX9_drift 31 = .ok (.iload 4, 2) := by decide +kernel
theorem dX9_drift_33 : decode cX9_drift 33 = .ok (.ifCond .ne 53, 3) := by decide +kernel
theorem dX9_drift_36 : decode cX9_drift 36 = .ok (.aload_n 0, 1) := by decide +kernel
theorem dX9_drift_37 : decode cX9_drift 37 = .ok (.getfield 17, 3) := by decide +kernel
theorem dX9_drift_40 : decode cX9_drift 40 = .ok (.iconst 1, 1) := by decide +kernel
theorem dX9_drift_41 : decode cX9_drift 41 = .ok (.iaload, 1) := by decide +kernel
theorem dX9_drift_42 : decode cX9_drift 42 = .ok (.ifCond .le 44, 3) := by decide +kernel
theorem dX9_drift_45 : decode cX9_drift 45 = .ok (.aload_n 0, 1) := by decide +kernel
theorem dX9_drift_46 : decode cX9_drift 46 = .ok (.aload_n 0, 1) := by decide +kernel
theorem dX9_drift_47 : decode cX9_drift 47 = .ok (.getfield 17, 3) := by decide +kernel
theorem dX9_drift_50 : decode cX9_drift 50 = .ok (.iconst 1, 1) := by decide +kernel
theorem dX9_drift_51 : decode cX9_drift 51 = .ok (.iaload, 1) := by decide +kernel
theorem dX9_drift_52 : decode cX9_drift 52 = .ok (.invokevirtual 198, 3) := by decide +kernel
theorem dX9_drift_55 : decode cX9_drift 55 = .ok (.istore 5, 2) := by decide +kernel
theorem dX9_drift_57 : decode cX9_drift 57 = .ok (.aload_n 0, 1) := by decide +kernel
theorem dX9_drift_58 : decode cX9_drift 58 = .ok (.getfield 41, 3) := by decide +kernel
theorem dX9_drift_61 : decode cX9_drift 61 = .ok (.iconst 4, 1) := by decide +kernel
theorem dX9_drift_62 : decode cX9_drift 62 = .ok (.dup2, 1) := by decide +kernel
theorem dX9_drift_63 : decode cX9_drift 63 = .ok (.iaload, 1) := by decide +kernel
theorem dX9_drift_64 : decode cX9_drift 64 = .ok (.aload_n 0, 1) := by decide +kernel
theorem dX9_drift_65 : decode cX9_drift 65 = .ok (.iload 5, 2) := by decide +kernel
theorem dX9_drift_67 : decode cX9_drift 67 = .ok (.invokevirtual 178, 3) := by decide +kernel
theorem dX9_drift_70 : decode cX9_drift 70 = .ok (.ifCond .eq 10, 3) := by decide +kernel
theorem dX9_drift_73 : decode cX9_drift 73 = .ok (.iconst 1, 1) := by decide +kernel
theorem dX9_drift_74 : decode cX9_drift 74 = .ok (.iload 5, 2) := by decide +kernel
theorem dX9_drift_76 : decode cX9_drift 76 = .ok (.ishl, 1) := by decide +kernel
theorem dX9_drift_77 : decode cX9_drift 77 = .ok (.goto 4, 3) := by decide +kernel
theorem dX9_drift_80 : decode cX9_drift 80 = .ok (.iconst 0, 1) := by decide +kernel
theorem dX9_drift_81 : decode cX9_drift 81 = .ok (.ior, 1) := by decide +kernel
theorem dX9_drift_82 : decode cX9_drift 82 = .ok (.iastore, 1) := by decide +kernel
theorem dX9_drift_83 : decode cX9_drift 83 = .ok (.goto 78, 3) := by decide +kernel
theorem dX9_drift_86 : decode cX9_drift 86 = .ok (.iload 4, 2) := by decide +kernel
theorem dX9_drift_88 : decode cX9_drift 88 = .ok (.iconst 1, 1) := by decide +kernel
theorem dX9_drift_89 : decode cX9_drift 89 = .ok (.if_icmp .ne 52, 3) := by decide +kernel
theorem dX9_drift_92 : decode cX9_drift 92 = .ok (.aload_n 0, 1) := by decide +kernel
theorem dX9_drift_93 : decode cX9_drift 93 = .ok (.getfield 17, 3) := by decide +kernel
theorem dX9_drift_96 : decode cX9_drift 96 = .ok (.iconst 2, 1) := by decide +kernel
theorem dX9_drift_97 : decode cX9_drift 97 = .ok (.iaload, 1) := by decide +kernel
theorem dX9_drift_98 : decode cX9_drift 98 = .ok (.ifCond .le 43, 3) := by decide +kernel
theorem dX9_drift_101 : decode cX9_drift 101 = .ok (.aload_n 0, 1) := by decide +kernel
theorem dX9_drift_102 : decode cX9_drift 102 = .ok (.aload_n 0, 1) := by decide +kernel
theorem dX9_drift_103 : decode cX9_drift 103 = .ok (.getfield 17, 3) := by decide +kernel
theorem dX9_drift_106 : decode cX9_drift 106 = .ok (.iconst 2, 1) := by decide +kernel
theorem dX9_drift_107 : decode cX9_drift 107 = .ok (.iaload, 1) := by decide +kernel
theorem dX9_drift_108 : decode cX9_drift 108 = .ok (.invokevirtual 198, 3) := by decide +kernel
theorem dX9_drift_111 : decode cX9_drift 111 = .ok (.istore 5, 2) := by decide +kernel
theorem dX9_drift_113 : decode cX9_drift 113 = .ok (.aload_n 0, 1) := by decide +kernel
theorem dX9_drift_114 : decode cX9_drift 114 = .ok (.iload 5, 2) := by decide +kernel
theorem dX9_drift_116 : decode cX9_drift 116 = .ok (.aload_n 0, 1) := by decide +kernel
theorem dX9_drift_117 : decode cX9_drift 117 = .ok (.getfield 41, 3) := by decide +kernel
theorem dX9_drift_120 : decode cX9_drift 120 = .ok (.iconst 5, 1) := by decide +kernel
theorem dX9_drift_121 : decode cX9_drift 121 = .ok (.iaload, 1) := by decide +kernel
theorem dX9_drift_122 : decode cX9_drift 122 = .ok (.iload 5, 2) := by decide +kernel
theorem dX9_drift_124 : decode cX9_drift 124 = .ok (.invokestatic 135, 3) := by decide +kernel
theorem dX9_drift_127 : decode cX9_drift 127 = .ok (.ifCond .ne 7, 3) := by decide +kernel
theorem dX9_drift_130 : decode cX9_drift 130 = .ok (.iconst 1, 1) := by decide +kernel
theorem dX9_drift_131 : decode cX9_drift 131 = .ok (.goto 4, 3) := by decide +kernel
theorem dX9_drift_134 : decode cX9_drift 134 = .ok (.iconst 0, 1) := by decide +kernel
theorem dX9_drift_135 : decode cX9_drift 135 = .ok (.invokevirtual 181, 3) := by decide +kernel
theorem dX9_drift_138 : decode cX9_drift 138 = .ok (.goto 23, 3) := by decide +kernel
theorem dX9_drift_141 : decode cX9_drift 141 = .ok (.iload 4, 2) := by decide +kernel
theorem dX9_drift_143 : decode cX9_drift 143 = .ok (.iconst 2, 1) := by decide +kernel
theorem dX9_drift_144 : decode cX9_drift 144 = .ok (.if_icmp .ne 17, 3) := by decide +kernel
theorem dX9_drift_147 : decode cX9_drift 147 = .ok (.aload_n 0, 1) := by decide +kernel
theorem dX9_drift_148 : decode cX9_drift 148 = .ok (.getfield 41, 3) := by decide +kernel
theorem dX9_drift_151 : decode cX9_drift 151 = .ok (.iconst 3, 1) := by decide +kernel
theorem dX9_drift_152 : decode cX9_drift 152 = .ok (.iconst 1, 1) := by decide +kernel
theorem dX9_drift_153 : decode cX9_drift 153 = .ok (.aload_n 0, 1) := by decide +kernel
theorem dX9_drift_154 : decode cX9_drift 154 = .ok (.getfield 41, 3) := by decide +kernel
theorem dX9_drift_157 : decode cX9_drift 157 = .ok (.iconst 3, 1) := by decide +kernel
theorem dX9_drift_158 : decode cX9_drift 158 = .ok (.iaload, 1) := by decide +kernel
theorem dX9_drift_159 : decode cX9_drift 159 = .ok (.isub, 1) := by decide +kernel
theorem dX9_drift_160 : decode cX9_drift 160 = .ok (.iastore, 1) := by decide +kernel
theorem dX9_drift_161 : decode cX9_drift 161 = .ok (.aload_n 0, 1) := by decide +kernel
theorem dX9_drift_162 : decode cX9_drift 162 = .ok (.invokevirtual 175, 3) := by decide +kernel
theorem dX9_drift_165 : decode cX9_drift 165 = .ok (.iinc 3 1, 3) := by decide +kernel
theorem dX9_drift_168 : decode cX9_drift 168 = .ok (.goto (-150), 3) := by decide +kernel
theorem dX9_drift_171 : decode cX9_drift 171 = .ok (.aload_n 0, 1) := by decide +kernel
theorem dX9_drift_172 : decode cX9_drift 172 = .ok (.aload_n 0, 1) := by decide +kernel
theorem dX9_drift_173 : decode cX9_drift 173 = .ok (.getfield 41, 3) := by decide +kernel
theorem dX9_drift_176 : decode cX9_drift 176 = .ok (.iconst 4, 1) := by decide +kernel
theorem dX9_drift_177 : decode cX9_drift 177 = .ok (.iaload, 1) := by decide +kernel
theorem dX9_drift_178 : decode cX9_drift 178 = .ok (.invokevirtual 140, 3) := by decide +kernel
theorem dX9_drift_181 : decode cX9_drift 181 = .ok (.ireturn, 1) := by decide +kernel
theorem dX9_undo_0 : decode cX9_undo 0 = .ok (.aload_n 0, 1) := by decide +kernel
theorem dX9_undo_1 : decode cX9_undo 1 = .ok (.getfield 126, 3) := by decide +kernel
theorem dX9_undo_4 : decode cX9_undo 4 = .ok (.ifCond .ne 6, 3) := by decide +kernel
theorem dX9_undo_7 : decode cX9_undo 7 = .ok (.ldc 168, 2) := by decide +kernel
theorem dX9_undo_9 : decode cX9_undo 9 = .ok (.ireturn, 1) := by decide +kernel
theorem dX9_undo_10 : decode cX9_undo 10 = .ok (.aload_n 0, 1) := by decide +kernel
theorem dX9_undo_11 : decode cX9_undo 11 = .ok (.dup, 1) := by decide +kernel
theorem dX9_undo_12 : decode cX9_undo 12 = .ok (.getfield 126, 3) := by decide +kernel
theorem dX9_undo_15 : decode cX9_undo 15 = .ok (.iconst 1, 1) := by decide +kernel
theorem dX9_undo_16 : decode cX9_undo 16 = .ok (.isub, 1) := by decide +kernel
theorem dX9_undo_17 : decode cX9_undo 17 = .ok (.putfield 126, 3) := by decide +kernel
theorem dX9_undo_20 : decode cX9_undo 20 = .ok (.aload_n 0, 1) := by decide +kernel
theorem dX9_undo_21 : decode cX9_undo 21 = .ok (.getfield 44, 3) := by decide +kernel
theorem dX9_undo_24 : decode cX9_undo 24 = .ok (.bipush 21, 2) := by decide +kernel
theorem dX9_undo_26 : decode cX9_undo 26 = .ok (.aload_n 0, 1) := by decide +kernel
theorem dX9_undo_27 : decode cX9_undo 27 = .ok (.getfield 126, 3) := by decide +kernel
theorem dX9_undo_30 : decode cX9_undo 30 = .ok (.imul, 1) := by decide +kernel
theorem dX9_undo_31 : decode cX9_undo 31 = .ok (.aload_n 0, 1) := by decide +kernel
theorem dX9_undo_32 : decode cX9_undo 32 = .ok (.getfield 41, 3) := by decide +kernel
theorem dX9_undo_35 : decode cX9_undo 35 = .ok (.iconst 0, 1) := by decide +kernel
theorem dX9_undo_36 : decode cX9_undo 36 = .ok (.bipush 21, 2) := by decide +kernel
theorem dX9_undo_38 : decode cX9_undo 38 = .ok (.invokestatic 122, 3) := by decide +kernel
theorem dX9_undo_41 : decode cX9_undo 41 = .ok (.aload_n 0, 1) := by decide +kernel
theorem dX9_undo_42 : decode cX9_undo 42 = .ok (.getfield 126, 3) := by decide +kernel
theorem dX9_undo_45 : decode cX9_undo 45 = .ok (.ireturn, 1) := by decide +kernel
theorem dX9_likelyIn_0 : decode cX9_likelyIn 0 = .ok (.iconst 0, 1) := by decide +kernel
theorem dX9_likelyIn_1 : decode cX9_likelyIn 1 = .ok (.istore_n 2, 1) := by decide +kernel
theorem dX9_likelyIn_2 : decode cX9_likelyIn 2 = .ok (.iconst 0, 1) := by decide +kernel
theorem dX9_likelyIn_3 : decode cX9_likelyIn 3 = .ok (.istore_n 3, 1) := by decide +kernel
theorem dX9_likelyIn_4 : decode cX9_likelyIn 4 = .ok (.iload_n 3, 1) := by decide +kernel
theorem dX9_likelyIn_5 : decode cX9_likelyIn 5 = .ok (.aload_n 0, 1) := by decide +kernel
theorem dX9_likelyIn_6 : decode cX9_likelyIn 6 = .ok (.getfield 17, 3) := by decide +kernel
theorem dX9_likelyIn_9 : decode cX9_likelyIn 9 = .ok (.iconst 0, 1) := by decide +kernel
theorem dX9_likelyIn_10 : decode cX9_likelyIn 10 = .ok (.iaload, 1) := by decide +kernel
theorem dX9_likelyIn_11 : decode cX9_likelyIn 11 = .ok (.if_icmp .ge 30, 3) := by decide +kernel
theorem dX9_likelyIn_14 : decode cX9_likelyIn 14 = .ok (.iload_n 2, 1) := by decide +kernel
theorem dX9_likelyIn_15 : decode cX9_likelyIn 15 = .ok (.iload_n 1, 1) := by decide +kernel
theorem dX9_likelyIn_16 : decode cX9_likelyIn 16 = .ok (.iload_n 3, 1) := by decide +kernel
theorem dX9_likelyIn_17 : decode cX9_likelyIn 17 = .ok (.invokestatic 135, 3) := by decide +kernel
theorem dX9_likelyIn_20 : decode cX9_likelyIn 20 = .ok (.ifCond .eq 12, 3) := by decide +kernel
theorem dX9_likelyIn_23 : decode cX9_likelyIn 23 = .ok (.aload_n 0, 1) := by decide +kernel
theorem dX9_likelyIn_24 : decode cX9_likelyIn 24 = .ok (.getfield 20, 3) := by decide +kernel
theorem dX9_likelyIn_27 : decode cX9_likelyIn 27 = .ok (.iload_n 3, 1) := by decide +kernel
theorem dX9_likelyIn_28 : decode cX9_likelyIn 28 = .ok (.iaload, 1) := by decide +kernel
theorem dX9_likelyIn_29 : decode cX9_likelyIn 29 = .ok (.goto 4, 3) := by decide +kernel
theorem dX9_likelyIn_32 : decode cX9_likelyIn 32 = .ok (.iconst 0, 1) := by decide +kernel
theorem dX9_likelyIn_33 : decode cX9_likelyIn 33 = .ok (.iadd, 1) := by decide +kernel
theorem dX9_likelyIn_34 : decode cX9_likelyIn 34 = .ok (.istore_n 2, 1) := by decide +kernel
theorem dX9_likelyIn_35 : decode cX9_likelyIn 35 = .ok (.iinc 3 1, 3) := by decide +kernel
theorem dX9_likelyIn_38 : decode cX9_likelyIn 38 = .ok (.goto (-34), 3) := by decide +kernel
theorem dX9_likelyIn_41 : decode cX9_likelyIn 41 = .ok (.iload_n 2, 1) := by decide +kernel
theorem dX9_likelyIn_42 : decode cX9_likelyIn 42 = .ok (.ireturn, 1) := by decide +kernel
theorem dX9_beliefBy_0 : decode cX9_beliefBy 0 = .ok (.iload_n 2, 1) := by decide +kernel
theorem dX9_beliefBy_1 : decode cX9_beliefBy 1 = .ok (.iload_n 1, 1) := by decide +kernel
theorem dX9_beliefBy_2 : decode cX9_beliefBy 2 = .ok (.invokestatic 135, 3) := by decide +kernel
theorem dX9_beliefBy_5 : decode cX9_beliefBy 5 = .ok (.ifCond .eq 25, 3) := by decide +kernel
theorem dX9_beliefBy_8 : decode cX9_beliefBy 8 = .ok (.ldc2_w 201, 3) := by decide +kernel
theorem dX9_beliefBy_11 : decode cX9_beliefBy 11 = .ok (.aload_n 0, 1) := by decide +kernel
theorem dX9_beliefBy_12 : decode cX9_beliefBy 12 = .ok (.getfield 20, 3) := by decide +kernel
theorem dX9_beliefBy_15 : decode cX9_beliefBy 15 = .ok (.iload_n 1, 1) := by decide +kernel
theorem dX9_beliefBy_16 : decode cX9_beliefBy 16 = .ok (.iaload, 1) := by decide +kernel
theorem dX9_beliefBy_17 : decode cX9_beliefBy 17 = .ok (.i2l, 1) := by decide +kernel
theorem dX9_beliefBy_18 : decode cX9_beliefBy 18 = .ok (.lmul, 1) := by decide +kernel
theorem dX9_beliefBy_19 : decode cX9_beliefBy 19 = .ok (.aload_n 0, 1) := by decide +kernel
theorem dX9_beliefBy_20 : decode cX9_beliefBy 20 = .ok (.iload_n 2, 1) := by decide +kernel
theorem dX9_beliefBy_21 : decode cX9_beliefBy 21 = .ok (.invokevirtual 203, 3) := by decide +kernel
theorem dX9_beliefBy_24 : decode cX9_beliefBy 24 = .ok (.i2l, 1) := by decide +kernel
theorem dX9_beliefBy_25 : decode cX9_beliefBy 25 = .ok (.ldiv, 1) := by decide +kernel
theorem dX9_beliefBy_26 : decode cX9_beliefBy 26 = .ok (.l2i, 1) := by decide +kernel
theorem dX9_beliefBy_27 : decode cX9_beliefBy 27 = .ok (.goto 4, 3) := by decide +kernel
theorem dX9_beliefBy_30 : decode cX9_beliefBy 30 = .ok (.iconst 0, 1) := by decide +kernel
theorem dX9_beliefBy_31 : decode cX9_beliefBy 31 = .ok (.ireturn, 1) := by decide +kernel
theorem dX9_belief_0 : decode cX9_belief 0 = .ok (.aload_n 0, 1) := by decide +kernel
theorem dX9_belief_1 : decode cX9_belief 1 = .ok (.iload_n 1, 1) := by decide +kernel
theorem dX9_belief_2 : decode cX9_belief 2 = .ok (.invokevirtual 149, 3) := by decide +kernel
theorem dX9_belief_5 : decode cX9_belief 5 = .ok (.ifCond .eq 21, 3) := by decide +kernel
theorem dX9_belief_8 : decode cX9_belief 8 = .ok (.aload_n 0, 1) := by decide +kernel
theorem dX9_belief_9 : decode cX9_belief 9 = .ok (.iload_n 1, 1) := by decide +kernel
theorem dX9_belief_10 : decode cX9_belief 10 = .ok (.aload_n 0, 1) := by decide +kernel
theorem dX9_belief_11 : decode cX9_belief 11 = .ok (.aload_n 0, 1) := by decide +kernel
theorem dX9_belief_12 : decode cX9_belief 12 = .ok (.getfield 41, 3) := by decide +kernel
theorem dX9_belief_15 : decode cX9_belief 15 = .ok (.iconst 4, 1) := by decide +kernel
theorem dX9_belief_16 : decode cX9_belief 16 = .ok (.iaload, 1) := by decide +kernel
theorem dX9_belief_17 : decode cX9_belief 17 = .ok (.invokevirtual 140, 3) := by decide +kernel
theorem dX9_belief_20 : decode cX9_belief 20 = .ok (.invokevirtual 206, 3) := by decide +kernel
theorem dX9_belief_23 : decode cX9_belief 23 = .ok (.goto 5, 3) := by decide +kernel
theorem dX9_belief_26 : decode cX9_belief 26 = .ok (.ldc 153, 2) := by decide +kernel
theorem dX9_belief_28 : decode cX9_belief 28 = .ok (.ireturn, 1) := by decide +kernel
theorem dX9_liarsBy_0 : decode cX9_liarsBy 0 = .ok (.iconst 0, 1) := by decide +kernel
theorem dX9_liarsBy_1 : decode cX9_liarsBy 1 = .ok (.istore_n 2, 1) := by decide +kernel
theorem dX9_liarsBy_2 : decode cX9_liarsBy 2 = .ok (.iconst 0, 1) := by decide +kernel
theorem dX9_liarsBy_3 : decode cX9_liarsBy 3 = .ok (.istore_n 3, 1) := by decide +kernel
theorem dX9_liarsBy_4 : decode cX9_liarsBy 4 = .ok (.iload_n 3, 1) := by decide +kernel
theorem dX9_liarsBy_5 : decode cX9_liarsBy 5 = .ok (.aload_n 0, 1) := by decide +kernel
theorem dX9_liarsBy_6 : decode cX9_liarsBy 6 = .ok (.getfield 17, 3) := by decide +kernel
theorem dX9_liarsBy_9 : decode cX9_liarsBy 9 = .ok (.iconst 2, 1) := by decide +kernel
theorem dX9_liarsBy_10 : decode cX9_liarsBy 10 = .ok (.iaload, 1) := by decide +kernel
theorem dX9_liarsBy_11 : decode cX9_liarsBy 11 = .ok (.if_icmp .ge 37, 3) := by decide +kernel
theorem dX9_liarsBy_14 : decode cX9_liarsBy 14 = .ok (.iload_n 2, 1) := by decide +kernel
theorem dX9_liarsBy_15 : decode cX9_liarsBy 15 = .ok (.aload_n 0, 1) := by decide +kernel
theorem dX9_liarsBy_16 : decode cX9_liarsBy 16 = .ok (.getfield 41, 3) := by decide +kernel
theorem dX9_liarsBy_19 : decode cX9_liarsBy 19 = .ok (.bipush 6, 2) := by decide +kernel
theorem dX9_liarsBy_21 : decode cX9_liarsBy 21 = .ok (.iconst 3, 1) := by decide +kernel
theorem dX9_liarsBy_22 : decode cX9_liarsBy 22 = .ok (.iload_n 3, 1) := by decide +kernel
theorem dX9_liarsBy_23 : decode cX9_liarsBy 23 = .ok (.imul, 1) := by decide +kernel
theorem dX9_liarsBy_24 : decode cX9_liarsBy 24 = .ok (.iadd, 1) := by decide +kernel
theorem dX9_liarsBy_25 : decode cX9_liarsBy 25 = .ok (.iaload, 1) := by decide +kernel
theorem dX9_liarsBy_26 : decode cX9_liarsBy 26 = .ok (.iload_n 1, 1) := by decide +kernel
theorem dX9_liarsBy_27 : decode cX9_liarsBy 27 = .ok (.invokestatic 135, 3) := by decide +kernel
theorem dX9_liarsBy_30 : decode cX9_liarsBy 30 = .ok (.ifCond .eq 7, 3) := by decide +kernel
theorem dX9_liarsBy_33 : decode cX9_liarsBy 33 = .ok (.iconst 0, 1) := by decide +kernel
theorem dX9_liarsBy_34 : decode cX9_liarsBy 34 = .ok (.goto 6, 3) := by decide +kernel
theorem dX9_liarsBy_37 : decode cX9_liarsBy 37 = .ok (.iconst 1, 1) := by decide +kernel
theorem dX9_liarsBy_38 : decode cX9_liarsBy 38 = .ok (.iload_n 3, 1) := by decide +kernel
theorem dX9_liarsBy_39 : decode cX9_liarsBy 39 = .ok (.ishl, 1) := by decide +kernel
theorem dX9_liarsBy_40 : decode cX9_liarsBy 40 = .ok (.ior, 1) := by decide +kernel
theorem dX9_liarsBy_41 : decode cX9_liarsBy 41 = .ok (.istore_n 2, 1) := by decide +kernel
theorem dX9_liarsBy_42 : decode cX9_liarsBy 42 = .ok (.iinc 3 1, 3) := by decide +kernel
theorem dX9_liarsBy_45 : decode cX9_liarsBy 45 = .ok (.goto (-41), 3) := by decide +kernel
theorem dX9_liarsBy_48 : decode cX9_liarsBy 48 = .ok (.iload_n 2, 1) := by decide +kernel
theorem dX9_liarsBy_49 : decode cX9_liarsBy 49 = .ok (.ireturn, 1) := by decide +kernel
theorem dX9_liars_0 : decode cX9_liars 0 = .ok (.aload_n 0, 1) := by decide +kernel
theorem dX9_liars_1 : decode cX9_liars 1 = .ok (.iload_n 1, 1) := by decide +kernel
theorem dX9_liars_2 : decode cX9_liars 2 = .ok (.invokevirtual 149, 3) := by decide +kernel
theorem dX9_liars_5 : decode cX9_liars 5 = .ok (.ifCond .eq 11, 3) := by decide +kernel
theorem dX9_liars_8 : decode cX9_liars 8 = .ok (.aload_n 0, 1) := by decide +kernel
theorem dX9_liars_9 : decode cX9_liars 9 = .ok (.iload_n 1, 1) := by decide +kernel
theorem dX9_liars_10 : decode cX9_liars 10 = .ok (.invokevirtual 209, 3) := by decide +kernel
theorem dX9_liars_13 : decode cX9_liars 13 = .ok (.goto 5, 3) := by decide +kernel
theorem dX9_liars_16 : decode cX9_liars 16 = .ok (.ldc 153, 2) := by decide +kernel
theorem dX9_liars_18 : decode cX9_liars 18 = .ok (.ireturn, 1) := by decide +kernel
theorem dX9_leastLiars_0 : decode cX9_leastLiars 0 = .ok (.iload_n 1, 1) := by decide +kernel
theorem dX9_leastLiars_1 : decode cX9_leastLiars 1 = .ok (.iconst 0, 1) := by decide +kernel
theorem dX9_leastLiars_2 : decode cX9_leastLiars 2 = .ok (.iconst 1, 1) := by decide +kernel
theorem dX9_leastLiars_3 : decode cX9_leastLiars 3 = .ok (.invokestatic 63, 3) := by decide +kernel
theorem dX9_leastLiars_6 : decode cX9_leastLiars 6 = .ok (.ifCond .ne 6, 3) := by decide +kernel
theorem dX9_leastLiars_9 : decode cX9_leastLiars 9 = .ok (.ldc 67, 2) := by decide +kernel
theorem dX9_leastLiars_11 : decode cX9_leastLiars 11 = .ok (.ireturn, 1) := by decide +kernel
theorem dX9_leastLiars_12 : decode cX9_leastLiars 12 = .ok (.aload_n 0, 1) := by decide +kernel
theorem dX9_leastLiars_13 : decode cX9_leastLiars 13 = .ok (.invokevirtual 164, 3) := by decide +kernel
theorem dX9_leastLiars_16 : decode cX9_leastLiars 16 = .ok (.ifCond .ne 6, 3) := by decide +kernel
theorem dX9_leastLiars_19 : decode cX9_leastLiars 19 = .ok (.ldc 168, 2) := by decide +kernel
theorem dX9_leastLiars_21 : decode cX9_leastLiars 21 = .ok (.ireturn, 1) := by decide +kernel
theorem dX9_leastLiars_22 : decode cX9_leastLiars 22 = .ok (.aload_n 0, 1) := by decide +kernel
theorem dX9_leastLiars_23 : decode cX9_leastLiars 23 = .ok (.aload_n 0, 1) := by decide +kernel
theorem dX9_leastLiars_24 : decode cX9_leastLiars 24 = .ok (.getfield 41, 3) := by decide +kernel
theorem dX9_leastLiars_27 : decode cX9_leastLiars 27 = .ok (.iconst 4, 1) := by decide +kernel
theorem dX9_leastLiars_28 : decode cX9_leastLiars 28 = .ok (.iaload, 1) := by decide +kernel
theorem dX9_leastLiars_29 : decode cX9_leastLiars 29 = .ok (.invokevirtual 140, 3) := by decide +kernel
theorem dX9_leastLiars_32 : decode cX9_leastLiars 32 = .ok (.istore_n 2, 1) := by decide +kernel
theorem dX9_leastLiars_33 : decode cX9_leastLiars 33 = .ok (.iconst 0, 1) := by decide +kernel
theorem dX9_leastLiars_34 : decode cX9_leastLiars 34 = .ok (.istore_n 3, 1) := by decide +kernel
theorem dX9_leastLiars_35 : decode cX9_leastLiars 35 = .ok (.iconst 1, 1) := by decide +kernel
theorem dX9_leastLiars_36 : decode cX9_leastLiars 36 = .ok (.istore 4, 2) := by decide +kernel
theorem dX9_leastLiars_38 : decode cX9_leastLiars 38 = .ok (.iload 4, 2) := by decide +kernel
theorem dX9_leastLiars_40 : decode cX9_leastLiars 40 = .ok (.aload_n 0, 1) := by decide +kernel
theorem dX9_leastLiars_41 : decode cX9_leastLiars 41 = .ok (.getfield 17, 3) := by decide +kernel
theorem dX9_leastLiars_44 : decode cX9_leastLiars 44 = .ok (.iconst 0, 1) := by decide +kernel
theorem dX9_leastLiars_45 : decode cX9_leastLiars 45 = .ok (.iaload, 1) := by decide +kernel
theorem dX9_leastLiars_46 : decode cX9_leastLiars 46 = .ok (.if_icmp .ge 45, 3) := by decide +kernel
theorem dX9_leastLiars_49 : decode cX9_leastLiars 49 = .ok (.iload_n 2, 1) := by decide +kernel
theorem dX9_leastLiars_50 : decode cX9_leastLiars 50 = .ok (.iload 4, 2) := by decide +kernel
theorem dX9_leastLiars_52 : decode cX9_leastLiars 52 = .ok (.invokestatic 135, 3) := by decide +kernel
theorem dX9_leastLiars_55 : decode cX9_leastLiars 55 = .ok (.ifCond .eq 28, 3) := by decide +kernel
theorem dX9_leastLiars_58 : decode cX9_leastLiars 58 = .ok (.aload_n 0, 1) := by decide +kernel
theorem dX9_leastLiars_59 : decode cX9_leastLiars 59 = .ok (.iload 4, 2) := by decide +kernel
theorem dX9_leastLiars_61 : decode cX9_leastLiars 61 = .ok (.invokevirtual 209, 3) := by decide +kernel
theorem dX9_leastLiars_64 : decode cX9_leastLiars 64 = .ok (.invokestatic 212, 3) := by decide +kernel
theorem dX9_leastLiars_67 : decode cX9_leastLiars 67 = .ok (.aload_n 0, 1) := by decide +kernel
theorem dX9_leastLiars_68 : decode cX9_leastLiars 68 = .ok (.iload_n 3, 1) := by decide +kernel
theorem dX9_leastLiars_69 : decode cX9_leastLiars 69 = .ok (.invokevirtual 209, 3) := by decide +kernel
theorem dX9_leastLiars_72 : decode cX9_leastLiars 72 = .ok (.invokestatic 212, 3) := by decide +kernel
theorem dX9_leastLiars_75 : decode cX9_leastLiars 75 = .ok (.if_icmp .ge 8, 3) := by decide +kernel
theorem dX9_leastLiars_78 : decode cX9_leastLiars 78 = .ok (.iload 4, 2) := by decide +kernel
theorem dX9_leastLiars_80 : decode cX9_leastLiars 80 = .ok (.goto 4, 3) := by decide +kernel
theorem dX9_leastLiars_83 : decode cX9_leastLiars 83 = .ok (.iload_n 3, 1) := by decide +kernel
theorem dX9_leastLiars_84 : decode cX9_leastLiars 84 = .ok (.istore_n 3, 1) := by decide +kernel
theorem dX9_leastLiars_85 : decode cX9_leastLiars 85 = .ok (.iinc 4 1, 3) := by decide +kernel
theorem dX9_leastLiars_88 : decode cX9_leastLiars 88 = .ok (.goto (-50), 3) := by decide +kernel
theorem dX9_leastLiars_91 : decode cX9_leastLiars 91 = .ok (.iload_n 1, 1) := by decide +kernel
theorem dX9_leastLiars_92 : decode cX9_leastLiars 92 = .ok (.ifCond .ne 7, 3) := by decide +kernel
theorem dX9_leastLiars_95 : decode cX9_leastLiars 95 = .ok (.iload_n 3, 1) := by decide +kernel
theorem dX9_leastLiars_96 : decode cX9_leastLiars 96 = .ok (.goto 11, 3) := by decide +kernel
theorem dX9_leastLiars_99 : decode cX9_leastLiars 99 = .ok (.aload_n 0, 1) := by decide +kernel
theorem dX9_leastLiars_100 : decode cX9_leastLiars 100 = .ok (.iload_n 3, 1) := by decide +kernel
theorem dX9_leastLiars_101 : decode cX9_leastLiars 101 = .ok (.invokevirtual 209, 3) := by decide +kernel
theorem dX9_leastLiars_104 : decode cX9_leastLiars 104 = .ok (.invokestatic 212, 3) := by decide +kernel
theorem dX9_leastLiars_107 : decode cX9_leastLiars 107 = .ok (.ireturn, 1) := by decide +kernel
theorem dX9_costOf_0 : decode cX9_costOf 0 = .ok (.iconst 0, 1) := by decide +kernel
theorem dX9_costOf_1 : decode cX9_costOf 1 = .ok (.istore_n 2, 1) := by decide +kernel
theorem dX9_costOf_2 : decode cX9_costOf 2 = .ok (.iconst 0, 1) := by decide +kernel
theorem dX9_costOf_3 : decode cX9_costOf 3 = .ok (.istore_n 3, 1) := by decide +kernel
theorem dX9_costOf_4 : decode cX9_costOf 4 = .ok (.iload_n 3, 1) := by decide +kernel
theorem dX9_costOf_5 : decode cX9_costOf 5 = .ok (.aload_n 0, 1) := by decide +kernel
theorem dX9_costOf_6 : decode cX9_costOf 6 = .ok (.getfield 17, 3) := by decide +kernel
theorem dX9_costOf_9 : decode cX9_costOf 9 = .ok (.iconst 1, 1) := by decide +kernel
theorem dX9_costOf_10 : decode cX9_costOf 10 = .ok (.iaload, 1) := by decide +kernel
theorem dX9_costOf_11 : decode cX9_costOf 11 = .ok (.if_icmp .ge 43, 3) := by decide +kernel
theorem dX9_costOf_14 : decode cX9_costOf 14 = .ok (.iload_n 2, 1) := by decide +kernel
theorem dX9_costOf_15 : decode cX9_costOf 15 = .ok (.iload_n 1, 1) := by decide +kernel
theorem dX9_costOf_16 : decode cX9_costOf 16 = .ok (.aload_n 0, 1) := by decide +kernel
theorem dX9_costOf_17 : decode cX9_costOf 17 = .ok (.getfield 41, 3) := by decide +kernel
theorem dX9_costOf_20 : decode cX9_costOf 20 = .ok (.iconst 4, 1) := by decide +kernel
theorem dX9_costOf_21 : decode cX9_costOf 21 = .ok (.iaload, 1) := by decide +kernel
theorem dX9_costOf_22 : decode cX9_costOf 22 = .ok (.iconst (-1), 1) := by decide +kernel
theorem dX9_costOf_23 : decode cX9_costOf 23 = .ok (.ixor, 1) := by decide +kernel
theorem dX9_costOf_24 : decode cX9_costOf 24 = .ok (.iand, 1) := by decide +kernel
theorem dX9_costOf_25 : decode cX9_costOf 25 = .ok (.iload_n 3, 1) := by decide +kernel
theorem dX9_costOf_26 : decode cX9_costOf 26 = .ok (.invokestatic 135, 3) := by decide +kernel
theorem dX9_costOf_29 : decode cX9_costOf 29 = .ok (.ifCond .eq 16, 3) := by decide +kernel
theorem dX9_costOf_32 : decode cX9_costOf 32 = .ok (.aload_n 0, 1) := by decide +kernel
theorem dX9_costOf_33 : decode cX9_costOf 33 = .ok (.getfield 23, 3) := by decide +kernel
theorem dX9_costOf_36 : decode cX9_costOf 36 = .ok (.iconst 3, 1) := by decide +kernel
theorem dX9_costOf_37 : decode cX9_costOf 37 = .ok (.iload_n 3, 1) := by decide +kernel
theorem dX9_costOf_38 : decode cX9_costOf 38 = .ok (.imul, 1) := by decide +kernel
theorem dX9_costOf_39 : decode cX9_costOf 39 = .ok (.iconst 2, 1) := by decide +kernel
theorem dX9_costOf_40 : decode cX9_costOf 40 = .ok (.iadd, 1) := by decide +kernel
theorem dX9_costOf_41 : decode cX9_costOf 41 = .ok (.iaload, 1) := by decide +kernel
theorem dX9_costOf_42 : decode cX9_costOf 42 = .ok (.goto 4, 3) := by decide +kernel
theorem dX9_costOf_45 : decode cX9_costOf 45 = .ok (.iconst 0, 1) := by decide +kernel
theorem dX9_costOf_46 : decode cX9_costOf 46 = .ok (.iadd, 1) := by decide +kernel
theorem dX9_costOf_47 : decode cX9_costOf 47 = .ok (.istore_n 2, 1) := by decide +kernel
theorem dX9_costOf_48 : decode cX9_costOf 48 = .ok (.iinc 3 1, 3) := by decide +kernel
theorem dX9_costOf_51 : decode cX9_costOf 51 = .ok (.goto (-47), 3) := by decide +kernel
theorem dX9_costOf_54 : decode cX9_costOf 54 = .ok (.iload_n 2, 1) := by decide +kernel
theorem dX9_costOf_55 : decode cX9_costOf 55 = .ok (.ireturn, 1) := by decide +kernel
theorem dX9_ruleOut_0 : decode cX9_ruleOut 0 = .ok (.aload_n 0, 1) := by decide +kernel
theorem dX9_ruleOut_1 : decode cX9_ruleOut 1 = .ok (.iload_n 1, 1) := by decide +kernel
theorem dX9_ruleOut_2 : decode cX9_ruleOut 2 = .ok (.invokevirtual 185, 3) := by decide +kernel
theorem dX9_ruleOut_5 : decode cX9_ruleOut 5 = .ok (.ifCond .eq 21, 3) := by decide +kernel
theorem dX9_ruleOut_8 : decode cX9_ruleOut 8 = .ok (.iload_n 1, 1) := by decide +kernel
theorem dX9_ruleOut_9 : decode cX9_ruleOut 9 = .ok (.iconst 0, 1) := by decide +kernel
theorem dX9_ruleOut_10 : decode cX9_ruleOut 10 = .ok (.invokestatic 135, 3) := by decide +kernel
theorem dX9_ruleOut_13 : decode cX9_ruleOut 13 = .ok (.ifCond .ne 13, 3) := by decide +kernel
theorem dX9_ruleOut_16 : decode cX9_ruleOut 16 = .ok (.iload_n 2, 1) := by decide +kernel
theorem dX9_ruleOut_17 : decode cX9_ruleOut 17 = .ok (.iconst 0, 1) := by decide +kernel
theorem dX9_ruleOut_18 : decode cX9_ruleOut 18 = .ok (.bipush 63, 2) := by decide +kernel
theorem dX9_ruleOut_20 : decode cX9_ruleOut 20 = .ok (.invokestatic 63, 3) := by decide +kernel
theorem dX9_ruleOut_23 : decode cX9_ruleOut 23 = .ok (.ifCond .ne 6, 3) := by decide +kernel
theorem dX9_ruleOut_26 : decode cX9_ruleOut 26 = .ok (.ldc 153, 2) := by decide +kernel
theorem dX9_ruleOut_28 : decode cX9_ruleOut 28 = .ok (.ireturn, 1) := by decide +kernel
theorem dX9_ruleOut_29 : decode cX9_ruleOut 29 = .ok (.iload_n 3, 1) := by decide +kernel
theorem dX9_ruleOut_30 : decode cX9_ruleOut 30 = .ok (.iconst 0, 1) := by decide +kernel
theorem dX9_ruleOut_31 : decode cX9_ruleOut 31 = .ok (.iconst 1, 1) := by decide +kernel
theorem dX9_ruleOut_32 : decode cX9_ruleOut 32 = .ok (.invokestatic 63, 3) := by decide +kernel
theorem dX9_ruleOut_35 : decode cX9_ruleOut 35 = .ok (.ifCond .ne 6, 3) := by decide +kernel
theorem dX9_ruleOut_38 : decode cX9_ruleOut 38 = .ok (.ldc 67, 2) := by decide +kernel
theorem dX9_ruleOut_40 : decode cX9_ruleOut 40 = .ok (.ireturn, 1) := by decide +kernel
theorem dX9_ruleOut_41 : decode cX9_ruleOut 41 = .ok (.iconst (-1), 1) := by decide +kernel
theorem dX9_ruleOut_42 : decode cX9_ruleOut 42 = .ok (.istore 4, 2) := by decide +kernel
theorem dX9_ruleOut_44 : decode cX9_ruleOut 44 = .ok (.iconst 0, 1) := by decide +kernel
theorem dX9_ruleOut_45 : decode cX9_ruleOut 45 = .ok (.istore 5, 2) := by decide +kernel
theorem dX9_ruleOut_47 : decode cX9_ruleOut 47 = .ok (.iload 5, 2) := by decide +kernel
theorem dX9_ruleOut_49 : decode cX9_ruleOut 49 = .ok (.iconst 1, 1) := by decide +kernel
theorem dX9_ruleOut_50 : decode cX9_ruleOut 50 = .ok (.aload_n 0, 1) := by decide +kernel
theorem dX9_ruleOut_51 : decode cX9_ruleOut 51 = .ok (.getfield 17, 3) := by decide +kernel
theorem dX9_ruleOut_54 : decode cX9_ruleOut 54 = .ok (.iconst 1, 1) := by decide +kernel
theorem dX9_ruleOut_55 : decode cX9_ruleOut 55 = .ok (.iaload, 1) := by decide +kernel
theorem dX9_ruleOut_56 : decode cX9_ruleOut 56 = .ok (.ishl, 1) := by decide +kernel
theorem dX9_ruleOut_57 : decode cX9_ruleOut 57 = .ok (.if_icmp .ge 75, 3) := by decide +kernel
theorem dX9_ruleOut_60 : decode cX9_ruleOut 60 = .ok (.aload_n 0, 1) := by decide +kernel
theorem dX9_ruleOut_61 : decode cX9_ruleOut 61 = .ok (.iload 5, 2) := by decide +kernel
theorem dX9_ruleOut_63 : decode cX9_ruleOut 63 = .ok (.invokevirtual 140, 3) := by decide +kernel
theorem dX9_ruleOut_66 : decode cX9_ruleOut 66 = .ok (.iload_n 1, 1) := by decide +kernel
theorem dX9_ruleOut_67 : decode cX9_ruleOut 67 = .ok (.iand, 1) := by decide +kernel
theorem dX9_ruleOut_68 : decode cX9_ruleOut 68 = .ok (.ifCond .ne 20, 3) := by decide +kernel
theorem dX9_ruleOut_71 : decode cX9_ruleOut 71 = .ok (.aload_n 0, 1) := by decide +kernel
theorem dX9_ruleOut_72 : decode cX9_ruleOut 72 = .ok (.iload 5, 2) := by decide +kernel
theorem dX9_ruleOut_74 : decode cX9_ruleOut 74 = .ok (.invokevirtual 143, 3) := by decide +kernel
theorem dX9_ruleOut_77 : decode cX9_ruleOut 77 = .ok (.iload_n 2, 1) := by decide +kernel
theorem dX9_ruleOut_78 : decode cX9_ruleOut 78 = .ok (.iconst (-1), 1) := by decide +kernel
theorem dX9_ruleOut_79 : decode cX9_ruleOut 79 = .ok (.ixor, 1) := by decide +kernel
theorem dX9_ruleOut_80 : decode cX9_ruleOut 80 = .ok (.iand, 1) := by decide +kernel
theorem dX9_ruleOut_81 : decode cX9_ruleOut 81 = .ok (.ifCond .ne 7, 3) := by decide +kernel
theorem dX9_ruleOut_84 : decode cX9_ruleOut 84 = .ok (.iconst 1, 1) := by decide +kernel
theorem dX9_ruleOut_85 : decode cX9_ruleOut 85 = .ok (.goto 4, 3) := by decide +kernel
theorem dX9_ruleOut_88 : decode cX9_ruleOut 88 = .ok (.iconst 0, 1) := by decide +kernel
theorem dX9_ruleOut_89 : decode cX9_ruleOut 89 = .ok (.istore 6, 2) := by decide +kernel
theorem dX9_ruleOut_91 : decode cX9_ruleOut 91 = .ok (.iload 6, 2) := by decide +kernel
theorem dX9_ruleOut_93 : decode cX9_ruleOut 93 = .ok (.ifCond .eq 29, 3) := by decide +kernel
theorem dX9_ruleOut_96 : decode cX9_ruleOut 96 = .ok (.iload 4, 2) := by decide +kernel
theorem dX9_ruleOut_98 : decode cX9_ruleOut 98 = .ok (.iconst (-1), 1) := by decide +kernel
theorem dX9_ruleOut_99 : decode cX9_ruleOut 99 = .ok (.if_icmp .eq 18, 3) := by decide +kernel
theorem dX9_ruleOut_102 : decode cX9_ruleOut 102 = .ok (.aload_n 0, 1) := by decide +kernel
theorem dX9_ruleOut_103 : decode cX9_ruleOut 103 = .ok (.iload 5, 2) := by decide +kernel
theorem dX9_ruleOut_105 : decode cX9_ruleOut 105 = .ok (.invokevirtual 215, 3) := by decide +kernel
theorem dX9_ruleOut_108 : decode cX9_ruleOut 108 = .ok (.aload_n 0, 1) := by decide +kernel
theorem dX9_ruleOut_109 : decode cX9_ruleOut 109 = .ok (.iload 4, 2) := by decide +kernel
theorem dX9_ruleOut_111 : decode cX9_ruleOut 111 = .ok (.invokevirtual 215, 3) := by decide +kernel
theorem dX9_ruleOut_114 : decode cX9_ruleOut 114 = .ok (.if_icmp .ge 8, 3) := by decide +kernel
theorem dX9_ruleOut_117 : decode cX9_ruleOut 117 = .ok (.iload 5, 2) := by decide +kernel
theorem dX9_ruleOut_119 : decode cX9_ruleOut 119 = .ok (.goto 5, 3) := by decide +kernel
theorem dX9_ruleOut_122 : decode cX9_ruleOut 122 = .ok (.iload 4, 2) := by decide +kernel
theorem dX9_ruleOut_124 : decode cX9_ruleOut 124 = .ok (.istore 4, 2) := by decide +kernel
theorem dX9_ruleOut_126 : decode cX9_ruleOut 126 = .ok (.iinc 5 1, 3) := by decide +kernel
theorem dX9_ruleOut_129 : decode cX9_ruleOut 129 = .ok (.goto (-82), 3) := by decide +kernel
theorem dX9_ruleOut_132 : decode cX9_ruleOut 132 = .ok (.iload 4, 2) := by decide +kernel
theorem dX9_ruleOut_134 : decode cX9_ruleOut 134 = .ok (.iconst (-1), 1) := by decide +kernel
theorem dX9_ruleOut_135 : decode cX9_ruleOut 135 = .ok (.if_icmp .eq 7, 3) := by decide +kernel
theorem dX9_ruleOut_138 : decode cX9_ruleOut 138 = .ok (.iload_n 3, 1) := by decide +kernel
theorem dX9_ruleOut_139 : decode cX9_ruleOut 139 = .ok (.ifCond .ne 8, 3) := by decide +kernel
theorem dX9_ruleOut_142 : decode cX9_ruleOut 142 = .ok (.iload 4, 2) := by decide +kernel
theorem dX9_ruleOut_144 : decode cX9_ruleOut 144 = .ok (.goto 9, 3) := by decide +kernel
theorem dX9_ruleOut_147 : decode cX9_ruleOut 147 = .ok (.aload_n 0, 1) := by decide +kernel
theorem dX9_ruleOut_148 : decode cX9_ruleOut 148 = .ok (.iload 4, 2) := by decide +kernel
theorem dX9_ruleOut_150 : decode cX9_ruleOut 150 = .ok (.invokevirtual 215, 3) := by decide +kernel
theorem dX9_ruleOut_153 : decode cX9_ruleOut 153 = .ok (.ireturn, 1) := by decide +kernel
theorem dX9_next_0 : decode cX9_next 0 = .ok (.aload_n 0, 1) := by decide +kernel
theorem dX9_next_1 : decode cX9_next 1 = .ok (.aload_n 0, 1) := by decide +kernel
theorem dX9_next_2 : decode cX9_next 2 = .ok (.getfield 41, 3) := by decide +kernel
theorem dX9_next_5 : decode cX9_next 5 = .ok (.iconst 4, 1) := by decide +kernel
theorem dX9_next_6 : decode cX9_next 6 = .ok (.iaload, 1) := by decide +kernel
theorem dX9_next_7 : decode cX9_next 7 = .ok (.invokevirtual 140, 3) := by decide +kernel
theorem dX9_next_10 : decode cX9_next 10 = .ok (.istore_n 1, 1) := by decide +kernel
theorem dX9_next_11 : decode cX9_next 11 = .ok (.iconst (-1), 1) := by decide +kernel
theorem dX9_next_12 : decode cX9_next 12 = .ok (.istore_n 2, 1) := by decide +kernel
theorem dX9_next_13 : decode cX9_next 13 = .ok (.iconst 0, 1) := by decide +kernel
theorem dX9_next_14 : decode cX9_next 14 = .ok (.istore_n 3, 1) := by decide +kernel
theorem dX9_next_15 : decode cX9_next 15 = .ok (.iconst 0, 1) := by decide +kernel
theorem dX9_next_16 : decode cX9_next 16 = .ok (.istore 4, 2) := by decide +kernel
theorem dX9_next_18 : decode cX9_next 18 = .ok (.iload 4, 2) := by decide +kernel
theorem dX9_next_20 : decode cX9_next 20 = .ok (.aload_n 0, 1) := by decide +kernel
theorem dX9_next_21 : decode cX9_next 21 = .ok (.getfield 17, 3) := by decide +kernel
theorem dX9_next_24 : decode cX9_next 24 = .ok (.iconst 1, 1) := by decide +kernel
theorem dX9_next_25 : decode cX9_next 25 = .ok (.iaload, 1) := by decide +kernel
theorem dX9_next_26 : decode cX9_next 26 = .ok (.if_icmp .ge 140, 3) := by decide +kernel
theorem dX9_next_29 : decode cX9_next 29 = .ok (.aload_n 0, 1) := by decide +kernel
theorem dX9_next_30 : decode cX9_next 30 = .ok (.iload_n 1, 1) := by decide +kernel
theorem dX9_next_31 : decode cX9_next 31 = .ok (.aload_n 0, 1) := by decide +kernel
theorem dX9_next_32 : decode cX9_next 32 = .ok (.getfield 23, 3) := by decide +kernel
theorem dX9_next_35 : decode cX9_next 35 = .ok (.iconst 3, 1) := by decide +kernel
theorem dX9_next_36 : decode cX9_next 36 = .ok (.iload 4, 2) := by decide +kernel
theorem dX9_next_38 : decode cX9_next 38 = .ok (.imul, 1) := by decide +kernel
theorem dX9_next_39 : decode cX9_next 39 = .ok (.iaload, 1) := by decide +kernel
theorem dX9_next_40 : decode cX9_next 40 = .ok (.iconst (-1), 1) := by decide +kernel
theorem dX9_next_41 : decode cX9_next 41 = .ok (.ixor, 1) := by decide +kernel
theorem dX9_next_42 : decode cX9_next 42 = .ok (.iand, 1) := by decide +kernel
theorem dX9_next_43 : decode cX9_next 43 = .ok (.invokevirtual 203, 3) := by decide +kernel
theorem dX9_next_46 : decode cX9_next 46 = .ok (.istore 5, 2) := by decide +kernel
theorem dX9_next_48 : decode cX9_next 48 = .ok (.aload_n 0, 1) := by decide +kernel
theorem dX9_next_49 : decode cX9_next 49 = .ok (.getfield 41, 3) := by decide +kernel
theorem dX9_next_52 : decode cX9_next 52 = .ok (.iconst 4, 1) := by decide +kernel
theorem dX9_next_53 : decode cX9_next 53 = .ok (.iaload, 1) := by decide +kernel
theorem dX9_next_54 : decode cX9_next 54 = .ok (.iload 4, 2) := by decide +kernel
theorem dX9_next_56 : decode cX9_next 56 = .ok (.invokestatic 135, 3) := by decide +kernel
theorem dX9_next_59 : decode cX9_next 59 = .ok (.ifCond .ne 21, 3) := by decide +kernel
theorem dX9_next_62 : decode cX9_next 62 = .ok (.iload_n 1, 1) := by decide +kernel
theorem dX9_next_63 : decode cX9_next 63 = .ok (.aload_n 0, 1) := by decide +kernel
theorem dX9_next_64 : decode cX9_next 64 = .ok (.getfield 23, 3) := by decide +kernel
theorem dX9_next_67 : decode cX9_next 67 = .ok (.iconst 3, 1) := by decide +kernel
theorem dX9_next_68 : decode cX9_next 68 = .ok (.iload 4, 2) := by decide +kernel
theorem dX9_next_70 : decode cX9_next 70 = .ok (.imul, 1) := by decide +kernel
theorem dX9_next_71 : decode cX9_next 71 = .ok (.iaload, 1) := by decide +kernel
theorem dX9_next_72 : decode cX9_next 72 = .ok (.iand, 1) := by decide +kernel
theorem dX9_next_73 : decode cX9_next 73 = .ok (.ifCond .eq 7, 3) := by decide +kernel
theorem dX9_next_76 : decode cX9_next 76 = .ok (.iconst 1, 1) := by decide +kernel
theorem dX9_next_77 : decode cX9_next 77 = .ok (.goto 4, 3) := by decide +kernel
theorem dX9_next_80 : decode cX9_next 80 = .ok (.iconst 0, 1) := by decide +kernel
theorem dX9_next_81 : decode cX9_next 81 = .ok (.istore 6, 2) := by decide +kernel
theorem dX9_next_83 : decode cX9_next 83 = .ok (.iload 6, 2) := by decide +kernel
theorem dX9_next_85 : decode cX9_next 85 = .ok (.ifCond .eq 48, 3) := by decide +kernel
theorem dX9_next_88 : decode cX9_next 88 = .ok (.iload_n 2, 1) := by decide +kernel
theorem dX9_next_89 : decode cX9_next 89 = .ok (.iconst (-1), 1) := by decide +kernel
theorem dX9_next_90 : decode cX9_next 90 = .ok (.if_icmp .eq 39, 3) := by decide +kernel
theorem dX9_next_93 : decode cX9_next 93 = .ok (.iload 5, 2) := by decide +kernel
theorem dX9_next_95 : decode cX9_next 95 = .ok (.iload_n 3, 1) := by decide +kernel
theorem dX9_next_96 : decode cX9_next 96 = .ok (.if_icmp .lt 33, 3) := by decide +kernel
theorem dX9_next_99 : decode cX9_next 99 = .ok (.iload 5, 2) := by decide +kernel
theorem dX9_next_101 : decode cX9_next 101 = .ok (.iload_n 3, 1) := by decide +kernel
theorem dX9_next_102 : decode cX9_next 102 = .ok (.if_icmp .ne 31, 3) := by decide +kernel
theorem dX9_next_105 : decode cX9_next 105 = .ok (.aload_n 0, 1) := by decide +kernel
theorem dX9_next_106 : decode cX9_next 106 = .ok (.getfield 23, 3) := by decide +kernel
theorem dX9_next_109 : decode cX9_next 109 = .ok (.iconst 3, 1) := by decide +kernel
theorem dX9_next_110 : decode cX9_next 110 = .ok (.iload 4, 2) := by decide +kernel
theorem dX9_next_112 : decode cX9_next 112 = .ok (.imul, 1) := by decide +kernel
theorem dX9_next_113 : decode cX9_next 113 = .ok (.iconst 2, 1) := by decide +kernel
theorem dX9_next_114 : decode cX9_next 114 = .ok (.iadd, 1) := by decide +kernel
theorem dX9_next_115 : decode cX9_next 115 = .ok (.iaload, 1) := by decide +kernel
theorem dX9_next_116 : decode cX9_next 116 = .ok (.aload_n 0, 1) := by decide +kernel
theorem dX9_next_117 : decode cX9_next 117 = .ok (.getfield 23, 3) := by decide +kernel
theorem dX9_next_120 : decode cX9_next 120 = .ok (.iconst 3, 1) := by decide +kernel
theorem dX9_next_121 : decode cX9_next 121 = .ok (.iload_n 2, 1) := by decide +kernel
theorem dX9_next_122 : decode cX9_next 122 = .ok (.imul, 1) := by decide +kernel
theorem dX9_next_123 : decode cX9_next 123 = .ok (.iconst 2, 1) := by decide +kernel
theorem dX9_next_124 : decode cX9_next 124 = .ok (.iadd, 1) := by decide +kernel
theorem dX9_next_125 : decode cX9_next 125 = .ok (.iaload, 1) := by decide +kernel
theorem dX9_next_126 : decode cX9_next 126 = .ok (.if_icmp .ge 7, 3) := by decide +kernel
theorem dX9_next_129 : decode cX9_next 129 = .ok (.iconst 1, 1) := by decide +kernel
theorem dX9_next_130 : decode cX9_next 130 = .ok (.goto 4, 3) := by decide +kernel
theorem dX9_next_133 : decode cX9_next 133 = .ok (.iconst 0, 1) := by decide +kernel
theorem dX9_next_134 : decode cX9_next 134 = .ok (.istore 7, 2) := by decide +kernel
theorem dX9_next_136 : decode cX9_next 136 = .ok (.iload 7, 2) := by decide +kernel
theorem dX9_next_138 : decode cX9_next 138 = .ok (.ifCond .eq 8, 3) := by decide +kernel
theorem dX9_next_141 : decode cX9_next 141 = .ok (.iload 4, 2) := by decide +kernel
theorem dX9_next_143 : decode cX9_next 143 = .ok (.goto 4, 3) := by decide +kernel
theorem dX9_next_146 : decode cX9_next 146 = .ok (.iload_n 2, 1) := by decide +kernel
theorem dX9_next_147 : decode cX9_next 147 = .ok (.istore_n 2, 1) := by decide +kernel
theorem dX9_next_148 : decode cX9_next 148 = .ok (.iload 7, 2) := by decide +kernel
theorem dX9_next_150 : decode cX9_next 150 = .ok (.ifCond .eq 8, 3) := by decide +kernel
theorem dX9_next_153 : decode cX9_next 153 = .ok (.iload 5, 2) := by decide +kernel
theorem dX9_next_155 : decode cX9_next 155 = .ok (.goto 4, 3) := by decide +kernel
theorem dX9_next_158 : decode cX9_next 158 = .ok (.iload_n 3, 1) := by decide +kernel
theorem dX9_next_159 : decode cX9_next 159 = .ok (.istore_n 3, 1) := by decide +kernel
theorem dX9_next_160 : decode cX9_next 160 = .ok (.iinc 4 1, 3) := by decide +kernel
theorem dX9_next_163 : decode cX9_next 163 = .ok (.goto (-145), 3) := by decide +kernel
theorem dX9_next_166 : decode cX9_next 166 = .ok (.iload_n 2, 1) := by decide +kernel
theorem dX9_next_167 : decode cX9_next 167 = .ok (.ireturn, 1) := by decide +kernel
theorem dX9_offerBy_0 : decode cX9_offerBy 0 = .ok (.iload_n 1, 1) := by decide +kernel
theorem dX9_offerBy_1 : decode cX9_offerBy 1 = .ok (.i2l, 1) := by decide +kernel
theorem dX9_offerBy_2 : decode cX9_offerBy 2 = .ok (.aload_n 0, 1) := by decide +kernel
theorem dX9_offerBy_3 : decode cX9_offerBy 3 = .ok (.iconst 0, 1) := by decide +kernel
theorem dX9_offerBy_4 : decode cX9_offerBy 4 = .ok (.iload_n 3, 1) := by decide +kernel
theorem dX9_offerBy_5 : decode cX9_offerBy 5 = .ok (.invokevirtual 206, 3) := by decide +kernel
theorem dX9_offerBy_8 : decode cX9_offerBy 8 = .ok (.i2l, 1) := by decide +kernel
theorem dX9_offerBy_9 : decode cX9_offerBy 9 = .ok (.lmul, 1) := by decide +kernel
theorem dX9_offerBy_10 : decode cX9_offerBy 10 = .ok (.ldc2_w 201, 3) := by decide +kernel
theorem dX9_offerBy_13 : decode cX9_offerBy 13 = .ok (.ldiv, 1) := by decide +kernel
theorem dX9_offerBy_14 : decode cX9_offerBy 14 = .ok (.l2i, 1) := by decide +kernel
theorem dX9_offerBy_15 : decode cX9_offerBy 15 = .ok (.iload_n 2, 1) := by decide +kernel
theorem dX9_offerBy_16 : decode cX9_offerBy 16 = .ok (.isub, 1) := by decide +kernel
theorem dX9_offerBy_17 : decode cX9_offerBy 17 = .ok (.istore 4, 2) := by decide +kernel
theorem dX9_offerBy_19 : decode cX9_offerBy 19 = .ok (.iload 4, 2) := by decide +kernel
theorem dX9_offerBy_21 : decode cX9_offerBy 21 = .ok (.ifCond .ge 7, 3) := by decide +kernel
theorem dX9_offerBy_24 : decode cX9_offerBy 24 = .ok (.iconst 0, 1) := by decide +kernel
theorem dX9_offerBy_25 : decode cX9_offerBy 25 = .ok (.goto 5, 3) := by decide +kernel
theorem dX9_offerBy_28 : decode cX9_offerBy 28 = .ok (.iload 4, 2) := by decide +kernel
theorem dX9_offerBy_30 : decode cX9_offerBy 30 = .ok (.ireturn, 1) := by decide +kernel
theorem dX9_offer_0 : decode cX9_offer 0 = .ok (.iload_n 1, 1) := by decide +kernel
theorem dX9_offer_1 : decode cX9_offer 1 = .ok (.iconst 0, 1) := by decide +kernel
theorem dX9_offer_2 : decode cX9_offer 2 = .ok (.sipush 9999, 3) := by decide +kernel
theorem dX9_offer_5 : decode cX9_offer 5 = .ok (.invokestatic 63, 3) := by decide +kernel
theorem dX9_offer_8 : decode cX9_offer 8 = .ok (.ifCond .eq 14, 3) := by decide +kernel
theorem dX9_offer_11 : decode cX9_offer 11 = .ok (.iload_n 2, 1) := by decide +kernel
theorem dX9_offer_12 : decode cX9_offer 12 = .ok (.iconst 0, 1) := by decide +kernel
theorem dX9_offer_13 : decode cX9_offer 13 = .ok (.sipush 9999, 3) := by decide +kernel
theorem dX9_offer_16 : decode cX9_offer 16 = .ok (.invokestatic 63, 3) := by decide +kernel
theorem dX9_offer_19 : decode cX9_offer 19 = .ok (.ifCond .ne 6, 3) := by decide +kernel
theorem dX9_offer_22 : decode cX9_offer 22 = .ok (.ldc 67, 2) := by decide +kernel
theorem dX9_offer_24 : decode cX9_offer 24 = .ok (.ireturn, 1) := by decide +kernel
theorem dX9_offer_25 : decode cX9_offer 25 = .ok (.aload_n 0, 1) := by decide +kernel
theorem dX9_offer_26 : decode cX9_offer 26 = .ok (.invokevirtual 164, 3) := by decide +kernel
theorem dX9_offer_29 : decode cX9_offer 29 = .ok (.ifCond .eq 22, 3) := by decide +kernel
theorem dX9_offer_32 : decode cX9_offer 32 = .ok (.aload_n 0, 1) := by decide +kernel
theorem dX9_offer_33 : decode cX9_offer 33 = .ok (.iload_n 1, 1) := by decide +kernel
theorem dX9_offer_34 : decode cX9_offer 34 = .ok (.iload_n 2, 1) := by decide +kernel
theorem dX9_offer_35 : decode cX9_offer 35 = .ok (.aload_n 0, 1) := by decide +kernel
theorem dX9_offer_36 : decode cX9_offer 36 = .ok (.aload_n 0, 1) := by decide +kernel
theorem dX9_offer_37 : decode cX9_offer 37 = .ok (.getfield 41, 3) := by decide +kernel
theorem dX9_offer_40 : decode cX9_offer 40 = .ok (.iconst 4, 1) := by decide +kernel
theorem dX9_offer_41 : decode cX9_offer 41 = .ok (.iaload, 1) := by decide +kernel
theorem dX9_offer_42 : decode cX9_offer 42 = .ok (.invokevirtual 140, 3) := by decide +kernel
theorem dX9_offer_45 : decode cX9_offer 45 = .ok (.invokevirtual 218, 3) := by decide +kernel
theorem dX9_offer_48 : decode cX9_offer 48 = .ok (.goto 5, 3) := by decide +kernel
theorem dX9_offer_51 : decode cX9_offer 51 = .ok (.ldc 168, 2) := by decide +kernel
theorem dX9_offer_53 : decode cX9_offer 53 = .ok (.ireturn, 1) := by decide +kernel
theorem dX9_both_0 : decode cX9_both 0 = .ok (.iload_n 1, 1) := by decide +kernel
theorem dX9_both_1 : decode cX9_both 1 = .ok (.iconst 0, 1) := by decide +kernel
theorem dX9_both_2 : decode cX9_both 2 = .ok (.sipush 9999, 3) := by decide +kernel
theorem dX9_both_5 : decode cX9_both 5 = .ok (.invokestatic 63, 3) := by decide +kernel
theorem dX9_both_8 : decode cX9_both 8 = .ok (.ifCond .eq 25, 3) := by decide +kernel
theorem dX9_both_11 : decode cX9_both 11 = .ok (.iload_n 2, 1) := by decide +kernel
theorem dX9_both_12 : decode cX9_both 12 = .ok (.iconst 0, 1) := by decide +kernel
theorem dX9_both_13 : decode cX9_both 13 = .ok (.sipush 9999, 3) := by decide +kernel
theorem dX9_both_16 : decode cX9_both 16 = .ok (.invokestatic 63, 3) := by decide +kernel
theorem dX9_both_19 : decode cX9_both 19 = .ok (.ifCond .eq 14, 3) := by decide +kernel
theorem dX9_both_22 : decode cX9_both 22 = .ok (.iload_n 3, 1) := by decide +kernel
theorem dX9_both_23 : decode cX9_both 23 = .ok (.iconst 0, 1) := by decide +kernel
theorem dX9_both_24 : decode cX9_both 24 = .ok (.sipush 9999, 3) := by decide +kernel
theorem dX9_both_27 : decode cX9_both 27 = .ok (.invokestatic 63, 3) := by decide +kernel
theorem dX9_both_30 : decode cX9_both 30 = .ok (.ifCond .ne 6, 3) := by decide +kernel
theorem dX9_both_33 : decode cX9_both 33 = .ok (.ldc 67, 2) := by decide +kernel
theorem dX9_both_35 : decode cX9_both 35 = .ok (.ireturn, 1) := by decide +kernel
theorem dX9_both_36 : decode cX9_both 36 = .ok (.aload_n 0, 1) := by decide +kernel
theorem dX9_both_37 : decode cX9_both 37 = .ok (.invokevirtual 164, 3) := by decide +kernel
theorem dX9_both_40 : decode cX9_both 40 = .ok (.ifCond .ne 6, 3) := by decide +kernel
theorem dX9_both_43 : decode cX9_both 43 = .ok (.ldc 168, 2) := by decide +kernel
theorem dX9_both_45 : decode cX9_both 45 = .ok (.ireturn, 1) := by decide +kernel
theorem dX9_both_46 : decode cX9_both 46 = .ok (.aload_n 0, 1) := by decide +kernel
theorem dX9_both_47 : decode cX9_both 47 = .ok (.iload_n 1, 1) := by decide +kernel
theorem dX9_both_48 : decode cX9_both 48 = .ok (.iload_n 2, 1) := by decide +kernel
theorem dX9_both_49 : decode cX9_both 49 = .ok (.aload_n 0, 1) := by decide +kernel
theorem dX9_both_50 : decode cX9_both 50 = .ok (.aload_n 0, 1) := by decide +kernel
theorem dX9_both_51 : decode cX9_both 51 = .ok (.getfield 41, 3) := by decide +kernel
theorem dX9_both_54 : decode cX9_both 54 = .ok (.iconst 4, 1) := by decide +kernel
theorem dX9_both_55 : decode cX9_both 55 = .ok (.iaload, 1) := by decide +kernel
theorem dX9_both_56 : decode cX9_both 56 = .ok (.invokevirtual 140, 3) := by decide +kernel
theorem dX9_both_59 : decode cX9_both 59 = .ok (.invokevirtual 218, 3) := by decide +kernel
theorem dX9_both_62 : decode cX9_both 62 = .ok (.istore 4, 2) := by decide +kernel
theorem dX9_both_64 : decode cX9_both 64 = .ok (.iload 4, 2) := by decide +kernel
theorem dX9_both_66 : decode cX9_both 66 = .ok (.iload_n 3, 1) := by decide +kernel
theorem dX9_both_67 : decode cX9_both 67 = .ok (.if_icmp .le 12, 3) := by decide +kernel
theorem dX9_both_70 : decode cX9_both 70 = .ok (.iload 4, 2) := by decide +kernel
theorem dX9_both_72 : decode cX9_both 72 = .ok (.iload_n 3, 1) := by decide +kernel
theorem dX9_both_73 : decode cX9_both 73 = .ok (.isub, 1) := by decide +kernel
theorem dX9_both_74 : decode cX9_both 74 = .ok (.iconst 2, 1) := by decide +kernel
theorem dX9_both_75 : decode cX9_both 75 = .ok (.idiv, 1) := by decide +kernel
theorem dX9_both_76 : decode cX9_both 76 = .ok (.goto 4, 3) := by decide +kernel
theorem dX9_both_79 : decode cX9_both 79 = .ok (.iconst 0, 1) := by decide +kernel
theorem dX9_both_80 : decode cX9_both 80 = .ok (.ireturn, 1) := by decide +kernel
theorem dX9_worth_0 : decode cX9_worth 0 = .ok (.aload_n 0, 1) := by decide +kernel
theorem dX9_worth_1 : decode cX9_worth 1 = .ok (.iload_n 1, 1) := by decide +kernel
theorem dX9_worth_2 : decode cX9_worth 2 = .ok (.invokevirtual 154, 3) := by decide +kernel
theorem dX9_worth_5 : decode cX9_worth 5 = .ok (.ifCond .ne 6, 3) := by decide +kernel
theorem dX9_worth_8 : decode cX9_worth 8 = .ok (.ldc 153, 2) := by decide +kernel
theorem dX9_worth_10 : decode cX9_worth 10 = .ok (.ireturn, 1) := by decide +kernel
theorem dX9_worth_11 : decode cX9_worth 11 = .ok (.iload_n 2, 1) := by decide +kernel
theorem dX9_worth_12 : decode cX9_worth 12 = .ok (.iconst 0, 1) := by decide +kernel
theorem dX9_worth_13 : decode cX9_worth 13 = .ok (.sipush 9999, 3) := by decide +kernel
theorem dX9_worth_16 : decode cX9_worth 16 = .ok (.invokestatic 63, 3) := by decide +kernel
theorem dX9_worth_19 : decode cX9_worth 19 = .ok (.ifCond .ne 6, 3) := by decide +kernel
theorem dX9_worth_22 : decode cX9_worth 22 = .ok (.ldc 67, 2) := by decide +kernel
theorem dX9_worth_24 : decode cX9_worth 24 = .ok (.ireturn, 1) := by decide +kernel
theorem dX9_worth_25 : decode cX9_worth 25 = .ok (.aload_n 0, 1) := by decide +kernel
theorem dX9_worth_26 : decode cX9_worth 26 = .ok (.iload_n 2, 1) := by decide +kernel
theorem dX9_worth_27 : decode cX9_worth 27 = .ok (.iconst 0, 1) := by decide +kernel
theorem dX9_worth_28 : decode cX9_worth 28 = .ok (.aload_n 0, 1) := by decide +kernel
theorem dX9_worth_29 : decode cX9_worth 29 = .ok (.aload_n 0, 1) := by decide +kernel
theorem dX9_worth_30 : decode cX9_worth 30 = .ok (.getfield 41, 3) := by decide +kernel
theorem dX9_worth_33 : decode cX9_worth 33 = .ok (.iconst 4, 1) := by decide +kernel
theorem dX9_worth_34 : decode cX9_worth 34 = .ok (.iaload, 1) := by decide +kernel
theorem dX9_worth_35 : decode cX9_worth 35 = .ok (.iconst 1, 1) := by decide +kernel
theorem dX9_worth_36 : decode cX9_worth 36 = .ok (.iload_n 1, 1) := by decide +kernel
theorem dX9_worth_37 : decode cX9_worth 37 = .ok (.ishl, 1) := by decide +kernel
theorem dX9_worth_38 : decode cX9_worth 38 = .ok (.ior, 1) := by decide +kernel
theorem dX9_worth_39 : decode cX9_worth 39 = .ok (.invokevirtual 140, 3) := by decide +kernel
theorem dX9_worth_42 : decode cX9_worth 42 = .ok (.invokevirtual 218, 3) := by decide +kernel
theorem dX9_worth_45 : decode cX9_worth 45 = .ok (.aload_n 0, 1) := by decide +kernel
theorem dX9_worth_46 : decode cX9_worth 46 = .ok (.iload_n 2, 1) := by decide +kernel
theorem dX9_worth_47 : decode cX9_worth 47 = .ok (.iconst 0, 1) := by decide +kernel
theorem dX9_worth_48 : decode cX9_worth 48 = .ok (.aload_n 0, 1) := by decide +kernel
theorem dX9_worth_49 : decode cX9_worth 49 = .ok (.aload_n 0, 1) := by decide +kernel
theorem dX9_worth_50 : decode cX9_worth 50 = .ok (.getfield 41, 3) := by decide +kernel
theorem dX9_worth_53 : decode cX9_worth 53 = .ok (.iconst 4, 1) := by decide +kernel
theorem dX9_worth_54 : decode cX9_worth 54 = .ok (.iaload, 1) := by decide +kernel
theorem dX9_worth_55 : decode cX9_worth 55 = .ok (.invokevirtual 140, 3) := by decide +kernel
theorem dX9_worth_58 : decode cX9_worth 58 = .ok (.invokevirtual 218, 3) := by decide +kernel
theorem dX9_worth_61 : decode cX9_worth 61 = .ok (.isub, 1) := by decide +kernel
theorem dX9_worth_62 : decode cX9_worth 62 = .ok (.aload_n 0, 1) := by decide +kernel
theorem dX9_worth_63 : decode cX9_worth 63 = .ok (.getfield 23, 3) := by decide +kernel
theorem dX9_worth_66 : decode cX9_worth 66 = .ok (.iconst 3, 1) := by decide +kernel
theorem dX9_worth_67 : decode cX9_worth 67 = .ok (.iload_n 1, 1) := by decide +kernel
theorem dX9_worth_68 : decode cX9_worth 68 = .ok (.imul, 1) := by decide +kernel
theorem dX9_worth_69 : decode cX9_worth 69 = .ok (.iconst 2, 1) := by decide +kernel
theorem dX9_worth_70 : decode cX9_worth 70 = .ok (.iadd, 1) := by decide +kernel
theorem dX9_worth_71 : decode cX9_worth 71 = .ok (.iaload, 1) := by decide +kernel
theorem dX9_worth_72 : decode cX9_worth 72 = .ok (.isub, 1) := by decide +kernel
theorem dX9_worth_73 : decode cX9_worth 73 = .ok (.ldc 222, 2) := by decide +kernel
theorem dX9_worth_75 : decode cX9_worth 75 = .ok (.iadd, 1) := by decide +kernel
theorem dX9_worth_76 : decode cX9_worth 76 = .ok (.ireturn, 1) := by decide +kernel
theorem dX9_secret_0 : decode cX9_secret 0 = .ok (.iload_n 1, 1) := by decide +kernel
theorem dX9_secret_1 : decode cX9_secret 1 = .ok (.iconst 0, 1) := by decide +kernel
theorem dX9_secret_2 : decode cX9_secret 2 = .ok (.bipush 60, 2) := by decide +kernel
theorem dX9_secret_4 : decode cX9_secret 4 = .ok (.invokestatic 63, 3) := by decide +kernel
theorem dX9_secret_7 : decode cX9_secret 7 = .ok (.ifCond .eq 13, 3) := by decide +kernel
theorem dX9_secret_10 : decode cX9_secret 10 = .ok (.iload_n 2, 1) := by decide +kernel
theorem dX9_secret_11 : decode cX9_secret 11 = .ok (.iconst 0, 1) := by decide +kernel
theorem dX9_secret_12 : decode cX9_secret 12 = .ok (.bipush 100, 2) := by decide +kernel
theorem dX9_secret_14 : decode cX9_secret 14 = .ok (.invokestatic 63, 3) := by decide +kernel
theorem dX9_secret_17 : decode cX9_secret 17 = .ok (.ifCond .ne 6, 3) := by decide +kernel
theorem dX9_secret_20 : decode cX9_secret 20 = .ok (.ldc 67, 2) := by decide +kernel
theorem dX9_secret_22 : decode cX9_secret 22 = .ok (.ireturn, 1) := by decide +kernel
theorem dX9_secret_23 : decode cX9_secret 23 = .ok (.ldc 223, 2) := by decide +kernel
theorem dX9_secret_25 : decode cX9_secret 25 = .ok (.istore_n 3, 1) := by decide +kernel
theorem dX9_secret_26 : decode cX9_secret 26 = .ok (.iconst 0, 1) := by decide +kernel
theorem dX9_secret_27 : decode cX9_secret 27 = .ok (.istore 4, 2) := by decide +kernel
theorem dX9_secret_29 : decode cX9_secret 29 = .ok (.iload 4, 2) := by decide +kernel
theorem dX9_secret_31 : decode cX9_secret 31 = .ok (.iload_n 1, 1) := by decide +kernel
theorem dX9_secret_32 : decode cX9_secret 32 = .ok (.if_icmp .ge 19, 3) := by decide +kernel
theorem dX9_secret_35 : decode cX9_secret 35 = .ok (.iload_n 3, 1) := by decide +kernel
theorem dX9_secret_36 : decode cX9_secret 36 = .ok (.bipush 100, 2) := by decide +kernel
theorem dX9_secret_38 : decode cX9_secret 38 = .ok (.iload_n 2, 1) := by decide +kernel
theorem dX9_secret_39 : decode cX9_secret 39 = .ok (.isub, 1) := by decide +kernel
theorem dX9_secret_40 : decode cX9_secret 40 = .ok (.imul, 1) := by decide +kernel
theorem dX9_secret_41 : decode cX9_secret 41 = .ok (.bipush 100, 2) := by decide +kernel
theorem dX9_secret_43 : decode cX9_secret 43 = .ok (.idiv, 1) := by decide +kernel
theorem dX9_secret_44 : decode cX9_secret 44 = .ok (.istore_n 3, 1) := by decide +kernel
theorem dX9_secret_45 : decode cX9_secret 45 = .ok (.iinc 4 1, 3) := by decide +kernel
theorem dX9_secret_48 : decode cX9_secret 48 = .ok (.goto (-19), 3) := by decide +kernel
theorem dX9_secret_51 : decode cX9_secret 51 = .ok (.iload_n 3, 1) := by decide +kernel
theorem dX9_secret_52 : decode cX9_secret 52 = .ok (.ireturn, 1) := by decide +kernel
theorem dX9_hear_0 : decode cX9_hear 0 = .ok (.iload_n 1, 1) := by decide +kernel
theorem dX9_hear_1 : decode cX9_hear 1 = .ok (.iconst 0, 1) := by decide +kernel
theorem dX9_hear_2 : decode cX9_hear 2 = .ok (.bipush 59, 2) := by decide +kernel
theorem dX9_hear_4 : decode cX9_hear 4 = .ok (.invokestatic 63, 3) := by decide +kernel
theorem dX9_hear_7 : decode cX9_hear 7 = .ok (.ifCond .ne 6, 3) := by decide +kernel
theorem dX9_hear_10 : decode cX9_hear 10 = .ok (.ldc 67, 2) := by decide +kernel
theorem dX9_hear_12 : decode cX9_hear 12 = .ok (.ireturn, 1) := by decide +kernel
theorem dX9_hear_13 : decode cX9_hear 13 = .ok (.aload_n 0, 1) := by decide +kernel
theorem dX9_hear_14 : decode cX9_hear 14 = .ok (.invokevirtual 164, 3) := by decide +kernel
theorem dX9_hear_17 : decode cX9_hear 17 = .ok (.ifCond .ne 6, 3) := by decide +kernel
theorem dX9_hear_20 : decode cX9_hear 20 = .ok (.ldc 168, 2) := by decide +kernel
theorem dX9_hear_22 : decode cX9_hear 22 = .ok (.ireturn, 1) := by decide +kernel
theorem dX9_hear_23 : decode cX9_hear 23 = .ok (.aload_n 0, 1) := by decide +kernel
theorem dX9_hear_24 : decode cX9_hear 24 = .ok (.getfield 129, 3) := by decide +kernel
theorem dX9_hear_27 : decode cX9_hear 27 = .ok (.bipush 6, 2) := by decide +kernel
theorem dX9_hear_29 : decode cX9_hear 29 = .ok (.if_icmp .ne 6, 3) := by decide +kernel
theorem dX9_hear_32 : decode cX9_hear 32 = .ok (.ldc 71, 2) := by decide +kernel
theorem dX9_hear_34 : decode cX9_hear 34 = .ok (.ireturn, 1) := by decide +kernel
theorem dX9_hear_35 : decode cX9_hear 35 = .ok (.aload_n 0, 1) := by decide +kernel
theorem dX9_hear_36 : decode cX9_hear 36 = .ok (.getfield 57, 3) := by decide +kernel
theorem dX9_hear_39 : decode cX9_hear 39 = .ok (.iconst 2, 1) := by decide +kernel
theorem dX9_hear_40 : decode cX9_hear 40 = .ok (.aload_n 0, 1) := by decide +kernel
theorem dX9_hear_41 : decode cX9_hear 41 = .ok (.getfield 129, 3) := by decide +kernel
theorem dX9_hear_44 : decode cX9_hear 44 = .ok (.imul, 1) := by decide +kernel
theorem dX9_hear_45 : decode cX9_hear 45 = .ok (.iload_n 1, 1) := by decide +kernel
theorem dX9_hear_46 : decode cX9_hear 46 = .ok (.iastore, 1) := by decide +kernel
theorem dX9_hear_47 : decode cX9_hear 47 = .ok (.aload_n 0, 1) := by decide +kernel
theorem dX9_hear_48 : decode cX9_hear 48 = .ok (.getfield 57, 3) := by decide +kernel
theorem dX9_hear_51 : decode cX9_hear 51 = .ok (.iconst 2, 1) := by decide +kernel
theorem dX9_hear_52 : decode cX9_hear 52 = .ok (.aload_n 0, 1) := by decide +kernel
theorem dX9_hear_53 : decode cX9_hear 53 = .ok (.getfield 129, 3) := by decide +kernel
theorem dX9_hear_56 : decode cX9_hear 56 = .ok (.imul, 1) := by decide +kernel
theorem dX9_hear_57 : decode cX9_hear 57 = .ok (.iconst 1, 1) := by decide +kernel
theorem dX9_hear_58 : decode cX9_hear 58 = .ok (.iadd, 1) := by decide +kernel
theorem dX9_hear_59 : decode cX9_hear 59 = .ok (.iload_n 2, 1) := by decide +kernel
theorem dX9_hear_60 : decode cX9_hear 60 = .ok (.ifCond .eq 7, 3) := by decide +kernel
theorem dX9_hear_63 : decode cX9_hear 63 = .ok (.iconst 1, 1) := by decide +kernel
theorem dX9_hear_64 : decode cX9_hear 64 = .ok (.goto 4, 3) := by decide +kernel
theorem dX9_hear_67 : decode cX9_hear 67 = .ok (.iconst 0, 1) := by decide +kernel
theorem dX9_hear_68 : decode cX9_hear 68 = .ok (.iastore, 1) := by decide +kernel
theorem dX9_hear_69 : decode cX9_hear 69 = .ok (.aload_n 0, 1) := by decide +kernel
theorem dX9_hear_70 : decode cX9_hear 70 = .ok (.dup, 1) := by decide +kernel
theorem dX9_hear_71 : decode cX9_hear 71 = .ok (.getfield 129, 3) := by decide +kernel
theorem dX9_hear_74 : decode cX9_hear 74 = .ok (.iconst 1, 1) := by decide +kernel
theorem dX9_hear_75 : decode cX9_hear 75 = .ok (.iadd, 1) := by decide +kernel
theorem dX9_hear_76 : decode cX9_hear 76 = .ok (.putfield 129, 3) := by decide +kernel
theorem dX9_hear_79 : decode cX9_hear 79 = .ok (.aload_n 0, 1) := by decide +kernel
theorem dX9_hear_80 : decode cX9_hear 80 = .ok (.getfield 129, 3) := by decide +kernel
theorem dX9_hear_83 : decode cX9_hear 83 = .ok (.ireturn, 1) := by decide +kernel
theorem dX9_gotBy_0 : decode cX9_gotBy 0 = .ok (.iload_n 2, 1) := by decide +kernel
theorem dX9_gotBy_1 : decode cX9_gotBy 1 = .ok (.iload_n 1, 1) := by decide +kernel
theorem dX9_gotBy_2 : decode cX9_gotBy 2 = .ok (.if_icmp .lt 20, 3) := by decide +kernel
theorem dX9_gotBy_5 : decode cX9_gotBy 5 = .ok (.iload_n 2, 1) := by decide +kernel
theorem dX9_gotBy_6 : decode cX9_gotBy 6 = .ok (.iload_n 1, 1) := by decide +kernel
theorem dX9_gotBy_7 : decode cX9_gotBy 7 = .ok (.isub, 1) := by decide +kernel
theorem dX9_gotBy_8 : decode cX9_gotBy 8 = .ok (.aload_n 0, 1) := by decide +kernel
theorem dX9_gotBy_9 : decode cX9_gotBy 9 = .ok (.getfield 17, 3) := by decide +kernel
theorem dX9_gotBy_12 : decode cX9_gotBy 12 = .ok (.iconst 4, 1) := by decide +kernel
theorem dX9_gotBy_13 : decode cX9_gotBy 13 = .ok (.iaload, 1) := by decide +kernel
theorem dX9_gotBy_14 : decode cX9_gotBy 14 = .ok (.irem, 1) := by decide +kernel
theorem dX9_gotBy_15 : decode cX9_gotBy 15 = .ok (.ifCond .ne 7, 3) := by decide +kernel
theorem dX9_gotBy_18 : decode cX9_gotBy 18 = .ok (.iconst 1, 1) := by decide +kernel
theorem dX9_gotBy_19 : decode cX9_gotBy 19 = .ok (.goto 4, 3) := by decide +kernel
theorem dX9_gotBy_22 : decode cX9_gotBy 22 = .ok (.iconst 0, 1) := by decide +kernel
theorem dX9_gotBy_23 : decode cX9_gotBy 23 = .ok (.ireturn, 1) := by decide +kernel
theorem dX9_paidSet_0 : decode cX9_paidSet 0 = .ok (.iconst 0, 1) := by decide +kernel
theorem dX9_paidSet_1 : decode cX9_paidSet 1 = .ok (.istore_n 1, 1) := by decide +kernel
theorem dX9_paidSet_2 : decode cX9_paidSet 2 = .ok (.iconst 0, 1) := by decide +kernel
theorem dX9_paidSet_3 : decode cX9_paidSet 3 = .ok (.istore_n 2, 1) := by decide +kernel
theorem dX9_paidSet_4 : decode cX9_paidSet 4 = .ok (.iload_n 2, 1) := by decide +kernel
theorem dX9_paidSet_5 : decode cX9_paidSet 5 = .ok (.aload_n 0, 1) := by decide +kernel
theorem dX9_paidSet_6 : decode cX9_paidSet 6 = .ok (.getfield 17, 3) := by decide +kernel
theorem dX9_paidSet_9 : decode cX9_paidSet 9 = .ok (.iconst 4, 1) := by decide +kernel
theorem dX9_paidSet_10 : decode cX9_paidSet 10 = .ok (.iaload, 1) := by decide +kernel
theorem dX9_paidSet_11 : decode cX9_paidSet 11 = .ok (.if_icmp .ge 81, 3) := by decide +kernel
theorem dX9_paidSet_14 : decode cX9_paidSet 14 = .ok (.iconst 1, 1) := by decide +kernel
theorem dX9_paidSet_15 : decode cX9_paidSet 15 = .ok (.istore_n 3, 1) := by decide +kernel
theorem dX9_paidSet_16 : decode cX9_paidSet 16 = .ok (.iconst 0, 1) := by decide +kernel
theorem dX9_paidSet_17 : decode cX9_paidSet 17 = .ok (.istore 4, 2) := by decide +kernel
theorem dX9_paidSet_19 : decode cX9_paidSet 19 = .ok (.iload 4, 2) := by decide +kernel
theorem dX9_paidSet_21 : decode cX9_paidSet 21 = .ok (.aload_n 0, 1) := by decide +kernel
theorem dX9_paidSet_22 : decode cX9_paidSet 22 = .ok (.getfield 129, 3) := by decide +kernel
theorem dX9_paidSet_25 : decode cX9_paidSet 25 = .ok (.if_icmp .ge 47, 3) := by decide +kernel
theorem dX9_paidSet_28 : decode cX9_paidSet 28 = .ok (.iload_n 3, 1) := by decide +kernel
theorem dX9_paidSet_29 : decode cX9_paidSet 29 = .ok (.ifCond .eq 35, 3) := by decide +kernel
theorem dX9_paidSet_32 : decode cX9_paidSet 32 = .ok (.aload_n 0, 1) := by decide +kernel
theorem dX9_paidSet_33 : decode cX9_paidSet 33 = .ok (.iload_n 2, 1) := by decide +kernel
theorem dX9_paidSet_34 : decode cX9_paidSet 34 = .ok (.aload_n 0, 1) := by decide +kernel
theorem dX9_paidSet_35 : decode cX9_paidSet 35 = .ok (.getfield 57, 3) := by decide +kernel
theorem dX9_paidSet_38 : decode cX9_paidSet 38 = .ok (.iconst 2, 1) := by decide +kernel
theorem dX9_paidSet_39 : decode cX9_paidSet 39 = .ok (.iload 4, 2) := by decide +kernel
theorem dX9_paidSet_41 : decode cX9_paidSet 41 = .ok (.imul, 1) := by decide +kernel
theorem dX9_paidSet_42 : decode cX9_paidSet 42 = .ok (.iaload, 1) := by decide +kernel
theorem dX9_paidSet_43 : decode cX9_paidSet 43 = .ok (.invokevirtual 224, 3) := by decide +kernel
theorem dX9_paidSet_46 : decode cX9_paidSet 46 = .ok (.aload_n 0, 1) := by decide +kernel
theorem dX9_paidSet_47 : decode cX9_paidSet 47 = .ok (.getfield 57, 3) := by decide +kernel
theorem dX9_paidSet_50 : decode cX9_paidSet 50 = .ok (.iconst 2, 1) := by decide +kernel
theorem dX9_paidSet_51 : decode cX9_paidSet 51 = .ok (.iload 4, 2) := by decide +kernel
theorem dX9_paidSet_53 : decode cX9_paidSet 53 = .ok (.imul, 1) := by decide +kernel
theorem dX9_paidSet_54 : decode cX9_paidSet 54 = .ok (.iconst 1, 1) := by decide +kernel
theorem dX9_paidSet_55 : decode cX9_paidSet 55 = .ok (.iadd, 1) := by decide +kernel
theorem dX9_paidSet_56 : decode cX9_paidSet 56 = .ok (.iaload, 1) := by decide +kernel
theorem dX9_paidSet_57 : decode cX9_paidSet 57 = .ok (.if_icmp .ne 7, 3) := by decide +kernel
theorem dX9_paidSet_60 : decode cX9_paidSet 60 = .ok (.iconst 1, 1) := by decide +kernel
theorem dX9_paidSet_61 : decode cX9_paidSet 61 = .ok (.goto 4, 3) := by decide +kernel
theorem dX9_paidSet_64 : decode cX9_paidSet 64 = .ok (.iconst 0, 1) := by decide +kernel
theorem dX9_paidSet_65 : decode cX9_paidSet 65 = .ok (.istore_n 3, 1) := by decide +kernel
theorem dX9_paidSet_66 : decode cX9_paidSet 66 = .ok (.iinc 4 1, 3) := by decide +kernel
theorem dX9_paidSet_69 : decode cX9_paidSet 69 = .ok (.goto (-50), 3) := by decide +kernel
theorem dX9_paidSet_72 : decode cX9_paidSet 72 = .ok (.iload_n 1, 1) := by decide +kernel
theorem dX9_paidSet_73 : decode cX9_paidSet 73 = .ok (.iload_n 3, 1) := by decide +kernel
theorem dX9_paidSet_74 : decode cX9_paidSet 74 = .ok (.ifCond .eq 9, 3) := by decide +kernel
theorem dX9_paidSet_77 : decode cX9_paidSet 77 = .ok (.iconst 1, 1) := by decide +kernel
theorem dX9_paidSet_78 : decode cX9_paidSet 78 = .ok (.iload_n 2, 1) := by decide +kernel
theorem dX9_paidSet_79 : decode cX9_paidSet 79 = .ok (.ishl, 1) := by decide +kernel
theorem dX9_paidSet_80 : decode cX9_paidSet 80 = .ok (.goto 4, 3) := by decide +kernel
theorem dX9_paidSet_83 : decode cX9_paidSet 83 = .ok (.iconst 0, 1) := by decide +kernel
theorem dX9_paidSet_84 : decode cX9_paidSet 84 = .ok (.ior, 1) := by decide +kernel
theorem dX9_paidSet_85 : decode cX9_paidSet 85 = .ok (.istore_n 1, 1) := by decide +kernel
theorem dX9_paidSet_86 : decode cX9_paidSet 86 = .ok (.iinc 2 1, 3) := by decide +kernel
theorem dX9_paidSet_89 : decode cX9_paidSet 89 = .ok (.goto (-85), 3) := by decide +kernel
theorem dX9_paidSet_92 : decode cX9_paidSet 92 = .ok (.iload_n 1, 1) := by decide +kernel
theorem dX9_paidSet_93 : decode cX9_paidSet 93 = .ok (.ireturn, 1) := by decide +kernel
theorem dX9_paid_0 : decode cX9_paid 0 = .ok (.aload_n 0, 1) := by decide +kernel
theorem dX9_paid_1 : decode cX9_paid 1 = .ok (.invokevirtual 164, 3) := by decide +kernel
theorem dX9_paid_4 : decode cX9_paid 4 = .ok (.ifCond .eq 10, 3) := by decide +kernel
theorem dX9_paid_7 : decode cX9_paid 7 = .ok (.aload_n 0, 1) := by decide +kernel
theorem dX9_paid_8 : decode cX9_paid 8 = .ok (.invokevirtual 227, 3) := by decide +kernel
theorem dX9_paid_11 : decode cX9_paid 11 = .ok (.goto 5, 3) := by decide +kernel
theorem dX9_paid_14 : decode cX9_paid 14 = .ok (.ldc 168, 2) := by decide +kernel
theorem dX9_paid_16 : decode cX9_paid 16 = .ok (.ireturn, 1) := by decide +kernel
theorem dX9_ask_0 : decode cX9_ask 0 = .ok (.aload_n 0, 1) := by decide +kernel
theorem dX9_ask_1 : decode cX9_ask 1 = .ok (.invokevirtual 164, 3) := by decide +kernel
theorem dX9_ask_4 : decode cX9_ask 4 = .ok (.ifCond .ne 6, 3) := by decide +kernel
theorem dX9_ask_7 : decode cX9_ask 7 = .ok (.ldc 168, 2) := by decide +kernel
theorem dX9_ask_9 : decode cX9_ask 9 = .ok (.ireturn, 1) := by decide +kernel
theorem dX9_ask_10 : decode cX9_ask 10 = .ok (.aload_n 0, 1) := by decide +kernel
theorem dX9_ask_11 : decode cX9_ask 11 = .ok (.invokevirtual 227, 3) := by decide +kernel
theorem dX9_ask_14 : decode cX9_ask 14 = .ok (.istore_n 1, 1) := by decide +kernel
theorem dX9_ask_15 : decode cX9_ask 15 = .ok (.iload_n 1, 1) := by decide +kernel
theorem dX9_ask_16 : decode cX9_ask 16 = .ok (.invokestatic 212, 3) := by decide +kernel
theorem dX9_ask_19 : decode cX9_ask 19 = .ok (.istore_n 2, 1) := by decide +kernel
theorem dX9_ask_20 : decode cX9_ask 20 = .ok (.iconst (-1), 1) := by decide +kernel
theorem dX9_ask_21 : decode cX9_ask 21 = .ok (.istore_n 3, 1) := by decide +kernel
theorem dX9_ask_22 : decode cX9_ask 22 = .ok (.iload_n 2, 1) := by decide +kernel
theorem dX9_ask_23 : decode cX9_ask 23 = .ok (.istore 4, 2) := by decide +kernel
theorem dX9_ask_25 : decode cX9_ask 25 = .ok (.iconst 0, 1) := by decide +kernel
theorem dX9_ask_26 : decode cX9_ask 26 = .ok (.istore 5, 2) := by decide +kernel
theorem dX9_ask_28 : decode cX9_ask 28 = .ok (.iload 5, 2) := by decide +kernel
theorem dX9_ask_30 : decode cX9_ask 30 = .ok (.bipush 60, 2) := by decide +kernel
theorem dX9_ask_32 : decode cX9_ask 32 = .ok (.if_icmp .ge 108, 3) := by decide +kernel
theorem dX9_ask_35 : decode cX9_ask 35 = .ok (.iconst 0, 1) := by decide +kernel
theorem dX9_ask_36 : decode cX9_ask 36 = .ok (.istore 6, 2) := by decide +kernel
theorem dX9_ask_38 : decode cX9_ask 38 = .ok (.iconst 0, 1) := by decide +kernel
theorem dX9_ask_39 : decode cX9_ask 39 = .ok (.istore 7, 2) := by decide +kernel
theorem dX9_ask_41 : decode cX9_ask 41 = .ok (.iload 7, 2) := by decide +kernel
theorem dX9_ask_43 : decode cX9_ask 43 = .ok (.aload_n 0, 1) := by decide +kernel
theorem dX9_ask_44 : decode cX9_ask 44 = .ok (.getfield 17, 3) := by decide +kernel
theorem dX9_ask_47 : decode cX9_ask 47 = .ok (.iconst 4, 1) := by decide +kernel
theorem dX9_ask_48 : decode cX9_ask 48 = .ok (.iaload, 1) := by decide +kernel
theorem dX9_ask_49 : decode cX9_ask 49 = .ok (.if_icmp .ge 35, 3) := by decide +kernel
theorem dX9_ask_52 : decode cX9_ask 52 = .ok (.iload 6, 2) := by decide +kernel
theorem dX9_ask_54 : decode cX9_ask 54 = .ok (.iload_n 1, 1) := by decide +kernel
theorem dX9_ask_55 : decode cX9_ask 55 = .ok (.iload 7, 2) := by decide +kernel
theorem dX9_ask_57 : decode cX9_ask 57 = .ok (.invokestatic 135, 3) := by decide +kernel
theorem dX9_ask_60 : decode cX9_ask 60 = .ok (.ifCond .eq 14, 3) := by decide +kernel
theorem dX9_ask_63 : decode cX9_ask 63 = .ok (.aload_n 0, 1) := by decide +kernel
theorem dX9_ask_64 : decode cX9_ask 64 = .ok (.iload 7, 2) := by decide +kernel
theorem dX9_ask_66 : decode cX9_ask 66 = .ok (.iload 5, 2) := by decide +kernel
theorem dX9_ask_68 : decode cX9_ask 68 = .ok (.invokevirtual 224, 3) := by decide +kernel
theorem dX9_ask_71 : decode cX9_ask 71 = .ok (.goto 4, 3) := by decide +kernel
theorem dX9_ask_74 : decode cX9_ask 74 = .ok (.iconst 0, 1) := by decide +kernel
theorem dX9_ask_75 : decode cX9_ask 75 = .ok (.iadd, 1) := by decide +kernel
theorem dX9_ask_76 : decode cX9_ask 76 = .ok (.istore 6, 2) := by decide +kernel
theorem dX9_ask_78 : decode cX9_ask 78 = .ok (.iinc 7 1, 3) := by decide +kernel
theorem dX9_ask_81 : decode cX9_ask 81 = .ok (.goto (-40), 3) := by decide +kernel
theorem dX9_ask_84 : decode cX9_ask 84 = .ok (.iload 6, 2) := by decide +kernel
theorem dX9_ask_86 : decode cX9_ask 86 = .ok (.iload_n 2, 1) := by decide +kernel
theorem dX9_ask_87 : decode cX9_ask 87 = .ok (.iload 6, 2) := by decide +kernel
theorem dX9_ask_89 : decode cX9_ask 89 = .ok (.isub, 1) := by decide +kernel
theorem dX9_ask_90 : decode cX9_ask 90 = .ok (.if_icmp .le 8, 3) := by decide +kernel
theorem dX9_ask_93 : decode cX9_ask 93 = .ok (.iload 6, 2) := by decide +kernel
theorem dX9_ask_95 : decode cX9_ask 95 = .ok (.goto 7, 3) := by decide +kernel
theorem dX9_ask_98 : decode cX9_ask 98 = .ok (.iload_n 2, 1) := by decide +kernel
theorem dX9_ask_99 : decode cX9_ask 99 = .ok (.iload 6, 2) := by decide +kernel
theorem dX9_ask_101 : decode cX9_ask 101 = .ok (.isub, 1) := by decide +kernel
theorem dX9_ask_102 : decode cX9_ask 102 = .ok (.istore 7, 2) := by decide +kernel
theorem dX9_ask_104 : decode cX9_ask 104 = .ok (.iload 7, 2) := by decide +kernel
theorem dX9_ask_106 : decode cX9_ask 106 = .ok (.iload 4, 2) := by decide +kernel
theorem dX9_ask_108 : decode cX9_ask 108 = .ok (.if_icmp .ge 8, 3) := by decide +kernel
theorem dX9_ask_111 : decode cX9_ask 111 = .ok (.iload 5, 2) := by decide +kernel
theorem dX9_ask_113 : decode cX9_ask 113 = .ok (.goto 4, 3) := by decide +kernel
theorem dX9_ask_116 : decode cX9_ask 116 = .ok (.iload_n 3, 1) := by decide +kernel
theorem dX9_ask_117 : decode cX9_ask 117 = .ok (.istore_n 3, 1) := by decide +kernel
theorem dX9_ask_118 : decode cX9_ask 118 = .ok (.iload 7, 2) := by decide +kernel
theorem dX9_ask_120 : decode cX9_ask 120 = .ok (.iload 4, 2) := by decide +kernel
theorem dX9_ask_122 : decode cX9_ask 122 = .ok (.if_icmp .ge 8, 3) := by decide +kernel
theorem dX9_ask_125 : decode cX9_ask 125 = .ok (.iload 7, 2) := by decide +kernel
theorem dX9_ask_127 : decode cX9_ask 127 = .ok (.goto 5, 3) := by decide +kernel
theorem dX9_ask_130 : decode cX9_ask 130 = .ok (.iload 4, 2) := by decide +kernel
theorem dX9_ask_132 : decode cX9_ask 132 = .ok (.istore 4, 2) := by decide +kernel
theorem dX9_ask_134 : decode cX9_ask 134 = .ok (.iinc 5 1, 3) := by decide +kernel
theorem dX9_ask_137 : decode cX9_ask 137 = .ok (.goto (-109), 3) := by decide +kernel
theorem dX9_ask_140 : decode cX9_ask 140 = .ok (.iload_n 3, 1) := by decide +kernel
theorem dX9_ask_141 : decode cX9_ask 141 = .ok (.ireturn, 1) := by decide +kernel
theorem dX9_write_0 : decode cX9_write 0 = .ok (.aload_n 0, 1) := by decide +kernel
theorem dX9_write_1 : decode cX9_write 1 = .ok (.iload_n 1, 1) := by decide +kernel
theorem dX9_write_2 : decode cX9_write 2 = .ok (.invokevirtual 185, 3) := by decide +kernel
theorem dX9_write_5 : decode cX9_write 5 = .ok (.ifCond .ne 6, 3) := by decide +kernel
theorem dX9_write_8 : decode cX9_write 8 = .ok (.ldc 153, 2) := by decide +kernel
theorem dX9_write_10 : decode cX9_write 10 = .ok (.ireturn, 1) := by decide +kernel
theorem dX9_write_11 : decode cX9_write 11 = .ok (.aload_n 0, 1) := by decide +kernel
theorem dX9_write_12 : decode cX9_write 12 = .ok (.getfield 132, 3) := by decide +kernel
theorem dX9_write_15 : decode cX9_write 15 = .ok (.bipush 15, 2) := by decide +kernel
theorem dX9_write_17 : decode cX9_write 17 = .ok (.if_icmp .ne 6, 3) := by decide +kernel
theorem dX9_write_20 : decode cX9_write 20 = .ok (.ldc 71, 2) := by decide +kernel
theorem dX9_write_22 : decode cX9_write 22 = .ok (.ireturn, 1) := by decide +kernel
theorem dX9_write_23 : decode cX9_write 23 = .ok (.aload_n 0, 1) := by decide +kernel
theorem dX9_write_24 : decode cX9_write 24 = .ok (.getfield 60, 3) := by decide +kernel
theorem dX9_write_27 : decode cX9_write 27 = .ok (.aload_n 0, 1) := by decide +kernel
theorem dX9_write_28 : decode cX9_write 28 = .ok (.getfield 132, 3) := by decide +kernel
theorem dX9_write_31 : decode cX9_write 31 = .ok (.iload_n 1, 1) := by decide +kernel
theorem dX9_write_32 : decode cX9_write 32 = .ok (.iastore, 1) := by decide +kernel
theorem dX9_write_33 : decode cX9_write 33 = .ok (.aload_n 0, 1) := by decide +kernel
theorem dX9_write_34 : decode cX9_write 34 = .ok (.dup, 1) := by decide +kernel
theorem dX9_write_35 : decode cX9_write 35 = .ok (.getfield 132, 3) := by decide +kernel
theorem dX9_write_38 : decode cX9_write 38 = .ok (.iconst 1, 1) := by decide +kernel
theorem dX9_write_39 : decode cX9_write 39 = .ok (.iadd, 1) := by decide +kernel
theorem dX9_write_40 : decode cX9_write 40 = .ok (.putfield 132, 3) := by decide +kernel
theorem dX9_write_43 : decode cX9_write 43 = .ok (.aload_n 0, 1) := by decide +kernel
theorem dX9_write_44 : decode cX9_write 44 = .ok (.getfield 132, 3) := by decide +kernel
theorem dX9_write_47 : decode cX9_write 47 = .ok (.ireturn, 1) := by decide +kernel
theorem dX9_tear_0 : decode cX9_tear 0 = .ok (.aload_n 0, 1) := by decide +kernel
theorem dX9_tear_1 : decode cX9_tear 1 = .ok (.getfield 129, 3) := by decide +kernel
theorem dX9_tear_4 : decode cX9_tear 4 = .ok (.aload_n 0, 1) := by decide +kernel
theorem dX9_tear_5 : decode cX9_tear 5 = .ok (.getfield 132, 3) := by decide +kernel
theorem dX9_tear_8 : decode cX9_tear 8 = .ok (.iadd, 1) := by decide +kernel
theorem dX9_tear_9 : decode cX9_tear 9 = .ok (.istore_n 1, 1) := by decide +kernel
theorem dX9_tear_10 : decode cX9_tear 10 = .ok (.aload_n 0, 1) := by decide +kernel
theorem dX9_tear_11 : decode cX9_tear 11 = .ok (.iconst 0, 1) := by decide +kernel
theorem dX9_tear_12 : decode cX9_tear 12 = .ok (.putfield 129, 3) := by decide +kernel
theorem dX9_tear_15 : decode cX9_tear 15 = .ok (.aload_n 0, 1) := by decide +kernel
theorem dX9_tear_16 : decode cX9_tear 16 = .ok (.iconst 0, 1) := by decide +kernel
theorem dX9_tear_17 : decode cX9_tear 17 = .ok (.putfield 132, 3) := by decide +kernel
theorem dX9_tear_20 : decode cX9_tear 20 = .ok (.iload_n 1, 1) := by decide +kernel
theorem dX9_tear_21 : decode cX9_tear 21 = .ok (.ireturn, 1) := by decide +kernel
theorem dX9_judge_0 : decode cX9_judge 0 = .ok (.iconst 0, 1) := by decide +kernel
theorem dX9_judge_1 : decode cX9_judge 1 = .ok (.istore_n 1, 1) := by decide +kernel
theorem dX9_judge_2 : decode cX9_judge 2 = .ok (.iload_n 1, 1) := by decide +kernel
theorem dX9_judge_3 : decode cX9_judge 3 = .ok (.aload_n 0, 1) := by decide +kernel
theorem dX9_judge_4 : decode cX9_judge 4 = .ok (.getfield 132, 3) := by decide +kernel
theorem dX9_judge_7 : decode cX9_judge 7 = .ok (.if_icmp .ge 30, 3) := by decide +kernel
theorem dX9_judge_10 : decode cX9_judge 10 = .ok (.aload_n 0, 1) := by decide +kernel
theorem dX9_judge_11 : decode cX9_judge 11 = .ok (.getfield 60, 3) := by decide +kernel
theorem dX9_judge_14 : decode cX9_judge 14 = .ok (.iload_n 1, 1) := by decide +kernel
theorem dX9_judge_15 : decode cX9_judge 15 = .ok (.iaload, 1) := by decide +kernel
theorem dX9_judge_16 : decode cX9_judge 16 = .ok (.aload_n 0, 1) := by decide +kernel
theorem dX9_judge_17 : decode cX9_judge 17 = .ok (.aload_n 0, 1) := by decide +kernel
theorem dX9_judge_18 : decode cX9_judge 18 = .ok (.getfield 41, 3) := by decide +kernel
theorem dX9_judge_21 : decode cX9_judge 21 = .ok (.iconst 4, 1) := by decide +kernel
theorem dX9_judge_22 : decode cX9_judge 22 = .ok (.iaload, 1) := by decide +kernel
theorem dX9_judge_23 : decode cX9_judge 23 = .ok (.invokevirtual 140, 3) := by decide +kernel
theorem dX9_judge_26 : decode cX9_judge 26 = .ok (.if_icmp .eq 5, 3) := by decide +kernel
theorem dX9_judge_29 : decode cX9_judge 29 = .ok (.iload_n 1, 1) := by decide +kernel
theorem dX9_judge_30 : decode cX9_judge 30 = .ok (.ireturn, 1) := by decide +kernel
theorem dX9_judge_31 : decode cX9_judge 31 = .ok (.iinc 1 1, 3) := by decide +kernel
theorem dX9_judge_34 : decode cX9_judge 34 = .ok (.goto (-32), 3) := by decide +kernel
theorem dX9_judge_37 : decode cX9_judge 37 = .ok (.iconst (-1), 1) := by decide +kernel
theorem dX9_judge_38 : decode cX9_judge 38 = .ok (.ireturn, 1) := by decide +kernel
theorem dX9_seed_0 : decode cX9_seed 0 = .ok (.iload_n 1, 1) := by decide +kernel
theorem dX9_seed_1 : decode cX9_seed 1 = .ok (.ifCond .ge 6, 3) := by decide +kernel
theorem dX9_seed_4 : decode cX9_seed 4 = .ok (.ldc 67, 2) := by decide +kernel
theorem dX9_seed_6 : decode cX9_seed 6 = .ok (.ireturn, 1) := by decide +kernel
theorem dX9_seed_7 : decode cX9_seed 7 = .ok (.aload_n 0, 1) := by decide +kernel
theorem dX9_seed_8 : decode cX9_seed 8 = .ok (.getfield 188, 3) := by decide +kernel
theorem dX9_seed_11 : decode cX9_seed 11 = .ok (.istore_n 2, 1) := by decide +kernel
theorem dX9_seed_12 : decode cX9_seed 12 = .ok (.aload_n 0, 1) := by decide +kernel
theorem dX9_seed_13 : decode cX9_seed 13 = .ok (.iload_n 1, 1) := by decide +kernel
theorem dX9_seed_14 : decode cX9_seed 14 = .ok (.putfield 188, 3) := by decide +kernel
theorem dX9_seed_17 : decode cX9_seed 17 = .ok (.iload_n 2, 1) := by decide +kernel
theorem dX9_seed_18 : decode cX9_seed 18 = .ok (.ireturn, 1) := by decide +kernel
theorem dX9_keep_0 : decode cX9_keep 0 = .ok (.iload_n 1, 1) := by decide +kernel
theorem dX9_keep_1 : decode cX9_keep 1 = .ok (.iconst 0, 1) := by decide +kernel
theorem dX9_keep_2 : decode cX9_keep 2 = .ok (.iconst 1, 1) := by decide +kernel
theorem dX9_keep_3 : decode cX9_keep 3 = .ok (.invokestatic 63, 3) := by decide +kernel
theorem dX9_keep_6 : decode cX9_keep 6 = .ok (.ifCond .ne 6, 3) := by decide +kernel
theorem dX9_keep_9 : decode cX9_keep 9 = .ok (.ldc 153, 2) := by decide +kernel
theorem dX9_keep_11 : decode cX9_keep 11 = .ok (.ireturn, 1) := by decide +kernel
theorem dX9_keep_12 : decode cX9_keep 12 = .ok (.aload_n 0, 1) := by decide +kernel
theorem dX9_keep_13 : decode cX9_keep 13 = .ok (.getfield 41, 3) := by decide +kernel
theorem dX9_keep_16 : decode cX9_keep 16 = .ok (.iconst 0, 1) := by decide +kernel
theorem dX9_keep_17 : decode cX9_keep 17 = .ok (.aload_n 0, 1) := by decide +kernel
theorem dX9_keep_18 : decode cX9_keep 18 = .ok (.getfield 47, 3) := by decide +kernel
theorem dX9_keep_21 : decode cX9_keep 21 = .ok (.bipush 21, 2) := by decide +kernel
theorem dX9_keep_23 : decode cX9_keep 23 = .ok (.iload_n 1, 1) := by decide +kernel
theorem dX9_keep_24 : decode cX9_keep 24 = .ok (.imul, 1) := by decide +kernel
theorem dX9_keep_25 : decode cX9_keep 25 = .ok (.bipush 21, 2) := by decide +kernel
theorem dX9_keep_27 : decode cX9_keep 27 = .ok (.invokestatic 122, 3) := by decide +kernel
theorem dX9_keep_30 : decode cX9_keep 30 = .ok (.aload_n 0, 1) := by decide +kernel
theorem dX9_keep_31 : decode cX9_keep 31 = .ok (.getfield 50, 3) := by decide +kernel
theorem dX9_keep_34 : decode cX9_keep 34 = .ok (.iload_n 1, 1) := by decide +kernel
theorem dX9_keep_35 : decode cX9_keep 35 = .ok (.aload_n 0, 1) := by decide +kernel
theorem dX9_keep_36 : decode cX9_keep 36 = .ok (.getfield 188, 3) := by decide +kernel
theorem dX9_keep_39 : decode cX9_keep 39 = .ok (.iastore, 1) := by decide +kernel
theorem dX9_keep_40 : decode cX9_keep 40 = .ok (.aload_n 0, 1) := by decide +kernel
theorem dX9_keep_41 : decode cX9_keep 41 = .ok (.getfield 53, 3) := by decide +kernel
theorem dX9_keep_44 : decode cX9_keep 44 = .ok (.iload_n 1, 1) := by decide +kernel
theorem dX9_keep_45 : decode cX9_keep 45 = .ok (.iconst 1, 1) := by decide +kernel
theorem dX9_keep_46 : decode cX9_keep 46 = .ok (.bastore, 1) := by decide +kernel
theorem dX9_keep_47 : decode cX9_keep 47 = .ok (.aload_n 0, 1) := by decide +kernel
theorem dX9_keep_48 : decode cX9_keep 48 = .ok (.iconst 0, 1) := by decide +kernel
theorem dX9_keep_49 : decode cX9_keep 49 = .ok (.putfield 126, 3) := by decide +kernel
theorem dX9_keep_52 : decode cX9_keep 52 = .ok (.iconst 1, 1) := by decide +kernel
theorem dX9_keep_53 : decode cX9_keep 53 = .ok (.ireturn, 1) := by decide +kernel
theorem dX9_goBack_0 : decode cX9_goBack 0 = .ok (.iload_n 1, 1) := by decide +kernel
theorem dX9_goBack_1 : decode cX9_goBack 1 = .ok (.iconst 0, 1) := by decide +kernel
theorem dX9_goBack_2 : decode cX9_goBack 2 = .ok (.iconst 1, 1) := by decide +kernel
theorem dX9_goBack_3 : decode cX9_goBack 3 = .ok (.invokestatic 63, 3) := by decide +kernel
theorem dX9_goBack_6 : decode cX9_goBack 6 = .ok (.ifCond .ne 6, 3) := by decide +kernel
theorem dX9_goBack_9 : decode cX9_goBack 9 = .ok (.ldc 153, 2) := by decide +kernel
theorem dX9_goBack_11 : decode cX9_goBack 11 = .ok (.ireturn, 1) := by decide +kernel
theorem dX9_goBack_12 : decode cX9_goBack 12 = .ok (.aload_n 0, 1) := by decide +kernel
theorem dX9_goBack_13 : decode cX9_goBack 13 = .ok (.getfield 53, 3) := by decide +kernel
theorem dX9_goBack_16 : decode cX9_goBack 16 = .ok (.iload_n 1, 1) := by decide +kernel
theorem dX9_goBack_17 : decode cX9_goBack 17 = .ok (.baload, 1) := by decide +kernel
theorem dX9_goBack_18 : decode cX9_goBack 18 = .ok (.ifCond .ne 6, 3) := by decide +kernel
theorem dX9_goBack_21 : decode cX9_goBack 21 = .ok (.ldc 168, 2) := by decide +kernel
theorem dX9_goBack_23 : decode cX9_goBack 23 = .ok (.ireturn, 1) := by decide +kernel
theorem dX9_goBack_24 : decode cX9_goBack 24 = .ok (.aload_n 0, 1) := by decide +kernel
theorem dX9_goBack_25 : decode cX9_goBack 25 = .ok (.getfield 47, 3) := by decide +kernel
theorem dX9_goBack_28 : decode cX9_goBack 28 = .ok (.bipush 21, 2) := by decide +kernel
theorem dX9_goBack_30 : decode cX9_goBack 30 = .ok (.iload_n 1, 1) := by decide +kernel
theorem dX9_goBack_31 : decode cX9_goBack 31 = .ok (.imul, 1) := by decide +kernel
theorem dX9_goBack_32 : decode cX9_goBack 32 = .ok (.aload_n 0, 1) := by decide +kernel
theorem dX9_goBack_33 : decode cX9_goBack 33 = .ok (.getfield 41, 3) := by decide +kernel
theorem dX9_goBack_36 : decode cX9_goBack 36 = .ok (.iconst 0, 1) := by decide +kernel
theorem dX9_goBack_37 : decode cX9_goBack 37 = .ok (.bipush 21, 2) := by decide +kernel
theorem dX9_goBack_39 : decode cX9_goBack 39 = .ok (.invokestatic 122, 3) := by decide +kernel
theorem dX9_goBack_42 : decode cX9_goBack 42 = .ok (.aload_n 0, 1) := by decide +kernel
theorem dX9_goBack_43 : decode cX9_goBack 43 = .ok (.aload_n 0, 1) := by decide +kernel
theorem dX9_goBack_44 : decode cX9_goBack 44 = .ok (.getfield 50, 3) := by decide +kernel
theorem dX9_goBack_47 : decode cX9_goBack 47 = .ok (.iload_n 1, 1) := by decide +kernel
theorem dX9_goBack_48 : decode cX9_goBack 48 = .ok (.iaload, 1) := by decide +kernel
theorem dX9_goBack_49 : decode cX9_goBack 49 = .ok (.putfield 188, 3) := by decide +kernel
theorem dX9_goBack_52 : decode cX9_goBack 52 = .ok (.aload_n 0, 1) := by decide +kernel
theorem dX9_goBack_53 : decode cX9_goBack 53 = .ok (.iconst 0, 1) := by decide +kernel
theorem dX9_goBack_54 : decode cX9_goBack 54 = .ok (.putfield 126, 3) := by decide +kernel
theorem dX9_goBack_57 : decode cX9_goBack 57 = .ok (.iconst 1, 1) := by decide +kernel
theorem dX9_goBack_58 : decode cX9_goBack 58 = .ok (.ireturn, 1) := by decide +kernel
end
section
theorem dL_law_0 : decode cL_law 0 = .ok (.new 7, 3) := by decide +kernel
theorem dL_law_3 : decode cL_law 3 = .ok (.dup, 1) := by decide +kernel
theorem dL_law_4 : decode cL_law 4 = .ok (.invokespecial 9, 3) := by decide +kernel
theorem dL_law_7 : decode cL_law 7 = .ok (.astore_n 1, 1) := by decide +kernel
theorem dL_law_8 : decode cL_law 8 = .ok (.new 10, 3) := by decide +kernel
theorem dL_law_11 : decode cL_law 11 = .ok (.dup, 1) := by decide +kernel
theorem dL_law_12 : decode cL_law 12 = .ok (.invokespecial 12, 3) := by decide +kernel
theorem dL_law_15 : decode cL_law 15 = .ok (.astore_n 2, 1) := by decide +kernel
theorem dL_law_16 : decode cL_law 16 = .ok (.iconst 0, 1) := by decide +kernel
theorem dL_law_17 : decode cL_law 17 = .ok (.istore_n 3, 1) := by decide +kernel
theorem dL_law_18 : decode cL_law 18 = .ok (.iload_n 3, 1) := by decide +kernel
theorem dL_law_19 : decode cL_law 19 = .ok (.aload_n 0, 1) := by decide +kernel
theorem dL_law_20 : decode cL_law 20 = .ok (.arraylength, 1) := by decide +kernel
theorem dL_law_21 : decode cL_law 21 = .ok (.iconst 4, 1) := by decide +kernel
theorem dL_law_22 : decode cL_law 22 = .ok (.isub, 1) := by decide +kernel
theorem dL_law_23 : decode cL_law 23 = .ok (.if_icmp .gt 1010, 3) := by decide +kernel
theorem dL_law_26 : decode cL_law 26 = .ok (.aload_n 0, 1) := by decide +kernel
theorem dL_law_27 : decode cL_law 27 = .ok (.iload_n 3, 1) := by decide +kernel
theorem dL_law_28 : decode cL_law 28 = .ok (.iaload, 1) := by decide +kernel
theorem dL_law_29 : decode cL_law 29 = .ok (.bipush 63, 2) := by decide +kernel
theorem dL_law_31 : decode cL_law 31 = .ok (.iand, 1) := by decide +kernel
theorem dL_law_32 : decode cL_law 32 = .ok (.tableswitch 995 0 32 #[148, 171, 184, 197, 220, 243, 276, 309, 332, 355, 394, 407, 456, 499, 522, 535, 558, 581, 604, 647, 660, 693, 736, 769, 802, 851, 864, 877, 900, 913, 926, 949, 972], 148) := by decide +kernel
theorem dL_law_180 : decode cL_law 180 = .ok (.aload_n 1, 1) := by decide +kernel
theorem dL_law_181 : decode cL_law 181 = .ok (.aload_n 0, 1) := by decide +kernel
theorem dL_law_182 : decode cL_law 182 = .ok (.iload_n 3, 1) := by decide +kernel
theorem dL_law_183 : decode cL_law 183 = .ok (.iconst 1, 1) := by decide +kernel
theorem dL_law_184 : decode cL_law 184 = .ok (.iadd, 1) := by decide +kernel
theorem dL_law_185 : decode cL_law 185 = .ok (.iaload, 1) := by decide +kernel
theorem dL_law_186 : decode cL_law 186 = .ok (.invokevirtual 13, 3) := by decide +kernel
theorem dL_law_189 : decode cL_law 189 = .ok (.aload_n 2, 1) := by decide +kernel
theorem dL_law_190 : decode cL_law 190 = .ok (.aload_n 0, 1) := by decide +kernel
theorem dL_law_191 : decode cL_law 191 = .ok (.iload_n 3, 1) := by decide +kernel
theorem dL_law_192 : decode cL_law 192 = .ok (.iconst 1, 1) := by decide +kernel
theorem dL_law_193 : decode cL_law 193 = .ok (.iadd, 1) := by decide +kernel
theorem dL_law_194 : decode cL_law 194 = .ok (.iaload, 1) := by decide +kernel
theorem dL_law_195 : decode cL_law 195 = .ok (.invokevirtual 17, 3) := by decide +kernel
theorem dL_law_198 : decode cL_law 198 = .ok (.if_icmp .eq 829, 3) := by decide +kernel
theorem dL_law_201 : decode cL_law 201 = .ok (.iconst 0, 1) := by decide +kernel
theorem dL_law_202 : decode cL_law 202 = .ok (.ireturn, 1) := by decide +kernel
theorem dL_law_203 : decode cL_law 203 = .ok (.aload_n 1, 1) := by decide +kernel
theorem dL_law_204 : decode cL_law 204 = .ok (.invokevirtual 18, 3) := by decide +kernel
theorem dL_law_207 : decode cL_law 207 = .ok (.aload_n 2, 1) := by decide +kernel
theorem dL_law_208 : decode cL_law 208 = .ok (.invokevirtual 22, 3) := by decide +kernel
theorem dL_law_211 : decode cL_law 211 = .ok (.if_icmp .eq 816, 3) := by decide +kernel
theorem dL_law_214 : decode cL_law 214 = .ok (.iconst 0, 1) := by decide +kernel
theorem dL_law_215 : decode cL_law 215 = .ok (.ireturn, 1) := by decide +kernel
theorem dL_law_216 : decode cL_law 216 = .ok (.aload_n 1, 1) := by decide +kernel
theorem dL_law_217 : decode cL_law 217 = .ok (.invokevirtual 23, 3) := by decide +kernel
theorem dL_law_220 : decode cL_law 220 = .ok (.aload_n 2, 1) := by decide +kernel
theorem dL_law_221 : decode cL_law 221 = .ok (.invokevirtual 26, 3) := by decide +kernel
theorem dL_law_224 : decode cL_law 224 = .ok (.if_icmp .eq 803, 3) := by decide +kernel
theorem dL_law_227 : decode cL_law 227 = .ok (.iconst 0, 1) := by decide +kernel
theorem dL_law_228 : decode cL_law 228 = .ok (.ireturn, 1) := by decide +kernel
theorem dL_law_229 : decode cL_law 229 = .ok (.aload_n 1, 1) := by decide +kernel
theorem dL_law_230 : decode cL_law 230 = .ok (.aload_n 0, 1) := by decide +kernel
theorem dL_law_231 : decode cL_law 231 = .ok (.iload_n 3, 1) := by decide +kernel
theorem dL_law_232 : decode cL_law 232 = .ok (.iconst 1, 1) := by decide +kernel
theorem dL_law_233 : decode cL_law 233 = .ok (.iadd, 1) := by decide +kernel
theorem dL_law_234 : decode cL_law 234 = .ok (.iaload, 1) := by decide +kernel
theorem dL_law_235 : decode cL_law 235 = .ok (.invokevirtual 27, 3) := by decide +kernel
theorem dL_law_238 : decode cL_law 238 = .ok (.aload_n 2, 1) := by decide +kernel
theorem dL_law_239 : decode cL_law 239 = .ok (.aload_n 0, 1) := by decide +kernel
theorem dL_law_240 : decode cL_law 240 = .ok (.iload_n 3, 1) := by decide +kernel
theorem dL_law_241 : decode cL_law 241 = .ok (.iconst 1, 1) := by decide +kernel
theorem dL_law_242 : decode cL_law 242 = .ok (.iadd, 1) := by decide +kernel
theorem dL_law_243 : decode cL_law 243 = .ok (.iaload, 1) := by decide +kernel
theorem dL_law_244 : decode cL_law 244 = .ok (.invokevirtual 30, 3) := by decide +kernel
theorem dL_law_247 : decode cL_law 247 = .ok (.if_icmp .eq 780, 3) := by decide +kernel
theorem dL_law_250 : decode cL_law 250 = .ok (.iconst 0, 1) := by decide +kernel
theorem dL_law_251 : decode cL_law 251 = .ok (.ireturn, 1) := by decide +kernel
theorem dL_law_252 : decode cL_law 252 = .ok (.aload_n 1, 1) := by decide +kernel
theorem dL_law_253 : decode cL_law 253 = .ok (.aload_n 0, 1) := by decide +kernel
theorem dL_law_254 : decode cL_law 254 = .ok (.iload_n 3, 1) := by decide +kernel
theorem dL_law_255 : decode cL_law 255 = .ok (.iconst 1, 1) := by decide +kernel
theorem dL_law_256 : decode cL_law 256 = .ok (.iadd, 1) := by decide +kernel
theorem dL_law_257 : decode cL_law 257 = .ok (.iaload, 1) := by decide +kernel
theorem dL_law_258 : decode cL_law 258 = .ok (.invokevirtual 31, 3) := by decide +kernel
theorem dL_law_261 : decode cL_law 261 = .ok (.aload_n 2, 1) := by decide +kernel
theorem dL_law_262 : decode cL_law 262 = .ok (.aload_n 0, 1) := by decide +kernel
theorem dL_law_263 : decode cL_law 263 = .ok (.iload_n 3, 1) := by decide +kernel
theorem dL_law_264 : decode cL_law 264 = .ok (.iconst 1, 1) := by decide +kernel
theorem dL_law_265 : decode cL_law 265 = .ok (.iadd, 1) := by decide +kernel
theorem dL_law_266 : decode cL_law 266 = .ok (.iaload, 1) := by decide +kernel
theorem dL_law_267 : decode cL_law 267 = .ok (.invokevirtual 34, 3) := by decide +kernel
theorem dL_law_270 : decode cL_law 270 = .ok (.if_icmp .eq 757, 3) := by decide +kernel
theorem dL_law_273 : decode cL_law 273 = .ok (.iconst 0, 1) := by decide +kernel
theorem dL_law_274 : decode cL_law 274 = .ok (.ireturn, 1) := by decide +kernel
theorem dL_law_275 : decode cL_law 275 = .ok (.aload_n 1, 1) := by decide +kernel
theorem dL_law_276 : decode cL_law 276 = .ok (.aload_n 0, 1) := by decide +kernel
theorem dL_law_277 : decode cL_law 277 = .ok (.iload_n 3, 1) := by decide +kernel
theorem dL_law_278 : decode cL_law 278 = .ok (.iconst 1, 1) := by decide +kernel
theorem dL_law_279 : decode cL_law 279 = .ok (.iadd, 1) := by decide +kernel
theorem dL_law_280 : decode cL_law 280 = .ok (.iaload, 1) := by decide +kernel
theorem dL_law_281 : decode cL_law 281 = .ok (.aload_n 0, 1) := by decide +kernel
theorem dL_law_282 : decode cL_law 282 = .ok (.iload_n 3, 1) := by decide +kernel
theorem dL_law_283 : decode cL_law 283 = .ok (.iconst 2, 1) := by decide +kernel
theorem dL_law_284 : decode cL_law 284 = .ok (.iadd, 1) := by decide +kernel
theorem dL_law_285 : decode cL_law 285 = .ok (.iaload, 1) := by decide +kernel
theorem dL_law_286 : decode cL_law 286 = .ok (.invokevirtual 35, 3) := by decide +kernel
theorem dL_law_289 : decode cL_law 289 = .ok (.aload_n 2, 1) := by decide +kernel
theorem dL_law_290 : decode cL_law 290 = .ok (.aload_n 0, 1) := by decide +kernel
theorem dL_law_291 : decode cL_law 291 = .ok (.iload_n 3, 1) := by decide +kernel
theorem dL_law_292 : decode cL_law 292 = .ok (.iconst 1, 1) := by decide +kernel
theorem dL_law_293 : decode cL_law 293 = .ok (.iadd, 1) := by decide +kernel
theorem dL_law_294 : decode cL_law 294 = .ok (.iaload, 1) := by decide +kernel
theorem dL_law_295 : decode cL_law 295 = .ok (.aload_n 0, 1) := by decide +kernel
theorem dL_law_296 : decode cL_law 296 = .ok (.iload_n 3, 1) := by decide +kernel
theorem dL_law_297 : decode cL_law 297 = .ok (.iconst 2, 1) := by decide +kernel
theorem dL_law_298 : decode cL_law 298 = .ok (.iadd, 1) := by decide +kernel
theorem dL_law_299 : decode cL_law 299 = .ok (.iaload, 1) := by decide +kernel
theorem dL_law_300 : decode cL_law 300 = .ok (.invokevirtual 39, 3) := by decide +kernel
theorem dL_law_303 : decode cL_law 303 = .ok (.if_icmp .eq 724, 3) := by decide +kernel
theorem dL_law_306 : decode cL_law 306 = .ok (.iconst 0, 1) := by decide +kernel
theorem dL_law_307 : decode cL_law 307 = .ok (.ireturn, 1) := by decide +kernel
theorem dL_law_308 : decode cL_law 308 = .ok (.aload_n 1, 1) := by decide +kernel
theorem dL_law_309 : decode cL_law 309 = .ok (.aload_n 0, 1) := by decide +kernel
theorem dL_law_310 : decode cL_law 310 = .ok (.iload_n 3, 1) := by decide +kernel
theorem dL_law_311 : decode cL_law 311 = .ok (.iconst 1, 1) := by decide +kernel
theorem dL_law_312 : decode cL_law 312 = .ok (.iadd, 1) := by decide +kernel
theorem dL_law_313 : decode cL_law 313 = .ok (.iaload, 1) := by decide +kernel
theorem dL_law_314 : decode cL_law 314 = .ok (.aload_n 0, 1) := by decide +kernel
theorem dL_law_315 : decode cL_law 315 = .ok (.iload_n 3, 1) := by decide +kernel
theorem dL_law_316 : decode cL_law 316 = .ok (.iconst 2, 1) := by decide +kernel
theorem dL_law_317 : decode cL_law 317 = .ok (.iadd, 1) := by decide +kernel
theorem dL_law_318 : decode cL_law 318 = .ok (.iaload, 1) := by decide +kernel
theorem dL_law_319 : decode cL_law 319 = .ok (.invokevirtual 40, 3) := by decide +kernel
theorem dL_law_322 : decode cL_law 322 = .ok (.aload_n 2, 1) := by decide +kernel
theorem dL_law_323 : decode cL_law 323 = .ok (.aload_n 0, 1) := by decide +kernel
theorem dL_law_324 : decode cL_law 324 = .ok (.iload_n 3, 1) := by decide +kernel
theorem dL_law_325 : decode cL_law 325 = .ok (.iconst 1, 1) := by decide +kernel
theorem dL_law_326 : decode cL_law 326 = .ok (.iadd, 1) := by decide +kernel
theorem dL_law_327 : decode cL_law 327 = .ok (.iaload, 1) := by decide +kernel
theorem dL_law_328 : decode cL_law 328 = .ok (.aload_n 0, 1) := by decide +kernel
theorem dL_law_329 : decode cL_law 329 = .ok (.iload_n 3, 1) := by decide +kernel
theorem dL_law_330 : decode cL_law 330 = .ok (.iconst 2, 1) := by decide +kernel
theorem dL_law_331 : decode cL_law 331 = .ok (.iadd, 1) := by decide +kernel
theorem dL_law_332 : decode cL_law 332 = .ok (.iaload, 1) := by decide +kernel
theorem dL_law_333 : decode cL_law 333 = .ok (.invokevirtual 43, 3) := by decide +kernel
theorem dL_law_336 : decode cL_law 336 = .ok (.if_icmp .eq 691, 3) := by decide +kernel
theorem dL_law_339 : decode cL_law 339 = .ok (.iconst 0, 1) := by decide +kernel
theorem dL_law_340 : decode cL_law 340 = .ok (.ireturn, 1) := by decide +kernel
theorem dL_law_341 : decode cL_law 341 = .ok (.aload_n 1, 1) := by decide +kernel
theorem dL_law_342 : decode cL_law 342 = .ok (.aload_n 0, 1) := by decide +kernel
theorem dL_law_343 : decode cL_law 343 = .ok (.iload_n 3, 1) := by decide +kernel
theorem dL_law_344 : decode cL_law 344 = .ok (.iconst 1, 1) := by decide +kernel
theorem dL_law_345 : decode cL_law 345 = .ok (.iadd, 1) := by decide +kernel
theorem dL_law_346 : decode cL_law 346 = .ok (.iaload, 1) := by decide +kernel
theorem dL_law_347 : decode cL_law 347 = .ok (.invokevirtual 44, 3) := by decide +kernel
theorem dL_law_350 : decode cL_law 350 = .ok (.aload_n 2, 1) := by decide +kernel
theorem dL_law_351 : decode cL_law 351 = .ok (.aload_n 0, 1) := by decide +kernel
theorem dL_law_352 : decode cL_law 352 = .ok (.iload_n 3, 1) := by decide +kernel
theorem dL_law_353 : decode cL_law 353 = .ok (.iconst 1, 1) := by decide +kernel
theorem dL_law_354 : decode cL_law 354 = .ok (.iadd, 1) := by decide +kernel
theorem dL_law_355 : decode cL_law 355 = .ok (.iaload, 1) := by decide +kernel
theorem dL_law_356 : decode cL_law 356 = .ok (.invokevirtual 47, 3) := by decide +kernel
theorem dL_law_359 : decode cL_law 359 = .ok (.if_icmp .eq 668, 3) := by decide +kernel
theorem dL_law_362 : decode cL_law 362 = .ok (.iconst 0, 1) := by decide +kernel
theorem dL_law_363 : decode cL_law 363 = .ok (.ireturn, 1) := by decide +kernel
theorem dL_law_364 : decode cL_law 364 = .ok (.aload_n 1, 1) := by decide +kernel
theorem dL_law_365 : decode cL_law 365 = .ok (.aload_n 0, 1) := by decide +kernel
theorem dL_law_366 : decode cL_law 366 = .ok (.iload_n 3, 1) := by decide +kernel
theorem dL_law_367 : decode cL_law 367 = .ok (.iconst 1, 1) := by decide +kernel
theorem dL_law_368 : decode cL_law 368 = .ok (.iadd, 1) := by decide +kernel
theorem dL_law_369 : decode cL_law 369 = .ok (.iaload, 1) := by decide +kernel
theorem dL_law_370 : decode cL_law 370 = .ok (.invokevirtual 48, 3) := by decide +kernel
theorem dL_law_373 : decode cL_law 373 = .ok (.aload_n 2, 1) := by decide +kernel
theorem dL_law_374 : decode cL_law 374 = .ok (.aload_n 0, 1) := by decide +kernel
theorem dL_law_375 : decode cL_law 375 = .ok (.iload_n 3, 1) := by decide +kernel
theorem dL_law_376 : decode cL_law 376 = .ok (.iconst 1, 1) := by decide +kernel
theorem dL_law_377 : decode cL_law 377 = .ok (.iadd, 1) := by decide +kernel
theorem dL_law_378 : decode cL_law 378 = .ok (.iaload, 1) := by decide +kernel
theorem dL_law_379 : decode cL_law 379 = .ok (.invokevirtual 51, 3) := by decide +kernel
theorem dL_law_382 : decode cL_law 382 = .ok (.if_icmp .eq 645, 3) := by decide +kernel
theorem dL_law_385 : decode cL_law 385 = .ok (.iconst 0, 1) := by decide +kernel
theorem dL_law_386 : decode cL_law 386 = .ok (.ireturn, 1) := by decide +kernel
theorem dL_law_387 : decode cL_law 387 = .ok (.aload_n 1, 1) := by decide +kernel
theorem dL_law_388 : decode cL_law 388 = .ok (.aload_n 0, 1) := by decide +kernel
theorem dL_law_389 : decode cL_law 389 = .ok (.iload_n 3, 1) := by decide +kernel
theorem dL_law_390 : decode cL_law 390 = .ok (.iconst 1, 1) := by decide +kernel
theorem dL_law_391 : decode cL_law 391 = .ok (.iadd, 1) := by decide +kernel
theorem dL_law_392 : decode cL_law 392 = .ok (.iaload, 1) := by decide +kernel
theorem dL_law_393 : decode cL_law 393 = .ok (.ifCond .eq 7, 3) := by decide +kernel
theorem dL_law_396 : decode cL_law 396 = .ok (.iconst 1, 1) := by decide +kernel
theorem dL_law_397 : decode cL_law 397 = .ok (.goto 4, 3) := by decide +kernel
theorem dL_law_400 : decode cL_law 400 = .ok (.iconst 0, 1) := by decide +kernel
theorem dL_law_401 : decode cL_law 401 = .ok (.invokevirtual 52, 3) := by decide +kernel
theorem dL_law_404 : decode cL_law 404 = .ok (.aload_n 2, 1) := by decide +kernel
theorem dL_law_405 : decode cL_law 405 = .ok (.aload_n 0, 1) := by decide +kernel
theorem dL_law_406 : decode cL_law 406 = .ok (.iload_n 3, 1) := by decide +kernel
theorem dL_law_407 : decode cL_law 407 = .ok (.iconst 1, 1) := by decide +kernel
theorem dL_law_408 : decode cL_law 408 = .ok (.iadd, 1) := by decide +kernel
theorem dL_law_409 : decode cL_law 409 = .ok (.iaload, 1) := by decide +kernel
theorem dL_law_410 : decode cL_law 410 = .ok (.ifCond .eq 7, 3) := by decide +kernel
theorem dL_law_413 : decode cL_law 413 = .ok (.iconst 1, 1) := by decide +kernel
theorem dL_law_414 : decode cL_law 414 = .ok (.goto 4, 3) := by decide +kernel
theorem dL_law_417 : decode cL_law 417 = .ok (.iconst 0, 1) := by decide +kernel
theorem dL_law_418 : decode cL_law 418 = .ok (.invokevirtual 56, 3) := by decide +kernel
theorem dL_law_421 : decode cL_law 421 = .ok (.if_icmp .eq 606, 3) := by decide +kernel
theorem dL_law_424 : decode cL_law 424 = .ok (.iconst 0, 1) := by decide +kernel
theorem dL_law_425 : decode cL_law 425 = .ok (.ireturn, 1) := by decide +kernel
theorem dL_law_426 : decode cL_law 426 = .ok (.aload_n 1, 1) := by decide +kernel
theorem dL_law_427 : decode cL_law 427 = .ok (.invokevirtual 57, 3) := by decide +kernel
theorem dL_law_430 : decode cL_law 430 = .ok (.aload_n 2, 1) := by decide +kernel
theorem dL_law_431 : decode cL_law 431 = .ok (.invokevirtual 60, 3) := by decide +kernel
theorem dL_law_434 : decode cL_law 434 = .ok (.if_icmp .eq 593, 3) := by decide +kernel
theorem dL_law_437 : decode cL_law 437 = .ok (.iconst 0, 1) := by decide +kernel
theorem dL_law_438 : decode cL_law 438 = .ok (.ireturn, 1) := by decide +kernel
theorem dL_law_439 : decode cL_law 439 = .ok (.aload_n 1, 1) := by decide +kernel
theorem dL_law_440 : decode cL_law 440 = .ok (.aload_n 0, 1) := by decide +kernel
theorem dL_law_441 : decode cL_law 441 = .ok (.iload_n 3, 1) := by decide +kernel
theorem dL_law_442 : decode cL_law 442 = .ok (.iconst 1, 1) := by decide +kernel
theorem dL_law_443 : decode cL_law 443 = .ok (.iadd, 1) := by decide +kernel
theorem dL_law_444 : decode cL_law 444 = .ok (.iaload, 1) := by decide +kernel
theorem dL_law_445 : decode cL_law 445 = .ok (.aload_n 0, 1) := by decide +kernel
theorem dL_law_446 : decode cL_law 446 = .ok (.iload_n 3, 1) := by decide +kernel
theorem dL_law_447 : decode cL_law 447 = .ok (.iconst 2, 1) := by decide +kernel
theorem dL_law_448 : decode cL_law 448 = .ok (.iadd, 1) := by decide +kernel
theorem dL_law_449 : decode cL_law 449 = .ok (.iaload, 1) := by decide +kernel
theorem dL_law_450 : decode cL_law 450 = .ok (.ifCond .eq 7, 3) := by decide +kernel
theorem dL_law_453 : decode cL_law 453 = .ok (.iconst 1, 1) := by decide +kernel
theorem dL_law_454 : decode cL_law 454 = .ok (.goto 4, 3) := by decide +kernel
theorem dL_law_457 : decode cL_law 457 = .ok (.iconst 0, 1) := by decide +kernel
theorem dL_law_458 : decode cL_law 458 = .ok (.invokevirtual 61, 3) := by decide +kernel
theorem dL_law_461 : decode cL_law 461 = .ok (.aload_n 2, 1) := by decide +kernel
theorem dL_law_462 : decode cL_law 462 = .ok (.aload_n 0, 1) := by decide +kernel
theorem dL_law_463 : decode cL_law 463 = .ok (.iload_n 3, 1) := by decide +kernel
theorem dL_law_464 : decode cL_law 464 = .ok (.iconst 1, 1) := by decide +kernel
theorem dL_law_465 : decode cL_law 465 = .ok (.iadd, 1) := by decide +kernel
theorem dL_law_466 : decode cL_law 466 = .ok (.iaload, 1) := by decide +kernel
theorem dL_law_467 : decode cL_law 467 = .ok (.aload_n 0, 1) := by decide +kernel
theorem dL_law_468 : decode cL_law 468 = .ok (.iload_n 3, 1) := by decide +kernel
theorem dL_law_469 : decode cL_law 469 = .ok (.iconst 2, 1) := by decide +kernel
theorem dL_law_470 : decode cL_law 470 = .ok (.iadd, 1) := by decide +kernel
theorem dL_law_471 : decode cL_law 471 = .ok (.iaload, 1) := by decide +kernel
theorem dL_law_472 : decode cL_law 472 = .ok (.ifCond .eq 7, 3) := by decide +kernel
theorem dL_law_475 : decode cL_law 475 = .ok (.iconst 1, 1) := by decide +kernel
theorem dL_law_476 : decode cL_law 476 = .ok (.goto 4, 3) := by decide +kernel
theorem dL_law_479 : decode cL_law 479 = .ok (.iconst 0, 1) := by decide +kernel
theorem dL_law_480 : decode cL_law 480 = .ok (.invokevirtual 65, 3) := by decide +kernel
theorem dL_law_483 : decode cL_law 483 = .ok (.if_icmp .eq 544, 3) := by decide +kernel
theorem dL_law_486 : decode cL_law 486 = .ok (.iconst 0, 1) := by decide +kernel
theorem dL_law_487 : decode cL_law 487 = .ok (.ireturn, 1) := by decide +kernel
theorem dL_law_488 : decode cL_law 488 = .ok (.aload_n 1, 1) := by decide +kernel
theorem dL_law_489 : decode cL_law 489 = .ok (.aload_n 0, 1) := by decide +kernel
theorem dL_law_490 : decode cL_law 490 = .ok (.iload_n 3, 1) := by decide +kernel
theorem dL_law_491 : decode cL_law 491 = .ok (.iconst 1, 1) := by decide +kernel
theorem dL_law_492 : decode cL_law 492 = .ok (.iadd, 1) := by decide +kernel
theorem dL_law_493 : decode cL_law 493 = .ok (.iaload, 1) := by decide +kernel
theorem dL_law_494 : decode cL_law 494 = .ok (.aload_n 0, 1) := by decide +kernel
theorem dL_law_495 : decode cL_law 495 = .ok (.iload_n 3, 1) := by decide +kernel
theorem dL_law_496 : decode cL_law 496 = .ok (.iconst 2, 1) := by decide +kernel
theorem dL_law_497 : decode cL_law 497 = .ok (.iadd, 1) := by decide +kernel
theorem dL_law_498 : decode cL_law 498 = .ok (.iaload, 1) := by decide +kernel
theorem dL_law_499 : decode cL_law 499 = .ok (.aload_n 0, 1) := by decide +kernel
theorem dL_law_500 : decode cL_law 500 = .ok (.iload_n 3, 1) := by decide +kernel
theorem dL_law_501 : decode cL_law 501 = .ok (.iconst 3, 1) := by decide +kernel
theorem dL_law_502 : decode cL_law 502 = .ok (.iadd, 1) := by decide +kernel
theorem dL_law_503 : decode cL_law 503 = .ok (.iaload, 1) := by decide +kernel
theorem dL_law_504 : decode cL_law 504 = .ok (.invokevirtual 66, 3) := by decide +kernel
theorem dL_law_507 : decode cL_law 507 = .ok (.aload_n 2, 1) := by decide +kernel
theorem dL_law_508 : decode cL_law 508 = .ok (.aload_n 0, 1) := by decide +kernel
theorem dL_law_509 : decode cL_law 509 = .ok (.iload_n 3, 1) := by decide +kernel
theorem dL_law_510 : decode cL_law 510 = .ok (.iconst 1, 1) := by decide +kernel
theorem dL_law_511 : decode cL_law 511 = .ok (.iadd, 1) := by decide +kernel
theorem dL_law_512 : decode cL_law 512 = .ok (.iaload, 1) := by decide +kernel
theorem dL_law_513 : decode cL_law 513 = .ok (.aload_n 0, 1) := by decide +kernel
theorem dL_law_514 : decode cL_law 514 = .ok (.iload_n 3, 1) := by decide +kernel
theorem dL_law_515 : decode cL_law 515 = .ok (.iconst 2, 1) := by decide +kernel
theorem dL_law_516 : decode cL_law 516 = .ok (.iadd, 1) := by decide +kernel
theorem dL_law_517 : decode cL_law 517 = .ok (.iaload, 1) := by decide +kernel
theorem dL_law_518 : decode cL_law 518 = .ok (.aload_n 0, 1) := by decide +kernel
theorem dL_law_519 : decode cL_law 519 = .ok (.iload_n 3, 1) := by decide +kernel
theorem dL_law_520 : decode cL_law 520 = .ok (.iconst 3, 1) := by decide +kernel
theorem dL_law_521 : decode cL_law 521 = .ok (.iadd, 1) := by decide +kernel
theorem dL_law_522 : decode cL_law 522 = .ok (.iaload, 1) := by decide +kernel
theorem dL_law_523 : decode cL_law 523 = .ok (.invokevirtual 70, 3) := by decide +kernel
theorem dL_law_526 : decode cL_law 526 = .ok (.if_icmp .eq 501, 3) := by decide +kernel
theorem dL_law_529 : decode cL_law 529 = .ok (.iconst 0, 1) := by decide +kernel
theorem dL_law_530 : decode cL_law 530 = .ok (.ireturn, 1) := by decide +kernel
theorem dL_law_531 : decode cL_law 531 = .ok (.aload_n 1, 1) := by decide +kernel
theorem dL_law_532 : decode cL_law 532 = .ok (.aload_n 0, 1) := by decide +kernel
theorem dL_law_533 : decode cL_law 533 = .ok (.iload_n 3, 1) := by decide +kernel
theorem dL_law_534 : decode cL_law 534 = .ok (.iconst 1, 1) := by decide +kernel
theorem dL_law_535 : decode cL_law 535 = .ok (.iadd, 1) := by decide +kernel
theorem dL_law_536 : decode cL_law 536 = .ok (.iaload, 1) := by decide +kernel
theorem dL_law_537 : decode cL_law 537 = .ok (.invokevirtual 71, 3) := by decide +kernel
theorem dL_law_540 : decode cL_law 540 = .ok (.aload_n 2, 1) := by decide +kernel
theorem dL_law_541 : decode cL_law 541 = .ok (.aload_n 0, 1) := by decide +kernel
theorem dL_law_542 : decode cL_law 542 = .ok (.iload_n 3, 1) := by decide +kernel
theorem dL_law_543 : decode cL_law 543 = .ok (.iconst 1, 1) := by decide +kernel
theorem dL_law_544 : decode cL_law 544 = .ok (.iadd, 1) := by decide +kernel
theorem dL_law_545 : decode cL_law 545 = .ok (.iaload, 1) := by decide +kernel
theorem dL_law_546 : decode cL_law 546 = .ok (.invokevirtual 74, 3) := by decide +kernel
theorem dL_law_549 : decode cL_law 549 = .ok (.if_icmp .eq 478, 3) := by decide +kernel
theorem dL_law_552 : decode cL_law 552 = .ok (.iconst 0, 1) := by decide +kernel
theorem dL_law_553 : decode cL_law 553 = .ok (.ireturn, 1) := by decide +kernel
theorem dL_law_554 : decode cL_law 554 = .ok (.aload_n 1, 1) := by decide +kernel
theorem dL_law_555 : decode cL_law 555 = .ok (.invokevirtual 75, 3) := by decide +kernel
theorem dL_law_558 : decode cL_law 558 = .ok (.aload_n 2, 1) := by decide +kernel
theorem dL_law_559 : decode cL_law 559 = .ok (.invokevirtual 78, 3) := by decide +kernel
theorem dL_law_562 : decode cL_law 562 = .ok (.if_icmp .eq 465, 3) := by decide +kernel
theorem dL_law_565 : decode cL_law 565 = .ok (.iconst 0, 1) := by decide +kernel
theorem dL_law_566 : decode cL_law 566 = .ok (.ireturn, 1) := by decide +kernel
theorem dL_law_567 : decode cL_law 567 = .ok (.aload_n 1, 1) := by decide +kernel
theorem dL_law_568 : decode cL_law 568 = .ok (.aload_n 0, 1) := by decide +kernel
theorem dL_law_569 : decode cL_law 569 = .ok (.iload_n 3, 1) := by decide +kernel
theorem dL_law_570 : decode cL_law 570 = .ok (.iconst 1, 1) := by decide +kernel
theorem dL_law_571 : decode cL_law 571 = .ok (.iadd, 1) := by decide +kernel
theorem dL_law_572 : decode cL_law 572 = .ok (.iaload, 1) := by decide +kernel
theorem dL_law_573 : decode cL_law 573 = .ok (.invokevirtual 79, 3) := by decide +kernel
theorem dL_law_576 : decode cL_law 576 = .ok (.aload_n 2, 1) := by decide +kernel
theorem dL_law_577 : decode cL_law 577 = .ok (.aload_n 0, 1) := by decide +kernel
theorem dL_law_578 : decode cL_law 578 = .ok (.iload_n 3, 1) := by decide +kernel
theorem dL_law_579 : decode cL_law 579 = .ok (.iconst 1, 1) := by decide +kernel
theorem dL_law_580 : decode cL_law 580 = .ok (.iadd, 1) := by decide +kernel
theorem dL_law_581 : decode cL_law 581 = .ok (.iaload, 1) := by decide +kernel
theorem dL_law_582 : decode cL_law 582 = .ok (.invokevirtual 82, 3) := by decide +kernel
theorem dL_law_585 : decode cL_law 585 = .ok (.if_icmp .eq 442, 3) := by decide +kernel
theorem dL_law_588 : decode cL_law 588 = .ok (.iconst 0, 1) := by decide +kernel
theorem dL_law_589 : decode cL_law 589 = .ok (.ireturn, 1) := by decide +kernel
theorem dL_law_590 : decode cL_law 590 = .ok (.aload_n 1, 1) := by decide +kernel
theorem dL_law_591 : decode cL_law 591 = .ok (.aload_n 0, 1) := by decide +kernel
theorem dL_law_592 : decode cL_law 592 = .ok (.iload_n 3, 1) := by decide +kernel
theorem dL_law_593 : decode cL_law 593 = .ok (.iconst 1, 1) := by decide +kernel
theorem dL_law_594 : decode cL_law 594 = .ok (.iadd, 1) := by decide +kernel
theorem dL_law_595 : decode cL_law 595 = .ok (.iaload, 1) := by decide +kernel
theorem dL_law_596 : decode cL_law 596 = .ok (.invokevirtual 83, 3) := by decide +kernel
theorem dL_law_599 : decode cL_law 599 = .ok (.aload_n 2, 1) := by decide +kernel
theorem dL_law_600 : decode cL_law 600 = .ok (.aload_n 0, 1) := by decide +kernel
theorem dL_law_601 : decode cL_law 601 = .ok (.iload_n 3, 1) := by decide +kernel
theorem dL_law_602 : decode cL_law 602 = .ok (.iconst 1, 1) := by decide +kernel
theorem dL_law_603 : decode cL_law 603 = .ok (.iadd, 1) := by decide +kernel
theorem dL_law_604 : decode cL_law 604 = .ok (.iaload, 1) := by decide +kernel
theorem dL_law_605 : decode cL_law 605 = .ok (.invokevirtual 86, 3) := by decide +kernel
theorem dL_law_608 : decode cL_law 608 = .ok (.if_icmp .eq 419, 3) := by decide +kernel
theorem dL_law_611 : decode cL_law 611 = .ok (.iconst 0, 1) := by decide +kernel
theorem dL_law_612 : decode cL_law 612 = .ok (.ireturn, 1) := by decide +kernel
theorem dL_law_613 : decode cL_law 613 = .ok (.aload_n 1, 1) := by decide +kernel
theorem dL_law_614 : decode cL_law 614 = .ok (.aload_n 0, 1) := by decide +kernel
theorem dL_law_615 : decode cL_law 615 = .ok (.iload_n 3, 1) := by decide +kernel
theorem dL_law_616 : decode cL_law 616 = .ok (.iconst 1, 1) := by decide +kernel
theorem dL_law_617 : decode cL_law 617 = .ok (.iadd, 1) := by decide +kernel
theorem dL_law_618 : decode cL_law 618 = .ok (.iaload, 1) := by decide +kernel
theorem dL_law_619 : decode cL_law 619 = .ok (.invokevirtual 87, 3) := by decide +kernel
theorem dL_law_622 : decode cL_law 622 = .ok (.aload_n 2, 1) := by decide +kernel
theorem dL_law_623 : decode cL_law 623 = .ok (.aload_n 0, 1) := by decide +kernel
theorem dL_law_624 : decode cL_law 624 = .ok (.iload_n 3, 1) := by decide +kernel
theorem dL_law_625 : decode cL_law 625 = .ok (.iconst 1, 1) := by decide +kernel
theorem dL_law_626 : decode cL_law 626 = .ok (.iadd, 1) := by decide +kernel
theorem dL_law_627 : decode cL_law 627 = .ok (.iaload, 1) := by decide +kernel
theorem dL_law_628 : decode cL_law 628 = .ok (.invokevirtual 90, 3) := by decide +kernel
theorem dL_law_631 : decode cL_law 631 = .ok (.if_icmp .eq 396, 3) := by decide +kernel
theorem dL_law_634 : decode cL_law 634 = .ok (.iconst 0, 1) := by decide +kernel
theorem dL_law_635 : decode cL_law 635 = .ok (.ireturn, 1) := by decide +kernel
theorem dL_law_636 : decode cL_law 636 = .ok (.aload_n 1, 1) := by decide +kernel
theorem dL_law_637 : decode cL_law 637 = .ok (.aload_n 0, 1) := by decide +kernel
theorem dL_law_638 : decode cL_law 638 = .ok (.iload_n 3, 1) := by decide +kernel
theorem dL_law_639 : decode cL_law 639 = .ok (.iconst 1, 1) := by decide +kernel
theorem dL_law_640 : decode cL_law 640 = .ok (.iadd, 1) := by decide +kernel
theorem dL_law_641 : decode cL_law 641 = .ok (.iaload, 1) := by decide +kernel
theorem dL_law_642 : decode cL_law 642 = .ok (.aload_n 0, 1) := by decide +kernel
theorem dL_law_643 : decode cL_law 643 = .ok (.iload_n 3, 1) := by decide +kernel
theorem dL_law_644 : decode cL_law 644 = .ok (.iconst 2, 1) := by decide +kernel
theorem dL_law_645 : decode cL_law 645 = .ok (.iadd, 1) := by decide +kernel
theorem dL_law_646 : decode cL_law 646 = .ok (.iaload, 1) := by decide +kernel
theorem dL_law_647 : decode cL_law 647 = .ok (.aload_n 0, 1) := by decide +kernel
theorem dL_law_648 : decode cL_law 648 = .ok (.iload_n 3, 1) := by decide +kernel
theorem dL_law_649 : decode cL_law 649 = .ok (.iconst 3, 1) := by decide +kernel
theorem dL_law_650 : decode cL_law 650 = .ok (.iadd, 1) := by decide +kernel
theorem dL_law_651 : decode cL_law 651 = .ok (.iaload, 1) := by decide +kernel
theorem dL_law_652 : decode cL_law 652 = .ok (.invokevirtual 91, 3) := by decide +kernel
theorem dL_law_655 : decode cL_law 655 = .ok (.aload_n 2, 1) := by decide +kernel
theorem dL_law_656 : decode cL_law 656 = .ok (.aload_n 0, 1) := by decide +kernel
theorem dL_law_657 : decode cL_law 657 = .ok (.iload_n 3, 1) := by decide +kernel
theorem dL_law_658 : decode cL_law 658 = .ok (.iconst 1, 1) := by decide +kernel
theorem dL_law_659 : decode cL_law 659 = .ok (.iadd, 1) := by decide +kernel
theorem dL_law_660 : decode cL_law 660 = .ok (.iaload, 1) := by decide +kernel
theorem dL_law_661 : decode cL_law 661 = .ok (.aload_n 0, 1) := by decide +kernel
theorem dL_law_662 : decode cL_law 662 = .ok (.iload_n 3, 1) := by decide +kernel
theorem dL_law_663 : decode cL_law 663 = .ok (.iconst 2, 1) := by decide +kernel
theorem dL_law_664 : decode cL_law 664 = .ok (.iadd, 1) := by decide +kernel
theorem dL_law_665 : decode cL_law 665 = .ok (.iaload, 1) := by decide +kernel
theorem dL_law_666 : decode cL_law 666 = .ok (.aload_n 0, 1) := by decide +kernel
theorem dL_law_667 : decode cL_law 667 = .ok (.iload_n 3, 1) := by decide +kernel
theorem dL_law_668 : decode cL_law 668 = .ok (.iconst 3, 1) := by decide +kernel
theorem dL_law_669 : decode cL_law 669 = .ok (.iadd, 1) := by decide +kernel
theorem dL_law_670 : decode cL_law 670 = .ok (.iaload, 1) := by decide +kernel
theorem dL_law_671 : decode cL_law 671 = .ok (.invokevirtual 94, 3) := by decide +kernel
theorem dL_law_674 : decode cL_law 674 = .ok (.if_icmp .eq 353, 3) := by decide +kernel
theorem dL_law_677 : decode cL_law 677 = .ok (.iconst 0, 1) := by decide +kernel
theorem dL_law_678 : decode cL_law 678 = .ok (.ireturn, 1) := by decide +kernel
theorem dL_law_679 : decode cL_law 679 = .ok (.aload_n 1, 1) := by decide +kernel
theorem dL_law_680 : decode cL_law 680 = .ok (.invokevirtual 95, 3) := by decide +kernel
theorem dL_law_683 : decode cL_law 683 = .ok (.aload_n 2, 1) := by decide +kernel
theorem dL_law_684 : decode cL_law 684 = .ok (.invokevirtual 98, 3) := by decide +kernel
theorem dL_law_687 : decode cL_law 687 = .ok (.if_icmp .eq 340, 3) := by decide +kernel
theorem dL_law_690 : decode cL_law 690 = .ok (.iconst 0, 1) := by decide +kernel
theorem dL_law_691 : decode cL_law 691 = .ok (.ireturn, 1) := by decide +kernel
theorem dL_law_692 : decode cL_law 692 = .ok (.aload_n 1, 1) := by decide +kernel
theorem dL_law_693 : decode cL_law 693 = .ok (.aload_n 0, 1) := by decide +kernel
theorem dL_law_694 : decode cL_law 694 = .ok (.iload_n 3, 1) := by decide +kernel
theorem dL_law_695 : decode cL_law 695 = .ok (.iconst 1, 1) := by decide +kernel
theorem dL_law_696 : decode cL_law 696 = .ok (.iadd, 1) := by decide +kernel
theorem dL_law_697 : decode cL_law 697 = .ok (.iaload, 1) := by decide +kernel
theorem dL_law_698 : decode cL_law 698 = .ok (.aload_n 0, 1) := by decide +kernel
theorem dL_law_699 : decode cL_law 699 = .ok (.iload_n 3, 1) := by decide +kernel
theorem dL_law_700 : decode cL_law 700 = .ok (.iconst 2, 1) := by decide +kernel
theorem dL_law_701 : decode cL_law 701 = .ok (.iadd, 1) := by decide +kernel
theorem dL_law_702 : decode cL_law 702 = .ok (.iaload, 1) := by decide +kernel
theorem dL_law_703 : decode cL_law 703 = .ok (.invokevirtual 99, 3) := by decide +kernel
theorem dL_law_706 : decode cL_law 706 = .ok (.aload_n 2, 1) := by decide +kernel
theorem dL_law_707 : decode cL_law 707 = .ok (.aload_n 0, 1) := by decide +kernel
theorem dL_law_708 : decode cL_law 708 = .ok (.iload_n 3, 1) := by decide +kernel
theorem dL_law_709 : decode cL_law 709 = .ok (.iconst 1, 1) := by decide +kernel
theorem dL_law_710 : decode cL_law 710 = .ok (.iadd, 1) := by decide +kernel
theorem dL_law_711 : decode cL_law 711 = .ok (.iaload, 1) := by decide +kernel
theorem dL_law_712 : decode cL_law 712 = .ok (.aload_n 0, 1) := by decide +kernel
theorem dL_law_713 : decode cL_law 713 = .ok (.iload_n 3, 1) := by decide +kernel
theorem dL_law_714 : decode cL_law 714 = .ok (.iconst 2, 1) := by decide +kernel
theorem dL_law_715 : decode cL_law 715 = .ok (.iadd, 1) := by decide +kernel
theorem dL_law_716 : decode cL_law 716 = .ok (.iaload, 1) := by decide +kernel
theorem dL_law_717 : decode cL_law 717 = .ok (.invokevirtual 102, 3) := by decide +kernel
theorem dL_law_720 : decode cL_law 720 = .ok (.if_icmp .eq 307, 3) := by decide +kernel
theorem dL_law_723 : decode cL_law 723 = .ok (.iconst 0, 1) := by decide +kernel
theorem dL_law_724 : decode cL_law 724 = .ok (.ireturn, 1) := by decide +kernel
theorem dL_law_725 : decode cL_law 725 = .ok (.aload_n 1, 1) := by decide +kernel
theorem dL_law_726 : decode cL_law 726 = .ok (.aload_n 0, 1) := by decide +kernel
theorem dL_law_727 : decode cL_law 727 = .ok (.iload_n 3, 1) := by decide +kernel
theorem dL_law_728 : decode cL_law 728 = .ok (.iconst 1, 1) := by decide +kernel
theorem dL_law_729 : decode cL_law 729 = .ok (.iadd, 1) := by decide +kernel
theorem dL_law_730 : decode cL_law 730 = .ok (.iaload, 1) := by decide +kernel
theorem dL_law_731 : decode cL_law 731 = .ok (.aload_n 0, 1) := by decide +kernel
theorem dL_law_732 : decode cL_law 732 = .ok (.iload_n 3, 1) := by decide +kernel
theorem dL_law_733 : decode cL_law 733 = .ok (.iconst 2, 1) := by decide +kernel
theorem dL_law_734 : decode cL_law 734 = .ok (.iadd, 1) := by decide +kernel
theorem dL_law_735 : decode cL_law 735 = .ok (.iaload, 1) := by decide +kernel
theorem dL_law_736 : decode cL_law 736 = .ok (.aload_n 0, 1) := by decide +kernel
theorem dL_law_737 : decode cL_law 737 = .ok (.iload_n 3, 1) := by decide +kernel
theorem dL_law_738 : decode cL_law 738 = .ok (.iconst 3, 1) := by decide +kernel
theorem dL_law_739 : decode cL_law 739 = .ok (.iadd, 1) := by decide +kernel
theorem dL_law_740 : decode cL_law 740 = .ok (.iaload, 1) := by decide +kernel
theorem dL_law_741 : decode cL_law 741 = .ok (.invokevirtual 103, 3) := by decide +kernel
theorem dL_law_744 : decode cL_law 744 = .ok (.aload_n 2, 1) := by decide +kernel
theorem dL_law_745 : decode cL_law 745 = .ok (.aload_n 0, 1) := by decide +kernel
theorem dL_law_746 : decode cL_law 746 = .ok (.iload_n 3, 1) := by decide +kernel
theorem dL_law_747 : decode cL_law 747 = .ok (.iconst 1, 1) := by decide +kernel
theorem dL_law_748 : decode cL_law 748 = .ok (.iadd, 1) := by decide +kernel
theorem dL_law_749 : decode cL_law 749 = .ok (.iaload, 1) := by decide +kernel
theorem dL_law_750 : decode cL_law 750 = .ok (.aload_n 0, 1) := by decide +kernel
theorem dL_law_751 : decode cL_law 751 = .ok (.iload_n 3, 1) := by decide +kernel
theorem dL_law_752 : decode cL_law 752 = .ok (.iconst 2, 1) := by decide +kernel
theorem dL_law_753 : decode cL_law 753 = .ok (.iadd, 1) := by decide +kernel
theorem dL_law_754 : decode cL_law 754 = .ok (.iaload, 1) := by decide +kernel
theorem dL_law_755 : decode cL_law 755 = .ok (.aload_n 0, 1) := by decide +kernel
theorem dL_law_756 : decode cL_law 756 = .ok (.iload_n 3, 1) := by decide +kernel
theorem dL_law_757 : decode cL_law 757 = .ok (.iconst 3, 1) := by decide +kernel
theorem dL_law_758 : decode cL_law 758 = .ok (.iadd, 1) := by decide +kernel
theorem dL_law_759 : decode cL_law 759 = .ok (.iaload, 1) := by decide +kernel
theorem dL_law_760 : decode cL_law 760 = .ok (.invokevirtual 106, 3) := by decide +kernel
theorem dL_law_763 : decode cL_law 763 = .ok (.if_icmp .eq 264, 3) := by decide +kernel
theorem dL_law_766 : decode cL_law 766 = .ok (.iconst 0, 1) := by decide +kernel
theorem dL_law_767 : decode cL_law 767 = .ok (.ireturn, 1) := by decide +kernel
theorem dL_law_768 : decode cL_law 768 = .ok (.aload_n 1, 1) := by decide +kernel
theorem dL_law_769 : decode cL_law 769 = .ok (.aload_n 0, 1) := by decide +kernel
theorem dL_law_770 : decode cL_law 770 = .ok (.iload_n 3, 1) := by decide +kernel
theorem dL_law_771 : decode cL_law 771 = .ok (.iconst 1, 1) := by decide +kernel
theorem dL_law_772 : decode cL_law 772 = .ok (.iadd, 1) := by decide +kernel
theorem dL_law_773 : decode cL_law 773 = .ok (.iaload, 1) := by decide +kernel
theorem dL_law_774 : decode cL_law 774 = .ok (.aload_n 0, 1) := by decide +kernel
theorem dL_law_775 : decode cL_law 775 = .ok (.iload_n 3, 1) := by decide +kernel
theorem dL_law_776 : decode cL_law 776 = .ok (.iconst 2, 1) := by decide +kernel
theorem dL_law_777 : decode cL_law 777 = .ok (.iadd, 1) := by decide +kernel
theorem dL_law_778 : decode cL_law 778 = .ok (.iaload, 1) := by decide +kernel
theorem dL_law_779 : decode cL_law 779 = .ok (.invokevirtual 107, 3) := by decide +kernel
theorem dL_law_782 : decode cL_law 782 = .ok (.aload_n 2, 1) := by decide +kernel
theorem dL_law_783 : decode cL_law 783 = .ok (.aload_n 0, 1) := by decide +kernel
theorem dL_law_784 : decode cL_law 784 = .ok (.iload_n 3, 1) := by decide +kernel
theorem dL_law_785 : decode cL_law 785 = .ok (.iconst 1, 1) := by decide +kernel
theorem dL_law_786 : decode cL_law 786 = .ok (.iadd, 1) := by decide +kernel
theorem dL_law_787 : decode cL_law 787 = .ok (.iaload, 1) := by decide +kernel
theorem dL_law_788 : decode cL_law 788 = .ok (.aload_n 0, 1) := by decide +kernel
theorem dL_law_789 : decode cL_law 789 = .ok (.iload_n 3, 1) := by decide +kernel
theorem dL_law_790 : decode cL_law 790 = .ok (.iconst 2, 1) := by decide +kernel
theorem dL_law_791 : decode cL_law 791 = .ok (.iadd, 1) := by decide +kernel
theorem dL_law_792 : decode cL_law 792 = .ok (.iaload, 1) := by decide +kernel
theorem dL_law_793 : decode cL_law 793 = .ok (.invokevirtual 110, 3) := by decide +kernel
theorem dL_law_796 : decode cL_law 796 = .ok (.if_icmp .eq 231, 3) := by decide +kernel
theorem dL_law_799 : decode cL_law 799 = .ok (.iconst 0, 1) := by decide +kernel
theorem dL_law_800 : decode cL_law 800 = .ok (.ireturn, 1) := by decide +kernel
theorem dL_law_801 : decode cL_law 801 = .ok (.aload_n 1, 1) := by decide +kernel
theorem dL_law_802 : decode cL_law 802 = .ok (.aload_n 0, 1) := by decide +kernel
theorem dL_law_803 : decode cL_law 803 = .ok (.iload_n 3, 1) := by decide +kernel
theorem dL_law_804 : decode cL_law 804 = .ok (.iconst 1, 1) := by decide +kernel
theorem dL_law_805 : decode cL_law 805 = .ok (.iadd, 1) := by decide +kernel
theorem dL_law_806 : decode cL_law 806 = .ok (.iaload, 1) := by decide +kernel
theorem dL_law_807 : decode cL_law 807 = .ok (.aload_n 0, 1) := by decide +kernel
theorem dL_law_808 : decode cL_law 808 = .ok (.iload_n 3, 1) := by decide +kernel
theorem dL_law_809 : decode cL_law 809 = .ok (.iconst 2, 1) := by decide +kernel
theorem dL_law_810 : decode cL_law 810 = .ok (.iadd, 1) := by decide +kernel
theorem dL_law_811 : decode cL_law 811 = .ok (.iaload, 1) := by decide +kernel
theorem dL_law_812 : decode cL_law 812 = .ok (.invokevirtual 111, 3) := by decide +kernel
theorem dL_law_815 : decode cL_law 815 = .ok (.aload_n 2, 1) := by decide +kernel
theorem dL_law_816 : decode cL_law 816 = .ok (.aload_n 0, 1) := by decide +kernel
theorem dL_law_817 : decode cL_law 817 = .ok (.iload_n 3, 1) := by decide +kernel
theorem dL_law_818 : decode cL_law 818 = .ok (.iconst 1, 1) := by decide +kernel
theorem dL_law_819 : decode cL_law 819 = .ok (.iadd, 1) := by decide +kernel
theorem dL_law_820 : decode cL_law 820 = .ok (.iaload, 1) := by decide +kernel
theorem dL_law_821 : decode cL_law 821 = .ok (.aload_n 0, 1) := by decide +kernel
theorem dL_law_822 : decode cL_law 822 = .ok (.iload_n 3, 1) := by decide +kernel
theorem dL_law_823 : decode cL_law 823 = .ok (.iconst 2, 1) := by decide +kernel
theorem dL_law_824 : decode cL_law 824 = .ok (.iadd, 1) := by decide +kernel
theorem dL_law_825 : decode cL_law 825 = .ok (.iaload, 1) := by decide +kernel
theorem dL_law_826 : decode cL_law 826 = .ok (.invokevirtual 114, 3) := by decide +kernel
theorem dL_law_829 : decode cL_law 829 = .ok (.if_icmp .eq 198, 3) := by decide +kernel
theorem dL_law_832 : decode cL_law 832 = .ok (.iconst 0, 1) := by decide +kernel
theorem dL_law_833 : decode cL_law 833 = .ok (.ireturn, 1) := by decide +kernel
theorem dL_law_834 : decode cL_law 834 = .ok (.aload_n 1, 1) := by decide +kernel
theorem dL_law_835 : decode cL_law 835 = .ok (.aload_n 0, 1) := by decide +kernel
theorem dL_law_836 : decode cL_law 836 = .ok (.iload_n 3, 1) := by decide +kernel
theorem dL_law_837 : decode cL_law 837 = .ok (.iconst 1, 1) := by decide +kernel
theorem dL_law_838 : decode cL_law 838 = .ok (.iadd, 1) := by decide +kernel
theorem dL_law_839 : decode cL_law 839 = .ok (.iaload, 1) := by decide +kernel
theorem dL_law_840 : decode cL_law 840 = .ok (.aload_n 0, 1) := by decide +kernel
theorem dL_law_841 : decode cL_law 841 = .ok (.iload_n 3, 1) := by decide +kernel
theorem dL_law_842 : decode cL_law 842 = .ok (.iconst 2, 1) := by decide +kernel
theorem dL_law_843 : decode cL_law 843 = .ok (.iadd, 1) := by decide +kernel
theorem dL_law_844 : decode cL_law 844 = .ok (.iaload, 1) := by decide +kernel
theorem dL_law_845 : decode cL_law 845 = .ok (.ifCond .eq 7, 3) := by decide +kernel
theorem dL_law_848 : decode cL_law 848 = .ok (.iconst 1, 1) := by decide +kernel
theorem dL_law_849 : decode cL_law 849 = .ok (.goto 4, 3) := by decide +kernel
theorem dL_law_852 : decode cL_law 852 = .ok (.iconst 0, 1) := by decide +kernel
theorem dL_law_853 : decode cL_law 853 = .ok (.invokevirtual 115, 3) := by decide +kernel
theorem dL_law_856 : decode cL_law 856 = .ok (.aload_n 2, 1) := by decide +kernel
theorem dL_law_857 : decode cL_law 857 = .ok (.aload_n 0, 1) := by decide +kernel
theorem dL_law_858 : decode cL_law 858 = .ok (.iload_n 3, 1) := by decide +kernel
theorem dL_law_859 : decode cL_law 859 = .ok (.iconst 1, 1) := by decide +kernel
theorem dL_law_860 : decode cL_law 860 = .ok (.iadd, 1) := by decide +kernel
theorem dL_law_861 : decode cL_law 861 = .ok (.iaload, 1) := by decide +kernel
theorem dL_law_862 : decode cL_law 862 = .ok (.aload_n 0, 1) := by decide +kernel
theorem dL_law_863 : decode cL_law 863 = .ok (.iload_n 3, 1) := by decide +kernel
theorem dL_law_864 : decode cL_law 864 = .ok (.iconst 2, 1) := by decide +kernel
theorem dL_law_865 : decode cL_law 865 = .ok (.iadd, 1) := by decide +kernel
theorem dL_law_866 : decode cL_law 866 = .ok (.iaload, 1) := by decide +kernel
theorem dL_law_867 : decode cL_law 867 = .ok (.ifCond .eq 7, 3) := by decide +kernel
theorem dL_law_870 : decode cL_law 870 = .ok (.iconst 1, 1) := by decide +kernel
theorem dL_law_871 : decode cL_law 871 = .ok (.goto 4, 3) := by decide +kernel
theorem dL_law_874 : decode cL_law 874 = .ok (.iconst 0, 1) := by decide +kernel
theorem dL_law_875 : decode cL_law 875 = .ok (.invokevirtual 118, 3) := by decide +kernel
theorem dL_law_878 : decode cL_law 878 = .ok (.if_icmp .eq 149, 3) := by decide +kernel
theorem dL_law_881 : decode cL_law 881 = .ok (.iconst 0, 1) := by decide +kernel
theorem dL_law_882 : decode cL_law 882 = .ok (.ireturn, 1) := by decide +kernel
theorem dL_law_883 : decode cL_law 883 = .ok (.aload_n 1, 1) := by decide +kernel
theorem dL_law_884 : decode cL_law 884 = .ok (.invokevirtual 119, 3) := by decide +kernel
theorem dL_law_887 : decode cL_law 887 = .ok (.aload_n 2, 1) := by decide +kernel
theorem dL_law_888 : decode cL_law 888 = .ok (.invokevirtual 122, 3) := by decide +kernel
theorem dL_law_891 : decode cL_law 891 = .ok (.if_icmp .eq 136, 3) := by decide +kernel
theorem dL_law_894 : decode cL_law 894 = .ok (.iconst 0, 1) := by decide +kernel
theorem dL_law_895 : decode cL_law 895 = .ok (.ireturn, 1) := by decide +kernel
theorem dL_law_896 : decode cL_law 896 = .ok (.aload_n 1, 1) := by decide +kernel
theorem dL_law_897 : decode cL_law 897 = .ok (.invokevirtual 123, 3) := by decide +kernel
theorem dL_law_900 : decode cL_law 900 = .ok (.aload_n 2, 1) := by decide +kernel
theorem dL_law_901 : decode cL_law 901 = .ok (.invokevirtual 126, 3) := by decide +kernel
theorem dL_law_904 : decode cL_law 904 = .ok (.if_icmp .eq 123, 3) := by decide +kernel
theorem dL_law_907 : decode cL_law 907 = .ok (.iconst 0, 1) := by decide +kernel
theorem dL_law_908 : decode cL_law 908 = .ok (.ireturn, 1) := by decide +kernel
theorem dL_law_909 : decode cL_law 909 = .ok (.aload_n 1, 1) := by decide +kernel
theorem dL_law_910 : decode cL_law 910 = .ok (.aload_n 0, 1) := by decide +kernel
theorem dL_law_911 : decode cL_law 911 = .ok (.iload_n 3, 1) := by decide +kernel
theorem dL_law_912 : decode cL_law 912 = .ok (.iconst 1, 1) := by decide +kernel
theorem dL_law_913 : decode cL_law 913 = .ok (.iadd, 1) := by decide +kernel
theorem dL_law_914 : decode cL_law 914 = .ok (.iaload, 1) := by decide +kernel
theorem dL_law_915 : decode cL_law 915 = .ok (.invokevirtual 127, 3) := by decide +kernel
theorem dL_law_918 : decode cL_law 918 = .ok (.aload_n 2, 1) := by decide +kernel
theorem dL_law_919 : decode cL_law 919 = .ok (.aload_n 0, 1) := by decide +kernel
theorem dL_law_920 : decode cL_law 920 = .ok (.iload_n 3, 1) := by decide +kernel
theorem dL_law_921 : decode cL_law 921 = .ok (.iconst 1, 1) := by decide +kernel
theorem dL_law_922 : decode cL_law 922 = .ok (.iadd, 1) := by decide +kernel
theorem dL_law_923 : decode cL_law 923 = .ok (.iaload, 1) := by decide +kernel
theorem dL_law_924 : decode cL_law 924 = .ok (.invokevirtual 130, 3) := by decide +kernel
theorem dL_law_927 : decode cL_law 927 = .ok (.if_icmp .eq 100, 3) := by decide +kernel
theorem dL_law_930 : decode cL_law 930 = .ok (.iconst 0, 1) := by decide +kernel
theorem dL_law_931 : decode cL_law 931 = .ok (.ireturn, 1) := by decide +kernel
theorem dL_law_932 : decode cL_law 932 = .ok (.aload_n 1, 1) := by decide +kernel
theorem dL_law_933 : decode cL_law 933 = .ok (.invokevirtual 131, 3) := by decide +kernel
theorem dL_law_936 : decode cL_law 936 = .ok (.aload_n 2, 1) := by decide +kernel
theorem dL_law_937 : decode cL_law 937 = .ok (.invokevirtual 134, 3) := by decide +kernel
theorem dL_law_940 : decode cL_law 940 = .ok (.if_icmp .eq 87, 3) := by decide +kernel
theorem dL_law_943 : decode cL_law 943 = .ok (.iconst 0, 1) := by decide +kernel
theorem dL_law_944 : decode cL_law 944 = .ok (.ireturn, 1) := by decide +kernel
theorem dL_law_945 : decode cL_law 945 = .ok (.aload_n 1, 1) := by decide +kernel
theorem dL_law_946 : decode cL_law 946 = .ok (.invokevirtual 135, 3) := by decide +kernel
theorem dL_law_949 : decode cL_law 949 = .ok (.aload_n 2, 1) := by decide +kernel
theorem dL_law_950 : decode cL_law 950 = .ok (.invokevirtual 138, 3) := by decide +kernel
theorem dL_law_953 : decode cL_law 953 = .ok (.if_icmp .eq 74, 3) := by decide +kernel
theorem dL_law_956 : decode cL_law 956 = .ok (.iconst 0, 1) := by decide +kernel
theorem dL_law_957 : decode cL_law 957 = .ok (.ireturn, 1) := by decide +kernel
theorem dL_law_958 : decode cL_law 958 = .ok (.aload_n 1, 1) := by decide +kernel
theorem dL_law_959 : decode cL_law 959 = .ok (.aload_n 0, 1) := by decide +kernel
theorem dL_law_960 : decode cL_law 960 = .ok (.iload_n 3, 1) := by decide +kernel
theorem dL_law_961 : decode cL_law 961 = .ok (.iconst 1, 1) := by decide +kernel
theorem dL_law_962 : decode cL_law 962 = .ok (.iadd, 1) := by decide +kernel
theorem dL_law_963 : decode cL_law 963 = .ok (.iaload, 1) := by decide +kernel
theorem dL_law_964 : decode cL_law 964 = .ok (.invokevirtual 139, 3) := by decide +kernel
theorem dL_law_967 : decode cL_law 967 = .ok (.aload_n 2, 1) := by decide +kernel
theorem dL_law_968 : decode cL_law 968 = .ok (.aload_n 0, 1) := by decide +kernel
theorem dL_law_969 : decode cL_law 969 = .ok (.iload_n 3, 1) := by decide +kernel
theorem dL_law_970 : decode cL_law 970 = .ok (.iconst 1, 1) := by decide +kernel
theorem dL_law_971 : decode cL_law 971 = .ok (.iadd, 1) := by decide +kernel
theorem dL_law_972 : decode cL_law 972 = .ok (.iaload, 1) := by decide +kernel
theorem dL_law_973 : decode cL_law 973 = .ok (.invokevirtual 142, 3) := by decide +kernel
theorem dL_law_976 : decode cL_law 976 = .ok (.if_icmp .eq 51, 3) := by decide +kernel
theorem dL_law_979 : decode cL_law 979 = .ok (.iconst 0, 1) := by decide +kernel
theorem dL_law_980 : decode cL_law 980 = .ok (.ireturn, 1) := by decide +kernel
theorem dL_law_981 : decode cL_law 981 = .ok (.aload_n 1, 1) := by decide +kernel
theorem dL_law_982 : decode cL_law 982 = .ok (.aload_n 0, 1) := by decide +kernel
theorem dL_law_983 : decode cL_law 983 = .ok (.iload_n 3, 1) := by decide +kernel
theorem dL_law_984 : decode cL_law 984 = .ok (.iconst 1, 1) := by decide +kernel
theorem dL_law_985 : decode cL_law 985 = .ok (.iadd, 1) := by decide +kernel
theorem dL_law_986 : decode cL_law 986 = .ok (.iaload, 1) := by decide +kernel
theorem dL_law_987 : decode cL_law 987 = .ok (.invokevirtual 143, 3) := by decide +kernel
theorem dL_law_990 : decode cL_law 990 = .ok (.aload_n 2, 1) := by decide +kernel
theorem dL_law_991 : decode cL_law 991 = .ok (.aload_n 0, 1) := by decide +kernel
theorem dL_law_992 : decode cL_law 992 = .ok (.iload_n 3, 1) := by decide +kernel
theorem dL_law_993 : decode cL_law 993 = .ok (.iconst 1, 1) := by decide +kernel
theorem dL_law_994 : decode cL_law 994 = .ok (.iadd, 1) := by decide +kernel
theorem dL_law_995 : decode cL_law 995 = .ok (.iaload, 1) := by decide +kernel
theorem dL_law_996 : decode cL_law 996 = .ok (.invokevirtual 146, 3) := by decide +kernel
theorem dL_law_999 : decode cL_law 999 = .ok (.if_icmp .eq 28, 3) := by decide +kernel
theorem dL_law_1002 : decode cL_law 1002 = .ok (.iconst 0, 1) := by decide +kernel
theorem dL_law_1003 : decode cL_law 1003 = .ok (.ireturn, 1) := by decide +kernel
theorem dL_law_1004 : decode cL_law 1004 = .ok (.aload_n 1, 1) := by decide +kernel
theorem dL_law_1005 : decode cL_law 1005 = .ok (.aload_n 0, 1) := by decide +kernel
theorem dL_law_1006 : decode cL_law 1006 = .ok (.iload_n 3, 1) := by decide +kernel
theorem dL_law_1007 : decode cL_law 1007 = .ok (.iconst 1, 1) := by decide +kernel
theorem dL_law_1008 : decode cL_law 1008 = .ok (.iadd, 1) := by decide +kernel
theorem dL_law_1009 : decode cL_law 1009 = .ok (.iaload, 1) := by decide +kernel
theorem dL_law_1010 : decode cL_law 1010 = .ok (.invokevirtual 147, 3) := by decide +kernel
theorem dL_law_1013 : decode cL_law 1013 = .ok (.aload_n 2, 1) := by decide +kernel
theorem dL_law_1014 : decode cL_law 1014 = .ok (.aload_n 0, 1) := by decide +kernel
theorem dL_law_1015 : decode cL_law 1015 = .ok (.iload_n 3, 1) := by decide +kernel
theorem dL_law_1016 : decode cL_law 1016 = .ok (.iconst 1, 1) := by decide +kernel
theorem dL_law_1017 : decode cL_law 1017 = .ok (.iadd, 1) := by decide +kernel
theorem dL_law_1018 : decode cL_law 1018 = .ok (.iaload, 1) := by decide +kernel
theorem dL_law_1019 : decode cL_law 1019 = .ok (.invokevirtual 150, 3) := by decide +kernel
theorem dL_law_1022 : decode cL_law 1022 = .ok (.if_icmp .eq 5, 3) := by decide +kernel
theorem dL_law_1025 : decode cL_law 1025 = .ok (.iconst 0, 1) := by decide +kernel
theorem dL_law_1026 : decode cL_law 1026 = .ok (.ireturn, 1) := by decide +kernel
theorem dL_law_1027 : decode cL_law 1027 = .ok (.iinc 3 4, 3) := by decide +kernel
theorem dL_law_1030 : decode cL_law 1030 = .ok (.goto (-1012), 3) := by decide +kernel
theorem dL_law_1033 : decode cL_law 1033 = .ok (.iconst 1, 1) := by decide +kernel
theorem dL_law_1034 : decode cL_law 1034 = .ok (.ireturn, 1) := by decide +kernel
end
section
def FL (own : String) (idx ci j : Nat) (ty : FieldType) (fin : Bool) : Prop := ∃ (C : String) (T : u_T) (N : Nat), vwCl[ci]? = some (C, T, N) ∧ j < N ∧ Cond.fieldLink own idx C (T j).2.1 (T j).2.2.1 ∈ lw_tbl ∧ (T j).1 = C ∧ (T j).2.2.2 = fin ∧ parseFieldDescriptor (T j).2.2.1 = some ty
def CV (own : String) (idx : Nat) (Y : Card) (k : Nat) : Prop := Cond.methodLink own idx Y.1 ∈ lw_tbl ∧ Cond.instanceMethod Y.1 ∈ lw_tbl ∧ Cond.selects Y.1.cls Y.1 Y.1 ∈ lw_tbl ∧ Cond.initialized Y.1.cls ∈ lw_tbl ∧ Cond.code Y.1 Y.2.1 Y.2.2.1 Y.2.2.2 ∈ lw_tbl ∧ (Y.1.cls ≠ "java/lang/invoke/MethodHandle" ∧ Y.1.cls ≠ "java/lang/invoke/VarHandle" ∧ (parseMethodDescriptor Y.1.desc).map (fun d => d.parameters.length) = some k)
def CS (own : String) (idx : Nat) (Y : Card) (k : Nat) : Prop := Cond.methodLink own idx Y.1 ∈ lw_tbl ∧ Cond.static Y.1 ∈ lw_tbl ∧ Cond.initialized Y.1.cls ∈ lw_tbl ∧ Cond.code Y.1 Y.2.1 Y.2.2.1 Y.2.2.2 ∈ lw_tbl ∧ (Y.1.cls ≠ "java/lang/invoke/MethodHandle" ∧ Y.1.cls ≠ "java/lang/invoke/VarHandle" ∧ (parseMethodDescriptor Y.1.desc).map (fun d => d.parameters.length) = some k)
def CN (own : String) (idx : Nat) (Y : Card) (k : Nat) : Prop := Cond.methodLinkNest own idx Y.1 "TurningWheel" ∈ lw_tbl ∧ Cond.static Y.1 ∈ lw_tbl ∧ Cond.initialized Y.1.cls ∈ lw_tbl ∧ Cond.code Y.1 Y.2.1 Y.2.2.1 Y.2.2.2 ∈ lw_tbl ∧ (Y.1.cls ≠ "java/lang/invoke/MethodHandle" ∧ Y.1.cls ≠ "java/lang/invoke/VarHandle" ∧ (parseMethodDescriptor Y.1.desc).map (fun d => d.parameters.length) = some k)
def CI (own : String) (idx : Nat) (Y : Card) (k : Nat) : Prop := Cond.methodLink own idx Y.1 ∈ lw_tbl ∧ (Y.1.name = "<init>" ∧ Cond.instanceMethod Y.1 ∈ lw_tbl) ∧ Cond.initialized Y.1.cls ∈ lw_tbl ∧ Cond.code Y.1 Y.2.1 Y.2.2.1 Y.2.2.2 ∈ lw_tbl ∧ (Y.1.cls ≠ "java/lang/invoke/MethodHandle" ∧ Y.1.cls ≠ "java/lang/invoke/VarHandle" ∧ (parseMethodDescriptor Y.1.desc).map (fun d => d.parameters.length) = some k)
def CJ (own : String) (idx : Nat) (Y : Card) (k : Nat) : Prop := Cond.methodLinkNest own idx Y.1 "TurningWheel" ∈ lw_tbl ∧ (Y.1.name = "<init>" ∧ Cond.instanceMethod Y.1 ∈ lw_tbl) ∧ Cond.initialized Y.1.cls ∈ lw_tbl ∧ Cond.code Y.1 Y.2.1 Y.2.2.1 Y.2.2.2 ∈ lw_tbl ∧ (Y.1.cls ≠ "java/lang/invoke/MethodHandle" ∧ Y.1.cls ≠ "java/lang/invoke/VarHandle" ∧ (parseMethodDescriptor Y.1.desc).map (fun d => d.parameters.length) = some k)
def CK (own : String) (idx ci : Nat) : Prop := ∃ (C : String) (T : u_T) (N : Nat), vwCl[ci]? = some (C, T, N) ∧ Cond.classLink own idx C ∈ lw_tbl ∧ Cond.instantiable C N ∈ lw_tbl ∧ Cond.initialized C ∈ lw_tbl
theorem kin_0 : ∀ w ∈ u_ws RX0 TX0 9, w ∈ lw_tbl := by decide +kernel
theorem kin_1 : ∀ w ∈ u_ws RX1 TX1 2, w ∈ lw_tbl := by decide +kernel
theorem kin_2 : ∀ w ∈ u_ws RX2 TX2 11, w ∈ lw_tbl := by decide +kernel
theorem kin_3 : ∀ w ∈ u_ws RX3 TX3 1, w ∈ lw_tbl := by decide +kernel
theorem kin_4 : ∀ w ∈ u_ws RX4 TX4 3, w ∈ lw_tbl := by decide +kernel
theorem kin_5 : ∀ w ∈ u_ws RX5 TX5 3, w ∈ lw_tbl := by decide +kernel
theorem kin_6 : ∀ w ∈ u_ws RX6 TX6 3, w ∈ lw_tbl := by decide +kernel
theorem kin_7 : ∀ w ∈ u_ws RX7 TX7 9, w ∈ lw_tbl := by decide +kernel
theorem kin_8 : ∀ w ∈ u_ws RX8 TX8 11, w ∈ lw_tbl := by decide +kernel
theorem kin_9 : ∀ w ∈ u_ws RX9 TX9 24, w ∈ lw_tbl := by decide +kernel
theorem fl_X2_9 : FL RX2 9 2 0 .int false := ⟨RX2, TX2, 11, rfl, by decide, List.mem_of_getElem? (i := 90) (by decide +kernel), rfl, rfl, by decide +kernel⟩
theorem fl_X8_98 : FL RX8 98 2 0 .int false := ⟨RX2, TX2, 11, rfl, by decide, List.mem_of_getElem? (i := 91) (by decide +kernel), rfl, rfl, by decide +kernel⟩
theorem fl_X7_81 : FL RX7 81 2 0 .int false := ⟨RX2, TX2, 11, rfl, by decide, List.mem_of_getElem? (i := 92) (by decide +kernel), rfl, rfl, by decide +kernel⟩
theorem fl_X2_15 : FL RX2 15 2 1 (.array .int) true := ⟨RX2, TX2, 11, rfl, by decide, List.mem_of_getElem? (i := 93) (by decide +kernel), rfl, rfl, by decide +kernel⟩
theorem fl_X7_91 : FL RX7 91 2 1 (.array .int) true := ⟨RX2, TX2, 11, rfl, by decide, List.mem_of_getElem? (i := 94) (by decide +kernel), rfl, rfl, by decide +kernel⟩
theorem fl_X8_151 : FL RX8 151 2 1 (.array .int) true := ⟨RX2, TX2, 11, rfl, by decide, List.mem_of_getElem? (i := 95) (by decide +kernel), rfl, rfl, by decide +kernel⟩
theorem fl_X2_19 : FL RX2 19 2 2 .int false := ⟨RX2, TX2, 11, rfl, by decide, List.mem_of_getElem? (i := 96) (by decide +kernel), rfl, rfl, by decide +kernel⟩
theorem fl_X8_101 : FL RX8 101 2 2 .int false := ⟨RX2, TX2, 11, rfl, by decide, List.mem_of_getElem? (i := 97) (by decide +kernel), rfl, rfl, by decide +kernel⟩
theorem fl_X7_103 : FL RX7 103 2 2 .int false := ⟨RX2, TX2, 11, rfl, by decide, List.mem_of_getElem? (i := 98) (by decide +kernel), rfl, rfl, by decide +kernel⟩
theorem fl_X2_22 : FL RX2 22 2 3 (.array .int) true := ⟨RX2, TX2, 11, rfl, by decide, List.mem_of_getElem? (i := 99) (by decide +kernel), rfl, rfl, by decide +kernel⟩
theorem fl_X8_158 : FL RX8 158 2 3 (.array .int) true := ⟨RX2, TX2, 11, rfl, by decide, List.mem_of_getElem? (i := 100) (by decide +kernel), rfl, rfl, by decide +kernel⟩
theorem fl_X7_112 : FL RX7 112 2 3 (.array .int) true := ⟨RX2, TX2, 11, rfl, by decide, List.mem_of_getElem? (i := 101) (by decide +kernel), rfl, rfl, by decide +kernel⟩
theorem fl_X2_25 : FL RX2 25 2 4 (.array .int) true := ⟨RX2, TX2, 11, rfl, by decide, List.mem_of_getElem? (i := 102) (by decide +kernel), rfl, rfl, by decide +kernel⟩
theorem fl_X0_69 : FL RX0 69 2 4 (.array .int) true := ⟨RX2, TX2, 11, rfl, by decide, List.mem_of_getElem? (i := 103) (by decide +kernel), rfl, rfl, by decide +kernel⟩
theorem fl_X8_161 : FL RX8 161 2 4 (.array .int) true := ⟨RX2, TX2, 11, rfl, by decide, List.mem_of_getElem? (i := 104) (by decide +kernel), rfl, rfl, by decide +kernel⟩
theorem fl_X7_115 : FL RX7 115 2 4 (.array .int) true := ⟨RX2, TX2, 11, rfl, by decide, List.mem_of_getElem? (i := 105) (by decide +kernel), rfl, rfl, by decide +kernel⟩
theorem fl_X2_28 : FL RX2 28 2 5 (.array .int) true := ⟨RX2, TX2, 11, rfl, by decide, List.mem_of_getElem? (i := 106) (by decide +kernel), rfl, rfl, by decide +kernel⟩
theorem fl_X8_164 : FL RX8 164 2 5 (.array .int) true := ⟨RX2, TX2, 11, rfl, by decide, List.mem_of_getElem? (i := 107) (by decide +kernel), rfl, rfl, by decide +kernel⟩
theorem fl_X7_118 : FL RX7 118 2 5 (.array .int) true := ⟨RX2, TX2, 11, rfl, by decide, List.mem_of_getElem? (i := 108) (by decide +kernel), rfl, rfl, by decide +kernel⟩
theorem fl_X2_31 : FL RX2 31 2 6 .int false := ⟨RX2, TX2, 11, rfl, by decide, List.mem_of_getElem? (i := 109) (by decide +kernel), rfl, rfl, by decide +kernel⟩
theorem fl_X0_48 : FL RX0 48 2 6 .int false := ⟨RX2, TX2, 11, rfl, by decide, List.mem_of_getElem? (i := 110) (by decide +kernel), rfl, rfl, by decide +kernel⟩
theorem fl_X8_104 : FL RX8 104 2 6 .int false := ⟨RX2, TX2, 11, rfl, by decide, List.mem_of_getElem? (i := 111) (by decide +kernel), rfl, rfl, by decide +kernel⟩
theorem fl_X7_121 : FL RX7 121 2 6 .int false := ⟨RX2, TX2, 11, rfl, by decide, List.mem_of_getElem? (i := 112) (by decide +kernel), rfl, rfl, by decide +kernel⟩
theorem fl_X2_34 : FL RX2 34 2 7 (.array .int) true := ⟨RX2, TX2, 11, rfl, by decide, List.mem_of_getElem? (i := 113) (by decide +kernel), rfl, rfl, by decide +kernel⟩
theorem fl_X0_47 : FL RX0 47 2 7 (.array .int) true := ⟨RX2, TX2, 11, rfl, by decide, List.mem_of_getElem? (i := 114) (by decide +kernel), rfl, rfl, by decide +kernel⟩
theorem fl_X7_124 : FL RX7 124 2 7 (.array .int) true := ⟨RX2, TX2, 11, rfl, by decide, List.mem_of_getElem? (i := 115) (by decide +kernel), rfl, rfl, by decide +kernel⟩
theorem fl_X2_37 : FL RX2 37 2 8 (.array .int) true := ⟨RX2, TX2, 11, rfl, by decide, List.mem_of_getElem? (i := 116) (by decide +kernel), rfl, rfl, by decide +kernel⟩
theorem fl_X8_177 : FL RX8 177 2 8 (.array .int) true := ⟨RX2, TX2, 11, rfl, by decide, List.mem_of_getElem? (i := 117) (by decide +kernel), rfl, rfl, by decide +kernel⟩
theorem fl_X7_127 : FL RX7 127 2 8 (.array .int) true := ⟨RX2, TX2, 11, rfl, by decide, List.mem_of_getElem? (i := 118) (by decide +kernel), rfl, rfl, by decide +kernel⟩
theorem fl_X2_40 : FL RX2 40 2 9 .int false := ⟨RX2, TX2, 11, rfl, by decide, List.mem_of_getElem? (i := 119) (by decide +kernel), rfl, rfl, by decide +kernel⟩
theorem fl_X7_57 : FL RX7 57 2 9 .int false := ⟨RX2, TX2, 11, rfl, by decide, List.mem_of_getElem? (i := 120) (by decide +kernel), rfl, rfl, by decide +kernel⟩
theorem fl_X0_58 : FL RX0 58 2 9 .int false := ⟨RX2, TX2, 11, rfl, by decide, List.mem_of_getElem? (i := 121) (by decide +kernel), rfl, rfl, by decide +kernel⟩
theorem fl_X8_107 : FL RX8 107 2 9 .int false := ⟨RX2, TX2, 11, rfl, by decide, List.mem_of_getElem? (i := 122) (by decide +kernel), rfl, rfl, by decide +kernel⟩
theorem fl_X2_43 : FL RX2 43 2 10 .int false := ⟨RX2, TX2, 11, rfl, by decide, List.mem_of_getElem? (i := 123) (by decide +kernel), rfl, rfl, by decide +kernel⟩
theorem fl_X7_60 : FL RX7 60 2 10 .int false := ⟨RX2, TX2, 11, rfl, by decide, List.mem_of_getElem? (i := 124) (by decide +kernel), rfl, rfl, by decide +kernel⟩
theorem fl_X0_55 : FL RX0 55 2 10 .int false := ⟨RX2, TX2, 11, rfl, by decide, List.mem_of_getElem? (i := 125) (by decide +kernel), rfl, rfl, by decide +kernel⟩
theorem fl_X8_110 : FL RX8 110 2 10 .int false := ⟨RX2, TX2, 11, rfl, by decide, List.mem_of_getElem? (i := 126) (by decide +kernel), rfl, rfl, by decide +kernel⟩
theorem fl_X7_41 : FL RX7 41 7 0 (.array .int) true := ⟨RX7, TX7, 9, rfl, by decide, List.mem_of_getElem? (i := 151) (by decide +kernel), rfl, rfl, by decide +kernel⟩
theorem fl_X7_9 : FL RX7 9 7 1 .int false := ⟨RX7, TX7, 9, rfl, by decide, List.mem_of_getElem? (i := 152) (by decide +kernel), rfl, rfl, by decide +kernel⟩
theorem fl_X7_15 : FL RX7 15 7 2 .int false := ⟨RX7, TX7, 9, rfl, by decide, List.mem_of_getElem? (i := 153) (by decide +kernel), rfl, rfl, by decide +kernel⟩
theorem fl_X7_21 : FL RX7 21 7 3 (.object "TurningWheel$Castle") false := ⟨RX7, TX7, 9, rfl, by decide, List.mem_of_getElem? (i := 154) (by decide +kernel), rfl, rfl, by decide +kernel⟩
theorem fl_X7_25 : FL RX7 25 7 4 .boolean false := ⟨RX7, TX7, 9, rfl, by decide, List.mem_of_getElem? (i := 155) (by decide +kernel), rfl, rfl, by decide +kernel⟩
theorem fl_X7_29 : FL RX7 29 7 5 .int false := ⟨RX7, TX7, 9, rfl, by decide, List.mem_of_getElem? (i := 156) (by decide +kernel), rfl, rfl, by decide +kernel⟩
theorem fl_X7_32 : FL RX7 32 7 6 .int false := ⟨RX7, TX7, 9, rfl, by decide, List.mem_of_getElem? (i := 157) (by decide +kernel), rfl, rfl, by decide +kernel⟩
theorem fl_X7_35 : FL RX7 35 7 7 .int false := ⟨RX7, TX7, 9, rfl, by decide, List.mem_of_getElem? (i := 158) (by decide +kernel), rfl, rfl, by decide +kernel⟩
theorem fl_X7_38 : FL RX7 38 7 8 .int false := ⟨RX7, TX7, 9, rfl, by decide, List.mem_of_getElem? (i := 159) (by decide +kernel), rfl, rfl, by decide +kernel⟩
theorem fl_X8_88 : FL RX8 88 7 8 .int false := ⟨RX7, TX7, 9, rfl, by decide, List.mem_of_getElem? (i := 160) (by decide +kernel), rfl, rfl, by decide +kernel⟩
theorem fl_X0_9 : FL RX0 9 0 0 .int false := ⟨RX0, TX0, 9, rfl, by decide, List.mem_of_getElem? (i := 188) (by decide +kernel), rfl, rfl, by decide +kernel⟩
theorem fl_X8_113 : FL RX8 113 0 0 .int false := ⟨RX0, TX0, 9, rfl, by decide, List.mem_of_getElem? (i := 189) (by decide +kernel), rfl, rfl, by decide +kernel⟩
theorem fl_X0_15 : FL RX0 15 0 1 .int false := ⟨RX0, TX0, 9, rfl, by decide, List.mem_of_getElem? (i := 190) (by decide +kernel), rfl, rfl, by decide +kernel⟩
theorem fl_X8_116 : FL RX8 116 0 1 .int false := ⟨RX0, TX0, 9, rfl, by decide, List.mem_of_getElem? (i := 191) (by decide +kernel), rfl, rfl, by decide +kernel⟩
theorem fl_X0_18 : FL RX0 18 0 2 .boolean false := ⟨RX0, TX0, 9, rfl, by decide, List.mem_of_getElem? (i := 192) (by decide +kernel), rfl, rfl, by decide +kernel⟩
theorem fl_X8_119 : FL RX8 119 0 2 .boolean false := ⟨RX0, TX0, 9, rfl, by decide, List.mem_of_getElem? (i := 193) (by decide +kernel), rfl, rfl, by decide +kernel⟩
theorem fl_X0_22 : FL RX0 22 0 3 .boolean false := ⟨RX0, TX0, 9, rfl, by decide, List.mem_of_getElem? (i := 194) (by decide +kernel), rfl, rfl, by decide +kernel⟩
theorem fl_X8_123 : FL RX8 123 0 3 .boolean false := ⟨RX0, TX0, 9, rfl, by decide, List.mem_of_getElem? (i := 195) (by decide +kernel), rfl, rfl, by decide +kernel⟩
theorem fl_X0_25 : FL RX0 25 0 4 .int false := ⟨RX0, TX0, 9, rfl, by decide, List.mem_of_getElem? (i := 196) (by decide +kernel), rfl, rfl, by decide +kernel⟩
theorem fl_X8_126 : FL RX8 126 0 4 .int false := ⟨RX0, TX0, 9, rfl, by decide, List.mem_of_getElem? (i := 197) (by decide +kernel), rfl, rfl, by decide +kernel⟩
theorem fl_X0_28 : FL RX0 28 0 5 .int false := ⟨RX0, TX0, 9, rfl, by decide, List.mem_of_getElem? (i := 198) (by decide +kernel), rfl, rfl, by decide +kernel⟩
theorem fl_X8_136 : FL RX8 136 0 5 .int false := ⟨RX0, TX0, 9, rfl, by decide, List.mem_of_getElem? (i := 199) (by decide +kernel), rfl, rfl, by decide +kernel⟩
theorem fl_X0_31 : FL RX0 31 0 6 (.array .int) true := ⟨RX0, TX0, 9, rfl, by decide, List.mem_of_getElem? (i := 200) (by decide +kernel), rfl, rfl, by decide +kernel⟩
theorem fl_X8_174 : FL RX8 174 0 6 (.array .int) true := ⟨RX0, TX0, 9, rfl, by decide, List.mem_of_getElem? (i := 201) (by decide +kernel), rfl, rfl, by decide +kernel⟩
theorem fl_X0_35 : FL RX0 35 0 7 (.array .int) true := ⟨RX0, TX0, 9, rfl, by decide, List.mem_of_getElem? (i := 202) (by decide +kernel), rfl, rfl, by decide +kernel⟩
theorem fl_X8_180 : FL RX8 180 0 7 (.array .int) true := ⟨RX0, TX0, 9, rfl, by decide, List.mem_of_getElem? (i := 203) (by decide +kernel), rfl, rfl, by decide +kernel⟩
theorem fl_X0_38 : FL RX0 38 0 8 (.array .int) true := ⟨RX0, TX0, 9, rfl, by decide, List.mem_of_getElem? (i := 204) (by decide +kernel), rfl, rfl, by decide +kernel⟩
theorem fl_X8_183 : FL RX8 183 0 8 (.array .int) true := ⟨RX0, TX0, 9, rfl, by decide, List.mem_of_getElem? (i := 205) (by decide +kernel), rfl, rfl, by decide +kernel⟩
theorem fl_X5_11 : FL RX5 11 5 0 (.array (.object "TurningWheel$Affairs")) true := ⟨RX5, TX5, 3, rfl, by decide, List.mem_of_getElem? (i := 234) (by decide +kernel), rfl, rfl, by decide +kernel⟩
theorem fl_X5_17 : FL RX5 17 5 1 .int false := ⟨RX5, TX5, 3, rfl, by decide, List.mem_of_getElem? (i := 235) (by decide +kernel), rfl, rfl, by decide +kernel⟩
theorem fl_X5_21 : FL RX5 21 5 2 .int false := ⟨RX5, TX5, 3, rfl, by decide, List.mem_of_getElem? (i := 236) (by decide +kernel), rfl, rfl, by decide +kernel⟩
theorem fl_X8_146 : FL RX8 146 5 2 .int false := ⟨RX5, TX5, 3, rfl, by decide, List.mem_of_getElem? (i := 237) (by decide +kernel), rfl, rfl, by decide +kernel⟩
theorem fl_X4_9 : FL RX4 9 4 0 (.array .int) true := ⟨RX4, TX4, 3, rfl, by decide, List.mem_of_getElem? (i := 251) (by decide +kernel), rfl, rfl, by decide +kernel⟩
theorem fl_X4_15 : FL RX4 15 4 1 (.array .boolean) true := ⟨RX4, TX4, 3, rfl, by decide, List.mem_of_getElem? (i := 252) (by decide +kernel), rfl, rfl, by decide +kernel⟩
theorem fl_X4_19 : FL RX4 19 4 2 .int false := ⟨RX4, TX4, 3, rfl, by decide, List.mem_of_getElem? (i := 253) (by decide +kernel), rfl, rfl, by decide +kernel⟩
theorem fl_X8_142 : FL RX8 142 4 2 .int false := ⟨RX4, TX4, 3, rfl, by decide, List.mem_of_getElem? (i := 254) (by decide +kernel), rfl, rfl, by decide +kernel⟩
theorem fl_X1_9 : FL RX1 9 1 0 (.array .int) true := ⟨RX1, TX1, 2, rfl, by decide, List.mem_of_getElem? (i := 269) (by decide +kernel), rfl, rfl, by decide +kernel⟩
theorem fl_X1_15 : FL RX1 15 1 1 .int false := ⟨RX1, TX1, 2, rfl, by decide, List.mem_of_getElem? (i := 270) (by decide +kernel), rfl, rfl, by decide +kernel⟩
theorem fl_X8_145 : FL RX8 145 1 1 .int false := ⟨RX1, TX1, 2, rfl, by decide, List.mem_of_getElem? (i := 271) (by decide +kernel), rfl, rfl, by decide +kernel⟩
theorem fl_X3_7 : FL RX3 7 3 0 .int false := ⟨RX3, TX3, 1, rfl, by decide, List.mem_of_getElem? (i := 283) (by decide +kernel), rfl, rfl, by decide +kernel⟩
theorem fl_X8_268 : FL RX8 268 3 0 .int false := ⟨RX3, TX3, 1, rfl, by decide, List.mem_of_getElem? (i := 284) (by decide +kernel), rfl, rfl, by decide +kernel⟩
theorem fl_X6_7 : FL RX6 7 6 0 .boolean false := ⟨RX6, TX6, 3, rfl, by decide, List.mem_of_getElem? (i := 297) (by decide +kernel), rfl, rfl, by decide +kernel⟩
theorem fl_X8_271 : FL RX8 271 6 0 .boolean false := ⟨RX6, TX6, 3, rfl, by decide, List.mem_of_getElem? (i := 298) (by decide +kernel), rfl, rfl, by decide +kernel⟩
theorem fl_X6_16 : FL RX6 16 6 1 (.object "TurningWheel$Affairs") true := ⟨RX6, TX6, 3, rfl, by decide, List.mem_of_getElem? (i := 299) (by decide +kernel), rfl, rfl, by decide +kernel⟩
theorem fl_X8_274 : FL RX8 274 6 1 (.object "TurningWheel$Affairs") true := ⟨RX6, TX6, 3, rfl, by decide, List.mem_of_getElem? (i := 300) (by decide +kernel), rfl, rfl, by decide +kernel⟩
theorem fl_X6_20 : FL RX6 20 6 2 .int false := ⟨RX6, TX6, 3, rfl, by decide, List.mem_of_getElem? (i := 301) (by decide +kernel), rfl, rfl, by decide +kernel⟩
theorem fl_X8_280 : FL RX8 280 6 2 .int false := ⟨RX6, TX6, 3, rfl, by decide, List.mem_of_getElem? (i := 302) (by decide +kernel), rfl, rfl, by decide +kernel⟩
theorem fl_X8_9 : FL RX8 9 8 0 (.array .int) true := ⟨RX8, TX8, 11, rfl, by decide, List.mem_of_getElem? (i := 310) (by decide +kernel), rfl, rfl, by decide +kernel⟩
theorem fl_X8_13 : FL RX8 13 8 1 .int false := ⟨RX8, TX8, 11, rfl, by decide, List.mem_of_getElem? (i := 311) (by decide +kernel), rfl, rfl, by decide +kernel⟩
theorem fl_X8_17 : FL RX8 17 8 2 .int false := ⟨RX8, TX8, 11, rfl, by decide, List.mem_of_getElem? (i := 312) (by decide +kernel), rfl, rfl, by decide +kernel⟩
theorem fl_X8_25 : FL RX8 25 8 3 (.object "TurningWheel$Reader") true := ⟨RX8, TX8, 11, rfl, by decide, List.mem_of_getElem? (i := 313) (by decide +kernel), rfl, rfl, by decide +kernel⟩
theorem fl_X8_32 : FL RX8 32 8 4 (.object "TurningWheel$Castle") false := ⟨RX8, TX8, 11, rfl, by decide, List.mem_of_getElem? (i := 314) (by decide +kernel), rfl, rfl, by decide +kernel⟩
theorem fl_X8_39 : FL RX8 39 8 5 (.object "TurningWheel$Affairs") true := ⟨RX8, TX8, 11, rfl, by decide, List.mem_of_getElem? (i := 315) (by decide +kernel), rfl, rfl, by decide +kernel⟩
theorem fl_X8_46 : FL RX8 46 8 6 (.object "TurningWheel$History") true := ⟨RX8, TX8, 11, rfl, by decide, List.mem_of_getElem? (i := 316) (by decide +kernel), rfl, rfl, by decide +kernel⟩
theorem fl_X8_53 : FL RX8 53 8 7 (.object "TurningWheel$Hearsay") true := ⟨RX8, TX8, 11, rfl, by decide, List.mem_of_getElem? (i := 317) (by decide +kernel), rfl, rfl, by decide +kernel⟩
theorem fl_X8_60 : FL RX8 60 8 8 (.object "TurningWheel$Book") true := ⟨RX8, TX8, 11, rfl, by decide, List.mem_of_getElem? (i := 318) (by decide +kernel), rfl, rfl, by decide +kernel⟩
theorem fl_X8_67 : FL RX8 67 8 9 (.object "TurningWheel$Draws") true := ⟨RX8, TX8, 11, rfl, by decide, List.mem_of_getElem? (i := 319) (by decide +kernel), rfl, rfl, by decide +kernel⟩
theorem fl_X8_73 : FL RX8 73 8 10 (.array (.object "TurningWheel$Image")) true := ⟨RX8, TX8, 11, rfl, by decide, List.mem_of_getElem? (i := 320) (by decide +kernel), rfl, rfl, by decide +kernel⟩
theorem fl_X9_7 : FL RX9 7 9 0 (.array .int) true := ⟨RX9, TX9, 24, rfl, by decide, List.mem_of_getElem? (i := 751) (by decide +kernel), rfl, rfl, by decide +kernel⟩
theorem fl_X9_68 : FL RX9 68 9 1 .int false := ⟨RX9, TX9, 24, rfl, by decide, List.mem_of_getElem? (i := 752) (by decide +kernel), rfl, rfl, by decide +kernel⟩
theorem fl_X9_13 : FL RX9 13 9 2 .int false := ⟨RX9, TX9, 24, rfl, by decide, List.mem_of_getElem? (i := 753) (by decide +kernel), rfl, rfl, by decide +kernel⟩
theorem fl_X9_17 : FL RX9 17 9 3 (.array .int) true := ⟨RX9, TX9, 24, rfl, by decide, List.mem_of_getElem? (i := 754) (by decide +kernel), rfl, rfl, by decide +kernel⟩
theorem fl_X9_20 : FL RX9 20 9 4 (.array .int) true := ⟨RX9, TX9, 24, rfl, by decide, List.mem_of_getElem? (i := 755) (by decide +kernel), rfl, rfl, by decide +kernel⟩
theorem fl_X9_23 : FL RX9 23 9 5 (.array .int) true := ⟨RX9, TX9, 24, rfl, by decide, List.mem_of_getElem? (i := 756) (by decide +kernel), rfl, rfl, by decide +kernel⟩
theorem fl_X9_26 : FL RX9 26 9 6 (.array .int) true := ⟨RX9, TX9, 24, rfl, by decide, List.mem_of_getElem? (i := 757) (by decide +kernel), rfl, rfl, by decide +kernel⟩
theorem fl_X9_29 : FL RX9 29 9 7 (.array .int) true := ⟨RX9, TX9, 24, rfl, by decide, List.mem_of_getElem? (i := 758) (by decide +kernel), rfl, rfl, by decide +kernel⟩
theorem fl_X9_32 : FL RX9 32 9 8 (.array .int) true := ⟨RX9, TX9, 24, rfl, by decide, List.mem_of_getElem? (i := 759) (by decide +kernel), rfl, rfl, by decide +kernel⟩
theorem fl_X9_35 : FL RX9 35 9 9 (.array .int) true := ⟨RX9, TX9, 24, rfl, by decide, List.mem_of_getElem? (i := 760) (by decide +kernel), rfl, rfl, by decide +kernel⟩
theorem fl_X9_38 : FL RX9 38 9 10 (.array .int) true := ⟨RX9, TX9, 24, rfl, by decide, List.mem_of_getElem? (i := 761) (by decide +kernel), rfl, rfl, by decide +kernel⟩
theorem fl_X9_41 : FL RX9 41 9 11 (.array .int) true := ⟨RX9, TX9, 24, rfl, by decide, List.mem_of_getElem? (i := 762) (by decide +kernel), rfl, rfl, by decide +kernel⟩
theorem fl_X9_44 : FL RX9 44 9 12 (.array .int) true := ⟨RX9, TX9, 24, rfl, by decide, List.mem_of_getElem? (i := 763) (by decide +kernel), rfl, rfl, by decide +kernel⟩
theorem fl_X9_126 : FL RX9 126 9 13 .int false := ⟨RX9, TX9, 24, rfl, by decide, List.mem_of_getElem? (i := 764) (by decide +kernel), rfl, rfl, by decide +kernel⟩
theorem fl_X9_47 : FL RX9 47 9 14 (.array .int) true := ⟨RX9, TX9, 24, rfl, by decide, List.mem_of_getElem? (i := 765) (by decide +kernel), rfl, rfl, by decide +kernel⟩
theorem fl_X9_50 : FL RX9 50 9 15 (.array .int) true := ⟨RX9, TX9, 24, rfl, by decide, List.mem_of_getElem? (i := 766) (by decide +kernel), rfl, rfl, by decide +kernel⟩
theorem fl_X9_53 : FL RX9 53 9 16 (.array .boolean) true := ⟨RX9, TX9, 24, rfl, by decide, List.mem_of_getElem? (i := 767) (by decide +kernel), rfl, rfl, by decide +kernel⟩
theorem fl_X9_188 : FL RX9 188 9 17 .int false := ⟨RX9, TX9, 24, rfl, by decide, List.mem_of_getElem? (i := 768) (by decide +kernel), rfl, rfl, by decide +kernel⟩
theorem fl_X9_57 : FL RX9 57 9 18 (.array .int) true := ⟨RX9, TX9, 24, rfl, by decide, List.mem_of_getElem? (i := 769) (by decide +kernel), rfl, rfl, by decide +kernel⟩
theorem fl_X9_129 : FL RX9 129 9 19 .int false := ⟨RX9, TX9, 24, rfl, by decide, List.mem_of_getElem? (i := 770) (by decide +kernel), rfl, rfl, by decide +kernel⟩
theorem fl_X9_60 : FL RX9 60 9 20 (.array .int) true := ⟨RX9, TX9, 24, rfl, by decide, List.mem_of_getElem? (i := 771) (by decide +kernel), rfl, rfl, by decide +kernel⟩
theorem fl_X9_132 : FL RX9 132 9 21 .int false := ⟨RX9, TX9, 24, rfl, by decide, List.mem_of_getElem? (i := 772) (by decide +kernel), rfl, rfl, by decide +kernel⟩
theorem fl_X9_72 : FL RX9 72 9 22 .int false := ⟨RX9, TX9, 24, rfl, by decide, List.mem_of_getElem? (i := 773) (by decide +kernel), rfl, rfl, by decide +kernel⟩
theorem fl_X9_75 : FL RX9 75 9 23 .int false := ⟨RX9, TX9, 24, rfl, by decide, List.mem_of_getElem? (i := 774) (by decide +kernel), rfl, rfl, by decide +kernel⟩
theorem wm_72 : Cond.methodLink RL 9 yX8_init ∈ lw_tbl := List.mem_of_getElem? (i := 72) (by decide +kernel)
theorem wm_73 : Cond.instanceMethod yX8_init ∈ lw_tbl := List.mem_of_getElem? (i := 73) (by decide +kernel)
theorem wm_58 : Cond.initialized RX8 ∈ lw_tbl := List.mem_of_getElem? (i := 58) (by decide +kernel)
theorem wm_74 : Cond.code YX8_init.1 YX8_init.2.1 YX8_init.2.2.1 YX8_init.2.2.2 ∈ lw_tbl := List.mem_of_getElem? (i := 74) (by decide +kernel)
theorem cv_L_9 : CI RL 9 YX8_init 0 := ⟨wm_72, ⟨rfl, wm_73⟩, wm_58, wm_74, ⟨by decide +kernel, by decide +kernel, by decide +kernel⟩⟩
theorem wm_80 : Cond.methodLink RX8 22 yX7_init ∈ lw_tbl := List.mem_of_getElem? (i := 80) (by decide +kernel)
theorem wm_81 : Cond.instanceMethod yX7_init ∈ lw_tbl := List.mem_of_getElem? (i := 81) (by decide +kernel)
theorem wm_59 : Cond.initialized RX7 ∈ lw_tbl := List.mem_of_getElem? (i := 59) (by decide +kernel)
theorem wm_82 : Cond.code YX7_init.1 YX7_init.2.1 YX7_init.2.2.1 YX7_init.2.2.2 ∈ lw_tbl := List.mem_of_getElem? (i := 82) (by decide +kernel)
theorem cv_X8_22 : CI RX8 22 YX7_init 1 := ⟨wm_80, ⟨rfl, wm_81⟩, wm_59, wm_82, ⟨by decide +kernel, by decide +kernel, by decide +kernel⟩⟩
theorem wm_227 : Cond.methodLink RX8 45 yX5_init ∈ lw_tbl := List.mem_of_getElem? (i := 227) (by decide +kernel)
theorem wm_228 : Cond.instanceMethod yX5_init ∈ lw_tbl := List.mem_of_getElem? (i := 228) (by decide +kernel)
theorem wm_62 : Cond.initialized RX5 ∈ lw_tbl := List.mem_of_getElem? (i := 62) (by decide +kernel)
theorem wm_229 : Cond.code YX5_init.1 YX5_init.2.1 YX5_init.2.2.1 YX5_init.2.2.2 ∈ lw_tbl := List.mem_of_getElem? (i := 229) (by decide +kernel)
theorem cv_X8_45 : CI RX8 45 YX5_init 0 := ⟨wm_227, ⟨rfl, wm_228⟩, wm_62, wm_229, ⟨by decide +kernel, by decide +kernel, by decide +kernel⟩⟩
theorem wm_344 : Cond.methodLink RL 13 yX8_feed ∈ lw_tbl := List.mem_of_getElem? (i := 344) (by decide +kernel)
theorem wm_345 : Cond.instanceMethod yX8_feed ∈ lw_tbl := List.mem_of_getElem? (i := 345) (by decide +kernel)
theorem wm_346 : Cond.selects yX8_feed.cls yX8_feed yX8_feed ∈ lw_tbl := List.mem_of_getElem? (i := 346) (by decide +kernel)
theorem wm_347 : Cond.code YX8_feed.1 YX8_feed.2.1 YX8_feed.2.2.1 YX8_feed.2.2.2 ∈ lw_tbl := List.mem_of_getElem? (i := 347) (by decide +kernel)
theorem cv_L_13 : CV RL 13 YX8_feed 1 := ⟨wm_344, wm_345, wm_346, wm_58, wm_347, ⟨by decide +kernel, by decide +kernel, by decide +kernel⟩⟩
theorem wm_348 : Cond.methodLink RX8 78 yX8_within ∈ lw_tbl := List.mem_of_getElem? (i := 348) (by decide +kernel)
theorem wm_349 : Cond.static yX8_within ∈ lw_tbl := List.mem_of_getElem? (i := 349) (by decide +kernel)
theorem wm_350 : Cond.code YX8_within.1 YX8_within.2.1 YX8_within.2.2.1 YX8_within.2.2.2 ∈ lw_tbl := List.mem_of_getElem? (i := 350) (by decide +kernel)
theorem cv_X8_78 : CS RX8 78 YX8_within 3 := ⟨wm_348, wm_349, wm_58, wm_350, ⟨by decide +kernel, by decide +kernel, by decide +kernel⟩⟩
theorem wm_353 : Cond.methodLink RL 18 yX8_castle ∈ lw_tbl := List.mem_of_getElem? (i := 353) (by decide +kernel)
theorem wm_354 : Cond.instanceMethod yX8_castle ∈ lw_tbl := List.mem_of_getElem? (i := 354) (by decide +kernel)
theorem wm_355 : Cond.selects yX8_castle.cls yX8_castle yX8_castle ∈ lw_tbl := List.mem_of_getElem? (i := 355) (by decide +kernel)
theorem wm_356 : Cond.code YX8_castle.1 YX8_castle.2.1 YX8_castle.2.2.1 YX8_castle.2.2.2 ∈ lw_tbl := List.mem_of_getElem? (i := 356) (by decide +kernel)
theorem cv_L_18 : CV RL 18 YX8_castle 0 := ⟨wm_353, wm_354, wm_355, wm_58, wm_356, ⟨by decide +kernel, by decide +kernel, by decide +kernel⟩⟩
theorem wm_357 : Cond.methodLink RX8 84 yX7_readText ∈ lw_tbl := List.mem_of_getElem? (i := 357) (by decide +kernel)
theorem wm_358 : Cond.instanceMethod yX7_readText ∈ lw_tbl := List.mem_of_getElem? (i := 358) (by decide +kernel)
theorem wm_359 : Cond.selects yX7_readText.cls yX7_readText yX7_readText ∈ lw_tbl := List.mem_of_getElem? (i := 359) (by decide +kernel)
theorem wm_360 : Cond.code YX7_readText.1 YX7_readText.2.1 YX7_readText.2.2.1 YX7_readText.2.2.2 ∈ lw_tbl := List.mem_of_getElem? (i := 360) (by decide +kernel)
theorem cv_X8_84 : CV RX8 84 YX7_readText 1 := ⟨wm_357, wm_358, wm_359, wm_59, wm_360, ⟨by decide +kernel, by decide +kernel, by decide +kernel⟩⟩
theorem wm_361 : Cond.methodLink RX7 45 yJ9_min_7cf53 ∈ lw_tbl := List.mem_of_getElem? (i := 361) (by decide +kernel)
theorem wm_362 : Cond.static yJ9_min_7cf53 ∈ lw_tbl := List.mem_of_getElem? (i := 362) (by decide +kernel)
theorem wm_68 : Cond.initialized RJ9 ∈ lw_tbl := List.mem_of_getElem? (i := 68) (by decide +kernel)
theorem wm_363 : Cond.code YJ9_min_7cf53.1 YJ9_min_7cf53.2.1 YJ9_min_7cf53.2.2.1 YJ9_min_7cf53.2.2.2 ∈ lw_tbl := List.mem_of_getElem? (i := 363) (by decide +kernel)
theorem cv_X7_45 : CS RX7 45 YJ9_min_7cf53 2 := ⟨wm_361, wm_362, wm_68, wm_363, ⟨by decide +kernel, by decide +kernel, by decide +kernel⟩⟩
theorem wm_364 : Cond.methodLink RX7 51 yX2_clear ∈ lw_tbl := List.mem_of_getElem? (i := 364) (by decide +kernel)
theorem wm_365 : Cond.instanceMethod yX2_clear ∈ lw_tbl := List.mem_of_getElem? (i := 365) (by decide +kernel)
theorem wm_366 : Cond.selects yX2_clear.cls yX2_clear yX2_clear ∈ lw_tbl := List.mem_of_getElem? (i := 366) (by decide +kernel)
theorem wm_60 : Cond.initialized RX2 ∈ lw_tbl := List.mem_of_getElem? (i := 60) (by decide +kernel)
theorem wm_367 : Cond.code YX2_clear.1 YX2_clear.2.1 YX2_clear.2.2.1 YX2_clear.2.2.2 ∈ lw_tbl := List.mem_of_getElem? (i := 367) (by decide +kernel)
theorem cv_X7_51 : CV RX7 51 YX2_clear 0 := ⟨wm_364, wm_365, wm_366, wm_60, wm_367, ⟨by decide +kernel, by decide +kernel, by decide +kernel⟩⟩
theorem wm_368 : Cond.methodLink RX7 54 yX7_skipBlanks ∈ lw_tbl := List.mem_of_getElem? (i := 368) (by decide +kernel)
theorem wm_370 : Cond.instanceMethod yX7_skipBlanks ∈ lw_tbl := List.mem_of_getElem? (i := 370) (by decide +kernel)
theorem wm_0 : Cond.selects yX7_skipBlanks.cls yX7_skipBlanks yX7_skipBlanks ∈ lw_tbl := List.mem_of_getElem? (i := 0) (by decide +kernel)
theorem wm_371 : Cond.code YX7_skipBlanks.1 YX7_skipBlanks.2.1 YX7_skipBlanks.2.2.1 YX7_skipBlanks.2.2.2 ∈ lw_tbl := List.mem_of_getElem? (i := 371) (by decide +kernel)
theorem cv_X7_54 : CV RX7 54 YX7_skipBlanks 0 := ⟨wm_368, wm_370, wm_0, wm_59, wm_371, ⟨by decide +kernel, by decide +kernel, by decide +kernel⟩⟩
theorem wm_372 : Cond.methodLink RX7 63 yX7_readWays ∈ lw_tbl := List.mem_of_getElem? (i := 372) (by decide +kernel)
theorem wm_374 : Cond.instanceMethod yX7_readWays ∈ lw_tbl := List.mem_of_getElem? (i := 374) (by decide +kernel)
theorem wm_1 : Cond.selects yX7_readWays.cls yX7_readWays yX7_readWays ∈ lw_tbl := List.mem_of_getElem? (i := 1) (by decide +kernel)
theorem wm_375 : Cond.code YX7_readWays.1 YX7_readWays.2.1 YX7_readWays.2.2.1 YX7_readWays.2.2.2 ∈ lw_tbl := List.mem_of_getElem? (i := 375) (by decide +kernel)
theorem cv_X7_63 : CV RX7 63 YX7_readWays 0 := ⟨wm_372, wm_374, wm_1, wm_59, wm_375, ⟨by decide +kernel, by decide +kernel, by decide +kernel⟩⟩
theorem wm_376 : Cond.methodLink RX7 70 yX7_take ∈ lw_tbl := List.mem_of_getElem? (i := 376) (by decide +kernel)
theorem wm_378 : Cond.instanceMethod yX7_take ∈ lw_tbl := List.mem_of_getElem? (i := 378) (by decide +kernel)
theorem wm_2 : Cond.selects yX7_take.cls yX7_take yX7_take ∈ lw_tbl := List.mem_of_getElem? (i := 2) (by decide +kernel)
theorem wm_379 : Cond.code YX7_take.1 YX7_take.2.1 YX7_take.2.2.1 YX7_take.2.2.2 ∈ lw_tbl := List.mem_of_getElem? (i := 379) (by decide +kernel)
theorem cv_X7_70 : CV RX7 70 YX7_take 1 := ⟨wm_376, wm_378, wm_2, wm_59, wm_379, ⟨by decide +kernel, by decide +kernel, by decide +kernel⟩⟩
theorem wm_380 : Cond.methodLink RX7 77 yX7_letter ∈ lw_tbl := List.mem_of_getElem? (i := 380) (by decide +kernel)
theorem wm_382 : Cond.instanceMethod yX7_letter ∈ lw_tbl := List.mem_of_getElem? (i := 382) (by decide +kernel)
theorem wm_3 : Cond.selects yX7_letter.cls yX7_letter yX7_letter ∈ lw_tbl := List.mem_of_getElem? (i := 3) (by decide +kernel)
theorem wm_383 : Cond.code YX7_letter.1 YX7_letter.2.1 YX7_letter.2.2.1 YX7_letter.2.2.2 ∈ lw_tbl := List.mem_of_getElem? (i := 383) (by decide +kernel)
theorem cv_X7_77 : CV RX7 77 YX7_letter 0 := ⟨wm_380, wm_382, wm_3, wm_59, wm_383, ⟨by decide +kernel, by decide +kernel, by decide +kernel⟩⟩
theorem wm_384 : Cond.methodLink RX7 84 yX7_refuse ∈ lw_tbl := List.mem_of_getElem? (i := 384) (by decide +kernel)
theorem wm_386 : Cond.instanceMethod yX7_refuse ∈ lw_tbl := List.mem_of_getElem? (i := 386) (by decide +kernel)
theorem wm_4 : Cond.selects yX7_refuse.cls yX7_refuse yX7_refuse ∈ lw_tbl := List.mem_of_getElem? (i := 4) (by decide +kernel)
theorem wm_387 : Cond.code YX7_refuse.1 YX7_refuse.2.1 YX7_refuse.2.2.1 YX7_refuse.2.2.2 ∈ lw_tbl := List.mem_of_getElem? (i := 387) (by decide +kernel)
theorem cv_X7_84 : CV RX7 84 YX7_refuse 2 := ⟨wm_384, wm_386, wm_4, wm_59, wm_387, ⟨by decide +kernel, by decide +kernel, by decide +kernel⟩⟩
theorem wm_388 : Cond.methodLink RX7 74 yX7_readWay ∈ lw_tbl := List.mem_of_getElem? (i := 388) (by decide +kernel)
theorem wm_390 : Cond.instanceMethod yX7_readWay ∈ lw_tbl := List.mem_of_getElem? (i := 390) (by decide +kernel)
theorem wm_5 : Cond.selects yX7_readWay.cls yX7_readWay yX7_readWay ∈ lw_tbl := List.mem_of_getElem? (i := 5) (by decide +kernel)
theorem wm_391 : Cond.code YX7_readWay.1 YX7_readWay.2.1 YX7_readWay.2.2.1 YX7_readWay.2.2.2 ∈ lw_tbl := List.mem_of_getElem? (i := 391) (by decide +kernel)
theorem cv_X7_74 : CV RX7 74 YX7_readWay 0 := ⟨wm_388, wm_390, wm_5, wm_59, wm_391, ⟨by decide +kernel, by decide +kernel, by decide +kernel⟩⟩
theorem wm_392 : Cond.methodLink RX7 88 yX7_readNumber ∈ lw_tbl := List.mem_of_getElem? (i := 392) (by decide +kernel)
theorem wm_394 : Cond.instanceMethod yX7_readNumber ∈ lw_tbl := List.mem_of_getElem? (i := 394) (by decide +kernel)
theorem wm_6 : Cond.selects yX7_readNumber.cls yX7_readNumber yX7_readNumber ∈ lw_tbl := List.mem_of_getElem? (i := 6) (by decide +kernel)
theorem wm_395 : Cond.code YX7_readNumber.1 YX7_readNumber.2.1 YX7_readNumber.2.2.1 YX7_readNumber.2.2.2 ∈ lw_tbl := List.mem_of_getElem? (i := 395) (by decide +kernel)
theorem cv_X7_88 : CV RX7 88 YX7_readNumber 2 := ⟨wm_392, wm_394, wm_6, wm_59, wm_395, ⟨by decide +kernel, by decide +kernel, by decide +kernel⟩⟩
theorem wm_396 : Cond.methodLink RX7 133 yX7_isFigure ∈ lw_tbl := List.mem_of_getElem? (i := 396) (by decide +kernel)
theorem wm_397 : Cond.static yX7_isFigure ∈ lw_tbl := List.mem_of_getElem? (i := 397) (by decide +kernel)
theorem wm_398 : Cond.code YX7_isFigure.1 YX7_isFigure.2.1 YX7_isFigure.2.2.1 YX7_isFigure.2.2.2 ∈ lw_tbl := List.mem_of_getElem? (i := 398) (by decide +kernel)
theorem cv_X7_133 : CS RX7 133 YX7_isFigure 1 := ⟨wm_396, wm_397, wm_59, wm_398, ⟨by decide +kernel, by decide +kernel, by decide +kernel⟩⟩
theorem wm_400 : Cond.methodLink RX7 67 yX7_readClause ∈ lw_tbl := List.mem_of_getElem? (i := 400) (by decide +kernel)
theorem wm_402 : Cond.instanceMethod yX7_readClause ∈ lw_tbl := List.mem_of_getElem? (i := 402) (by decide +kernel)
theorem wm_7 : Cond.selects yX7_readClause.cls yX7_readClause yX7_readClause ∈ lw_tbl := List.mem_of_getElem? (i := 7) (by decide +kernel)
theorem wm_403 : Cond.code YX7_readClause.1 YX7_readClause.2.1 YX7_readClause.2.2.1 YX7_readClause.2.2.2 ∈ lw_tbl := List.mem_of_getElem? (i := 403) (by decide +kernel)
theorem cv_X7_67 : CV RX7 67 YX7_readClause 0 := ⟨wm_400, wm_402, wm_7, wm_59, wm_403, ⟨by decide +kernel, by decide +kernel, by decide +kernel⟩⟩
theorem wm_404 : Cond.methodLink RX7 94 yX7_readTest ∈ lw_tbl := List.mem_of_getElem? (i := 404) (by decide +kernel)
theorem wm_406 : Cond.instanceMethod yX7_readTest ∈ lw_tbl := List.mem_of_getElem? (i := 406) (by decide +kernel)
theorem wm_8 : Cond.selects yX7_readTest.cls yX7_readTest yX7_readTest ∈ lw_tbl := List.mem_of_getElem? (i := 8) (by decide +kernel)
theorem wm_407 : Cond.code YX7_readTest.1 YX7_readTest.2.1 YX7_readTest.2.2.1 YX7_readTest.2.2.2 ∈ lw_tbl := List.mem_of_getElem? (i := 407) (by decide +kernel)
theorem cv_X7_94 : CV RX7 94 YX7_readTest 0 := ⟨wm_404, wm_406, wm_8, wm_59, wm_407, ⟨by decide +kernel, by decide +kernel, by decide +kernel⟩⟩
theorem wm_408 : Cond.methodLink RX7 106 yX7_readWaySet ∈ lw_tbl := List.mem_of_getElem? (i := 408) (by decide +kernel)
theorem wm_410 : Cond.instanceMethod yX7_readWaySet ∈ lw_tbl := List.mem_of_getElem? (i := 410) (by decide +kernel)
theorem wm_9 : Cond.selects yX7_readWaySet.cls yX7_readWaySet yX7_readWaySet ∈ lw_tbl := List.mem_of_getElem? (i := 9) (by decide +kernel)
theorem wm_411 : Cond.code YX7_readWaySet.1 YX7_readWaySet.2.1 YX7_readWaySet.2.2.1 YX7_readWaySet.2.2.2 ∈ lw_tbl := List.mem_of_getElem? (i := 411) (by decide +kernel)
theorem cv_X7_106 : CV RX7 106 YX7_readWaySet 1 := ⟨wm_408, wm_410, wm_9, wm_59, wm_411, ⟨by decide +kernel, by decide +kernel, by decide +kernel⟩⟩
theorem wm_412 : Cond.methodLink RX7 130 yX2_hasWays ∈ lw_tbl := List.mem_of_getElem? (i := 412) (by decide +kernel)
theorem wm_413 : Cond.instanceMethod yX2_hasWays ∈ lw_tbl := List.mem_of_getElem? (i := 413) (by decide +kernel)
theorem wm_414 : Cond.selects yX2_hasWays.cls yX2_hasWays yX2_hasWays ∈ lw_tbl := List.mem_of_getElem? (i := 414) (by decide +kernel)
theorem wm_415 : Cond.code YX2_hasWays.1 YX2_hasWays.2.1 YX2_hasWays.2.2.1 YX2_hasWays.2.2.2 ∈ lw_tbl := List.mem_of_getElem? (i := 415) (by decide +kernel)
theorem cv_X7_130 : CV RX7 130 YX2_hasWays 1 := ⟨wm_412, wm_413, wm_414, wm_60, wm_415, ⟨by decide +kernel, by decide +kernel, by decide +kernel⟩⟩
theorem wm_416 : Cond.methodLink RX2 50 yX2_allWays ∈ lw_tbl := List.mem_of_getElem? (i := 416) (by decide +kernel)
theorem wm_417 : Cond.instanceMethod yX2_allWays ∈ lw_tbl := List.mem_of_getElem? (i := 417) (by decide +kernel)
theorem wm_418 : Cond.selects yX2_allWays.cls yX2_allWays yX2_allWays ∈ lw_tbl := List.mem_of_getElem? (i := 418) (by decide +kernel)
theorem wm_419 : Cond.code YX2_allWays.1 YX2_allWays.2.1 YX2_allWays.2.2.1 YX2_allWays.2.2.2 ∈ lw_tbl := List.mem_of_getElem? (i := 419) (by decide +kernel)
theorem cv_X2_50 : CV RX2 50 YX2_allWays 0 := ⟨wm_416, wm_417, wm_418, wm_60, wm_419, ⟨by decide +kernel, by decide +kernel, by decide +kernel⟩⟩
theorem wm_423 : Cond.methodLink RX7 97 yX7_readServant ∈ lw_tbl := List.mem_of_getElem? (i := 423) (by decide +kernel)
theorem wm_425 : Cond.instanceMethod yX7_readServant ∈ lw_tbl := List.mem_of_getElem? (i := 425) (by decide +kernel)
theorem wm_10 : Cond.selects yX7_readServant.cls yX7_readServant yX7_readServant ∈ lw_tbl := List.mem_of_getElem? (i := 10) (by decide +kernel)
theorem wm_426 : Cond.code YX7_readServant.1 YX7_readServant.2.1 YX7_readServant.2.2.1 YX7_readServant.2.2.2 ∈ lw_tbl := List.mem_of_getElem? (i := 426) (by decide +kernel)
theorem cv_X7_97 : CV RX7 97 YX7_readServant 0 := ⟨wm_423, wm_425, wm_10, wm_59, wm_426, ⟨by decide +kernel, by decide +kernel, by decide +kernel⟩⟩
theorem wm_427 : Cond.methodLink RX7 100 yX7_readPay ∈ lw_tbl := List.mem_of_getElem? (i := 427) (by decide +kernel)
theorem wm_429 : Cond.instanceMethod yX7_readPay ∈ lw_tbl := List.mem_of_getElem? (i := 429) (by decide +kernel)
theorem wm_11 : Cond.selects yX7_readPay.cls yX7_readPay yX7_readPay ∈ lw_tbl := List.mem_of_getElem? (i := 11) (by decide +kernel)
theorem wm_430 : Cond.code YX7_readPay.1 YX7_readPay.2.1 YX7_readPay.2.2.1 YX7_readPay.2.2.2 ∈ lw_tbl := List.mem_of_getElem? (i := 430) (by decide +kernel)
theorem cv_X7_100 : CV RX7 100 YX7_readPay 0 := ⟨wm_427, wm_429, wm_11, wm_59, wm_430, ⟨by decide +kernel, by decide +kernel, by decide +kernel⟩⟩
theorem wm_431 : Cond.methodLink RX8 91 yX7_exchange ∈ lw_tbl := List.mem_of_getElem? (i := 431) (by decide +kernel)
theorem wm_432 : Cond.instanceMethod yX7_exchange ∈ lw_tbl := List.mem_of_getElem? (i := 432) (by decide +kernel)
theorem wm_433 : Cond.selects yX7_exchange.cls yX7_exchange yX7_exchange ∈ lw_tbl := List.mem_of_getElem? (i := 433) (by decide +kernel)
theorem wm_434 : Cond.code YX7_exchange.1 YX7_exchange.2.1 YX7_exchange.2.2.1 YX7_exchange.2.2.2 ∈ lw_tbl := List.mem_of_getElem? (i := 434) (by decide +kernel)
theorem cv_X8_91 : CV RX8 91 YX7_exchange 1 := ⟨wm_431, wm_432, wm_433, wm_59, wm_434, ⟨by decide +kernel, by decide +kernel, by decide +kernel⟩⟩
theorem wm_435 : Cond.methodLink RX8 95 yX8_beginAnew ∈ lw_tbl := List.mem_of_getElem? (i := 435) (by decide +kernel)
theorem wm_437 : Cond.instanceMethod yX8_beginAnew ∈ lw_tbl := List.mem_of_getElem? (i := 437) (by decide +kernel)
theorem wm_12 : Cond.selects yX8_beginAnew.cls yX8_beginAnew yX8_beginAnew ∈ lw_tbl := List.mem_of_getElem? (i := 12) (by decide +kernel)
theorem wm_438 : Cond.code YX8_beginAnew.1 YX8_beginAnew.2.1 YX8_beginAnew.2.2.1 YX8_beginAnew.2.2.2 ∈ lw_tbl := List.mem_of_getElem? (i := 438) (by decide +kernel)
theorem cv_X8_95 : CV RX8 95 YX8_beginAnew 0 := ⟨wm_435, wm_437, wm_12, wm_58, wm_438, ⟨by decide +kernel, by decide +kernel, by decide +kernel⟩⟩
theorem wm_439 : Cond.methodLink RX8 286 yX0_begin ∈ lw_tbl := List.mem_of_getElem? (i := 439) (by decide +kernel)
theorem wm_440 : Cond.instanceMethod yX0_begin ∈ lw_tbl := List.mem_of_getElem? (i := 440) (by decide +kernel)
theorem wm_441 : Cond.selects yX0_begin.cls yX0_begin yX0_begin ∈ lw_tbl := List.mem_of_getElem? (i := 441) (by decide +kernel)
theorem wm_61 : Cond.initialized RX0 ∈ lw_tbl := List.mem_of_getElem? (i := 61) (by decide +kernel)
theorem wm_442 : Cond.code YX0_begin.1 YX0_begin.2.1 YX0_begin.2.2.1 YX0_begin.2.2.2 ∈ lw_tbl := List.mem_of_getElem? (i := 442) (by decide +kernel)
theorem cv_X8_286 : CV RX8 286 YX0_begin 1 := ⟨wm_439, wm_440, wm_441, wm_61, wm_442, ⟨by decide +kernel, by decide +kernel, by decide +kernel⟩⟩
theorem wm_443 : Cond.methodLink RX0 41 yX2_stands ∈ lw_tbl := List.mem_of_getElem? (i := 443) (by decide +kernel)
theorem wm_444 : Cond.instanceMethod yX2_stands ∈ lw_tbl := List.mem_of_getElem? (i := 444) (by decide +kernel)
theorem wm_445 : Cond.selects yX2_stands.cls yX2_stands yX2_stands ∈ lw_tbl := List.mem_of_getElem? (i := 445) (by decide +kernel)
theorem wm_446 : Cond.code YX2_stands.1 YX2_stands.2.1 YX2_stands.2.2.1 YX2_stands.2.2.2 ∈ lw_tbl := List.mem_of_getElem? (i := 446) (by decide +kernel)
theorem cv_X0_41 : CV RX0 41 YX2_stands 0 := ⟨wm_443, wm_444, wm_445, wm_60, wm_446, ⟨by decide +kernel, by decide +kernel, by decide +kernel⟩⟩
theorem wm_447 : Cond.methodLink RX8 283 yX5_forget ∈ lw_tbl := List.mem_of_getElem? (i := 447) (by decide +kernel)
theorem wm_448 : Cond.instanceMethod yX5_forget ∈ lw_tbl := List.mem_of_getElem? (i := 448) (by decide +kernel)
theorem wm_449 : Cond.selects yX5_forget.cls yX5_forget yX5_forget ∈ lw_tbl := List.mem_of_getElem? (i := 449) (by decide +kernel)
theorem wm_450 : Cond.code YX5_forget.1 YX5_forget.2.1 YX5_forget.2.2.1 YX5_forget.2.2.2 ∈ lw_tbl := List.mem_of_getElem? (i := 450) (by decide +kernel)
theorem cv_X8_283 : CV RX8 283 YX5_forget 0 := ⟨wm_447, wm_448, wm_449, wm_62, wm_450, ⟨by decide +kernel, by decide +kernel, by decide +kernel⟩⟩
theorem wm_451 : Cond.methodLink RL 23 yX8_fault ∈ lw_tbl := List.mem_of_getElem? (i := 451) (by decide +kernel)
theorem wm_452 : Cond.instanceMethod yX8_fault ∈ lw_tbl := List.mem_of_getElem? (i := 452) (by decide +kernel)
theorem wm_453 : Cond.selects yX8_fault.cls yX8_fault yX8_fault ∈ lw_tbl := List.mem_of_getElem? (i := 453) (by decide +kernel)
theorem wm_454 : Cond.code YX8_fault.1 YX8_fault.2.1 YX8_fault.2.2.1 YX8_fault.2.2.2 ∈ lw_tbl := List.mem_of_getElem? (i := 454) (by decide +kernel)
theorem cv_L_23 : CV RL 23 YX8_fault 0 := ⟨wm_451, wm_452, wm_453, wm_58, wm_454, ⟨by decide +kernel, by decide +kernel, by decide +kernel⟩⟩
theorem wm_455 : Cond.methodLink RL 27 yX8_told ∈ lw_tbl := List.mem_of_getElem? (i := 455) (by decide +kernel)
theorem wm_456 : Cond.instanceMethod yX8_told ∈ lw_tbl := List.mem_of_getElem? (i := 456) (by decide +kernel)
theorem wm_457 : Cond.selects yX8_told.cls yX8_told yX8_told ∈ lw_tbl := List.mem_of_getElem? (i := 457) (by decide +kernel)
theorem wm_458 : Cond.code YX8_told.1 YX8_told.2.1 YX8_told.2.2.1 YX8_told.2.2.2 ∈ lw_tbl := List.mem_of_getElem? (i := 458) (by decide +kernel)
theorem cv_L_27 : CV RL 27 YX8_told 1 := ⟨wm_455, wm_456, wm_457, wm_58, wm_458, ⟨by decide +kernel, by decide +kernel, by decide +kernel⟩⟩
theorem wm_459 : Cond.methodLink RX8 129 yX8_waysLeft ∈ lw_tbl := List.mem_of_getElem? (i := 459) (by decide +kernel)
theorem wm_461 : Cond.instanceMethod yX8_waysLeft ∈ lw_tbl := List.mem_of_getElem? (i := 461) (by decide +kernel)
theorem wm_13 : Cond.selects yX8_waysLeft.cls yX8_waysLeft yX8_waysLeft ∈ lw_tbl := List.mem_of_getElem? (i := 13) (by decide +kernel)
theorem wm_462 : Cond.code YX8_waysLeft.1 YX8_waysLeft.2.1 YX8_waysLeft.2.2.1 YX8_waysLeft.2.2.2 ∈ lw_tbl := List.mem_of_getElem? (i := 462) (by decide +kernel)
theorem cv_X8_129 : CV RX8 129 YX8_waysLeft 0 := ⟨wm_459, wm_461, wm_13, wm_58, wm_462, ⟨by decide +kernel, by decide +kernel, by decide +kernel⟩⟩
theorem wm_463 : Cond.methodLink RX8 289 yX2_leftBy ∈ lw_tbl := List.mem_of_getElem? (i := 463) (by decide +kernel)
theorem wm_464 : Cond.instanceMethod yX2_leftBy ∈ lw_tbl := List.mem_of_getElem? (i := 464) (by decide +kernel)
theorem wm_465 : Cond.selects yX2_leftBy.cls yX2_leftBy yX2_leftBy ∈ lw_tbl := List.mem_of_getElem? (i := 465) (by decide +kernel)
theorem wm_466 : Cond.code YX2_leftBy.1 YX2_leftBy.2.1 YX2_leftBy.2.2.1 YX2_leftBy.2.2.2 ∈ lw_tbl := List.mem_of_getElem? (i := 466) (by decide +kernel)
theorem cv_X8_289 : CV RX8 289 YX2_leftBy 1 := ⟨wm_463, wm_464, wm_465, wm_60, wm_466, ⟨by decide +kernel, by decide +kernel, by decide +kernel⟩⟩
theorem wm_468 : Cond.methodLink RX8 133 yX2_secretsOf ∈ lw_tbl := List.mem_of_getElem? (i := 468) (by decide +kernel)
theorem wm_469 : Cond.instanceMethod yX2_secretsOf ∈ lw_tbl := List.mem_of_getElem? (i := 469) (by decide +kernel)
theorem wm_470 : Cond.selects yX2_secretsOf.cls yX2_secretsOf yX2_secretsOf ∈ lw_tbl := List.mem_of_getElem? (i := 470) (by decide +kernel)
theorem wm_471 : Cond.code YX2_secretsOf.1 YX2_secretsOf.2.1 YX2_secretsOf.2.2.1 YX2_secretsOf.2.2.2 ∈ lw_tbl := List.mem_of_getElem? (i := 471) (by decide +kernel)
theorem cv_X8_133 : CV RX8 133 YX2_secretsOf 1 := ⟨wm_468, wm_469, wm_470, wm_60, wm_471, ⟨by decide +kernel, by decide +kernel, by decide +kernel⟩⟩
theorem wm_472 : Cond.methodLink RX8 139 yX8_spent ∈ lw_tbl := List.mem_of_getElem? (i := 472) (by decide +kernel)
theorem wm_474 : Cond.instanceMethod yX8_spent ∈ lw_tbl := List.mem_of_getElem? (i := 474) (by decide +kernel)
theorem wm_14 : Cond.selects yX8_spent.cls yX8_spent yX8_spent ∈ lw_tbl := List.mem_of_getElem? (i := 14) (by decide +kernel)
theorem wm_475 : Cond.code YX8_spent.1 YX8_spent.2.1 YX8_spent.2.2.1 YX8_spent.2.2.2 ∈ lw_tbl := List.mem_of_getElem? (i := 475) (by decide +kernel)
theorem cv_X8_139 : CV RX8 139 YX8_spent 0 := ⟨wm_472, wm_474, wm_14, wm_58, wm_475, ⟨by decide +kernel, by decide +kernel, by decide +kernel⟩⟩
theorem wm_476 : Cond.methodLink RX8 292 yX2_costOf ∈ lw_tbl := List.mem_of_getElem? (i := 476) (by decide +kernel)
theorem wm_477 : Cond.instanceMethod yX2_costOf ∈ lw_tbl := List.mem_of_getElem? (i := 477) (by decide +kernel)
theorem wm_478 : Cond.selects yX2_costOf.cls yX2_costOf yX2_costOf ∈ lw_tbl := List.mem_of_getElem? (i := 478) (by decide +kernel)
theorem wm_479 : Cond.code YX2_costOf.1 YX2_costOf.2.1 YX2_costOf.2.2.1 YX2_costOf.2.2.2 ∈ lw_tbl := List.mem_of_getElem? (i := 479) (by decide +kernel)
theorem cv_X8_292 : CV RX8 292 YX2_costOf 1 := ⟨wm_476, wm_477, wm_478, wm_60, wm_479, ⟨by decide +kernel, by decide +kernel, by decide +kernel⟩⟩
theorem wm_481 : Cond.methodLink RX8 296 yJ9_min_7cf53 ∈ lw_tbl := List.mem_of_getElem? (i := 481) (by decide +kernel)
theorem cv_X8_296 : CS RX8 296 YJ9_min_7cf53 2 := ⟨wm_481, wm_362, wm_68, wm_363, ⟨by decide +kernel, by decide +kernel, by decide +kernel⟩⟩
theorem wm_482 : Cond.methodLink RL 31 yX8_likely ∈ lw_tbl := List.mem_of_getElem? (i := 482) (by decide +kernel)
theorem wm_483 : Cond.instanceMethod yX8_likely ∈ lw_tbl := List.mem_of_getElem? (i := 483) (by decide +kernel)
theorem wm_484 : Cond.selects yX8_likely.cls yX8_likely yX8_likely ∈ lw_tbl := List.mem_of_getElem? (i := 484) (by decide +kernel)
theorem wm_485 : Cond.code YX8_likely.1 YX8_likely.2.1 YX8_likely.2.2.1 YX8_likely.2.2.2 ∈ lw_tbl := List.mem_of_getElem? (i := 485) (by decide +kernel)
theorem cv_L_31 : CV RL 31 YX8_likely 1 := ⟨wm_482, wm_483, wm_484, wm_58, wm_485, ⟨by decide +kernel, by decide +kernel, by decide +kernel⟩⟩
theorem wm_486 : Cond.methodLink RX8 147 yX2_hasWay ∈ lw_tbl := List.mem_of_getElem? (i := 486) (by decide +kernel)
theorem wm_487 : Cond.instanceMethod yX2_hasWay ∈ lw_tbl := List.mem_of_getElem? (i := 487) (by decide +kernel)
theorem wm_488 : Cond.selects yX2_hasWay.cls yX2_hasWay yX2_hasWay ∈ lw_tbl := List.mem_of_getElem? (i := 488) (by decide +kernel)
theorem wm_489 : Cond.code YX2_hasWay.1 YX2_hasWay.2.1 YX2_hasWay.2.2.1 YX2_hasWay.2.2.2 ∈ lw_tbl := List.mem_of_getElem? (i := 489) (by decide +kernel)
theorem cv_X8_147 : CV RX8 147 YX2_hasWay 1 := ⟨wm_486, wm_487, wm_488, wm_60, wm_489, ⟨by decide +kernel, by decide +kernel, by decide +kernel⟩⟩
theorem wm_492 : Cond.methodLink RL 35 yX8_test ∈ lw_tbl := List.mem_of_getElem? (i := 492) (by decide +kernel)
theorem wm_493 : Cond.instanceMethod yX8_test ∈ lw_tbl := List.mem_of_getElem? (i := 493) (by decide +kernel)
theorem wm_494 : Cond.selects yX8_test.cls yX8_test yX8_test ∈ lw_tbl := List.mem_of_getElem? (i := 494) (by decide +kernel)
theorem wm_495 : Cond.code YX8_test.1 YX8_test.2.1 YX8_test.2.2.1 YX8_test.2.2.2 ∈ lw_tbl := List.mem_of_getElem? (i := 495) (by decide +kernel)
theorem cv_L_35 : CV RL 35 YX8_test 2 := ⟨wm_492, wm_493, wm_494, wm_58, wm_495, ⟨by decide +kernel, by decide +kernel, by decide +kernel⟩⟩
theorem wm_496 : Cond.methodLink RX8 155 yX2_hasTest ∈ lw_tbl := List.mem_of_getElem? (i := 496) (by decide +kernel)
theorem wm_497 : Cond.instanceMethod yX2_hasTest ∈ lw_tbl := List.mem_of_getElem? (i := 497) (by decide +kernel)
theorem wm_498 : Cond.selects yX2_hasTest.cls yX2_hasTest yX2_hasTest ∈ lw_tbl := List.mem_of_getElem? (i := 498) (by decide +kernel)
theorem wm_499 : Cond.code YX2_hasTest.1 YX2_hasTest.2.1 YX2_hasTest.2.2.1 YX2_hasTest.2.2.2 ∈ lw_tbl := List.mem_of_getElem? (i := 499) (by decide +kernel)
theorem cv_X8_155 : CV RX8 155 YX2_hasTest 1 := ⟨wm_496, wm_497, wm_498, wm_60, wm_499, ⟨by decide +kernel, by decide +kernel, by decide +kernel⟩⟩
theorem wm_500 : Cond.methodLink RX8 167 yX8_has ∈ lw_tbl := List.mem_of_getElem? (i := 500) (by decide +kernel)
theorem wm_421 : Cond.static yX8_has ∈ lw_tbl := List.mem_of_getElem? (i := 421) (by decide +kernel)
theorem wm_422 : Cond.code YX8_has.1 YX8_has.2.1 YX8_has.2.2.1 YX8_has.2.2.2 ∈ lw_tbl := List.mem_of_getElem? (i := 422) (by decide +kernel)
theorem cv_X8_167 : CS RX8 167 YX8_has 2 := ⟨wm_500, wm_421, wm_58, wm_422, ⟨by decide +kernel, by decide +kernel, by decide +kernel⟩⟩
theorem wm_501 : Cond.methodLink RL 40 yX8_servant ∈ lw_tbl := List.mem_of_getElem? (i := 501) (by decide +kernel)
theorem wm_502 : Cond.instanceMethod yX8_servant ∈ lw_tbl := List.mem_of_getElem? (i := 502) (by decide +kernel)
theorem wm_503 : Cond.selects yX8_servant.cls yX8_servant yX8_servant ∈ lw_tbl := List.mem_of_getElem? (i := 503) (by decide +kernel)
theorem wm_504 : Cond.code YX8_servant.1 YX8_servant.2.1 YX8_servant.2.2.1 YX8_servant.2.2.2 ∈ lw_tbl := List.mem_of_getElem? (i := 504) (by decide +kernel)
theorem cv_L_40 : CV RL 40 YX8_servant 2 := ⟨wm_501, wm_502, wm_503, wm_58, wm_504, ⟨by decide +kernel, by decide +kernel, by decide +kernel⟩⟩
theorem wm_505 : Cond.methodLink RX8 171 yX2_hasServant ∈ lw_tbl := List.mem_of_getElem? (i := 505) (by decide +kernel)
theorem wm_506 : Cond.instanceMethod yX2_hasServant ∈ lw_tbl := List.mem_of_getElem? (i := 506) (by decide +kernel)
theorem wm_507 : Cond.selects yX2_hasServant.cls yX2_hasServant yX2_hasServant ∈ lw_tbl := List.mem_of_getElem? (i := 507) (by decide +kernel)
theorem wm_508 : Cond.code YX2_hasServant.1 YX2_hasServant.2.1 YX2_hasServant.2.2.1 YX2_hasServant.2.2.2 ∈ lw_tbl := List.mem_of_getElem? (i := 508) (by decide +kernel)
theorem cv_X8_171 : CV RX8 171 YX2_hasServant 1 := ⟨wm_505, wm_506, wm_507, wm_60, wm_508, ⟨by decide +kernel, by decide +kernel, by decide +kernel⟩⟩
theorem wm_509 : Cond.methodLink RL 44 yX8_day ∈ lw_tbl := List.mem_of_getElem? (i := 509) (by decide +kernel)
theorem wm_510 : Cond.instanceMethod yX8_day ∈ lw_tbl := List.mem_of_getElem? (i := 510) (by decide +kernel)
theorem wm_511 : Cond.selects yX8_day.cls yX8_day yX8_day ∈ lw_tbl := List.mem_of_getElem? (i := 511) (by decide +kernel)
theorem wm_512 : Cond.code YX8_day.1 YX8_day.2.1 YX8_day.2.2.1 YX8_day.2.2.2 ∈ lw_tbl := List.mem_of_getElem? (i := 512) (by decide +kernel)
theorem cv_L_44 : CV RL 44 YX8_day 1 := ⟨wm_509, wm_510, wm_511, wm_58, wm_512, ⟨by decide +kernel, by decide +kernel, by decide +kernel⟩⟩
theorem wm_513 : Cond.methodLink RX8 186 yX8_refusalOfDays ∈ lw_tbl := List.mem_of_getElem? (i := 513) (by decide +kernel)
theorem wm_515 : Cond.instanceMethod yX8_refusalOfDays ∈ lw_tbl := List.mem_of_getElem? (i := 515) (by decide +kernel)
theorem wm_15 : Cond.selects yX8_refusalOfDays.cls yX8_refusalOfDays yX8_refusalOfDays ∈ lw_tbl := List.mem_of_getElem? (i := 15) (by decide +kernel)
theorem wm_516 : Cond.code YX8_refusalOfDays.1 YX8_refusalOfDays.2.1 YX8_refusalOfDays.2.2.1 YX8_refusalOfDays.2.2.2 ∈ lw_tbl := List.mem_of_getElem? (i := 516) (by decide +kernel)
theorem cv_X8_186 : CV RX8 186 YX8_refusalOfDays 1 := ⟨wm_513, wm_515, wm_15, wm_58, wm_516, ⟨by decide +kernel, by decide +kernel, by decide +kernel⟩⟩
theorem wm_517 : Cond.methodLink RX8 202 yX2_stands ∈ lw_tbl := List.mem_of_getElem? (i := 517) (by decide +kernel)
theorem cv_X8_202 : CV RX8 202 YX2_stands 0 := ⟨wm_517, wm_444, wm_445, wm_60, wm_446, ⟨by decide +kernel, by decide +kernel, by decide +kernel⟩⟩
theorem wm_519 : Cond.methodLink RX8 189 yX5_remember ∈ lw_tbl := List.mem_of_getElem? (i := 519) (by decide +kernel)
theorem wm_520 : Cond.instanceMethod yX5_remember ∈ lw_tbl := List.mem_of_getElem? (i := 520) (by decide +kernel)
theorem wm_521 : Cond.selects yX5_remember.cls yX5_remember yX5_remember ∈ lw_tbl := List.mem_of_getElem? (i := 521) (by decide +kernel)
theorem wm_522 : Cond.code YX5_remember.1 YX5_remember.2.1 YX5_remember.2.2.1 YX5_remember.2.2.2 ∈ lw_tbl := List.mem_of_getElem? (i := 522) (by decide +kernel)
theorem cv_X8_189 : CV RX8 189 YX5_remember 1 := ⟨wm_519, wm_520, wm_521, wm_62, wm_522, ⟨by decide +kernel, by decide +kernel, by decide +kernel⟩⟩
theorem wm_523 : Cond.methodLink RX5 25 yX0_copyFrom ∈ lw_tbl := List.mem_of_getElem? (i := 523) (by decide +kernel)
theorem wm_524 : Cond.instanceMethod yX0_copyFrom ∈ lw_tbl := List.mem_of_getElem? (i := 524) (by decide +kernel)
theorem wm_525 : Cond.selects yX0_copyFrom.cls yX0_copyFrom yX0_copyFrom ∈ lw_tbl := List.mem_of_getElem? (i := 525) (by decide +kernel)
theorem wm_526 : Cond.code YX0_copyFrom.1 YX0_copyFrom.2.1 YX0_copyFrom.2.2.1 YX0_copyFrom.2.2.2 ∈ lw_tbl := List.mem_of_getElem? (i := 526) (by decide +kernel)
theorem cv_X5_25 : CV RX5 25 YX0_copyFrom 1 := ⟨wm_523, wm_524, wm_525, wm_61, wm_526, ⟨by decide +kernel, by decide +kernel, by decide +kernel⟩⟩
theorem wm_527 : Cond.methodLink RX5 29 yJ9_min_7cf53 ∈ lw_tbl := List.mem_of_getElem? (i := 527) (by decide +kernel)
theorem cv_X5_29 : CS RX5 29 YJ9_min_7cf53 2 := ⟨wm_527, wm_362, wm_68, wm_363, ⟨by decide +kernel, by decide +kernel, by decide +kernel⟩⟩
theorem wm_528 : Cond.methodLink RX8 193 yX0_passDay ∈ lw_tbl := List.mem_of_getElem? (i := 528) (by decide +kernel)
theorem wm_529 : Cond.instanceMethod yX0_passDay ∈ lw_tbl := List.mem_of_getElem? (i := 529) (by decide +kernel)
theorem wm_530 : Cond.selects yX0_passDay.cls yX0_passDay yX0_passDay ∈ lw_tbl := List.mem_of_getElem? (i := 530) (by decide +kernel)
theorem wm_531 : Cond.code YX0_passDay.1 YX0_passDay.2.1 YX0_passDay.2.2.1 YX0_passDay.2.2.2 ∈ lw_tbl := List.mem_of_getElem? (i := 531) (by decide +kernel)
theorem cv_X8_193 : CV RX8 193 YX0_passDay 1 := ⟨wm_528, wm_529, wm_530, wm_61, wm_531, ⟨by decide +kernel, by decide +kernel, by decide +kernel⟩⟩
theorem wm_533 : Cond.methodLink RX0 61 yX0_give ∈ lw_tbl := List.mem_of_getElem? (i := 533) (by decide +kernel)
theorem wm_534 : Cond.instanceMethod yX0_give ∈ lw_tbl := List.mem_of_getElem? (i := 534) (by decide +kernel)
theorem wm_535 : Cond.selects yX0_give.cls yX0_give yX0_give ∈ lw_tbl := List.mem_of_getElem? (i := 535) (by decide +kernel)
theorem wm_536 : Cond.code YX0_give.1 YX0_give.2.1 YX0_give.2.2.1 YX0_give.2.2.2 ∈ lw_tbl := List.mem_of_getElem? (i := 536) (by decide +kernel)
theorem cv_X0_61 : CV RX0 61 YX0_give 2 := ⟨wm_533, wm_534, wm_535, wm_61, wm_536, ⟨by decide +kernel, by decide +kernel, by decide +kernel⟩⟩
theorem wm_539 : Cond.methodLink RX0 77 yJ9_min_7cf53 ∈ lw_tbl := List.mem_of_getElem? (i := 539) (by decide +kernel)
theorem cv_X0_77 : CS RX0 77 YJ9_min_7cf53 2 := ⟨wm_539, wm_362, wm_68, wm_363, ⟨by decide +kernel, by decide +kernel, by decide +kernel⟩⟩
theorem wm_540 : Cond.methodLink RL 48 yX8_make ∈ lw_tbl := List.mem_of_getElem? (i := 540) (by decide +kernel)
theorem wm_541 : Cond.instanceMethod yX8_make ∈ lw_tbl := List.mem_of_getElem? (i := 541) (by decide +kernel)
theorem wm_542 : Cond.selects yX8_make.cls yX8_make yX8_make ∈ lw_tbl := List.mem_of_getElem? (i := 542) (by decide +kernel)
theorem wm_543 : Cond.code YX8_make.1 YX8_make.2.1 YX8_make.2.2.1 YX8_make.2.2.2 ∈ lw_tbl := List.mem_of_getElem? (i := 543) (by decide +kernel)
theorem cv_L_48 : CV RL 48 YX8_make 1 := ⟨wm_540, wm_541, wm_542, wm_58, wm_543, ⟨by decide +kernel, by decide +kernel, by decide +kernel⟩⟩
theorem wm_544 : Cond.methodLink RX8 197 yX0_canMake ∈ lw_tbl := List.mem_of_getElem? (i := 544) (by decide +kernel)
theorem wm_545 : Cond.instanceMethod yX0_canMake ∈ lw_tbl := List.mem_of_getElem? (i := 545) (by decide +kernel)
theorem wm_546 : Cond.selects yX0_canMake.cls yX0_canMake yX0_canMake ∈ lw_tbl := List.mem_of_getElem? (i := 546) (by decide +kernel)
theorem wm_547 : Cond.code YX0_canMake.1 YX0_canMake.2.1 YX0_canMake.2.2.1 YX0_canMake.2.2.2 ∈ lw_tbl := List.mem_of_getElem? (i := 547) (by decide +kernel)
theorem cv_X8_197 : CV RX8 197 YX0_canMake 2 := ⟨wm_544, wm_545, wm_546, wm_61, wm_547, ⟨by decide +kernel, by decide +kernel, by decide +kernel⟩⟩
theorem wm_548 : Cond.methodLink RX0 65 yX2_hasTest ∈ lw_tbl := List.mem_of_getElem? (i := 548) (by decide +kernel)
theorem cv_X0_65 : CV RX0 65 YX2_hasTest 1 := ⟨wm_548, wm_497, wm_498, wm_60, wm_499, ⟨by decide +kernel, by decide +kernel, by decide +kernel⟩⟩
theorem wm_549 : Cond.methodLink RL 52 yX8_seal ∈ lw_tbl := List.mem_of_getElem? (i := 549) (by decide +kernel)
theorem wm_550 : Cond.instanceMethod yX8_seal ∈ lw_tbl := List.mem_of_getElem? (i := 550) (by decide +kernel)
theorem wm_551 : Cond.selects yX8_seal.cls yX8_seal yX8_seal ∈ lw_tbl := List.mem_of_getElem? (i := 551) (by decide +kernel)
theorem wm_552 : Cond.code YX8_seal.1 YX8_seal.2.1 YX8_seal.2.2.1 YX8_seal.2.2.2 ∈ lw_tbl := List.mem_of_getElem? (i := 552) (by decide +kernel)
theorem cv_L_52 : CV RL 52 YX8_seal 1 := ⟨wm_549, wm_550, wm_551, wm_58, wm_552, ⟨by decide +kernel, by decide +kernel, by decide +kernel⟩⟩
theorem wm_553 : Cond.methodLink RL 57 yX8_smash ∈ lw_tbl := List.mem_of_getElem? (i := 553) (by decide +kernel)
theorem wm_554 : Cond.instanceMethod yX8_smash ∈ lw_tbl := List.mem_of_getElem? (i := 554) (by decide +kernel)
theorem wm_555 : Cond.selects yX8_smash.cls yX8_smash yX8_smash ∈ lw_tbl := List.mem_of_getElem? (i := 555) (by decide +kernel)
theorem wm_556 : Cond.code YX8_smash.1 YX8_smash.2.1 YX8_smash.2.2.1 YX8_smash.2.2.2 ∈ lw_tbl := List.mem_of_getElem? (i := 556) (by decide +kernel)
theorem cv_L_57 : CV RL 57 YX8_smash 0 := ⟨wm_553, wm_554, wm_555, wm_58, wm_556, ⟨by decide +kernel, by decide +kernel, by decide +kernel⟩⟩
theorem wm_557 : Cond.methodLink RL 61 yX8_hire ∈ lw_tbl := List.mem_of_getElem? (i := 557) (by decide +kernel)
theorem wm_558 : Cond.instanceMethod yX8_hire ∈ lw_tbl := List.mem_of_getElem? (i := 558) (by decide +kernel)
theorem wm_559 : Cond.selects yX8_hire.cls yX8_hire yX8_hire ∈ lw_tbl := List.mem_of_getElem? (i := 559) (by decide +kernel)
theorem wm_560 : Cond.code YX8_hire.1 YX8_hire.2.1 YX8_hire.2.2.1 YX8_hire.2.2.2 ∈ lw_tbl := List.mem_of_getElem? (i := 560) (by decide +kernel)
theorem cv_L_61 : CV RL 61 YX8_hire 2 := ⟨wm_557, wm_558, wm_559, wm_58, wm_560, ⟨by decide +kernel, by decide +kernel, by decide +kernel⟩⟩
theorem wm_561 : Cond.methodLink RX8 206 yX0_setHired ∈ lw_tbl := List.mem_of_getElem? (i := 561) (by decide +kernel)
theorem wm_562 : Cond.instanceMethod yX0_setHired ∈ lw_tbl := List.mem_of_getElem? (i := 562) (by decide +kernel)
theorem wm_563 : Cond.selects yX0_setHired.cls yX0_setHired yX0_setHired ∈ lw_tbl := List.mem_of_getElem? (i := 563) (by decide +kernel)
theorem wm_564 : Cond.code YX0_setHired.1 YX0_setHired.2.1 YX0_setHired.2.2.1 YX0_setHired.2.2.2 ∈ lw_tbl := List.mem_of_getElem? (i := 564) (by decide +kernel)
theorem cv_X8_206 : CV RX8 206 YX0_setHired 2 := ⟨wm_561, wm_562, wm_563, wm_61, wm_564, ⟨by decide +kernel, by decide +kernel, by decide +kernel⟩⟩
theorem wm_565 : Cond.methodLink RL 66 yX8_buy ∈ lw_tbl := List.mem_of_getElem? (i := 565) (by decide +kernel)
theorem wm_566 : Cond.instanceMethod yX8_buy ∈ lw_tbl := List.mem_of_getElem? (i := 566) (by decide +kernel)
theorem wm_567 : Cond.selects yX8_buy.cls yX8_buy yX8_buy ∈ lw_tbl := List.mem_of_getElem? (i := 567) (by decide +kernel)
theorem wm_568 : Cond.code YX8_buy.1 YX8_buy.2.1 YX8_buy.2.2.1 YX8_buy.2.2.2 ∈ lw_tbl := List.mem_of_getElem? (i := 568) (by decide +kernel)
theorem cv_L_66 : CV RL 66 YX8_buy 3 := ⟨wm_565, wm_566, wm_567, wm_58, wm_568, ⟨by decide +kernel, by decide +kernel, by decide +kernel⟩⟩
theorem wm_569 : Cond.methodLink RX8 210 yX2_hasWays ∈ lw_tbl := List.mem_of_getElem? (i := 569) (by decide +kernel)
theorem cv_X8_210 : CV RX8 210 YX2_hasWays 1 := ⟨wm_569, wm_413, wm_414, wm_60, wm_415, ⟨by decide +kernel, by decide +kernel, by decide +kernel⟩⟩
theorem wm_570 : Cond.methodLink RX8 213 yX0_give ∈ lw_tbl := List.mem_of_getElem? (i := 570) (by decide +kernel)
theorem cv_X8_213 : CV RX8 213 YX0_give 2 := ⟨wm_570, wm_534, wm_535, wm_61, wm_536, ⟨by decide +kernel, by decide +kernel, by decide +kernel⟩⟩
theorem wm_571 : Cond.methodLink RL 71 yX8_drift ∈ lw_tbl := List.mem_of_getElem? (i := 571) (by decide +kernel)
theorem wm_572 : Cond.instanceMethod yX8_drift ∈ lw_tbl := List.mem_of_getElem? (i := 572) (by decide +kernel)
theorem wm_573 : Cond.selects yX8_drift.cls yX8_drift yX8_drift ∈ lw_tbl := List.mem_of_getElem? (i := 573) (by decide +kernel)
theorem wm_574 : Cond.code YX8_drift.1 YX8_drift.2.1 YX8_drift.2.2.1 YX8_drift.2.2.2 ∈ lw_tbl := List.mem_of_getElem? (i := 574) (by decide +kernel)
theorem cv_L_71 : CV RL 71 YX8_drift 1 := ⟨wm_571, wm_572, wm_573, wm_58, wm_574, ⟨by decide +kernel, by decide +kernel, by decide +kernel⟩⟩
theorem wm_575 : Cond.methodLink RX8 217 yX8_doByDraw ∈ lw_tbl := List.mem_of_getElem? (i := 575) (by decide +kernel)
theorem wm_577 : Cond.instanceMethod yX8_doByDraw ∈ lw_tbl := List.mem_of_getElem? (i := 577) (by decide +kernel)
theorem wm_16 : Cond.selects yX8_doByDraw.cls yX8_doByDraw yX8_doByDraw ∈ lw_tbl := List.mem_of_getElem? (i := 16) (by decide +kernel)
theorem wm_578 : Cond.code YX8_doByDraw.1 YX8_doByDraw.2.1 YX8_doByDraw.2.2.1 YX8_doByDraw.2.2.2 ∈ lw_tbl := List.mem_of_getElem? (i := 578) (by decide +kernel)
theorem cv_X8_217 : CV RX8 217 YX8_doByDraw 0 := ⟨wm_575, wm_577, wm_16, wm_58, wm_578, ⟨by decide +kernel, by decide +kernel, by decide +kernel⟩⟩
theorem wm_579 : Cond.methodLink RX8 301 yX3_draw ∈ lw_tbl := List.mem_of_getElem? (i := 579) (by decide +kernel)
theorem wm_580 : Cond.instanceMethod yX3_draw ∈ lw_tbl := List.mem_of_getElem? (i := 580) (by decide +kernel)
theorem wm_581 : Cond.selects yX3_draw.cls yX3_draw yX3_draw ∈ lw_tbl := List.mem_of_getElem? (i := 581) (by decide +kernel)
theorem wm_65 : Cond.initialized RX3 ∈ lw_tbl := List.mem_of_getElem? (i := 65) (by decide +kernel)
theorem wm_582 : Cond.code YX3_draw.1 YX3_draw.2.1 YX3_draw.2.2.1 YX3_draw.2.2.2 ∈ lw_tbl := List.mem_of_getElem? (i := 582) (by decide +kernel)
theorem cv_X8_301 : CV RX8 301 YX3_draw 1 := ⟨wm_579, wm_580, wm_581, wm_65, wm_582, ⟨by decide +kernel, by decide +kernel, by decide +kernel⟩⟩
theorem wm_587 : Cond.methodLink RL 75 yX8_undo ∈ lw_tbl := List.mem_of_getElem? (i := 587) (by decide +kernel)
theorem wm_588 : Cond.instanceMethod yX8_undo ∈ lw_tbl := List.mem_of_getElem? (i := 588) (by decide +kernel)
theorem wm_589 : Cond.selects yX8_undo.cls yX8_undo yX8_undo ∈ lw_tbl := List.mem_of_getElem? (i := 589) (by decide +kernel)
theorem wm_590 : Cond.code YX8_undo.1 YX8_undo.2.1 YX8_undo.2.2.1 YX8_undo.2.2.2 ∈ lw_tbl := List.mem_of_getElem? (i := 590) (by decide +kernel)
theorem cv_L_75 : CV RL 75 YX8_undo 0 := ⟨wm_587, wm_588, wm_589, wm_58, wm_590, ⟨by decide +kernel, by decide +kernel, by decide +kernel⟩⟩
theorem wm_591 : Cond.methodLink RX8 220 yX5_recall ∈ lw_tbl := List.mem_of_getElem? (i := 591) (by decide +kernel)
theorem wm_592 : Cond.instanceMethod yX5_recall ∈ lw_tbl := List.mem_of_getElem? (i := 592) (by decide +kernel)
theorem wm_593 : Cond.selects yX5_recall.cls yX5_recall yX5_recall ∈ lw_tbl := List.mem_of_getElem? (i := 593) (by decide +kernel)
theorem wm_594 : Cond.code YX5_recall.1 YX5_recall.2.1 YX5_recall.2.2.1 YX5_recall.2.2.2 ∈ lw_tbl := List.mem_of_getElem? (i := 594) (by decide +kernel)
theorem cv_X8_220 : CV RX8 220 YX5_recall 1 := ⟨wm_591, wm_592, wm_593, wm_62, wm_594, ⟨by decide +kernel, by decide +kernel, by decide +kernel⟩⟩
theorem wm_595 : Cond.methodLink RL 79 yX8_belief ∈ lw_tbl := List.mem_of_getElem? (i := 595) (by decide +kernel)
theorem wm_596 : Cond.instanceMethod yX8_belief ∈ lw_tbl := List.mem_of_getElem? (i := 596) (by decide +kernel)
theorem wm_597 : Cond.selects yX8_belief.cls yX8_belief yX8_belief ∈ lw_tbl := List.mem_of_getElem? (i := 597) (by decide +kernel)
theorem wm_598 : Cond.code YX8_belief.1 YX8_belief.2.1 YX8_belief.2.2.1 YX8_belief.2.2.2 ∈ lw_tbl := List.mem_of_getElem? (i := 598) (by decide +kernel)
theorem cv_L_79 : CV RL 79 YX8_belief 1 := ⟨wm_595, wm_596, wm_597, wm_58, wm_598, ⟨by decide +kernel, by decide +kernel, by decide +kernel⟩⟩
theorem wm_599 : Cond.methodLink RX8 223 yX2_beliefIn ∈ lw_tbl := List.mem_of_getElem? (i := 599) (by decide +kernel)
theorem wm_600 : Cond.instanceMethod yX2_beliefIn ∈ lw_tbl := List.mem_of_getElem? (i := 600) (by decide +kernel)
theorem wm_601 : Cond.selects yX2_beliefIn.cls yX2_beliefIn yX2_beliefIn ∈ lw_tbl := List.mem_of_getElem? (i := 601) (by decide +kernel)
theorem wm_602 : Cond.code YX2_beliefIn.1 YX2_beliefIn.2.1 YX2_beliefIn.2.2.1 YX2_beliefIn.2.2.2 ∈ lw_tbl := List.mem_of_getElem? (i := 602) (by decide +kernel)
theorem cv_X8_223 : CV RX8 223 YX2_beliefIn 2 := ⟨wm_599, wm_600, wm_601, wm_60, wm_602, ⟨by decide +kernel, by decide +kernel, by decide +kernel⟩⟩
theorem wm_603 : Cond.methodLink RX2 58 yX2_likelyOf ∈ lw_tbl := List.mem_of_getElem? (i := 603) (by decide +kernel)
theorem wm_604 : Cond.instanceMethod yX2_likelyOf ∈ lw_tbl := List.mem_of_getElem? (i := 604) (by decide +kernel)
theorem wm_605 : Cond.selects yX2_likelyOf.cls yX2_likelyOf yX2_likelyOf ∈ lw_tbl := List.mem_of_getElem? (i := 605) (by decide +kernel)
theorem wm_606 : Cond.code YX2_likelyOf.1 YX2_likelyOf.2.1 YX2_likelyOf.2.2.1 YX2_likelyOf.2.2.2 ∈ lw_tbl := List.mem_of_getElem? (i := 606) (by decide +kernel)
theorem cv_X2_58 : CV RX2 58 YX2_likelyOf 1 := ⟨wm_603, wm_604, wm_605, wm_60, wm_606, ⟨by decide +kernel, by decide +kernel, by decide +kernel⟩⟩
theorem wm_607 : Cond.methodLink RX2 62 yX2_hasWay ∈ lw_tbl := List.mem_of_getElem? (i := 607) (by decide +kernel)
theorem cv_X2_62 : CV RX2 62 YX2_hasWay 1 := ⟨wm_607, wm_487, wm_488, wm_60, wm_489, ⟨by decide +kernel, by decide +kernel, by decide +kernel⟩⟩
theorem wm_609 : Cond.methodLink RL 83 yX8_liars ∈ lw_tbl := List.mem_of_getElem? (i := 609) (by decide +kernel)
theorem wm_610 : Cond.instanceMethod yX8_liars ∈ lw_tbl := List.mem_of_getElem? (i := 610) (by decide +kernel)
theorem wm_611 : Cond.selects yX8_liars.cls yX8_liars yX8_liars ∈ lw_tbl := List.mem_of_getElem? (i := 611) (by decide +kernel)
theorem wm_612 : Cond.code YX8_liars.1 YX8_liars.2.1 YX8_liars.2.2.1 YX8_liars.2.2.2 ∈ lw_tbl := List.mem_of_getElem? (i := 612) (by decide +kernel)
theorem cv_L_83 : CV RL 83 YX8_liars 1 := ⟨wm_609, wm_610, wm_611, wm_58, wm_612, ⟨by decide +kernel, by decide +kernel, by decide +kernel⟩⟩
theorem wm_613 : Cond.methodLink RX8 227 yX8_liarsBy ∈ lw_tbl := List.mem_of_getElem? (i := 613) (by decide +kernel)
theorem wm_615 : Cond.instanceMethod yX8_liarsBy ∈ lw_tbl := List.mem_of_getElem? (i := 615) (by decide +kernel)
theorem wm_17 : Cond.selects yX8_liarsBy.cls yX8_liarsBy yX8_liarsBy ∈ lw_tbl := List.mem_of_getElem? (i := 17) (by decide +kernel)
theorem wm_616 : Cond.code YX8_liarsBy.1 YX8_liarsBy.2.1 YX8_liarsBy.2.2.1 YX8_liarsBy.2.2.2 ∈ lw_tbl := List.mem_of_getElem? (i := 616) (by decide +kernel)
theorem cv_X8_227 : CV RX8 227 YX8_liarsBy 1 := ⟨wm_613, wm_615, wm_17, wm_58, wm_616, ⟨by decide +kernel, by decide +kernel, by decide +kernel⟩⟩
theorem wm_617 : Cond.methodLink RL 87 yX8_leastLiars ∈ lw_tbl := List.mem_of_getElem? (i := 617) (by decide +kernel)
theorem wm_618 : Cond.instanceMethod yX8_leastLiars ∈ lw_tbl := List.mem_of_getElem? (i := 618) (by decide +kernel)
theorem wm_619 : Cond.selects yX8_leastLiars.cls yX8_leastLiars yX8_leastLiars ∈ lw_tbl := List.mem_of_getElem? (i := 619) (by decide +kernel)
theorem wm_620 : Cond.code YX8_leastLiars.1 YX8_leastLiars.2.1 YX8_leastLiars.2.2.1 YX8_leastLiars.2.2.2 ∈ lw_tbl := List.mem_of_getElem? (i := 620) (by decide +kernel)
theorem cv_L_87 : CV RL 87 YX8_leastLiars 1 := ⟨wm_617, wm_618, wm_619, wm_58, wm_620, ⟨by decide +kernel, by decide +kernel, by decide +kernel⟩⟩
theorem wm_621 : Cond.methodLink RX8 230 yX8_wayOfFewestLiars ∈ lw_tbl := List.mem_of_getElem? (i := 621) (by decide +kernel)
theorem wm_623 : Cond.instanceMethod yX8_wayOfFewestLiars ∈ lw_tbl := List.mem_of_getElem? (i := 623) (by decide +kernel)
theorem wm_18 : Cond.selects yX8_wayOfFewestLiars.cls yX8_wayOfFewestLiars yX8_wayOfFewestLiars ∈ lw_tbl := List.mem_of_getElem? (i := 18) (by decide +kernel)
theorem wm_624 : Cond.code YX8_wayOfFewestLiars.1 YX8_wayOfFewestLiars.2.1 YX8_wayOfFewestLiars.2.2.1 YX8_wayOfFewestLiars.2.2.2 ∈ lw_tbl := List.mem_of_getElem? (i := 624) (by decide +kernel)
theorem cv_X8_230 : CV RX8 230 YX8_wayOfFewestLiars 0 := ⟨wm_621, wm_623, wm_18, wm_58, wm_624, ⟨by decide +kernel, by decide +kernel, by decide +kernel⟩⟩
theorem wm_625 : Cond.methodLink RX8 233 yJ6_bitCount_0f7a4 ∈ lw_tbl := List.mem_of_getElem? (i := 625) (by decide +kernel)
theorem wm_626 : Cond.static yJ6_bitCount_0f7a4 ∈ lw_tbl := List.mem_of_getElem? (i := 626) (by decide +kernel)
theorem wm_69 : Cond.initialized RJ6 ∈ lw_tbl := List.mem_of_getElem? (i := 69) (by decide +kernel)
theorem wm_627 : Cond.code YJ6_bitCount_0f7a4.1 YJ6_bitCount_0f7a4.2.1 YJ6_bitCount_0f7a4.2.2.1 YJ6_bitCount_0f7a4.2.2.2 ∈ lw_tbl := List.mem_of_getElem? (i := 627) (by decide +kernel)
theorem cv_X8_233 : CS RX8 233 YJ6_bitCount_0f7a4 1 := ⟨wm_625, wm_626, wm_69, wm_627, ⟨by decide +kernel, by decide +kernel, by decide +kernel⟩⟩
theorem wm_631 : Cond.methodLink RL 91 yX8_ruleOut ∈ lw_tbl := List.mem_of_getElem? (i := 631) (by decide +kernel)
theorem wm_632 : Cond.instanceMethod yX8_ruleOut ∈ lw_tbl := List.mem_of_getElem? (i := 632) (by decide +kernel)
theorem wm_633 : Cond.selects yX8_ruleOut.cls yX8_ruleOut yX8_ruleOut ∈ lw_tbl := List.mem_of_getElem? (i := 633) (by decide +kernel)
theorem wm_634 : Cond.code YX8_ruleOut.1 YX8_ruleOut.2.1 YX8_ruleOut.2.2.1 YX8_ruleOut.2.2.2 ∈ lw_tbl := List.mem_of_getElem? (i := 634) (by decide +kernel)
theorem cv_L_91 : CV RL 91 YX8_ruleOut 3 := ⟨wm_631, wm_632, wm_633, wm_58, wm_634, ⟨by decide +kernel, by decide +kernel, by decide +kernel⟩⟩
theorem wm_635 : Cond.methodLink RX8 238 yX8_cheapestTests ∈ lw_tbl := List.mem_of_getElem? (i := 635) (by decide +kernel)
theorem wm_637 : Cond.instanceMethod yX8_cheapestTests ∈ lw_tbl := List.mem_of_getElem? (i := 637) (by decide +kernel)
theorem wm_19 : Cond.selects yX8_cheapestTests.cls yX8_cheapestTests yX8_cheapestTests ∈ lw_tbl := List.mem_of_getElem? (i := 19) (by decide +kernel)
theorem wm_638 : Cond.code YX8_cheapestTests.1 YX8_cheapestTests.2.1 YX8_cheapestTests.2.2.1 YX8_cheapestTests.2.2.2 ∈ lw_tbl := List.mem_of_getElem? (i := 638) (by decide +kernel)
theorem cv_X8_238 : CV RX8 238 YX8_cheapestTests 2 := ⟨wm_635, wm_637, wm_19, wm_58, wm_638, ⟨by decide +kernel, by decide +kernel, by decide +kernel⟩⟩
theorem wm_639 : Cond.methodLink RX8 241 yX8_costYet ∈ lw_tbl := List.mem_of_getElem? (i := 639) (by decide +kernel)
theorem wm_641 : Cond.instanceMethod yX8_costYet ∈ lw_tbl := List.mem_of_getElem? (i := 641) (by decide +kernel)
theorem wm_20 : Cond.selects yX8_costYet.cls yX8_costYet yX8_costYet ∈ lw_tbl := List.mem_of_getElem? (i := 20) (by decide +kernel)
theorem wm_642 : Cond.code YX8_costYet.1 YX8_costYet.2.1 YX8_costYet.2.2.1 YX8_costYet.2.2.2 ∈ lw_tbl := List.mem_of_getElem? (i := 642) (by decide +kernel)
theorem cv_X8_241 : CV RX8 241 YX8_costYet 1 := ⟨wm_639, wm_641, wm_20, wm_58, wm_642, ⟨by decide +kernel, by decide +kernel, by decide +kernel⟩⟩
theorem wm_643 : Cond.methodLink RL 95 yX8_next ∈ lw_tbl := List.mem_of_getElem? (i := 643) (by decide +kernel)
theorem wm_644 : Cond.instanceMethod yX8_next ∈ lw_tbl := List.mem_of_getElem? (i := 644) (by decide +kernel)
theorem wm_645 : Cond.selects yX8_next.cls yX8_next yX8_next ∈ lw_tbl := List.mem_of_getElem? (i := 645) (by decide +kernel)
theorem wm_646 : Cond.code YX8_next.1 YX8_next.2.1 YX8_next.2.2.1 YX8_next.2.2.2 ∈ lw_tbl := List.mem_of_getElem? (i := 646) (by decide +kernel)
theorem cv_L_95 : CV RL 95 YX8_next 0 := ⟨wm_643, wm_644, wm_645, wm_58, wm_646, ⟨by decide +kernel, by decide +kernel, by decide +kernel⟩⟩
theorem wm_647 : Cond.methodLink RX8 244 yX2_likelyOf ∈ lw_tbl := List.mem_of_getElem? (i := 647) (by decide +kernel)
theorem cv_X8_244 : CV RX8 244 YX2_likelyOf 1 := ⟨wm_647, wm_604, wm_605, wm_60, wm_606, ⟨by decide +kernel, by decide +kernel, by decide +kernel⟩⟩
theorem wm_648 : Cond.methodLink RL 99 yX8_offer ∈ lw_tbl := List.mem_of_getElem? (i := 648) (by decide +kernel)
theorem wm_649 : Cond.instanceMethod yX8_offer ∈ lw_tbl := List.mem_of_getElem? (i := 649) (by decide +kernel)
theorem wm_650 : Cond.selects yX8_offer.cls yX8_offer yX8_offer ∈ lw_tbl := List.mem_of_getElem? (i := 650) (by decide +kernel)
theorem wm_651 : Cond.code YX8_offer.1 YX8_offer.2.1 YX8_offer.2.2.1 YX8_offer.2.2.2 ∈ lw_tbl := List.mem_of_getElem? (i := 651) (by decide +kernel)
theorem cv_L_99 : CV RL 99 YX8_offer 2 := ⟨wm_648, wm_649, wm_650, wm_58, wm_651, ⟨by decide +kernel, by decide +kernel, by decide +kernel⟩⟩
theorem wm_652 : Cond.methodLink RX8 247 yX8_offerFor ∈ lw_tbl := List.mem_of_getElem? (i := 652) (by decide +kernel)
theorem wm_654 : Cond.instanceMethod yX8_offerFor ∈ lw_tbl := List.mem_of_getElem? (i := 654) (by decide +kernel)
theorem wm_21 : Cond.selects yX8_offerFor.cls yX8_offerFor yX8_offerFor ∈ lw_tbl := List.mem_of_getElem? (i := 21) (by decide +kernel)
theorem wm_655 : Cond.code YX8_offerFor.1 YX8_offerFor.2.1 YX8_offerFor.2.2.1 YX8_offerFor.2.2.2 ∈ lw_tbl := List.mem_of_getElem? (i := 655) (by decide +kernel)
theorem cv_X8_247 : CV RX8 247 YX8_offerFor 3 := ⟨wm_652, wm_654, wm_21, wm_58, wm_655, ⟨by decide +kernel, by decide +kernel, by decide +kernel⟩⟩
theorem wm_657 : Cond.methodLink RX8 306 yJ9_max_7cf53 ∈ lw_tbl := List.mem_of_getElem? (i := 657) (by decide +kernel)
theorem wm_658 : Cond.static yJ9_max_7cf53 ∈ lw_tbl := List.mem_of_getElem? (i := 658) (by decide +kernel)
theorem wm_659 : Cond.code YJ9_max_7cf53.1 YJ9_max_7cf53.2.1 YJ9_max_7cf53.2.2.1 YJ9_max_7cf53.2.2.2 ∈ lw_tbl := List.mem_of_getElem? (i := 659) (by decide +kernel)
theorem cv_X8_306 : CS RX8 306 YJ9_max_7cf53 2 := ⟨wm_657, wm_658, wm_68, wm_659, ⟨by decide +kernel, by decide +kernel, by decide +kernel⟩⟩
theorem wm_660 : Cond.methodLink RL 103 yX8_both ∈ lw_tbl := List.mem_of_getElem? (i := 660) (by decide +kernel)
theorem wm_661 : Cond.instanceMethod yX8_both ∈ lw_tbl := List.mem_of_getElem? (i := 661) (by decide +kernel)
theorem wm_662 : Cond.selects yX8_both.cls yX8_both yX8_both ∈ lw_tbl := List.mem_of_getElem? (i := 662) (by decide +kernel)
theorem wm_663 : Cond.code YX8_both.1 YX8_both.2.1 YX8_both.2.2.1 YX8_both.2.2.2 ∈ lw_tbl := List.mem_of_getElem? (i := 663) (by decide +kernel)
theorem cv_L_103 : CV RL 103 YX8_both 3 := ⟨wm_660, wm_661, wm_662, wm_58, wm_663, ⟨by decide +kernel, by decide +kernel, by decide +kernel⟩⟩
theorem wm_664 : Cond.methodLink RL 107 yX8_worth ∈ lw_tbl := List.mem_of_getElem? (i := 664) (by decide +kernel)
theorem wm_665 : Cond.instanceMethod yX8_worth ∈ lw_tbl := List.mem_of_getElem? (i := 665) (by decide +kernel)
theorem wm_666 : Cond.selects yX8_worth.cls yX8_worth yX8_worth ∈ lw_tbl := List.mem_of_getElem? (i := 666) (by decide +kernel)
theorem wm_667 : Cond.code YX8_worth.1 YX8_worth.2.1 YX8_worth.2.2.1 YX8_worth.2.2.2 ∈ lw_tbl := List.mem_of_getElem? (i := 667) (by decide +kernel)
theorem cv_L_107 : CV RL 107 YX8_worth 2 := ⟨wm_664, wm_665, wm_666, wm_58, wm_667, ⟨by decide +kernel, by decide +kernel, by decide +kernel⟩⟩
theorem wm_669 : Cond.methodLink RL 111 yX8_secret ∈ lw_tbl := List.mem_of_getElem? (i := 669) (by decide +kernel)
theorem wm_670 : Cond.instanceMethod yX8_secret ∈ lw_tbl := List.mem_of_getElem? (i := 670) (by decide +kernel)
theorem wm_671 : Cond.selects yX8_secret.cls yX8_secret yX8_secret ∈ lw_tbl := List.mem_of_getElem? (i := 671) (by decide +kernel)
theorem wm_672 : Cond.code YX8_secret.1 YX8_secret.2.1 YX8_secret.2.2.1 YX8_secret.2.2.2 ∈ lw_tbl := List.mem_of_getElem? (i := 672) (by decide +kernel)
theorem cv_L_111 : CV RL 111 YX8_secret 2 := ⟨wm_669, wm_670, wm_671, wm_58, wm_672, ⟨by decide +kernel, by decide +kernel, by decide +kernel⟩⟩
theorem wm_674 : Cond.methodLink RL 115 yX8_hear ∈ lw_tbl := List.mem_of_getElem? (i := 674) (by decide +kernel)
theorem wm_675 : Cond.instanceMethod yX8_hear ∈ lw_tbl := List.mem_of_getElem? (i := 675) (by decide +kernel)
theorem wm_676 : Cond.selects yX8_hear.cls yX8_hear yX8_hear ∈ lw_tbl := List.mem_of_getElem? (i := 676) (by decide +kernel)
theorem wm_677 : Cond.code YX8_hear.1 YX8_hear.2.1 YX8_hear.2.2.1 YX8_hear.2.2.2 ∈ lw_tbl := List.mem_of_getElem? (i := 677) (by decide +kernel)
theorem cv_L_115 : CV RL 115 YX8_hear 2 := ⟨wm_674, wm_675, wm_676, wm_58, wm_677, ⟨by decide +kernel, by decide +kernel, by decide +kernel⟩⟩
theorem wm_678 : Cond.methodLink RX8 253 yX4_add ∈ lw_tbl := List.mem_of_getElem? (i := 678) (by decide +kernel)
theorem wm_679 : Cond.instanceMethod yX4_add ∈ lw_tbl := List.mem_of_getElem? (i := 679) (by decide +kernel)
theorem wm_680 : Cond.selects yX4_add.cls yX4_add yX4_add ∈ lw_tbl := List.mem_of_getElem? (i := 680) (by decide +kernel)
theorem wm_63 : Cond.initialized RX4 ∈ lw_tbl := List.mem_of_getElem? (i := 63) (by decide +kernel)
theorem wm_681 : Cond.code YX4_add.1 YX4_add.2.1 YX4_add.2.2.1 YX4_add.2.2.2 ∈ lw_tbl := List.mem_of_getElem? (i := 681) (by decide +kernel)
theorem cv_X8_253 : CV RX8 253 YX4_add 2 := ⟨wm_678, wm_679, wm_680, wm_63, wm_681, ⟨by decide +kernel, by decide +kernel, by decide +kernel⟩⟩
theorem wm_682 : Cond.methodLink RL 119 yX8_paid ∈ lw_tbl := List.mem_of_getElem? (i := 682) (by decide +kernel)
theorem wm_683 : Cond.instanceMethod yX8_paid ∈ lw_tbl := List.mem_of_getElem? (i := 683) (by decide +kernel)
theorem wm_684 : Cond.selects yX8_paid.cls yX8_paid yX8_paid ∈ lw_tbl := List.mem_of_getElem? (i := 684) (by decide +kernel)
theorem wm_685 : Cond.code YX8_paid.1 YX8_paid.2.1 YX8_paid.2.2.1 YX8_paid.2.2.2 ∈ lw_tbl := List.mem_of_getElem? (i := 685) (by decide +kernel)
theorem cv_L_119 : CV RL 119 YX8_paid 0 := ⟨wm_682, wm_683, wm_684, wm_58, wm_685, ⟨by decide +kernel, by decide +kernel, by decide +kernel⟩⟩
theorem wm_686 : Cond.methodLink RX8 257 yX4_fitting ∈ lw_tbl := List.mem_of_getElem? (i := 686) (by decide +kernel)
theorem wm_687 : Cond.instanceMethod yX4_fitting ∈ lw_tbl := List.mem_of_getElem? (i := 687) (by decide +kernel)
theorem wm_688 : Cond.selects yX4_fitting.cls yX4_fitting yX4_fitting ∈ lw_tbl := List.mem_of_getElem? (i := 688) (by decide +kernel)
theorem wm_689 : Cond.code YX4_fitting.1 YX4_fitting.2.1 YX4_fitting.2.2.1 YX4_fitting.2.2.2 ∈ lw_tbl := List.mem_of_getElem? (i := 689) (by decide +kernel)
theorem cv_X8_257 : CV RX8 257 YX4_fitting 1 := ⟨wm_686, wm_687, wm_688, wm_63, wm_689, ⟨by decide +kernel, by decide +kernel, by decide +kernel⟩⟩
theorem wm_690 : Cond.methodLink RX4 23 yX4_fits ∈ lw_tbl := List.mem_of_getElem? (i := 690) (by decide +kernel)
theorem wm_692 : Cond.instanceMethod yX4_fits ∈ lw_tbl := List.mem_of_getElem? (i := 692) (by decide +kernel)
theorem wm_22 : Cond.selects yX4_fits.cls yX4_fits yX4_fits ∈ lw_tbl := List.mem_of_getElem? (i := 22) (by decide +kernel)
theorem wm_693 : Cond.code YX4_fits.1 YX4_fits.2.1 YX4_fits.2.2.1 YX4_fits.2.2.2 ∈ lw_tbl := List.mem_of_getElem? (i := 693) (by decide +kernel)
theorem cv_X4_23 : CV RX4 23 YX4_fits 2 := ⟨wm_690, wm_692, wm_22, wm_63, wm_693, ⟨by decide +kernel, by decide +kernel, by decide +kernel⟩⟩
theorem wm_694 : Cond.methodLink RX4 27 yX4_gotMoney ∈ lw_tbl := List.mem_of_getElem? (i := 694) (by decide +kernel)
theorem wm_695 : Cond.static yX4_gotMoney ∈ lw_tbl := List.mem_of_getElem? (i := 695) (by decide +kernel)
theorem wm_696 : Cond.code YX4_gotMoney.1 YX4_gotMoney.2.1 YX4_gotMoney.2.2.1 YX4_gotMoney.2.2.2 ∈ lw_tbl := List.mem_of_getElem? (i := 696) (by decide +kernel)
theorem cv_X4_27 : CS RX4 27 YX4_gotMoney 3 := ⟨wm_694, wm_695, wm_63, wm_696, ⟨by decide +kernel, by decide +kernel, by decide +kernel⟩⟩
theorem wm_697 : Cond.methodLink RL 123 yX8_ask ∈ lw_tbl := List.mem_of_getElem? (i := 697) (by decide +kernel)
theorem wm_698 : Cond.instanceMethod yX8_ask ∈ lw_tbl := List.mem_of_getElem? (i := 698) (by decide +kernel)
theorem wm_699 : Cond.selects yX8_ask.cls yX8_ask yX8_ask ∈ lw_tbl := List.mem_of_getElem? (i := 699) (by decide +kernel)
theorem wm_700 : Cond.code YX8_ask.1 YX8_ask.2.1 YX8_ask.2.2.1 YX8_ask.2.2.2 ∈ lw_tbl := List.mem_of_getElem? (i := 700) (by decide +kernel)
theorem cv_L_123 : CV RL 123 YX8_ask 0 := ⟨wm_697, wm_698, wm_699, wm_58, wm_700, ⟨by decide +kernel, by decide +kernel, by decide +kernel⟩⟩
theorem wm_701 : Cond.methodLink RX8 260 yX4_bestQuestion ∈ lw_tbl := List.mem_of_getElem? (i := 701) (by decide +kernel)
theorem wm_702 : Cond.instanceMethod yX4_bestQuestion ∈ lw_tbl := List.mem_of_getElem? (i := 702) (by decide +kernel)
theorem wm_703 : Cond.selects yX4_bestQuestion.cls yX4_bestQuestion yX4_bestQuestion ∈ lw_tbl := List.mem_of_getElem? (i := 703) (by decide +kernel)
theorem wm_704 : Cond.code YX4_bestQuestion.1 YX4_bestQuestion.2.1 YX4_bestQuestion.2.2.1 YX4_bestQuestion.2.2.2 ∈ lw_tbl := List.mem_of_getElem? (i := 704) (by decide +kernel)
theorem cv_X8_260 : CV RX8 260 YX4_bestQuestion 1 := ⟨wm_701, wm_702, wm_703, wm_63, wm_704, ⟨by decide +kernel, by decide +kernel, by decide +kernel⟩⟩
theorem wm_705 : Cond.methodLink RX4 31 yX4_fitting ∈ lw_tbl := List.mem_of_getElem? (i := 705) (by decide +kernel)
theorem cv_X4_31 : CV RX4 31 YX4_fitting 1 := ⟨wm_705, wm_687, wm_688, wm_63, wm_689, ⟨by decide +kernel, by decide +kernel, by decide +kernel⟩⟩
theorem wm_706 : Cond.methodLink RX4 35 yJ6_bitCount_0f7a4 ∈ lw_tbl := List.mem_of_getElem? (i := 706) (by decide +kernel)
theorem cv_X4_35 : CS RX4 35 YJ6_bitCount_0f7a4 1 := ⟨wm_706, wm_626, wm_69, wm_627, ⟨by decide +kernel, by decide +kernel, by decide +kernel⟩⟩
theorem wm_707 : Cond.methodLink RX4 40 yX4_greaterPart ∈ lw_tbl := List.mem_of_getElem? (i := 707) (by decide +kernel)
theorem wm_708 : Cond.static yX4_greaterPart ∈ lw_tbl := List.mem_of_getElem? (i := 708) (by decide +kernel)
theorem wm_709 : Cond.code YX4_greaterPart.1 YX4_greaterPart.2.1 YX4_greaterPart.2.2.1 YX4_greaterPart.2.2.2 ∈ lw_tbl := List.mem_of_getElem? (i := 709) (by decide +kernel)
theorem cv_X4_40 : CS RX4 40 YX4_greaterPart 3 := ⟨wm_707, wm_708, wm_63, wm_709, ⟨by decide +kernel, by decide +kernel, by decide +kernel⟩⟩
theorem wm_711 : Cond.methodLink RX4 47 yJ9_max_7cf53 ∈ lw_tbl := List.mem_of_getElem? (i := 711) (by decide +kernel)
theorem cv_X4_47 : CS RX4 47 YJ9_max_7cf53 2 := ⟨wm_711, wm_658, wm_68, wm_659, ⟨by decide +kernel, by decide +kernel, by decide +kernel⟩⟩
theorem wm_712 : Cond.methodLink RL 127 yX8_write ∈ lw_tbl := List.mem_of_getElem? (i := 712) (by decide +kernel)
theorem wm_713 : Cond.instanceMethod yX8_write ∈ lw_tbl := List.mem_of_getElem? (i := 713) (by decide +kernel)
theorem wm_714 : Cond.selects yX8_write.cls yX8_write yX8_write ∈ lw_tbl := List.mem_of_getElem? (i := 714) (by decide +kernel)
theorem wm_715 : Cond.code YX8_write.1 YX8_write.2.1 YX8_write.2.2.1 YX8_write.2.2.2 ∈ lw_tbl := List.mem_of_getElem? (i := 715) (by decide +kernel)
theorem cv_L_127 : CV RL 127 YX8_write 1 := ⟨wm_712, wm_713, wm_714, wm_58, wm_715, ⟨by decide +kernel, by decide +kernel, by decide +kernel⟩⟩
theorem wm_716 : Cond.methodLink RX8 263 yX1_add ∈ lw_tbl := List.mem_of_getElem? (i := 716) (by decide +kernel)
theorem wm_717 : Cond.instanceMethod yX1_add ∈ lw_tbl := List.mem_of_getElem? (i := 717) (by decide +kernel)
theorem wm_718 : Cond.selects yX1_add.cls yX1_add yX1_add ∈ lw_tbl := List.mem_of_getElem? (i := 718) (by decide +kernel)
theorem wm_64 : Cond.initialized RX1 ∈ lw_tbl := List.mem_of_getElem? (i := 64) (by decide +kernel)
theorem wm_719 : Cond.code YX1_add.1 YX1_add.2.1 YX1_add.2.2.1 YX1_add.2.2.2 ∈ lw_tbl := List.mem_of_getElem? (i := 719) (by decide +kernel)
theorem cv_X8_263 : CV RX8 263 YX1_add 1 := ⟨wm_716, wm_717, wm_718, wm_64, wm_719, ⟨by decide +kernel, by decide +kernel, by decide +kernel⟩⟩
theorem wm_720 : Cond.methodLink RL 131 yX8_tear ∈ lw_tbl := List.mem_of_getElem? (i := 720) (by decide +kernel)
theorem wm_721 : Cond.instanceMethod yX8_tear ∈ lw_tbl := List.mem_of_getElem? (i := 721) (by decide +kernel)
theorem wm_722 : Cond.selects yX8_tear.cls yX8_tear yX8_tear ∈ lw_tbl := List.mem_of_getElem? (i := 722) (by decide +kernel)
theorem wm_723 : Cond.code YX8_tear.1 YX8_tear.2.1 YX8_tear.2.2.1 YX8_tear.2.2.2 ∈ lw_tbl := List.mem_of_getElem? (i := 723) (by decide +kernel)
theorem cv_L_131 : CV RL 131 YX8_tear 0 := ⟨wm_720, wm_721, wm_722, wm_58, wm_723, ⟨by decide +kernel, by decide +kernel, by decide +kernel⟩⟩
theorem wm_724 : Cond.methodLink RL 135 yX8_judge ∈ lw_tbl := List.mem_of_getElem? (i := 724) (by decide +kernel)
theorem wm_725 : Cond.instanceMethod yX8_judge ∈ lw_tbl := List.mem_of_getElem? (i := 725) (by decide +kernel)
theorem wm_726 : Cond.selects yX8_judge.cls yX8_judge yX8_judge ∈ lw_tbl := List.mem_of_getElem? (i := 726) (by decide +kernel)
theorem wm_727 : Cond.code YX8_judge.1 YX8_judge.2.1 YX8_judge.2.2.1 YX8_judge.2.2.2 ∈ lw_tbl := List.mem_of_getElem? (i := 727) (by decide +kernel)
theorem cv_L_135 : CV RL 135 YX8_judge 0 := ⟨wm_724, wm_725, wm_726, wm_58, wm_727, ⟨by decide +kernel, by decide +kernel, by decide +kernel⟩⟩
theorem wm_728 : Cond.methodLink RX8 265 yX1_firstOtherThan ∈ lw_tbl := List.mem_of_getElem? (i := 728) (by decide +kernel)
theorem wm_729 : Cond.instanceMethod yX1_firstOtherThan ∈ lw_tbl := List.mem_of_getElem? (i := 729) (by decide +kernel)
theorem wm_730 : Cond.selects yX1_firstOtherThan.cls yX1_firstOtherThan yX1_firstOtherThan ∈ lw_tbl := List.mem_of_getElem? (i := 730) (by decide +kernel)
theorem wm_731 : Cond.code YX1_firstOtherThan.1 YX1_firstOtherThan.2.1 YX1_firstOtherThan.2.2.1 YX1_firstOtherThan.2.2.2 ∈ lw_tbl := List.mem_of_getElem? (i := 731) (by decide +kernel)
theorem cv_X8_265 : CV RX8 265 YX1_firstOtherThan 1 := ⟨wm_728, wm_729, wm_730, wm_64, wm_731, ⟨by decide +kernel, by decide +kernel, by decide +kernel⟩⟩
theorem wm_732 : Cond.methodLink RL 139 yX8_seed ∈ lw_tbl := List.mem_of_getElem? (i := 732) (by decide +kernel)
theorem wm_733 : Cond.instanceMethod yX8_seed ∈ lw_tbl := List.mem_of_getElem? (i := 733) (by decide +kernel)
theorem wm_734 : Cond.selects yX8_seed.cls yX8_seed yX8_seed ∈ lw_tbl := List.mem_of_getElem? (i := 734) (by decide +kernel)
theorem wm_735 : Cond.code YX8_seed.1 YX8_seed.2.1 YX8_seed.2.2.1 YX8_seed.2.2.2 ∈ lw_tbl := List.mem_of_getElem? (i := 735) (by decide +kernel)
theorem cv_L_139 : CV RL 139 YX8_seed 1 := ⟨wm_732, wm_733, wm_734, wm_58, wm_735, ⟨by decide +kernel, by decide +kernel, by decide +kernel⟩⟩
theorem wm_736 : Cond.methodLink RL 143 yX8_keep ∈ lw_tbl := List.mem_of_getElem? (i := 736) (by decide +kernel)
theorem wm_737 : Cond.instanceMethod yX8_keep ∈ lw_tbl := List.mem_of_getElem? (i := 737) (by decide +kernel)
theorem wm_738 : Cond.selects yX8_keep.cls yX8_keep yX8_keep ∈ lw_tbl := List.mem_of_getElem? (i := 738) (by decide +kernel)
theorem wm_739 : Cond.code YX8_keep.1 YX8_keep.2.1 YX8_keep.2.2.1 YX8_keep.2.2.2 ∈ lw_tbl := List.mem_of_getElem? (i := 739) (by decide +kernel)
theorem cv_L_143 : CV RL 143 YX8_keep 1 := ⟨wm_736, wm_737, wm_738, wm_58, wm_739, ⟨by decide +kernel, by decide +kernel, by decide +kernel⟩⟩
theorem wm_740 : Cond.methodLink RX8 277 yX0_copyFrom ∈ lw_tbl := List.mem_of_getElem? (i := 740) (by decide +kernel)
theorem cv_X8_277 : CV RX8 277 YX0_copyFrom 1 := ⟨wm_740, wm_524, wm_525, wm_61, wm_526, ⟨by decide +kernel, by decide +kernel, by decide +kernel⟩⟩
theorem wm_741 : Cond.methodLink RL 147 yX8_goBack ∈ lw_tbl := List.mem_of_getElem? (i := 741) (by decide +kernel)
theorem wm_742 : Cond.instanceMethod yX8_goBack ∈ lw_tbl := List.mem_of_getElem? (i := 742) (by decide +kernel)
theorem wm_743 : Cond.selects yX8_goBack.cls yX8_goBack yX8_goBack ∈ lw_tbl := List.mem_of_getElem? (i := 743) (by decide +kernel)
theorem wm_744 : Cond.code YX8_goBack.1 YX8_goBack.2.1 YX8_goBack.2.2.1 YX8_goBack.2.2.2 ∈ lw_tbl := List.mem_of_getElem? (i := 744) (by decide +kernel)
theorem cv_L_147 : CV RL 147 YX8_goBack 1 := ⟨wm_741, wm_742, wm_743, wm_58, wm_744, ⟨by decide +kernel, by decide +kernel, by decide +kernel⟩⟩
theorem wm_747 : Cond.methodLink RL 12 yX9_init ∈ lw_tbl := List.mem_of_getElem? (i := 747) (by decide +kernel)
theorem wm_748 : Cond.instanceMethod yX9_init ∈ lw_tbl := List.mem_of_getElem? (i := 748) (by decide +kernel)
theorem wm_67 : Cond.initialized RX9 ∈ lw_tbl := List.mem_of_getElem? (i := 67) (by decide +kernel)
theorem wm_749 : Cond.code YX9_init.1 YX9_init.2.1 YX9_init.2.2.1 YX9_init.2.2.2 ∈ lw_tbl := List.mem_of_getElem? (i := 749) (by decide +kernel)
theorem cv_L_12 : CI RL 12 YX9_init 0 := ⟨wm_747, ⟨rfl, wm_748⟩, wm_67, wm_749, ⟨by decide +kernel, by decide +kernel, by decide +kernel⟩⟩
theorem wm_824 : Cond.methodLink RL 17 yX9_feed ∈ lw_tbl := List.mem_of_getElem? (i := 824) (by decide +kernel)
theorem wm_825 : Cond.instanceMethod yX9_feed ∈ lw_tbl := List.mem_of_getElem? (i := 825) (by decide +kernel)
theorem wm_826 : Cond.selects yX9_feed.cls yX9_feed yX9_feed ∈ lw_tbl := List.mem_of_getElem? (i := 826) (by decide +kernel)
theorem wm_827 : Cond.code YX9_feed.1 YX9_feed.2.1 YX9_feed.2.2.1 YX9_feed.2.2.2 ∈ lw_tbl := List.mem_of_getElem? (i := 827) (by decide +kernel)
theorem cv_L_17 : CV RL 17 YX9_feed 1 := ⟨wm_824, wm_825, wm_826, wm_67, wm_827, ⟨by decide +kernel, by decide +kernel, by decide +kernel⟩⟩
theorem wm_828 : Cond.methodLink RX9 63 yX9_in ∈ lw_tbl := List.mem_of_getElem? (i := 828) (by decide +kernel)
theorem wm_829 : Cond.static yX9_in ∈ lw_tbl := List.mem_of_getElem? (i := 829) (by decide +kernel)
theorem wm_830 : Cond.code YX9_in.1 YX9_in.2.1 YX9_in.2.2.1 YX9_in.2.2.2 ∈ lw_tbl := List.mem_of_getElem? (i := 830) (by decide +kernel)
theorem cv_X9_63 : CS RX9 63 YX9_in 3 := ⟨wm_828, wm_829, wm_67, wm_830, ⟨by decide +kernel, by decide +kernel, by decide +kernel⟩⟩
theorem wm_833 : Cond.methodLink RL 22 yX9_castle ∈ lw_tbl := List.mem_of_getElem? (i := 833) (by decide +kernel)
theorem wm_834 : Cond.instanceMethod yX9_castle ∈ lw_tbl := List.mem_of_getElem? (i := 834) (by decide +kernel)
theorem wm_835 : Cond.selects yX9_castle.cls yX9_castle yX9_castle ∈ lw_tbl := List.mem_of_getElem? (i := 835) (by decide +kernel)
theorem wm_836 : Cond.code YX9_castle.1 YX9_castle.2.1 YX9_castle.2.2.1 YX9_castle.2.2.2 ∈ lw_tbl := List.mem_of_getElem? (i := 836) (by decide +kernel)
theorem cv_L_22 : CV RL 22 YX9_castle 0 := ⟨wm_833, wm_834, wm_835, wm_67, wm_836, ⟨by decide +kernel, by decide +kernel, by decide +kernel⟩⟩
theorem wm_837 : Cond.methodLink RX9 82 yX9_skips ∈ lw_tbl := List.mem_of_getElem? (i := 837) (by decide +kernel)
theorem wm_839 : Cond.instanceMethod yX9_skips ∈ lw_tbl := List.mem_of_getElem? (i := 839) (by decide +kernel)
theorem wm_23 : Cond.selects yX9_skips.cls yX9_skips yX9_skips ∈ lw_tbl := List.mem_of_getElem? (i := 23) (by decide +kernel)
theorem wm_840 : Cond.code YX9_skips.1 YX9_skips.2.1 YX9_skips.2.2.1 YX9_skips.2.2.2 ∈ lw_tbl := List.mem_of_getElem? (i := 840) (by decide +kernel)
theorem cv_X9_82 : CV RX9 82 YX9_skips 0 := ⟨wm_837, wm_839, wm_23, wm_67, wm_840, ⟨by decide +kernel, by decide +kernel, by decide +kernel⟩⟩
theorem wm_841 : Cond.methodLink RX9 78 yX9_look ∈ lw_tbl := List.mem_of_getElem? (i := 841) (by decide +kernel)
theorem wm_843 : Cond.instanceMethod yX9_look ∈ lw_tbl := List.mem_of_getElem? (i := 843) (by decide +kernel)
theorem wm_24 : Cond.selects yX9_look.cls yX9_look yX9_look ∈ lw_tbl := List.mem_of_getElem? (i := 24) (by decide +kernel)
theorem wm_844 : Cond.code YX9_look.1 YX9_look.2.1 YX9_look.2.2.1 YX9_look.2.2.2 ∈ lw_tbl := List.mem_of_getElem? (i := 844) (by decide +kernel)
theorem cv_X9_78 : CV RX9 78 YX9_look 0 := ⟨wm_841, wm_843, wm_24, wm_67, wm_844, ⟨by decide +kernel, by decide +kernel, by decide +kernel⟩⟩
theorem wm_845 : Cond.methodLink RX9 119 yX9_reads ∈ lw_tbl := List.mem_of_getElem? (i := 845) (by decide +kernel)
theorem wm_847 : Cond.instanceMethod yX9_reads ∈ lw_tbl := List.mem_of_getElem? (i := 847) (by decide +kernel)
theorem wm_25 : Cond.selects yX9_reads.cls yX9_reads yX9_reads ∈ lw_tbl := List.mem_of_getElem? (i := 25) (by decide +kernel)
theorem wm_848 : Cond.code YX9_reads.1 YX9_reads.2.1 YX9_reads.2.2.1 YX9_reads.2.2.2 ∈ lw_tbl := List.mem_of_getElem? (i := 848) (by decide +kernel)
theorem cv_X9_119 : CV RX9 119 YX9_reads 0 := ⟨wm_845, wm_847, wm_25, wm_67, wm_848, ⟨by decide +kernel, by decide +kernel, by decide +kernel⟩⟩
theorem wm_849 : Cond.methodLink RX9 107 yX9_readsWays ∈ lw_tbl := List.mem_of_getElem? (i := 849) (by decide +kernel)
theorem wm_851 : Cond.instanceMethod yX9_readsWays ∈ lw_tbl := List.mem_of_getElem? (i := 851) (by decide +kernel)
theorem wm_26 : Cond.selects yX9_readsWays.cls yX9_readsWays yX9_readsWays ∈ lw_tbl := List.mem_of_getElem? (i := 26) (by decide +kernel)
theorem wm_852 : Cond.code YX9_readsWays.1 YX9_readsWays.2.1 YX9_readsWays.2.2.1 YX9_readsWays.2.2.2 ∈ lw_tbl := List.mem_of_getElem? (i := 852) (by decide +kernel)
theorem cv_X9_107 : CV RX9 107 YX9_readsWays 0 := ⟨wm_849, wm_851, wm_26, wm_67, wm_852, ⟨by decide +kernel, by decide +kernel, by decide +kernel⟩⟩
theorem wm_853 : Cond.methodLink RX9 89 yX9_opens ∈ lw_tbl := List.mem_of_getElem? (i := 853) (by decide +kernel)
theorem wm_855 : Cond.instanceMethod yX9_opens ∈ lw_tbl := List.mem_of_getElem? (i := 855) (by decide +kernel)
theorem wm_27 : Cond.selects yX9_opens.cls yX9_opens yX9_opens ∈ lw_tbl := List.mem_of_getElem? (i := 27) (by decide +kernel)
theorem wm_856 : Cond.code YX9_opens.1 YX9_opens.2.1 YX9_opens.2.2.1 YX9_opens.2.2.2 ∈ lw_tbl := List.mem_of_getElem? (i := 856) (by decide +kernel)
theorem cv_X9_89 : CV RX9 89 YX9_opens 1 := ⟨wm_853, wm_855, wm_27, wm_67, wm_856, ⟨by decide +kernel, by decide +kernel, by decide +kernel⟩⟩
theorem wm_857 : Cond.methodLink RX9 85 yX9_fails ∈ lw_tbl := List.mem_of_getElem? (i := 857) (by decide +kernel)
theorem wm_859 : Cond.instanceMethod yX9_fails ∈ lw_tbl := List.mem_of_getElem? (i := 859) (by decide +kernel)
theorem wm_28 : Cond.selects yX9_fails.cls yX9_fails yX9_fails ∈ lw_tbl := List.mem_of_getElem? (i := 28) (by decide +kernel)
theorem wm_860 : Cond.code YX9_fails.1 YX9_fails.2.1 YX9_fails.2.2.1 YX9_fails.2.2.2 ∈ lw_tbl := List.mem_of_getElem? (i := 860) (by decide +kernel)
theorem cv_X9_85 : CV RX9 85 YX9_fails 1 := ⟨wm_857, wm_859, wm_28, wm_67, wm_860, ⟨by decide +kernel, by decide +kernel, by decide +kernel⟩⟩
theorem wm_861 : Cond.methodLink RX9 93 yX9_number ∈ lw_tbl := List.mem_of_getElem? (i := 861) (by decide +kernel)
theorem wm_863 : Cond.instanceMethod yX9_number ∈ lw_tbl := List.mem_of_getElem? (i := 863) (by decide +kernel)
theorem wm_29 : Cond.selects yX9_number.cls yX9_number yX9_number ∈ lw_tbl := List.mem_of_getElem? (i := 29) (by decide +kernel)
theorem wm_864 : Cond.code YX9_number.1 YX9_number.2.1 YX9_number.2.2.1 YX9_number.2.2.2 ∈ lw_tbl := List.mem_of_getElem? (i := 864) (by decide +kernel)
theorem cv_X9_93 : CV RX9 93 YX9_number 2 := ⟨wm_861, wm_863, wm_29, wm_67, wm_864, ⟨by decide +kernel, by decide +kernel, by decide +kernel⟩⟩
theorem wm_865 : Cond.methodLink RX9 97 yX9_word ∈ lw_tbl := List.mem_of_getElem? (i := 865) (by decide +kernel)
theorem wm_867 : Cond.instanceMethod yX9_word ∈ lw_tbl := List.mem_of_getElem? (i := 867) (by decide +kernel)
theorem wm_30 : Cond.selects yX9_word.cls yX9_word yX9_word ∈ lw_tbl := List.mem_of_getElem? (i := 30) (by decide +kernel)
theorem wm_868 : Cond.code YX9_word.1 YX9_word.2.1 YX9_word.2.2.1 YX9_word.2.2.2 ∈ lw_tbl := List.mem_of_getElem? (i := 868) (by decide +kernel)
theorem cv_X9_97 : CV RX9 97 YX9_word 1 := ⟨wm_865, wm_867, wm_30, wm_67, wm_868, ⟨by decide +kernel, by decide +kernel, by decide +kernel⟩⟩
theorem wm_869 : Cond.methodLink RX9 110 yX9_readsTest ∈ lw_tbl := List.mem_of_getElem? (i := 869) (by decide +kernel)
theorem wm_871 : Cond.instanceMethod yX9_readsTest ∈ lw_tbl := List.mem_of_getElem? (i := 871) (by decide +kernel)
theorem wm_31 : Cond.selects yX9_readsTest.cls yX9_readsTest yX9_readsTest ∈ lw_tbl := List.mem_of_getElem? (i := 31) (by decide +kernel)
theorem wm_872 : Cond.code YX9_readsTest.1 YX9_readsTest.2.1 YX9_readsTest.2.2.1 YX9_readsTest.2.2.2 ∈ lw_tbl := List.mem_of_getElem? (i := 872) (by decide +kernel)
theorem cv_X9_110 : CV RX9 110 YX9_readsTest 0 := ⟨wm_869, wm_871, wm_31, wm_67, wm_872, ⟨by decide +kernel, by decide +kernel, by decide +kernel⟩⟩
theorem wm_873 : Cond.methodLink RX9 100 yX9_allOf ∈ lw_tbl := List.mem_of_getElem? (i := 873) (by decide +kernel)
theorem wm_874 : Cond.static yX9_allOf ∈ lw_tbl := List.mem_of_getElem? (i := 874) (by decide +kernel)
theorem wm_875 : Cond.code YX9_allOf.1 YX9_allOf.2.1 YX9_allOf.2.2.1 YX9_allOf.2.2.2 ∈ lw_tbl := List.mem_of_getElem? (i := 875) (by decide +kernel)
theorem cv_X9_100 : CS RX9 100 YX9_allOf 1 := ⟨wm_873, wm_874, wm_67, wm_875, ⟨by decide +kernel, by decide +kernel, by decide +kernel⟩⟩
theorem wm_876 : Cond.methodLink RX9 104 yX9_waysOf ∈ lw_tbl := List.mem_of_getElem? (i := 876) (by decide +kernel)
theorem wm_878 : Cond.instanceMethod yX9_waysOf ∈ lw_tbl := List.mem_of_getElem? (i := 878) (by decide +kernel)
theorem wm_32 : Cond.selects yX9_waysOf.cls yX9_waysOf yX9_waysOf ∈ lw_tbl := List.mem_of_getElem? (i := 32) (by decide +kernel)
theorem wm_879 : Cond.code YX9_waysOf.1 YX9_waysOf.2.1 YX9_waysOf.2.2.1 YX9_waysOf.2.2.2 ∈ lw_tbl := List.mem_of_getElem? (i := 879) (by decide +kernel)
theorem cv_X9_104 : CV RX9 104 YX9_waysOf 2 := ⟨wm_876, wm_878, wm_32, wm_67, wm_879, ⟨by decide +kernel, by decide +kernel, by decide +kernel⟩⟩
theorem wm_880 : Cond.methodLink RX9 113 yX9_readsServant ∈ lw_tbl := List.mem_of_getElem? (i := 880) (by decide +kernel)
theorem wm_882 : Cond.instanceMethod yX9_readsServant ∈ lw_tbl := List.mem_of_getElem? (i := 882) (by decide +kernel)
theorem wm_33 : Cond.selects yX9_readsServant.cls yX9_readsServant yX9_readsServant ∈ lw_tbl := List.mem_of_getElem? (i := 33) (by decide +kernel)
theorem wm_883 : Cond.code YX9_readsServant.1 YX9_readsServant.2.1 YX9_readsServant.2.2.1 YX9_readsServant.2.2.2 ∈ lw_tbl := List.mem_of_getElem? (i := 883) (by decide +kernel)
theorem cv_X9_113 : CV RX9 113 YX9_readsServant 0 := ⟨wm_880, wm_882, wm_33, wm_67, wm_883, ⟨by decide +kernel, by decide +kernel, by decide +kernel⟩⟩
theorem wm_884 : Cond.methodLink RX9 116 yX9_readsPay ∈ lw_tbl := List.mem_of_getElem? (i := 884) (by decide +kernel)
theorem wm_886 : Cond.instanceMethod yX9_readsPay ∈ lw_tbl := List.mem_of_getElem? (i := 886) (by decide +kernel)
theorem wm_34 : Cond.selects yX9_readsPay.cls yX9_readsPay yX9_readsPay ∈ lw_tbl := List.mem_of_getElem? (i := 34) (by decide +kernel)
theorem wm_887 : Cond.code YX9_readsPay.1 YX9_readsPay.2.1 YX9_readsPay.2.2.1 YX9_readsPay.2.2.2 ∈ lw_tbl := List.mem_of_getElem? (i := 887) (by decide +kernel)
theorem cv_X9_116 : CV RX9 116 YX9_readsPay 0 := ⟨wm_884, wm_886, wm_34, wm_67, wm_887, ⟨by decide +kernel, by decide +kernel, by decide +kernel⟩⟩
theorem wm_888 : Cond.methodLink RX9 122 yX9_copies ∈ lw_tbl := List.mem_of_getElem? (i := 888) (by decide +kernel)
theorem wm_889 : Cond.static yX9_copies ∈ lw_tbl := List.mem_of_getElem? (i := 889) (by decide +kernel)
theorem wm_890 : Cond.code YX9_copies.1 YX9_copies.2.1 YX9_copies.2.2.1 YX9_copies.2.2.2 ∈ lw_tbl := List.mem_of_getElem? (i := 890) (by decide +kernel)
theorem cv_X9_122 : CS RX9 122 YX9_copies 5 := ⟨wm_888, wm_889, wm_67, wm_890, ⟨by decide +kernel, by decide +kernel, by decide +kernel⟩⟩
theorem wm_891 : Cond.methodLink RL 26 yX9_fault ∈ lw_tbl := List.mem_of_getElem? (i := 891) (by decide +kernel)
theorem wm_892 : Cond.instanceMethod yX9_fault ∈ lw_tbl := List.mem_of_getElem? (i := 892) (by decide +kernel)
theorem wm_893 : Cond.selects yX9_fault.cls yX9_fault yX9_fault ∈ lw_tbl := List.mem_of_getElem? (i := 893) (by decide +kernel)
theorem wm_894 : Cond.code YX9_fault.1 YX9_fault.2.1 YX9_fault.2.2.1 YX9_fault.2.2.2 ∈ lw_tbl := List.mem_of_getElem? (i := 894) (by decide +kernel)
theorem cv_L_26 : CV RL 26 YX9_fault 0 := ⟨wm_891, wm_892, wm_893, wm_67, wm_894, ⟨by decide +kernel, by decide +kernel, by decide +kernel⟩⟩
theorem wm_895 : Cond.methodLink RL 30 yX9_told ∈ lw_tbl := List.mem_of_getElem? (i := 895) (by decide +kernel)
theorem wm_896 : Cond.instanceMethod yX9_told ∈ lw_tbl := List.mem_of_getElem? (i := 896) (by decide +kernel)
theorem wm_897 : Cond.selects yX9_told.cls yX9_told yX9_told ∈ lw_tbl := List.mem_of_getElem? (i := 897) (by decide +kernel)
theorem wm_898 : Cond.code YX9_told.1 YX9_told.2.1 YX9_told.2.2.1 YX9_told.2.2.2 ∈ lw_tbl := List.mem_of_getElem? (i := 898) (by decide +kernel)
theorem cv_L_30 : CV RL 30 YX9_told 1 := ⟨wm_895, wm_896, wm_897, wm_67, wm_898, ⟨by decide +kernel, by decide +kernel, by decide +kernel⟩⟩
theorem wm_899 : Cond.methodLink RX9 140 yX9_leftBy ∈ lw_tbl := List.mem_of_getElem? (i := 899) (by decide +kernel)
theorem wm_901 : Cond.instanceMethod yX9_leftBy ∈ lw_tbl := List.mem_of_getElem? (i := 901) (by decide +kernel)
theorem wm_35 : Cond.selects yX9_leftBy.cls yX9_leftBy yX9_leftBy ∈ lw_tbl := List.mem_of_getElem? (i := 35) (by decide +kernel)
theorem wm_902 : Cond.code YX9_leftBy.1 YX9_leftBy.2.1 YX9_leftBy.2.2.1 YX9_leftBy.2.2.2 ∈ lw_tbl := List.mem_of_getElem? (i := 902) (by decide +kernel)
theorem cv_X9_140 : CV RX9 140 YX9_leftBy 1 := ⟨wm_899, wm_901, wm_35, wm_67, wm_902, ⟨by decide +kernel, by decide +kernel, by decide +kernel⟩⟩
theorem wm_903 : Cond.methodLink RX9 135 yX9_has ∈ lw_tbl := List.mem_of_getElem? (i := 903) (by decide +kernel)
theorem wm_904 : Cond.static yX9_has ∈ lw_tbl := List.mem_of_getElem? (i := 904) (by decide +kernel)
theorem wm_905 : Cond.code YX9_has.1 YX9_has.2.1 YX9_has.2.2.1 YX9_has.2.2.2 ∈ lw_tbl := List.mem_of_getElem? (i := 905) (by decide +kernel)
theorem cv_X9_135 : CS RX9 135 YX9_has 2 := ⟨wm_903, wm_904, wm_67, wm_905, ⟨by decide +kernel, by decide +kernel, by decide +kernel⟩⟩
theorem wm_906 : Cond.methodLink RX9 143 yX9_shownBy ∈ lw_tbl := List.mem_of_getElem? (i := 906) (by decide +kernel)
theorem wm_908 : Cond.instanceMethod yX9_shownBy ∈ lw_tbl := List.mem_of_getElem? (i := 908) (by decide +kernel)
theorem wm_36 : Cond.selects yX9_shownBy.cls yX9_shownBy yX9_shownBy ∈ lw_tbl := List.mem_of_getElem? (i := 36) (by decide +kernel)
theorem wm_909 : Cond.code YX9_shownBy.1 YX9_shownBy.2.1 YX9_shownBy.2.2.1 YX9_shownBy.2.2.2 ∈ lw_tbl := List.mem_of_getElem? (i := 909) (by decide +kernel)
theorem cv_X9_143 : CV RX9 143 YX9_shownBy 1 := ⟨wm_906, wm_908, wm_36, wm_67, wm_909, ⟨by decide +kernel, by decide +kernel, by decide +kernel⟩⟩
theorem wm_910 : Cond.methodLink RX9 146 yX9_spent ∈ lw_tbl := List.mem_of_getElem? (i := 910) (by decide +kernel)
theorem wm_912 : Cond.instanceMethod yX9_spent ∈ lw_tbl := List.mem_of_getElem? (i := 912) (by decide +kernel)
theorem wm_37 : Cond.selects yX9_spent.cls yX9_spent yX9_spent ∈ lw_tbl := List.mem_of_getElem? (i := 37) (by decide +kernel)
theorem wm_913 : Cond.code YX9_spent.1 YX9_spent.2.1 YX9_spent.2.2.1 YX9_spent.2.2.2 ∈ lw_tbl := List.mem_of_getElem? (i := 913) (by decide +kernel)
theorem cv_X9_146 : CV RX9 146 YX9_spent 0 := ⟨wm_910, wm_912, wm_37, wm_67, wm_913, ⟨by decide +kernel, by decide +kernel, by decide +kernel⟩⟩
theorem wm_915 : Cond.methodLink RL 34 yX9_likely ∈ lw_tbl := List.mem_of_getElem? (i := 915) (by decide +kernel)
theorem wm_916 : Cond.instanceMethod yX9_likely ∈ lw_tbl := List.mem_of_getElem? (i := 916) (by decide +kernel)
theorem wm_917 : Cond.selects yX9_likely.cls yX9_likely yX9_likely ∈ lw_tbl := List.mem_of_getElem? (i := 917) (by decide +kernel)
theorem wm_918 : Cond.code YX9_likely.1 YX9_likely.2.1 YX9_likely.2.2.1 YX9_likely.2.2.2 ∈ lw_tbl := List.mem_of_getElem? (i := 918) (by decide +kernel)
theorem cv_L_34 : CV RL 34 YX9_likely 1 := ⟨wm_915, wm_916, wm_917, wm_67, wm_918, ⟨by decide +kernel, by decide +kernel, by decide +kernel⟩⟩
theorem wm_919 : Cond.methodLink RX9 149 yX9_isWay ∈ lw_tbl := List.mem_of_getElem? (i := 919) (by decide +kernel)
theorem wm_921 : Cond.instanceMethod yX9_isWay ∈ lw_tbl := List.mem_of_getElem? (i := 921) (by decide +kernel)
theorem wm_38 : Cond.selects yX9_isWay.cls yX9_isWay yX9_isWay ∈ lw_tbl := List.mem_of_getElem? (i := 38) (by decide +kernel)
theorem wm_922 : Cond.code YX9_isWay.1 YX9_isWay.2.1 YX9_isWay.2.2.1 YX9_isWay.2.2.2 ∈ lw_tbl := List.mem_of_getElem? (i := 922) (by decide +kernel)
theorem cv_X9_149 : CV RX9 149 YX9_isWay 1 := ⟨wm_919, wm_921, wm_38, wm_67, wm_922, ⟨by decide +kernel, by decide +kernel, by decide +kernel⟩⟩
theorem wm_924 : Cond.methodLink RL 39 yX9_test ∈ lw_tbl := List.mem_of_getElem? (i := 924) (by decide +kernel)
theorem wm_925 : Cond.instanceMethod yX9_test ∈ lw_tbl := List.mem_of_getElem? (i := 925) (by decide +kernel)
theorem wm_926 : Cond.selects yX9_test.cls yX9_test yX9_test ∈ lw_tbl := List.mem_of_getElem? (i := 926) (by decide +kernel)
theorem wm_927 : Cond.code YX9_test.1 YX9_test.2.1 YX9_test.2.2.1 YX9_test.2.2.2 ∈ lw_tbl := List.mem_of_getElem? (i := 927) (by decide +kernel)
theorem cv_L_39 : CV RL 39 YX9_test 2 := ⟨wm_924, wm_925, wm_926, wm_67, wm_927, ⟨by decide +kernel, by decide +kernel, by decide +kernel⟩⟩
theorem wm_928 : Cond.methodLink RX9 154 yX9_isTest ∈ lw_tbl := List.mem_of_getElem? (i := 928) (by decide +kernel)
theorem wm_930 : Cond.instanceMethod yX9_isTest ∈ lw_tbl := List.mem_of_getElem? (i := 930) (by decide +kernel)
theorem wm_39 : Cond.selects yX9_isTest.cls yX9_isTest yX9_isTest ∈ lw_tbl := List.mem_of_getElem? (i := 39) (by decide +kernel)
theorem wm_931 : Cond.code YX9_isTest.1 YX9_isTest.2.1 YX9_isTest.2.2.1 YX9_isTest.2.2.2 ∈ lw_tbl := List.mem_of_getElem? (i := 931) (by decide +kernel)
theorem cv_X9_154 : CV RX9 154 YX9_isTest 1 := ⟨wm_928, wm_930, wm_39, wm_67, wm_931, ⟨by decide +kernel, by decide +kernel, by decide +kernel⟩⟩
theorem wm_932 : Cond.methodLink RL 43 yX9_servant ∈ lw_tbl := List.mem_of_getElem? (i := 932) (by decide +kernel)
theorem wm_933 : Cond.instanceMethod yX9_servant ∈ lw_tbl := List.mem_of_getElem? (i := 933) (by decide +kernel)
theorem wm_934 : Cond.selects yX9_servant.cls yX9_servant yX9_servant ∈ lw_tbl := List.mem_of_getElem? (i := 934) (by decide +kernel)
theorem wm_935 : Cond.code YX9_servant.1 YX9_servant.2.1 YX9_servant.2.2.1 YX9_servant.2.2.2 ∈ lw_tbl := List.mem_of_getElem? (i := 935) (by decide +kernel)
theorem cv_L_43 : CV RL 43 YX9_servant 2 := ⟨wm_932, wm_933, wm_934, wm_67, wm_935, ⟨by decide +kernel, by decide +kernel, by decide +kernel⟩⟩
theorem wm_936 : Cond.methodLink RX9 157 yX9_isServant ∈ lw_tbl := List.mem_of_getElem? (i := 936) (by decide +kernel)
theorem wm_938 : Cond.instanceMethod yX9_isServant ∈ lw_tbl := List.mem_of_getElem? (i := 938) (by decide +kernel)
theorem wm_40 : Cond.selects yX9_isServant.cls yX9_isServant yX9_isServant ∈ lw_tbl := List.mem_of_getElem? (i := 40) (by decide +kernel)
theorem wm_939 : Cond.code YX9_isServant.1 YX9_isServant.2.1 YX9_isServant.2.2.1 YX9_isServant.2.2.2 ∈ lw_tbl := List.mem_of_getElem? (i := 939) (by decide +kernel)
theorem cv_X9_157 : CV RX9 157 YX9_isServant 1 := ⟨wm_936, wm_938, wm_40, wm_67, wm_939, ⟨by decide +kernel, by decide +kernel, by decide +kernel⟩⟩
theorem wm_940 : Cond.methodLink RL 47 yX9_day ∈ lw_tbl := List.mem_of_getElem? (i := 940) (by decide +kernel)
theorem wm_941 : Cond.instanceMethod yX9_day ∈ lw_tbl := List.mem_of_getElem? (i := 941) (by decide +kernel)
theorem wm_942 : Cond.selects yX9_day.cls yX9_day yX9_day ∈ lw_tbl := List.mem_of_getElem? (i := 942) (by decide +kernel)
theorem wm_943 : Cond.code YX9_day.1 YX9_day.2.1 YX9_day.2.2.1 YX9_day.2.2.2 ∈ lw_tbl := List.mem_of_getElem? (i := 943) (by decide +kernel)
theorem cv_L_47 : CV RL 47 YX9_day 1 := ⟨wm_940, wm_941, wm_942, wm_67, wm_943, ⟨by decide +kernel, by decide +kernel, by decide +kernel⟩⟩
theorem wm_944 : Cond.methodLink RX9 169 yX9_barred ∈ lw_tbl := List.mem_of_getElem? (i := 944) (by decide +kernel)
theorem wm_946 : Cond.instanceMethod yX9_barred ∈ lw_tbl := List.mem_of_getElem? (i := 946) (by decide +kernel)
theorem wm_41 : Cond.selects yX9_barred.cls yX9_barred yX9_barred ∈ lw_tbl := List.mem_of_getElem? (i := 41) (by decide +kernel)
theorem wm_947 : Cond.code YX9_barred.1 YX9_barred.2.1 YX9_barred.2.2.1 YX9_barred.2.2.2 ∈ lw_tbl := List.mem_of_getElem? (i := 947) (by decide +kernel)
theorem cv_X9_169 : CV RX9 169 YX9_barred 1 := ⟨wm_944, wm_946, wm_41, wm_67, wm_947, ⟨by decide +kernel, by decide +kernel, by decide +kernel⟩⟩
theorem wm_948 : Cond.methodLink RX9 164 yX9_isCastle ∈ lw_tbl := List.mem_of_getElem? (i := 948) (by decide +kernel)
theorem wm_950 : Cond.instanceMethod yX9_isCastle ∈ lw_tbl := List.mem_of_getElem? (i := 950) (by decide +kernel)
theorem wm_42 : Cond.selects yX9_isCastle.cls yX9_isCastle yX9_isCastle ∈ lw_tbl := List.mem_of_getElem? (i := 42) (by decide +kernel)
theorem wm_951 : Cond.code YX9_isCastle.1 YX9_isCastle.2.1 YX9_isCastle.2.2.1 YX9_isCastle.2.2.2 ∈ lw_tbl := List.mem_of_getElem? (i := 951) (by decide +kernel)
theorem cv_X9_164 : CV RX9 164 YX9_isCastle 0 := ⟨wm_948, wm_950, wm_42, wm_67, wm_951, ⟨by decide +kernel, by decide +kernel, by decide +kernel⟩⟩
theorem wm_953 : Cond.methodLink RX9 172 yX9_notes ∈ lw_tbl := List.mem_of_getElem? (i := 953) (by decide +kernel)
theorem wm_955 : Cond.instanceMethod yX9_notes ∈ lw_tbl := List.mem_of_getElem? (i := 955) (by decide +kernel)
theorem wm_43 : Cond.selects yX9_notes.cls yX9_notes yX9_notes ∈ lw_tbl := List.mem_of_getElem? (i := 43) (by decide +kernel)
theorem wm_956 : Cond.code YX9_notes.1 YX9_notes.2.1 YX9_notes.2.2.1 YX9_notes.2.2.2 ∈ lw_tbl := List.mem_of_getElem? (i := 956) (by decide +kernel)
theorem cv_X9_172 : CV RX9 172 YX9_notes 0 := ⟨wm_953, wm_955, wm_43, wm_67, wm_956, ⟨by decide +kernel, by decide +kernel, by decide +kernel⟩⟩
theorem wm_957 : Cond.methodLink RX9 175 yX9_passes ∈ lw_tbl := List.mem_of_getElem? (i := 957) (by decide +kernel)
theorem wm_959 : Cond.instanceMethod yX9_passes ∈ lw_tbl := List.mem_of_getElem? (i := 959) (by decide +kernel)
theorem wm_44 : Cond.selects yX9_passes.cls yX9_passes yX9_passes ∈ lw_tbl := List.mem_of_getElem? (i := 44) (by decide +kernel)
theorem wm_960 : Cond.code YX9_passes.1 YX9_passes.2.1 YX9_passes.2.2.1 YX9_passes.2.2.2 ∈ lw_tbl := List.mem_of_getElem? (i := 960) (by decide +kernel)
theorem cv_X9_175 : CV RX9 175 YX9_passes 0 := ⟨wm_957, wm_959, wm_44, wm_67, wm_960, ⟨by decide +kernel, by decide +kernel, by decide +kernel⟩⟩
theorem wm_961 : Cond.methodLink RX9 160 yX9_gets ∈ lw_tbl := List.mem_of_getElem? (i := 961) (by decide +kernel)
theorem wm_963 : Cond.instanceMethod yX9_gets ∈ lw_tbl := List.mem_of_getElem? (i := 963) (by decide +kernel)
theorem wm_45 : Cond.selects yX9_gets.cls yX9_gets yX9_gets ∈ lw_tbl := List.mem_of_getElem? (i := 45) (by decide +kernel)
theorem wm_964 : Cond.code YX9_gets.1 YX9_gets.2.1 YX9_gets.2.2.1 YX9_gets.2.2.2 ∈ lw_tbl := List.mem_of_getElem? (i := 964) (by decide +kernel)
theorem cv_X9_160 : CV RX9 160 YX9_gets 2 := ⟨wm_961, wm_963, wm_45, wm_67, wm_964, ⟨by decide +kernel, by decide +kernel, by decide +kernel⟩⟩
theorem wm_965 : Cond.methodLink RL 51 yX9_make ∈ lw_tbl := List.mem_of_getElem? (i := 965) (by decide +kernel)
theorem wm_966 : Cond.instanceMethod yX9_make ∈ lw_tbl := List.mem_of_getElem? (i := 966) (by decide +kernel)
theorem wm_967 : Cond.selects yX9_make.cls yX9_make yX9_make ∈ lw_tbl := List.mem_of_getElem? (i := 967) (by decide +kernel)
theorem wm_968 : Cond.code YX9_make.1 YX9_make.2.1 YX9_make.2.2.1 YX9_make.2.2.2 ∈ lw_tbl := List.mem_of_getElem? (i := 968) (by decide +kernel)
theorem cv_L_51 : CV RL 51 YX9_make 1 := ⟨wm_965, wm_966, wm_967, wm_67, wm_968, ⟨by decide +kernel, by decide +kernel, by decide +kernel⟩⟩
theorem wm_969 : Cond.methodLink RX9 178 yX9_canBe ∈ lw_tbl := List.mem_of_getElem? (i := 969) (by decide +kernel)
theorem wm_971 : Cond.instanceMethod yX9_canBe ∈ lw_tbl := List.mem_of_getElem? (i := 971) (by decide +kernel)
theorem wm_46 : Cond.selects yX9_canBe.cls yX9_canBe yX9_canBe ∈ lw_tbl := List.mem_of_getElem? (i := 46) (by decide +kernel)
theorem wm_972 : Cond.code YX9_canBe.1 YX9_canBe.2.1 YX9_canBe.2.2.1 YX9_canBe.2.2.2 ∈ lw_tbl := List.mem_of_getElem? (i := 972) (by decide +kernel)
theorem cv_X9_178 : CV RX9 178 YX9_canBe 1 := ⟨wm_969, wm_971, wm_46, wm_67, wm_972, ⟨by decide +kernel, by decide +kernel, by decide +kernel⟩⟩
theorem wm_973 : Cond.methodLink RL 56 yX9_seal ∈ lw_tbl := List.mem_of_getElem? (i := 973) (by decide +kernel)
theorem wm_974 : Cond.instanceMethod yX9_seal ∈ lw_tbl := List.mem_of_getElem? (i := 974) (by decide +kernel)
theorem wm_975 : Cond.selects yX9_seal.cls yX9_seal yX9_seal ∈ lw_tbl := List.mem_of_getElem? (i := 975) (by decide +kernel)
theorem wm_976 : Cond.code YX9_seal.1 YX9_seal.2.1 YX9_seal.2.2.1 YX9_seal.2.2.2 ∈ lw_tbl := List.mem_of_getElem? (i := 976) (by decide +kernel)
theorem cv_L_56 : CV RL 56 YX9_seal 1 := ⟨wm_973, wm_974, wm_975, wm_67, wm_976, ⟨by decide +kernel, by decide +kernel, by decide +kernel⟩⟩
theorem wm_977 : Cond.methodLink RL 60 yX9_smash ∈ lw_tbl := List.mem_of_getElem? (i := 977) (by decide +kernel)
theorem wm_978 : Cond.instanceMethod yX9_smash ∈ lw_tbl := List.mem_of_getElem? (i := 978) (by decide +kernel)
theorem wm_979 : Cond.selects yX9_smash.cls yX9_smash yX9_smash ∈ lw_tbl := List.mem_of_getElem? (i := 979) (by decide +kernel)
theorem wm_980 : Cond.code YX9_smash.1 YX9_smash.2.1 YX9_smash.2.2.1 YX9_smash.2.2.2 ∈ lw_tbl := List.mem_of_getElem? (i := 980) (by decide +kernel)
theorem cv_L_60 : CV RL 60 YX9_smash 0 := ⟨wm_977, wm_978, wm_979, wm_67, wm_980, ⟨by decide +kernel, by decide +kernel, by decide +kernel⟩⟩
theorem wm_981 : Cond.methodLink RL 65 yX9_hire ∈ lw_tbl := List.mem_of_getElem? (i := 981) (by decide +kernel)
theorem wm_982 : Cond.instanceMethod yX9_hire ∈ lw_tbl := List.mem_of_getElem? (i := 982) (by decide +kernel)
theorem wm_983 : Cond.selects yX9_hire.cls yX9_hire yX9_hire ∈ lw_tbl := List.mem_of_getElem? (i := 983) (by decide +kernel)
theorem wm_984 : Cond.code YX9_hire.1 YX9_hire.2.1 YX9_hire.2.2.1 YX9_hire.2.2.2 ∈ lw_tbl := List.mem_of_getElem? (i := 984) (by decide +kernel)
theorem cv_L_65 : CV RL 65 YX9_hire 2 := ⟨wm_981, wm_982, wm_983, wm_67, wm_984, ⟨by decide +kernel, by decide +kernel, by decide +kernel⟩⟩
theorem wm_985 : Cond.methodLink RX9 181 yX9_hires ∈ lw_tbl := List.mem_of_getElem? (i := 985) (by decide +kernel)
theorem wm_987 : Cond.instanceMethod yX9_hires ∈ lw_tbl := List.mem_of_getElem? (i := 987) (by decide +kernel)
theorem wm_47 : Cond.selects yX9_hires.cls yX9_hires yX9_hires ∈ lw_tbl := List.mem_of_getElem? (i := 47) (by decide +kernel)
theorem wm_988 : Cond.code YX9_hires.1 YX9_hires.2.1 YX9_hires.2.2.1 YX9_hires.2.2.2 ∈ lw_tbl := List.mem_of_getElem? (i := 988) (by decide +kernel)
theorem cv_X9_181 : CV RX9 181 YX9_hires 2 := ⟨wm_985, wm_987, wm_47, wm_67, wm_988, ⟨by decide +kernel, by decide +kernel, by decide +kernel⟩⟩
theorem wm_989 : Cond.methodLink RL 70 yX9_buy ∈ lw_tbl := List.mem_of_getElem? (i := 989) (by decide +kernel)
theorem wm_990 : Cond.instanceMethod yX9_buy ∈ lw_tbl := List.mem_of_getElem? (i := 990) (by decide +kernel)
theorem wm_991 : Cond.selects yX9_buy.cls yX9_buy yX9_buy ∈ lw_tbl := List.mem_of_getElem? (i := 991) (by decide +kernel)
theorem wm_992 : Cond.code YX9_buy.1 YX9_buy.2.1 YX9_buy.2.2.1 YX9_buy.2.2.2 ∈ lw_tbl := List.mem_of_getElem? (i := 992) (by decide +kernel)
theorem cv_L_70 : CV RL 70 YX9_buy 3 := ⟨wm_989, wm_990, wm_991, wm_67, wm_992, ⟨by decide +kernel, by decide +kernel, by decide +kernel⟩⟩
theorem wm_993 : Cond.methodLink RX9 185 yX9_areWays ∈ lw_tbl := List.mem_of_getElem? (i := 993) (by decide +kernel)
theorem wm_995 : Cond.instanceMethod yX9_areWays ∈ lw_tbl := List.mem_of_getElem? (i := 995) (by decide +kernel)
theorem wm_48 : Cond.selects yX9_areWays.cls yX9_areWays yX9_areWays ∈ lw_tbl := List.mem_of_getElem? (i := 48) (by decide +kernel)
theorem wm_996 : Cond.code YX9_areWays.1 YX9_areWays.2.1 YX9_areWays.2.2.1 YX9_areWays.2.2.2 ∈ lw_tbl := List.mem_of_getElem? (i := 996) (by decide +kernel)
theorem cv_X9_185 : CV RX9 185 YX9_areWays 1 := ⟨wm_993, wm_995, wm_48, wm_67, wm_996, ⟨by decide +kernel, by decide +kernel, by decide +kernel⟩⟩
theorem wm_997 : Cond.methodLink RL 74 yX9_drift ∈ lw_tbl := List.mem_of_getElem? (i := 997) (by decide +kernel)
theorem wm_998 : Cond.instanceMethod yX9_drift ∈ lw_tbl := List.mem_of_getElem? (i := 998) (by decide +kernel)
theorem wm_999 : Cond.selects yX9_drift.cls yX9_drift yX9_drift ∈ lw_tbl := List.mem_of_getElem? (i := 999) (by decide +kernel)
theorem wm_1000 : Cond.code YX9_drift.1 YX9_drift.2.1 YX9_drift.2.2.1 YX9_drift.2.2.2 ∈ lw_tbl := List.mem_of_getElem? (i := 1000) (by decide +kernel)
theorem cv_L_74 : CV RL 74 YX9_drift 1 := ⟨wm_997, wm_998, wm_999, wm_67, wm_1000, ⟨by decide +kernel, by decide +kernel, by decide +kernel⟩⟩
theorem wm_1001 : Cond.methodLink RX9 198 yX9_draw ∈ lw_tbl := List.mem_of_getElem? (i := 1001) (by decide +kernel)
theorem wm_1003 : Cond.instanceMethod yX9_draw ∈ lw_tbl := List.mem_of_getElem? (i := 1003) (by decide +kernel)
theorem wm_49 : Cond.selects yX9_draw.cls yX9_draw yX9_draw ∈ lw_tbl := List.mem_of_getElem? (i := 49) (by decide +kernel)
theorem wm_1004 : Cond.code YX9_draw.1 YX9_draw.2.1 YX9_draw.2.2.1 YX9_draw.2.2.2 ∈ lw_tbl := List.mem_of_getElem? (i := 1004) (by decide +kernel)
theorem cv_X9_198 : CV RX9 198 YX9_draw 1 := ⟨wm_1001, wm_1003, wm_49, wm_67, wm_1004, ⟨by decide +kernel, by decide +kernel, by decide +kernel⟩⟩
theorem wm_1009 : Cond.methodLink RL 78 yX9_undo ∈ lw_tbl := List.mem_of_getElem? (i := 1009) (by decide +kernel)
theorem wm_1010 : Cond.instanceMethod yX9_undo ∈ lw_tbl := List.mem_of_getElem? (i := 1010) (by decide +kernel)
theorem wm_1011 : Cond.selects yX9_undo.cls yX9_undo yX9_undo ∈ lw_tbl := List.mem_of_getElem? (i := 1011) (by decide +kernel)
theorem wm_1012 : Cond.code YX9_undo.1 YX9_undo.2.1 YX9_undo.2.2.1 YX9_undo.2.2.2 ∈ lw_tbl := List.mem_of_getElem? (i := 1012) (by decide +kernel)
theorem cv_L_78 : CV RL 78 YX9_undo 0 := ⟨wm_1009, wm_1010, wm_1011, wm_67, wm_1012, ⟨by decide +kernel, by decide +kernel, by decide +kernel⟩⟩
theorem wm_1013 : Cond.methodLink RL 82 yX9_belief ∈ lw_tbl := List.mem_of_getElem? (i := 1013) (by decide +kernel)
theorem wm_1014 : Cond.instanceMethod yX9_belief ∈ lw_tbl := List.mem_of_getElem? (i := 1014) (by decide +kernel)
theorem wm_1015 : Cond.selects yX9_belief.cls yX9_belief yX9_belief ∈ lw_tbl := List.mem_of_getElem? (i := 1015) (by decide +kernel)
theorem wm_1016 : Cond.code YX9_belief.1 YX9_belief.2.1 YX9_belief.2.2.1 YX9_belief.2.2.2 ∈ lw_tbl := List.mem_of_getElem? (i := 1016) (by decide +kernel)
theorem cv_L_82 : CV RL 82 YX9_belief 1 := ⟨wm_1013, wm_1014, wm_1015, wm_67, wm_1016, ⟨by decide +kernel, by decide +kernel, by decide +kernel⟩⟩
theorem wm_1017 : Cond.methodLink RX9 206 yX9_beliefBy ∈ lw_tbl := List.mem_of_getElem? (i := 1017) (by decide +kernel)
theorem wm_1019 : Cond.instanceMethod yX9_beliefBy ∈ lw_tbl := List.mem_of_getElem? (i := 1019) (by decide +kernel)
theorem wm_50 : Cond.selects yX9_beliefBy.cls yX9_beliefBy yX9_beliefBy ∈ lw_tbl := List.mem_of_getElem? (i := 50) (by decide +kernel)
theorem wm_1020 : Cond.code YX9_beliefBy.1 YX9_beliefBy.2.1 YX9_beliefBy.2.2.1 YX9_beliefBy.2.2.2 ∈ lw_tbl := List.mem_of_getElem? (i := 1020) (by decide +kernel)
theorem cv_X9_206 : CV RX9 206 YX9_beliefBy 2 := ⟨wm_1017, wm_1019, wm_50, wm_67, wm_1020, ⟨by decide +kernel, by decide +kernel, by decide +kernel⟩⟩
theorem wm_1022 : Cond.methodLink RX9 203 yX9_likelyIn ∈ lw_tbl := List.mem_of_getElem? (i := 1022) (by decide +kernel)
theorem wm_1024 : Cond.instanceMethod yX9_likelyIn ∈ lw_tbl := List.mem_of_getElem? (i := 1024) (by decide +kernel)
theorem wm_51 : Cond.selects yX9_likelyIn.cls yX9_likelyIn yX9_likelyIn ∈ lw_tbl := List.mem_of_getElem? (i := 51) (by decide +kernel)
theorem wm_1025 : Cond.code YX9_likelyIn.1 YX9_likelyIn.2.1 YX9_likelyIn.2.2.1 YX9_likelyIn.2.2.2 ∈ lw_tbl := List.mem_of_getElem? (i := 1025) (by decide +kernel)
theorem cv_X9_203 : CV RX9 203 YX9_likelyIn 1 := ⟨wm_1022, wm_1024, wm_51, wm_67, wm_1025, ⟨by decide +kernel, by decide +kernel, by decide +kernel⟩⟩
theorem wm_1026 : Cond.methodLink RL 86 yX9_liars ∈ lw_tbl := List.mem_of_getElem? (i := 1026) (by decide +kernel)
theorem wm_1027 : Cond.instanceMethod yX9_liars ∈ lw_tbl := List.mem_of_getElem? (i := 1027) (by decide +kernel)
theorem wm_1028 : Cond.selects yX9_liars.cls yX9_liars yX9_liars ∈ lw_tbl := List.mem_of_getElem? (i := 1028) (by decide +kernel)
theorem wm_1029 : Cond.code YX9_liars.1 YX9_liars.2.1 YX9_liars.2.2.1 YX9_liars.2.2.2 ∈ lw_tbl := List.mem_of_getElem? (i := 1029) (by decide +kernel)
theorem cv_L_86 : CV RL 86 YX9_liars 1 := ⟨wm_1026, wm_1027, wm_1028, wm_67, wm_1029, ⟨by decide +kernel, by decide +kernel, by decide +kernel⟩⟩
theorem wm_1030 : Cond.methodLink RX9 209 yX9_liarsBy ∈ lw_tbl := List.mem_of_getElem? (i := 1030) (by decide +kernel)
theorem wm_1032 : Cond.instanceMethod yX9_liarsBy ∈ lw_tbl := List.mem_of_getElem? (i := 1032) (by decide +kernel)
theorem wm_52 : Cond.selects yX9_liarsBy.cls yX9_liarsBy yX9_liarsBy ∈ lw_tbl := List.mem_of_getElem? (i := 52) (by decide +kernel)
theorem wm_1033 : Cond.code YX9_liarsBy.1 YX9_liarsBy.2.1 YX9_liarsBy.2.2.1 YX9_liarsBy.2.2.2 ∈ lw_tbl := List.mem_of_getElem? (i := 1033) (by decide +kernel)
theorem cv_X9_209 : CV RX9 209 YX9_liarsBy 1 := ⟨wm_1030, wm_1032, wm_52, wm_67, wm_1033, ⟨by decide +kernel, by decide +kernel, by decide +kernel⟩⟩
theorem wm_1034 : Cond.methodLink RL 90 yX9_leastLiars ∈ lw_tbl := List.mem_of_getElem? (i := 1034) (by decide +kernel)
theorem wm_1035 : Cond.instanceMethod yX9_leastLiars ∈ lw_tbl := List.mem_of_getElem? (i := 1035) (by decide +kernel)
theorem wm_1036 : Cond.selects yX9_leastLiars.cls yX9_leastLiars yX9_leastLiars ∈ lw_tbl := List.mem_of_getElem? (i := 1036) (by decide +kernel)
theorem wm_1037 : Cond.code YX9_leastLiars.1 YX9_leastLiars.2.1 YX9_leastLiars.2.2.1 YX9_leastLiars.2.2.2 ∈ lw_tbl := List.mem_of_getElem? (i := 1037) (by decide +kernel)
theorem cv_L_90 : CV RL 90 YX9_leastLiars 1 := ⟨wm_1034, wm_1035, wm_1036, wm_67, wm_1037, ⟨by decide +kernel, by decide +kernel, by decide +kernel⟩⟩
theorem wm_1038 : Cond.methodLink RX9 212 yX9_ones ∈ lw_tbl := List.mem_of_getElem? (i := 1038) (by decide +kernel)
theorem wm_1039 : Cond.static yX9_ones ∈ lw_tbl := List.mem_of_getElem? (i := 1039) (by decide +kernel)
theorem wm_1040 : Cond.code YX9_ones.1 YX9_ones.2.1 YX9_ones.2.2.1 YX9_ones.2.2.2 ∈ lw_tbl := List.mem_of_getElem? (i := 1040) (by decide +kernel)
theorem cv_X9_212 : CS RX9 212 YX9_ones 1 := ⟨wm_1038, wm_1039, wm_67, wm_1040, ⟨by decide +kernel, by decide +kernel, by decide +kernel⟩⟩
theorem wm_1041 : Cond.methodLink RL 94 yX9_ruleOut ∈ lw_tbl := List.mem_of_getElem? (i := 1041) (by decide +kernel)
theorem wm_1042 : Cond.instanceMethod yX9_ruleOut ∈ lw_tbl := List.mem_of_getElem? (i := 1042) (by decide +kernel)
theorem wm_1043 : Cond.selects yX9_ruleOut.cls yX9_ruleOut yX9_ruleOut ∈ lw_tbl := List.mem_of_getElem? (i := 1043) (by decide +kernel)
theorem wm_1044 : Cond.code YX9_ruleOut.1 YX9_ruleOut.2.1 YX9_ruleOut.2.2.1 YX9_ruleOut.2.2.2 ∈ lw_tbl := List.mem_of_getElem? (i := 1044) (by decide +kernel)
theorem cv_L_94 : CV RL 94 YX9_ruleOut 3 := ⟨wm_1041, wm_1042, wm_1043, wm_67, wm_1044, ⟨by decide +kernel, by decide +kernel, by decide +kernel⟩⟩
theorem wm_1045 : Cond.methodLink RX9 215 yX9_costOf ∈ lw_tbl := List.mem_of_getElem? (i := 1045) (by decide +kernel)
theorem wm_1047 : Cond.instanceMethod yX9_costOf ∈ lw_tbl := List.mem_of_getElem? (i := 1047) (by decide +kernel)
theorem wm_53 : Cond.selects yX9_costOf.cls yX9_costOf yX9_costOf ∈ lw_tbl := List.mem_of_getElem? (i := 53) (by decide +kernel)
theorem wm_1048 : Cond.code YX9_costOf.1 YX9_costOf.2.1 YX9_costOf.2.2.1 YX9_costOf.2.2.2 ∈ lw_tbl := List.mem_of_getElem? (i := 1048) (by decide +kernel)
theorem cv_X9_215 : CV RX9 215 YX9_costOf 1 := ⟨wm_1045, wm_1047, wm_53, wm_67, wm_1048, ⟨by decide +kernel, by decide +kernel, by decide +kernel⟩⟩
theorem wm_1049 : Cond.methodLink RL 98 yX9_next ∈ lw_tbl := List.mem_of_getElem? (i := 1049) (by decide +kernel)
theorem wm_1050 : Cond.instanceMethod yX9_next ∈ lw_tbl := List.mem_of_getElem? (i := 1050) (by decide +kernel)
theorem wm_1051 : Cond.selects yX9_next.cls yX9_next yX9_next ∈ lw_tbl := List.mem_of_getElem? (i := 1051) (by decide +kernel)
theorem wm_1052 : Cond.code YX9_next.1 YX9_next.2.1 YX9_next.2.2.1 YX9_next.2.2.2 ∈ lw_tbl := List.mem_of_getElem? (i := 1052) (by decide +kernel)
theorem cv_L_98 : CV RL 98 YX9_next 0 := ⟨wm_1049, wm_1050, wm_1051, wm_67, wm_1052, ⟨by decide +kernel, by decide +kernel, by decide +kernel⟩⟩
theorem wm_1053 : Cond.methodLink RL 102 yX9_offer ∈ lw_tbl := List.mem_of_getElem? (i := 1053) (by decide +kernel)
theorem wm_1054 : Cond.instanceMethod yX9_offer ∈ lw_tbl := List.mem_of_getElem? (i := 1054) (by decide +kernel)
theorem wm_1055 : Cond.selects yX9_offer.cls yX9_offer yX9_offer ∈ lw_tbl := List.mem_of_getElem? (i := 1055) (by decide +kernel)
theorem wm_1056 : Cond.code YX9_offer.1 YX9_offer.2.1 YX9_offer.2.2.1 YX9_offer.2.2.2 ∈ lw_tbl := List.mem_of_getElem? (i := 1056) (by decide +kernel)
theorem cv_L_102 : CV RL 102 YX9_offer 2 := ⟨wm_1053, wm_1054, wm_1055, wm_67, wm_1056, ⟨by decide +kernel, by decide +kernel, by decide +kernel⟩⟩
theorem wm_1057 : Cond.methodLink RX9 218 yX9_offerBy ∈ lw_tbl := List.mem_of_getElem? (i := 1057) (by decide +kernel)
theorem wm_1059 : Cond.instanceMethod yX9_offerBy ∈ lw_tbl := List.mem_of_getElem? (i := 1059) (by decide +kernel)
theorem wm_54 : Cond.selects yX9_offerBy.cls yX9_offerBy yX9_offerBy ∈ lw_tbl := List.mem_of_getElem? (i := 54) (by decide +kernel)
theorem wm_1060 : Cond.code YX9_offerBy.1 YX9_offerBy.2.1 YX9_offerBy.2.2.1 YX9_offerBy.2.2.2 ∈ lw_tbl := List.mem_of_getElem? (i := 1060) (by decide +kernel)
theorem cv_X9_218 : CV RX9 218 YX9_offerBy 3 := ⟨wm_1057, wm_1059, wm_54, wm_67, wm_1060, ⟨by decide +kernel, by decide +kernel, by decide +kernel⟩⟩
theorem wm_1061 : Cond.methodLink RL 106 yX9_both ∈ lw_tbl := List.mem_of_getElem? (i := 1061) (by decide +kernel)
theorem wm_1062 : Cond.instanceMethod yX9_both ∈ lw_tbl := List.mem_of_getElem? (i := 1062) (by decide +kernel)
theorem wm_1063 : Cond.selects yX9_both.cls yX9_both yX9_both ∈ lw_tbl := List.mem_of_getElem? (i := 1063) (by decide +kernel)
theorem wm_1064 : Cond.code YX9_both.1 YX9_both.2.1 YX9_both.2.2.1 YX9_both.2.2.2 ∈ lw_tbl := List.mem_of_getElem? (i := 1064) (by decide +kernel)
theorem cv_L_106 : CV RL 106 YX9_both 3 := ⟨wm_1061, wm_1062, wm_1063, wm_67, wm_1064, ⟨by decide +kernel, by decide +kernel, by decide +kernel⟩⟩
theorem wm_1065 : Cond.methodLink RL 110 yX9_worth ∈ lw_tbl := List.mem_of_getElem? (i := 1065) (by decide +kernel)
theorem wm_1066 : Cond.instanceMethod yX9_worth ∈ lw_tbl := List.mem_of_getElem? (i := 1066) (by decide +kernel)
theorem wm_1067 : Cond.selects yX9_worth.cls yX9_worth yX9_worth ∈ lw_tbl := List.mem_of_getElem? (i := 1067) (by decide +kernel)
theorem wm_1068 : Cond.code YX9_worth.1 YX9_worth.2.1 YX9_worth.2.2.1 YX9_worth.2.2.2 ∈ lw_tbl := List.mem_of_getElem? (i := 1068) (by decide +kernel)
theorem cv_L_110 : CV RL 110 YX9_worth 2 := ⟨wm_1065, wm_1066, wm_1067, wm_67, wm_1068, ⟨by decide +kernel, by decide +kernel, by decide +kernel⟩⟩
theorem wm_1070 : Cond.methodLink RL 114 yX9_secret ∈ lw_tbl := List.mem_of_getElem? (i := 1070) (by decide +kernel)
theorem wm_1071 : Cond.instanceMethod yX9_secret ∈ lw_tbl := List.mem_of_getElem? (i := 1071) (by decide +kernel)
theorem wm_1072 : Cond.selects yX9_secret.cls yX9_secret yX9_secret ∈ lw_tbl := List.mem_of_getElem? (i := 1072) (by decide +kernel)
theorem wm_1073 : Cond.code YX9_secret.1 YX9_secret.2.1 YX9_secret.2.2.1 YX9_secret.2.2.2 ∈ lw_tbl := List.mem_of_getElem? (i := 1073) (by decide +kernel)
theorem cv_L_114 : CV RL 114 YX9_secret 2 := ⟨wm_1070, wm_1071, wm_1072, wm_67, wm_1073, ⟨by decide +kernel, by decide +kernel, by decide +kernel⟩⟩
theorem wm_1075 : Cond.methodLink RL 118 yX9_hear ∈ lw_tbl := List.mem_of_getElem? (i := 1075) (by decide +kernel)
theorem wm_1076 : Cond.instanceMethod yX9_hear ∈ lw_tbl := List.mem_of_getElem? (i := 1076) (by decide +kernel)
theorem wm_1077 : Cond.selects yX9_hear.cls yX9_hear yX9_hear ∈ lw_tbl := List.mem_of_getElem? (i := 1077) (by decide +kernel)
theorem wm_1078 : Cond.code YX9_hear.1 YX9_hear.2.1 YX9_hear.2.2.1 YX9_hear.2.2.2 ∈ lw_tbl := List.mem_of_getElem? (i := 1078) (by decide +kernel)
theorem cv_L_118 : CV RL 118 YX9_hear 2 := ⟨wm_1075, wm_1076, wm_1077, wm_67, wm_1078, ⟨by decide +kernel, by decide +kernel, by decide +kernel⟩⟩
theorem wm_1079 : Cond.methodLink RL 122 yX9_paid ∈ lw_tbl := List.mem_of_getElem? (i := 1079) (by decide +kernel)
theorem wm_1080 : Cond.instanceMethod yX9_paid ∈ lw_tbl := List.mem_of_getElem? (i := 1080) (by decide +kernel)
theorem wm_1081 : Cond.selects yX9_paid.cls yX9_paid yX9_paid ∈ lw_tbl := List.mem_of_getElem? (i := 1081) (by decide +kernel)
theorem wm_1082 : Cond.code YX9_paid.1 YX9_paid.2.1 YX9_paid.2.2.1 YX9_paid.2.2.2 ∈ lw_tbl := List.mem_of_getElem? (i := 1082) (by decide +kernel)
theorem cv_L_122 : CV RL 122 YX9_paid 0 := ⟨wm_1079, wm_1080, wm_1081, wm_67, wm_1082, ⟨by decide +kernel, by decide +kernel, by decide +kernel⟩⟩
theorem wm_1083 : Cond.methodLink RX9 227 yX9_paidSet ∈ lw_tbl := List.mem_of_getElem? (i := 1083) (by decide +kernel)
theorem wm_1085 : Cond.instanceMethod yX9_paidSet ∈ lw_tbl := List.mem_of_getElem? (i := 1085) (by decide +kernel)
theorem wm_55 : Cond.selects yX9_paidSet.cls yX9_paidSet yX9_paidSet ∈ lw_tbl := List.mem_of_getElem? (i := 55) (by decide +kernel)
theorem wm_1086 : Cond.code YX9_paidSet.1 YX9_paidSet.2.1 YX9_paidSet.2.2.1 YX9_paidSet.2.2.2 ∈ lw_tbl := List.mem_of_getElem? (i := 1086) (by decide +kernel)
theorem cv_X9_227 : CV RX9 227 YX9_paidSet 0 := ⟨wm_1083, wm_1085, wm_55, wm_67, wm_1086, ⟨by decide +kernel, by decide +kernel, by decide +kernel⟩⟩
theorem wm_1087 : Cond.methodLink RX9 224 yX9_gotBy ∈ lw_tbl := List.mem_of_getElem? (i := 1087) (by decide +kernel)
theorem wm_1089 : Cond.instanceMethod yX9_gotBy ∈ lw_tbl := List.mem_of_getElem? (i := 1089) (by decide +kernel)
theorem wm_56 : Cond.selects yX9_gotBy.cls yX9_gotBy yX9_gotBy ∈ lw_tbl := List.mem_of_getElem? (i := 56) (by decide +kernel)
theorem wm_1090 : Cond.code YX9_gotBy.1 YX9_gotBy.2.1 YX9_gotBy.2.2.1 YX9_gotBy.2.2.2 ∈ lw_tbl := List.mem_of_getElem? (i := 1090) (by decide +kernel)
theorem cv_X9_224 : CV RX9 224 YX9_gotBy 2 := ⟨wm_1087, wm_1089, wm_56, wm_67, wm_1090, ⟨by decide +kernel, by decide +kernel, by decide +kernel⟩⟩
theorem wm_1091 : Cond.methodLink RL 126 yX9_ask ∈ lw_tbl := List.mem_of_getElem? (i := 1091) (by decide +kernel)
theorem wm_1092 : Cond.instanceMethod yX9_ask ∈ lw_tbl := List.mem_of_getElem? (i := 1092) (by decide +kernel)
theorem wm_1093 : Cond.selects yX9_ask.cls yX9_ask yX9_ask ∈ lw_tbl := List.mem_of_getElem? (i := 1093) (by decide +kernel)
theorem wm_1094 : Cond.code YX9_ask.1 YX9_ask.2.1 YX9_ask.2.2.1 YX9_ask.2.2.2 ∈ lw_tbl := List.mem_of_getElem? (i := 1094) (by decide +kernel)
theorem cv_L_126 : CV RL 126 YX9_ask 0 := ⟨wm_1091, wm_1092, wm_1093, wm_67, wm_1094, ⟨by decide +kernel, by decide +kernel, by decide +kernel⟩⟩
theorem wm_1095 : Cond.methodLink RL 130 yX9_write ∈ lw_tbl := List.mem_of_getElem? (i := 1095) (by decide +kernel)
theorem wm_1096 : Cond.instanceMethod yX9_write ∈ lw_tbl := List.mem_of_getElem? (i := 1096) (by decide +kernel)
theorem wm_1097 : Cond.selects yX9_write.cls yX9_write yX9_write ∈ lw_tbl := List.mem_of_getElem? (i := 1097) (by decide +kernel)
theorem wm_1098 : Cond.code YX9_write.1 YX9_write.2.1 YX9_write.2.2.1 YX9_write.2.2.2 ∈ lw_tbl := List.mem_of_getElem? (i := 1098) (by decide +kernel)
theorem cv_L_130 : CV RL 130 YX9_write 1 := ⟨wm_1095, wm_1096, wm_1097, wm_67, wm_1098, ⟨by decide +kernel, by decide +kernel, by decide +kernel⟩⟩
theorem wm_1099 : Cond.methodLink RL 134 yX9_tear ∈ lw_tbl := List.mem_of_getElem? (i := 1099) (by decide +kernel)
theorem wm_1100 : Cond.instanceMethod yX9_tear ∈ lw_tbl := List.mem_of_getElem? (i := 1100) (by decide +kernel)
theorem wm_1101 : Cond.selects yX9_tear.cls yX9_tear yX9_tear ∈ lw_tbl := List.mem_of_getElem? (i := 1101) (by decide +kernel)
theorem wm_1102 : Cond.code YX9_tear.1 YX9_tear.2.1 YX9_tear.2.2.1 YX9_tear.2.2.2 ∈ lw_tbl := List.mem_of_getElem? (i := 1102) (by decide +kernel)
theorem cv_L_134 : CV RL 134 YX9_tear 0 := ⟨wm_1099, wm_1100, wm_1101, wm_67, wm_1102, ⟨by decide +kernel, by decide +kernel, by decide +kernel⟩⟩
theorem wm_1103 : Cond.methodLink RL 138 yX9_judge ∈ lw_tbl := List.mem_of_getElem? (i := 1103) (by decide +kernel)
theorem wm_1104 : Cond.instanceMethod yX9_judge ∈ lw_tbl := List.mem_of_getElem? (i := 1104) (by decide +kernel)
theorem wm_1105 : Cond.selects yX9_judge.cls yX9_judge yX9_judge ∈ lw_tbl := List.mem_of_getElem? (i := 1105) (by decide +kernel)
theorem wm_1106 : Cond.code YX9_judge.1 YX9_judge.2.1 YX9_judge.2.2.1 YX9_judge.2.2.2 ∈ lw_tbl := List.mem_of_getElem? (i := 1106) (by decide +kernel)
theorem cv_L_138 : CV RL 138 YX9_judge 0 := ⟨wm_1103, wm_1104, wm_1105, wm_67, wm_1106, ⟨by decide +kernel, by decide +kernel, by decide +kernel⟩⟩
theorem wm_1107 : Cond.methodLink RL 142 yX9_seed ∈ lw_tbl := List.mem_of_getElem? (i := 1107) (by decide +kernel)
theorem wm_1108 : Cond.instanceMethod yX9_seed ∈ lw_tbl := List.mem_of_getElem? (i := 1108) (by decide +kernel)
theorem wm_1109 : Cond.selects yX9_seed.cls yX9_seed yX9_seed ∈ lw_tbl := List.mem_of_getElem? (i := 1109) (by decide +kernel)
theorem wm_1110 : Cond.code YX9_seed.1 YX9_seed.2.1 YX9_seed.2.2.1 YX9_seed.2.2.2 ∈ lw_tbl := List.mem_of_getElem? (i := 1110) (by decide +kernel)
theorem cv_L_142 : CV RL 142 YX9_seed 1 := ⟨wm_1107, wm_1108, wm_1109, wm_67, wm_1110, ⟨by decide +kernel, by decide +kernel, by decide +kernel⟩⟩
theorem wm_1111 : Cond.methodLink RL 146 yX9_keep ∈ lw_tbl := List.mem_of_getElem? (i := 1111) (by decide +kernel)
theorem wm_1112 : Cond.instanceMethod yX9_keep ∈ lw_tbl := List.mem_of_getElem? (i := 1112) (by decide +kernel)
theorem wm_1113 : Cond.selects yX9_keep.cls yX9_keep yX9_keep ∈ lw_tbl := List.mem_of_getElem? (i := 1113) (by decide +kernel)
theorem wm_1114 : Cond.code YX9_keep.1 YX9_keep.2.1 YX9_keep.2.2.1 YX9_keep.2.2.2 ∈ lw_tbl := List.mem_of_getElem? (i := 1114) (by decide +kernel)
theorem cv_L_146 : CV RL 146 YX9_keep 1 := ⟨wm_1111, wm_1112, wm_1113, wm_67, wm_1114, ⟨by decide +kernel, by decide +kernel, by decide +kernel⟩⟩
theorem wm_1115 : Cond.methodLink RL 150 yX9_goBack ∈ lw_tbl := List.mem_of_getElem? (i := 1115) (by decide +kernel)
theorem wm_1116 : Cond.instanceMethod yX9_goBack ∈ lw_tbl := List.mem_of_getElem? (i := 1116) (by decide +kernel)
theorem wm_1117 : Cond.selects yX9_goBack.cls yX9_goBack yX9_goBack ∈ lw_tbl := List.mem_of_getElem? (i := 1117) (by decide +kernel)
theorem wm_1118 : Cond.code YX9_goBack.1 YX9_goBack.2.1 YX9_goBack.2.2.1 YX9_goBack.2.2.2 ∈ lw_tbl := List.mem_of_getElem? (i := 1118) (by decide +kernel)
theorem cv_L_150 : CV RL 150 YX9_goBack 1 := ⟨wm_1115, wm_1116, wm_1117, wm_67, wm_1118, ⟨by decide +kernel, by decide +kernel, by decide +kernel⟩⟩
theorem wm_86 : Cond.methodLinkNest RX7 20 yX2_init "TurningWheel" ∈ lw_tbl := List.mem_of_getElem? (i := 86) (by decide +kernel)
theorem wm_87 : Cond.instanceMethod yX2_init ∈ lw_tbl := List.mem_of_getElem? (i := 87) (by decide +kernel)
theorem wm_88 : Cond.code YX2_init.1 YX2_init.2.1 YX2_init.2.2.1 YX2_init.2.2.2 ∈ lw_tbl := List.mem_of_getElem? (i := 88) (by decide +kernel)
theorem cv_X7_20 : CJ RX7 20 YX2_init 0 := ⟨wm_86, ⟨rfl, wm_87⟩, wm_60, wm_88, ⟨by decide +kernel, by decide +kernel, by decide +kernel⟩⟩
theorem wm_181 : Cond.methodLinkNest RX8 31 yX2_init "TurningWheel" ∈ lw_tbl := List.mem_of_getElem? (i := 181) (by decide +kernel)
theorem cv_X8_31 : CJ RX8 31 YX2_init 0 := ⟨wm_181, ⟨rfl, wm_87⟩, wm_60, wm_88, ⟨by decide +kernel, by decide +kernel, by decide +kernel⟩⟩
theorem wm_184 : Cond.methodLinkNest RX8 38 yX0_init "TurningWheel" ∈ lw_tbl := List.mem_of_getElem? (i := 184) (by decide +kernel)
theorem wm_185 : Cond.instanceMethod yX0_init ∈ lw_tbl := List.mem_of_getElem? (i := 185) (by decide +kernel)
theorem wm_186 : Cond.code YX0_init.1 YX0_init.2.1 YX0_init.2.2.1 YX0_init.2.2.2 ∈ lw_tbl := List.mem_of_getElem? (i := 186) (by decide +kernel)
theorem cv_X8_38 : CJ RX8 38 YX0_init 0 := ⟨wm_184, ⟨rfl, wm_185⟩, wm_61, wm_186, ⟨by decide +kernel, by decide +kernel, by decide +kernel⟩⟩
theorem wm_233 : Cond.methodLinkNest RX5 24 yX0_init "TurningWheel" ∈ lw_tbl := List.mem_of_getElem? (i := 233) (by decide +kernel)
theorem cv_X5_24 : CJ RX5 24 YX0_init 0 := ⟨wm_233, ⟨rfl, wm_185⟩, wm_61, wm_186, ⟨by decide +kernel, by decide +kernel, by decide +kernel⟩⟩
theorem wm_247 : Cond.methodLinkNest RX8 52 yX4_init "TurningWheel" ∈ lw_tbl := List.mem_of_getElem? (i := 247) (by decide +kernel)
theorem wm_248 : Cond.instanceMethod yX4_init ∈ lw_tbl := List.mem_of_getElem? (i := 248) (by decide +kernel)
theorem wm_249 : Cond.code YX4_init.1 YX4_init.2.1 YX4_init.2.2.1 YX4_init.2.2.2 ∈ lw_tbl := List.mem_of_getElem? (i := 249) (by decide +kernel)
theorem cv_X8_52 : CJ RX8 52 YX4_init 0 := ⟨wm_247, ⟨rfl, wm_248⟩, wm_63, wm_249, ⟨by decide +kernel, by decide +kernel, by decide +kernel⟩⟩
theorem wm_265 : Cond.methodLinkNest RX8 59 yX1_init "TurningWheel" ∈ lw_tbl := List.mem_of_getElem? (i := 265) (by decide +kernel)
theorem wm_266 : Cond.instanceMethod yX1_init ∈ lw_tbl := List.mem_of_getElem? (i := 266) (by decide +kernel)
theorem wm_267 : Cond.code YX1_init.1 YX1_init.2.1 YX1_init.2.2.1 YX1_init.2.2.2 ∈ lw_tbl := List.mem_of_getElem? (i := 267) (by decide +kernel)
theorem cv_X8_59 : CJ RX8 59 YX1_init 0 := ⟨wm_265, ⟨rfl, wm_266⟩, wm_64, wm_267, ⟨by decide +kernel, by decide +kernel, by decide +kernel⟩⟩
theorem wm_279 : Cond.methodLinkNest RX8 66 yX3_init "TurningWheel" ∈ lw_tbl := List.mem_of_getElem? (i := 279) (by decide +kernel)
theorem wm_280 : Cond.instanceMethod yX3_init ∈ lw_tbl := List.mem_of_getElem? (i := 280) (by decide +kernel)
theorem wm_281 : Cond.code YX3_init.1 YX3_init.2.1 YX3_init.2.2.1 YX3_init.2.2.2 ∈ lw_tbl := List.mem_of_getElem? (i := 281) (by decide +kernel)
theorem cv_X8_66 : CJ RX8 66 YX3_init 0 := ⟨wm_279, ⟨rfl, wm_280⟩, wm_65, wm_281, ⟨by decide +kernel, by decide +kernel, by decide +kernel⟩⟩
theorem wm_291 : Cond.methodLinkNest RX8 77 yX6_init "TurningWheel" ∈ lw_tbl := List.mem_of_getElem? (i := 291) (by decide +kernel)
theorem wm_292 : Cond.instanceMethod yX6_init ∈ lw_tbl := List.mem_of_getElem? (i := 292) (by decide +kernel)
theorem wm_66 : Cond.initialized RX6 ∈ lw_tbl := List.mem_of_getElem? (i := 66) (by decide +kernel)
theorem wm_293 : Cond.code YX6_init.1 YX6_init.2.1 YX6_init.2.2.1 YX6_init.2.2.2 ∈ lw_tbl := List.mem_of_getElem? (i := 293) (by decide +kernel)
theorem cv_X8_77 : CJ RX8 77 YX6_init 0 := ⟨wm_291, ⟨rfl, wm_292⟩, wm_66, wm_293, ⟨by decide +kernel, by decide +kernel, by decide +kernel⟩⟩
theorem wm_296 : Cond.methodLinkNest RX6 15 yX0_init "TurningWheel" ∈ lw_tbl := List.mem_of_getElem? (i := 296) (by decide +kernel)
theorem cv_X6_15 : CJ RX6 15 YX0_init 0 := ⟨wm_296, ⟨rfl, wm_185⟩, wm_61, wm_186, ⟨by decide +kernel, by decide +kernel, by decide +kernel⟩⟩
theorem wm_399 : Cond.methodLinkNest RX7 136 yX8_within "TurningWheel" ∈ lw_tbl := List.mem_of_getElem? (i := 399) (by decide +kernel)
theorem cv_X7_136 : CN RX7 136 YX8_within 3 := ⟨wm_399, wm_349, wm_58, wm_350, ⟨by decide +kernel, by decide +kernel, by decide +kernel⟩⟩
theorem wm_420 : Cond.methodLinkNest RX7 109 yX8_has "TurningWheel" ∈ lw_tbl := List.mem_of_getElem? (i := 420) (by decide +kernel)
theorem cv_X7_109 : CN RX7 109 YX8_has 2 := ⟨wm_420, wm_421, wm_58, wm_422, ⟨by decide +kernel, by decide +kernel, by decide +kernel⟩⟩
theorem wm_467 : Cond.methodLinkNest RX2 54 yX8_has "TurningWheel" ∈ lw_tbl := List.mem_of_getElem? (i := 467) (by decide +kernel)
theorem cv_X2_54 : CN RX2 54 YX8_has 2 := ⟨wm_467, wm_421, wm_58, wm_422, ⟨by decide +kernel, by decide +kernel, by decide +kernel⟩⟩
theorem wm_490 : Cond.methodLinkNest RX2 46 yX8_within "TurningWheel" ∈ lw_tbl := List.mem_of_getElem? (i := 490) (by decide +kernel)
theorem cv_X2_46 : CN RX2 46 YX8_within 3 := ⟨wm_490, wm_349, wm_58, wm_350, ⟨by decide +kernel, by decide +kernel, by decide +kernel⟩⟩
theorem wm_532 : Cond.methodLinkNest RX0 51 yX8_has "TurningWheel" ∈ lw_tbl := List.mem_of_getElem? (i := 532) (by decide +kernel)
theorem cv_X0_51 : CN RX0 51 YX8_has 2 := ⟨wm_532, wm_421, wm_58, wm_422, ⟨by decide +kernel, by decide +kernel, by decide +kernel⟩⟩
theorem wm_537 : Cond.methodLinkNest RX0 72 yX8_within "TurningWheel" ∈ lw_tbl := List.mem_of_getElem? (i := 537) (by decide +kernel)
theorem cv_X0_72 : CN RX0 72 YX8_within 3 := ⟨wm_537, wm_349, wm_58, wm_350, ⟨by decide +kernel, by decide +kernel, by decide +kernel⟩⟩
theorem wm_710 : Cond.methodLinkNest RX4 44 yX8_has "TurningWheel" ∈ lw_tbl := List.mem_of_getElem? (i := 710) (by decide +kernel)
theorem cv_X4_44 : CN RX4 44 YX8_has 2 := ⟨wm_710, wm_421, wm_58, wm_422, ⟨by decide +kernel, by decide +kernel, by decide +kernel⟩⟩
theorem wm_71 : Cond.instantiable RX8 11 ∈ lw_tbl := List.mem_of_getElem? (i := 71) (by decide +kernel)
theorem ck_L_7 : CK RL 7 8 := ⟨RX8, TX8, 11, rfl, List.mem_of_getElem? (i := 70) (by decide +kernel), wm_71, wm_58⟩
theorem wm_79 : Cond.instantiable RX7 9 ∈ lw_tbl := List.mem_of_getElem? (i := 79) (by decide +kernel)
theorem ck_X8_20 : CK RX8 20 7 := ⟨RX7, TX7, 9, rfl, List.mem_of_getElem? (i := 78) (by decide +kernel), wm_79, wm_59⟩
theorem wm_85 : Cond.instantiable RX2 11 ∈ lw_tbl := List.mem_of_getElem? (i := 85) (by decide +kernel)
theorem ck_X7_18 : CK RX7 18 2 := ⟨RX2, TX2, 11, rfl, List.mem_of_getElem? (i := 84) (by decide +kernel), wm_85, wm_60⟩
theorem ck_X8_29 : CK RX8 29 2 := ⟨RX2, TX2, 11, rfl, List.mem_of_getElem? (i := 180) (by decide +kernel), wm_85, wm_60⟩
theorem wm_183 : Cond.instantiable RX0 9 ∈ lw_tbl := List.mem_of_getElem? (i := 183) (by decide +kernel)
theorem ck_X8_36 : CK RX8 36 0 := ⟨RX0, TX0, 9, rfl, List.mem_of_getElem? (i := 182) (by decide +kernel), wm_183, wm_61⟩
theorem wm_226 : Cond.instantiable RX5 3 ∈ lw_tbl := List.mem_of_getElem? (i := 226) (by decide +kernel)
theorem ck_X8_43 : CK RX8 43 5 := ⟨RX5, TX5, 3, rfl, List.mem_of_getElem? (i := 225) (by decide +kernel), wm_226, wm_62⟩
theorem ck_X5_9 : CK RX5 9 0 := ⟨RX0, TX0, 9, rfl, List.mem_of_getElem? (i := 231) (by decide +kernel), wm_183, wm_61⟩
theorem wm_246 : Cond.instantiable RX4 3 ∈ lw_tbl := List.mem_of_getElem? (i := 246) (by decide +kernel)
theorem ck_X8_50 : CK RX8 50 4 := ⟨RX4, TX4, 3, rfl, List.mem_of_getElem? (i := 245) (by decide +kernel), wm_246, wm_63⟩
theorem wm_264 : Cond.instantiable RX1 2 ∈ lw_tbl := List.mem_of_getElem? (i := 264) (by decide +kernel)
theorem ck_X8_57 : CK RX8 57 1 := ⟨RX1, TX1, 2, rfl, List.mem_of_getElem? (i := 263) (by decide +kernel), wm_264, wm_64⟩
theorem wm_278 : Cond.instantiable RX3 1 ∈ lw_tbl := List.mem_of_getElem? (i := 278) (by decide +kernel)
theorem ck_X8_64 : CK RX8 64 3 := ⟨RX3, TX3, 1, rfl, List.mem_of_getElem? (i := 277) (by decide +kernel), wm_278, wm_65⟩
theorem wm_290 : Cond.instantiable RX6 3 ∈ lw_tbl := List.mem_of_getElem? (i := 290) (by decide +kernel)
theorem ck_X8_71 : CK RX8 71 6 := ⟨RX6, TX6, 3, rfl, List.mem_of_getElem? (i := 288) (by decide +kernel), wm_290, wm_66⟩
theorem ck_X6_13 : CK RX6 13 0 := ⟨RX0, TX0, 9, rfl, List.mem_of_getElem? (i := 295) (by decide +kernel), wm_183, wm_61⟩
theorem wm_746 : Cond.instantiable RX9 24 ∈ lw_tbl := List.mem_of_getElem? (i := 746) (by decide +kernel)
theorem ck_L_10 : CK RL 10 9 := ⟨RX9, TX9, 24, rfl, List.mem_of_getElem? (i := 745) (by decide +kernel), wm_746, wm_67⟩
theorem kn_X8_82 : Cond.constant RX8 82 (-1000000002) ∈ lw_tbl := List.mem_of_getElem? (i := 351) (by decide +kernel)
theorem kn_X8_83 : Cond.constant RX8 83 (-1000000004) ∈ lw_tbl := List.mem_of_getElem? (i := 352) (by decide +kernel)
theorem kn_X8_295 : Cond.constant RX8 295 (999999) ∈ lw_tbl := List.mem_of_getElem? (i := 480) (by decide +kernel)
theorem kn_X8_154 : Cond.constant RX8 154 (-1000000001) ∈ lw_tbl := List.mem_of_getElem? (i := 491) (by decide +kernel)
theorem kn_X8_201 : Cond.constant RX8 201 (-1000000003) ∈ lw_tbl := List.mem_of_getElem? (i := 518) (by decide +kernel)
theorem kn_X0_76 : Cond.constant RX0 76 (999999) ∈ lw_tbl := List.mem_of_getElem? (i := 538) (by decide +kernel)
theorem kn_X3_19 : Cond.constant RX3 19 (65536) ∈ lw_tbl := List.mem_of_getElem? (i := 586) (by decide +kernel)
theorem kn_J6_265 : Cond.constant RJ6 265 (1431655765) ∈ lw_tbl := List.mem_of_getElem? (i := 628) (by decide +kernel)
theorem kn_J6_266 : Cond.constant RJ6 266 (858993459) ∈ lw_tbl := List.mem_of_getElem? (i := 629) (by decide +kernel)
theorem kn_J6_267 : Cond.constant RJ6 267 (252645135) ∈ lw_tbl := List.mem_of_getElem? (i := 630) (by decide +kernel)
theorem kn_X8_251 : Cond.constant RX8 251 (100000) ∈ lw_tbl := List.mem_of_getElem? (i := 668) (by decide +kernel)
theorem kn_X8_252 : Cond.constant RX8 252 (1000000) ∈ lw_tbl := List.mem_of_getElem? (i := 673) (by decide +kernel)
theorem kn_X9_67 : Cond.constant RX9 67 (-1000000002) ∈ lw_tbl := List.mem_of_getElem? (i := 831) (by decide +kernel)
theorem kn_X9_71 : Cond.constant RX9 71 (-1000000004) ∈ lw_tbl := List.mem_of_getElem? (i := 832) (by decide +kernel)
theorem kn_X9_139 : Cond.constant RX9 139 (999999) ∈ lw_tbl := List.mem_of_getElem? (i := 914) (by decide +kernel)
theorem kn_X9_153 : Cond.constant RX9 153 (-1000000001) ∈ lw_tbl := List.mem_of_getElem? (i := 923) (by decide +kernel)
theorem kn_X9_168 : Cond.constant RX9 168 (-1000000003) ∈ lw_tbl := List.mem_of_getElem? (i := 952) (by decide +kernel)
theorem kn_X9_197 : Cond.constant RX9 197 (65536) ∈ lw_tbl := List.mem_of_getElem? (i := 1008) (by decide +kernel)
theorem kn_X9_222 : Cond.constant RX9 222 (100000) ∈ lw_tbl := List.mem_of_getElem? (i := 1069) (by decide +kernel)
theorem kn_X9_223 : Cond.constant RX9 223 (1000000) ∈ lw_tbl := List.mem_of_getElem? (i := 1074) (by decide +kernel)
theorem kn_X3_13 : Cond.constantLong RX3 13 (1103515245) ∈ lw_tbl := List.mem_of_getElem? (i := 583) (by decide +kernel)
theorem kn_X3_15 : Cond.constantLong RX3 15 (12345) ∈ lw_tbl := List.mem_of_getElem? (i := 584) (by decide +kernel)
theorem kn_X3_17 : Cond.constantLong RX3 17 (2147483648) ∈ lw_tbl := List.mem_of_getElem? (i := 585) (by decide +kernel)
theorem kn_X2_66 : Cond.constantLong RX2 66 (1000000) ∈ lw_tbl := List.mem_of_getElem? (i := 608) (by decide +kernel)
theorem kn_X8_304 : Cond.constantLong RX8 304 (1000000) ∈ lw_tbl := List.mem_of_getElem? (i := 656) (by decide +kernel)
theorem kn_X9_191 : Cond.constantLong RX9 191 (1103515245) ∈ lw_tbl := List.mem_of_getElem? (i := 1005) (by decide +kernel)
theorem kn_X9_193 : Cond.constantLong RX9 193 (12345) ∈ lw_tbl := List.mem_of_getElem? (i := 1006) (by decide +kernel)
theorem kn_X9_195 : Cond.constantLong RX9 195 (2147483647) ∈ lw_tbl := List.mem_of_getElem? (i := 1007) (by decide +kernel)
theorem kn_X9_201 : Cond.constantLong RX9 201 (1000000) ∈ lw_tbl := List.mem_of_getElem? (i := 1021) (by decide +kernel)
theorem ac_int : Cond.arrayClass .int ∈ lw_tbl := List.mem_of_getElem? (i := 150) (by decide +kernel)
theorem ac_boolean : Cond.arrayClass .boolean ∈ lw_tbl := List.mem_of_getElem? (i := 262) (by decide +kernel)
theorem ao_0 : Cond.arrayOver (.object RX0) ∈ lw_tbl := List.mem_of_getElem? (i := 232) (by decide +kernel)
theorem ao_6 : Cond.arrayOver (.object RX6) ∈ lw_tbl := List.mem_of_getElem? (i := 289) (by decide +kernel)
theorem oi_in : Cond.instanceMethod Lib.objectInit ∈ lw_tbl := List.mem_of_getElem? (i := 76) (by decide +kernel)
theorem oi_co : Cond.code Lib.objectInit ⟨#[0xb1]⟩ 1 none ∈ lw_tbl := List.mem_of_getElem? (i := 77) (by decide +kernel)
theorem oi_X8 : Cond.methodLink RX8 1 Lib.objectInit ∈ lw_tbl := List.mem_of_getElem? (i := 75) (by decide +kernel)
theorem oi_X7 : Cond.methodLink RX7 3 Lib.objectInit ∈ lw_tbl := List.mem_of_getElem? (i := 83) (by decide +kernel)
theorem oi_X2 : Cond.methodLink RX2 3 Lib.objectInit ∈ lw_tbl := List.mem_of_getElem? (i := 89) (by decide +kernel)
theorem oi_X0 : Cond.methodLink RX0 3 Lib.objectInit ∈ lw_tbl := List.mem_of_getElem? (i := 187) (by decide +kernel)
theorem oi_X5 : Cond.methodLink RX5 3 Lib.objectInit ∈ lw_tbl := List.mem_of_getElem? (i := 230) (by decide +kernel)
theorem oi_X4 : Cond.methodLink RX4 3 Lib.objectInit ∈ lw_tbl := List.mem_of_getElem? (i := 250) (by decide +kernel)
theorem oi_X1 : Cond.methodLink RX1 3 Lib.objectInit ∈ lw_tbl := List.mem_of_getElem? (i := 268) (by decide +kernel)
theorem oi_X3 : Cond.methodLink RX3 1 Lib.objectInit ∈ lw_tbl := List.mem_of_getElem? (i := 282) (by decide +kernel)
theorem oi_X6 : Cond.methodLink RX6 1 Lib.objectInit ∈ lw_tbl := List.mem_of_getElem? (i := 294) (by decide +kernel)
theorem oi_X9 : Cond.methodLink RX9 1 Lib.objectInit ∈ lw_tbl := List.mem_of_getElem? (i := 750) (by decide +kernel)
end
section
abbrev IM : Type := Nat → Nat → Int32
abbrev RM : Type := Nat → Nat → Option Nat
abbrev Rs : Type := Option Value × Nat × IM × RM
abbrev LV : Type := List (Nat × Value)
def KS : List (Nat × Nat) := [(0, 8), (1, 240), (0, 7), (0, 2), (1, 8), (1, 6), (1, 6), (1, 6), (1, 5), (1, 5), (0, 2), (1, 8), (1, 6), (1, 6), (1, 6), (1, 5), (1, 5), (0, 0), (1, 5), (1, 5), (1, 5), (0, 5), (3, 20), (0, 0), (1, 5), (1, 5), (1, 5), (0, 0), (1, 5), (1, 5), (1, 5), (0, 0), (1, 5), (1, 5), (1, 5), (0, 0), (1, 5), (1, 5), (1, 5), (0, 0), (1, 5), (1, 5), (1, 5), (0, 0), (1, 5), (1, 5), (1, 5), (0, 0), (1, 5), (1, 5), (1, 5), (0, 0), (1, 5), (1, 5), (1, 5), (0, 0), (1, 5), (1, 5), (1, 5), (0, 0), (1, 5), (1, 5), (1, 5), (0, 0), (1, 5), (1, 5), (1, 5), (0, 0), (1, 5), (1, 5), (1, 5), (0, 0), (1, 5), (1, 5), (1, 5), (0, 0), (1, 5), (1, 5), (1, 5), (0, 0), (1, 5), (1, 5), (1, 5), (0, 0), (1, 5), (1, 5), (1, 5), (0, 0), (1, 5), (1, 5), (1, 5), (0, 0), (1, 5), (1, 5), (1, 5), (0, 0), (1, 5), (1, 5), (1, 5), (0, 0), (1, 5), (1, 5), (1, 5), (0, 4), (1, 6), (2, 6), (0, 1), (1, 15), (0, 3), (4, 2), (0, 6), (0, 0), (1, 5), (1, 5), (1, 5), (0, 6), (0, 0), (1, 5), (1, 5), (1, 5), (0, 9), (1, 240), (1, 5), (1, 8), (1, 18), (1, 10), (1, 5), (1, 8), (1, 18), (1, 10), (1, 21), (1, 420), (1, 42), (1, 2), (2, 2), (1, 12), (1, 15)]
def kd (k : Nat) : Nat × Nat := KS.getD k (9, 0)
def nf (ci : Nat) : Nat := ([9, 2, 11, 1, 3, 3, 3, 9, 11, 24] : List Nat).getD ci 0
def rfL : List (List Bool) := [[false, false, false, false, false, false, true, true, true], [true, false], [false, true, false, true, true, true, false, true, true, false, false], [false], [true, true, false], [true, false, false], [false, true, false], [true, false, false, true, false, false, false, false, false], [true, false, false, true, true, true, true, true, true, true, true], [true, false, false, true, true, true, true, true, true, true, true, true, true, false, true, true, true, false, true, false, true, false, false, false]]
def rft (ci j : Nat) : Bool := (rfL.getD ci []).getD j false
def tv (b : Nat) (v : Value) : Value := match v with
  | .ref k => .ref (b + k)
  | w => w
def rr (b : Nat) (rm : RM) (k : Nat) : Nat → Option Nat := fun j => (rm k j).map (b + ·)
def fv (b : Nat) (im : IM) (rm : RM) (ci k j : Nat) : Value := if rft ci j = true then va_rf (rr b rm k j) else .int (im k j)
def ceT (ca : Nat → ClassId) (b : Nat) (im : IM) (rm : RM) (k : Nat) (q : Nat × Nat) : va_E :=
  if q.1 = 0 then .inr (q.2, (List.range (nf q.2)).map (fv b im rm q.2 k)) else if q.1 = 1 ∨ q.1 = 2 then .inl (ca q.1, q.2, .inl (im k)) else .inl (ca q.1, q.2, .inr (.inr (.inr (.inr (rr b rm k)))))
def ce (ca : Nat → ClassId) (b : Nat) (im : IM) (rm : RM) (k : Nat) : va_E := ceT ca b im rm k (kd k)
def Pic (D : va_G) (ca : Nat → ClassId) (b n : Nat) (im : IM) (rm : RM) (H : Heap) : Prop := H.size = b + n ∧ ∀ k, k < n → va_at D vwCl (b + k, ce ca b im rm k) H
abbrev tyL (ca : Nat → ClassId) : List (ClassId × FieldType) := [(ca 1, .int), (ca 2, .boolean), (ca 3, .object RX0), (ca 4, .object RX6)]
def rmd (d mc ms : Nat) : Room := { frames := d, cells := mc, slots := ms, locals := 37 * d }
def uw : Cond → Bool
  | .methodLinkNest .. => true
  | .arrayOver (.object _) => true
  | w => goodWord w
def TB (args : Array Value) (s : State) : Prop := ∀ w ∈ lw_tbl, uw w = true → w.before args s = true
theorem tb_move {args a' : Array Value} {s U : State} (hW : s.WarmedH U.vm) (h : TB args s) : TB a' U := by
  intro w hw hu
  have h1 := h w hw hu
  unfold uw at hu
  split at hu
  · exact va_Nw.use rfl (va_Nw.warmM hW (va_Nw.of rfl h1))
  · exact va_AO.use (va_AO.moved hW.alike (va_AO.of h1))
  · exact word_at hW (good_of_word hu) h1
def lw_u : List Cond := lw_tbl.filter uw
theorem TB.u {args : Array Value} {s : State} (h : TB args s) : ∀ w ∈ lw_u, w.before args s = true := fun w hw => h w (List.mem_filter.mp hw).1 (List.mem_filter.mp hw).2
def Cx (D : va_G) (ca : Nat → ClassId) (b : Nat) (p : Program) (s : State) (m : MethodId) (args : Array Value) (meth : Method) (c : Code) (Y : Card) : Prop :=
  p.tables.exec = Jvm.exec ∧ c.code = Y.2.1 ∧ meth.sig.returnType = Y.2.2.2 ∧ c.maxLocals = Y.2.2.1 ∧ s.vm.findClass Y.1.cls = some m.cls ∧ TB args s ∧ meth.locks = false ∧ va_K D vwCl (tyL ca) s ∧ b ≤ s.heap.size ∧ meth.name = Y.1.name
def QQ (D : va_G) (ca : Nat → ClassId) (b : Nat) (R : Rs) : Array Value → State → Outcome → State → Prop := fun _ st o t => o = .returned (R.1.map (tv b)) ∧ Pic D ca b R.2.1 R.2.2.1 R.2.2.2 t.heap ∧ ∀ q : Nat, q < b → t.heap[q]? = st.heap[q]?
def WW (Y : Card) (d mc ms : Nat) (R : Rs) (kc ks pc : Nat) (lv : LV) (st : List Value) (n : Nat) (im : IM) (rm : RM) : Prop :=
  ∀ (p : Program) (l : Launch) (e : Env) (s : State) (m : MethodId) (args : Array Value) (below : List Frame) (meth : Method) (c : Code) (D : va_G) (ca : Nat → ClassId) (b : Nat) (H : Heap) (locs : List Loc) (ls : Array Slot),
    Cx D ca b p s m args meth c Y → lv_has ls Y.2.2.1 (lv.map fun q => (q.1, tv b q.2)) → Pic D ca b n im rm H → (∀ q : Nat, q < b → H[q]? = s.heap[q]?) → (∀ q ∈ locs, b ≤ q.base) →
      W p l e (rmd d mc ms) s m args below meth c H locs kc ks (MQ below (QQ D ca b R) args s mc ms (fun q => b ≤ q)) (F0 m pc ls (st.map (tv b)))
def MT (Y : Card) (d mc ms : Nat) (av : List Value) (n : Nat) (im : IM) (rm : RM) (R : Rs) : Prop := ∀ (l : Launch) (D : va_G) (ca : Nat → ClassId) (b : Nat),
  Met l Y.1 [.code Y.1 Y.2.1 Y.2.2.1 Y.2.2.2] (rmd d mc ms) (va_Pc (av.map (tv b)) (fun U => Pic D ca b n im rm U.heap ∧ va_K D vwCl (tyL ca) U ∧ TB #[] U)) (QQ D ca b R) mc ms (fun q => b ≤ q)
def lk (l : LV) (i : Nat) : Option Value := match l with
  | [] => none
  | q :: r => if q.1 = i then some q.2 else lk r i
theorem lk_mem : ∀ (l : LV) (i : Nat) (v : Value), lk l i = some v → (i, v) ∈ l
  | [], i, v, h => by cases h
  | q :: r, i, v, h => by
    unfold lk at h
    split at h
    · next hq =>
      cases h
      subst hq
      exact List.mem_cons_self
    · exact List.mem_cons_of_mem _ (lk_mem r i v h)
theorem lk_at {ls : Array Slot} {nL b i : Nat} {lv : LV} {v : Value} (h : lv_has ls nL (lv.map fun q => (q.1, tv b q.2))) (hk : lk lv i = some v) : ls[i]? = some (.val (tv b v)) :=
  h.2.2 (i, tv b v) (List.mem_map.mpr ⟨(i, v), lk_mem lv i v hk, rfl⟩)
def ld (l : LV) (i : Nat) : LV := l.filter (fun q => !(q.1 == i) && !(q.1 + 1 == i && q.2.category == 2))
def ld2 (l : LV) (i : Nat) : LV := l.filter (fun q => !(q.1 == i) && (!(q.1 == i + 1) && !(q.1 + 1 == i && q.2.category == 2)))
theorem tv_cat (b : Nat) (v : Value) : (tv b v).category = v.category := by cases v <;> rfl
theorem ld_map (b i : Nat) (l : LV) : (l.map fun q => (q.1, tv b q.2)).filter (fun q => !(q.1 == i) && !(q.1 + 1 == i && q.2.category == 2)) = (ld l i).map fun q => (q.1, tv b q.2) := by
  unfold ld
  rw [List.filter_map]
  congr 1
  apply List.filter_congr
  intro q _
  simp [tv_cat]
theorem ld2_map (b i : Nat) (l : LV) : (l.map fun q => (q.1, tv b q.2)).filter (fun q => !(q.1 == i) && (!(q.1 == i + 1) && !(q.1 + 1 == i && q.2.category == 2))) = (ld2 l i).map fun q => (q.1, tv b q.2) := by
  unfold ld2
  rw [List.filter_map]
  congr 1
  apply List.filter_congr
  intro q _
  simp [tv_cat]
theorem cat_sum (b : Nat) (st : List Value) : ((st.map (tv b)).map fun v => v.category).sum = (st.map fun v => v.category).sum := by
  rw [List.map_map]
  congr 1
  apply List.map_congr_left
  intro v _
  exact tv_cat b v
theorem vp_in_of_nI {i : Int32} {k N : Nat} (h : i = nI k) (hk : k < N) (hN : N < 2147483648) : vp_in i N ∧ i.toNatClampNeg = k := by
  subst h
  exact ⟨vp_in_nI hk hN, nI_clamp (by omega)⟩
def upR (im : IM) (k : Nat) (f : Nat → Int32) : IM := fun a => if a = k then f else im a
def upQ (rm : RM) (k j : Nat) (v : Option Nat) : RM := fun a c => if a = k ∧ c = j then v else rm a c
theorem upR_same (im : IM) (k : Nat) (f : Nat → Int32) : upR im k f k = f := if_pos rfl
theorem upR_ne {im : IM} {k a : Nat} {f : Nat → Int32} (h : a ≠ k) : upR im k f a = im a := if_neg h
theorem upR_upR (im : IM) (k : Nat) (f g : Nat → Int32) : upR (upR im k f) k g = upR im k g := by
  funext a
  unfold upR
  split <;> rfl
theorem upR_comm (im : IM) {k j : Nat} (f g : Nat → Int32) (h : k ≠ j) : upR (upR im k f) j g = upR (upR im j g) k f := by
  funext a
  unfold upR
  by_cases h1 : a = j
  · rw [if_pos h1, if_neg (fun q => h (q.symm.trans h1)), if_pos h1]
  · rw [if_neg h1]
    by_cases h2 : a = k
    · rw [if_pos h2, if_pos h2]
    · rw [if_neg h2, if_neg h2, if_neg h1]
theorem upR_id (im : IM) (k : Nat) : upR im k (im k) = im := by
  funext a
  unfold upR
  split
  · next h => rw [h]
  · rfl
section PICS
variable {D : va_G} {ca : Nat → ClassId} {b n : Nat} {im : IM} {rm : RM} {H : Heap}
theorem Pic.obj (h : Pic D ca b n im rm H) {k ci : Nat} (hk : kd k = (0, ci)) (hn : k < n) : ∃ r : vw_C, vwCl[ci]? = some r ∧ t_OB (b + k) (D.1 ci) r.2.2 (D.2 ci) H (vp_V ((List.range (nf ci)).map (fv b im rm ci k))) := by
  have h1 := h.2 k hn
  unfold ce ceT at h1
  rw [hk] at h1
  exact h1
theorem Pic.arr (h : Pic D ca b n im rm H) {k t len : Nat} (hk : kd k = (t, len)) (ht : t = 1 ∨ t = 2) (hn : k < n) : H[b + k]? = some (vp_cell (ca t) (len, .inl (im k))) := by
  have h1 := h.2 k hn
  unfold ce ceT at h1
  rw [hk] at h1
  rcases ht with rfl | rfl <;> exact h1
theorem Pic.arq (h : Pic D ca b n im rm H) {k t len : Nat} (hk : kd k = (t, len)) (ht : t = 3 ∨ t = 4) (hn : k < n) : H[b + k]? = some (vp_cell (ca t) (len, .inr (.inr (.inr (.inr (rr b rm k)))))) := by
  have h1 := h.2 k hn
  unfold ce ceT at h1
  rw [hk] at h1
  rcases ht with rfl | rfl <;> exact h1
theorem Pic.set (h : Pic D ca b n im rm H) {im' : IM} {rm' : RM} {k : Nat} {H' : Heap} (hz : H'.size = H.size) (oq : ∀ q, q ≠ b + k → H'[q]? = H[q]?) (ho : ∀ a, a ≠ k → ce ca b im' rm' a = ce ca b im rm a) (hc : k < n → va_at D vwCl (b + k, ce ca b im' rm' k) H') : Pic D ca b n im' rm' H' := by
  refine ⟨hz.trans h.1, fun a ha => ?_⟩
  by_cases hak : a = k
  · subst hak
    exact hc ha
  · rw [ho a hak]
    exact (h.2 a ha).kept (oq _ (by show b + a ≠ b + k; omega))
theorem ce_upR {k a : Nat} {f : Nat → Int32} (h : a ≠ k) : ce ca b (upR im k f) rm a = ce ca b im rm a := by
  have e : upR im k f a = im a := upR_ne h
  unfold ce ceT fv
  rw [e]
theorem ce_upQ {k j a : Nat} {v : Option Nat} (h : a ≠ k) : ce ca b im (upQ rm k j v) a = ce ca b im rm a := by
  have e : rr b (upQ rm k j v) a = rr b rm a := by
    funext c
    unfold rr upQ
    rw [if_neg (fun q => h q.1)]
  unfold ce ceT fv
  rw [e]
theorem kin_u {C : String} {T : u_T} {N : Nat} (h : ∀ w ∈ u_ws C T N, w ∈ lw_tbl) : ∀ w ∈ u_ws C T N, w ∈ lw_u := by
  intro w hw
  refine List.mem_filter.mpr ⟨h w hw, ?_⟩
  obtain ⟨k, -, rfl⟩ := List.mem_map.mp hw
  unfold u_lay
  split <;> rfl
theorem klass {ci : Nat} {C : String} {T : u_T} {N : Nat} (h : vwCl[ci]? = some (C, T, N)) : (∀ w ∈ u_ws C T N, w ∈ lw_u) ∧ (∃ ty0 : Nat → FieldType, (∀ k, k < N → parseFieldDescriptor (T k).2.2.1 = some (ty0 k)) ∧ (∀ a, a < N → ∀ b, b < N → a ≠ b → (T a).2.1 ≠ (T b).2.1) ∧ ∀ k, k < N → defaultValue (ty0 k) = if rft ci k = true then .null else .int 0) ∧ N = nf ci := by
  match ci, h with
  | 0, h => cases h; exact ⟨kin_u kin_0, ⟨tyX0, tyX0_ok, nmX0, by decide +kernel⟩, rfl⟩
  | 1, h => cases h; exact ⟨kin_u kin_1, ⟨tyX1, tyX1_ok, nmX1, by decide +kernel⟩, rfl⟩
  | 2, h => cases h; exact ⟨kin_u kin_2, ⟨tyX2, tyX2_ok, nmX2, by decide +kernel⟩, rfl⟩
  | 3, h => cases h; exact ⟨kin_u kin_3, ⟨tyX3, tyX3_ok, nmX3, by decide +kernel⟩, rfl⟩
  | 4, h => cases h; exact ⟨kin_u kin_4, ⟨tyX4, tyX4_ok, nmX4, by decide +kernel⟩, rfl⟩
  | 5, h => cases h; exact ⟨kin_u kin_5, ⟨tyX5, tyX5_ok, nmX5, by decide +kernel⟩, rfl⟩
  | 6, h => cases h; exact ⟨kin_u kin_6, ⟨tyX6, tyX6_ok, nmX6, by decide +kernel⟩, rfl⟩
  | 7, h => cases h; exact ⟨kin_u kin_7, ⟨tyX7, tyX7_ok, nmX7, by decide +kernel⟩, rfl⟩
  | 8, h => cases h; exact ⟨kin_u kin_8, ⟨tyX8, tyX8_ok, nmX8, by decide +kernel⟩, rfl⟩
  | 9, h => cases h; exact ⟨kin_u kin_9, ⟨tyX9, tyX9_ok, nmX9, by decide +kernel⟩, rfl⟩
  | n + 10, h => simp [vwCl] at h
theorem vp_V_fv {ci k j : Nat} (hj : j < nf ci) : vp_V ((List.range (nf ci)).map (fv b im rm ci k)) j = fv b im rm ci k j := by
  unfold vp_V
  rw [List.getD_eq_getElem?_getD, List.getElem?_map, List.getElem?_range hj]
  rfl
end PICS
end
section
section RULES
variable {Y : Card} {d mc ms : Nat} {R : Rs} {kc ks pc : Nat} {lv : LV} {st : List Value} {n : Nat} {im : IM} {rm : RM}
theorem r_iconst {i : Int} {v : Int32} (hd : decode Y.2.1 pc = .ok (.iconst i, 1)) (hv : Int32.ofInt i = v)
    (k : WW Y d mc ms R kc ks (pc + 1) lv (.int v :: st) n im rm) : WW Y d mc ms R kc ks pc lv (st) n im rm :=
  fun p l e s m args below meth c D ca b H locs ls C hl hP hF hL => lv_iconst C.1 C.2.1 hd hv (k p l e s m args below meth c D ca b H locs ls C hl hP hF hL)
theorem r_bipush {i : Int} {v : Int32} (hd : decode Y.2.1 pc = .ok (.bipush i, 2)) (hv : (Int8.ofInt i).toInt32 = v)
    (k : WW Y d mc ms R kc ks (pc + 2) lv (.int v :: st) n im rm) : WW Y d mc ms R kc ks pc lv (st) n im rm :=
  fun p l e s m args below meth c D ca b H locs ls C hl hP hF hL => lv_bipush C.1 C.2.1 hd hv (k p l e s m args below meth c D ca b H locs ls C hl hP hF hL)
theorem r_sipush {i : Int} {v : Int32} (hd : decode Y.2.1 pc = .ok (.sipush i, 3)) (hv : (Int16.ofInt i).toInt32 = v)
    (k : WW Y d mc ms R kc ks (pc + 3) lv (.int v :: st) n im rm) : WW Y d mc ms R kc ks pc lv (st) n im rm :=
  fun p l e s m args below meth c D ca b H locs ls C hl hP hF hL => lv_sipush C.1 C.2.1 hd hv (k p l e s m args below meth c D ca b H locs ls C hl hP hF hL)
theorem r_ldc {i : Nat} {v : Int32} (hd : decode Y.2.1 pc = .ok (.ldc i, 2)) (hc : Cond.constant Y.1.cls i v ∈ lw_tbl)
    (k : WW Y d mc ms R kc ks (pc + 2) lv (.int v :: st) n im rm) : WW Y d mc ms R kc ks pc lv (st) n im rm :=
  fun p l e s m args below meth c D ca b H locs ls C hl hP hF hL => lv_ldc C.1 C.2.1 C.2.2.2.2.1 (C.2.2.2.2.2.1 _ hc rfl) hd (k p l e s m args below meth c D ca b H locs ls C hl hP hF hL)
theorem r_ldcw {i : Nat} {v : Int32} (hd : decode Y.2.1 pc = .ok (.ldc_w i, 3)) (hc : Cond.constant Y.1.cls i v ∈ lw_tbl)
    (k : WW Y d mc ms R kc ks (pc + 3) lv (.int v :: st) n im rm) : WW Y d mc ms R kc ks pc lv (st) n im rm :=
  fun p l e s m args below meth c D ca b H locs ls C hl hP hF hL => lv_ldcw C.1 C.2.1 C.2.2.2.2.1 (C.2.2.2.2.2.1 _ hc rfl) hd (k p l e s m args below meth c D ca b H locs ls C hl hP hF hL)
theorem r_ldc2 {i : Nat} {v : Int64} (hd : decode Y.2.1 pc = .ok (.ldc2_w i, 3)) (hc : Cond.constantLong Y.1.cls i v ∈ lw_tbl)
    (k : WW Y d mc ms R kc ks (pc + 3) lv (.long v :: st) n im rm) : WW Y d mc ms R kc ks pc lv (st) n im rm :=
  fun p l e s m args below meth c D ca b H locs ls C hl hP hF hL => lv_ldc2 C.1 C.2.1 C.2.2.2.2.1 (C.2.2.2.2.2.1 _ hc rfl) hd (k p l e s m args below meth c D ca b H locs ls C hl hP hF hL)
theorem r_iload_n {i : Fin 4} {x : Int32} (hd : decode Y.2.1 pc = .ok (.iload_n i, 1)) (h : lk lv (i : Nat) = some (.int x))
    (k : WW Y d mc ms R kc ks (pc + 1) lv (.int x :: st) n im rm) : WW Y d mc ms R kc ks pc lv (st) n im rm :=
  fun p l e s m args below meth c D ca b H locs ls C hl hP hF hL => lv_iload_n C.1 C.2.1 hd rfl (lk_at hl h) (k p l e s m args below meth c D ca b H locs ls C hl hP hF hL)
theorem r_iload {i : Nat} {x : Int32} (hd : decode Y.2.1 pc = .ok (.iload i, 2)) (h : lk lv i = some (.int x))
    (k : WW Y d mc ms R kc ks (pc + 2) lv (.int x :: st) n im rm) : WW Y d mc ms R kc ks pc lv (st) n im rm :=
  fun p l e s m args below meth c D ca b H locs ls C hl hP hF hL => lv_iload C.1 C.2.1 hd (lk_at hl h) (k p l e s m args below meth c D ca b H locs ls C hl hP hF hL)
theorem r_aload_n {i : Fin 4} {x : Nat} (hd : decode Y.2.1 pc = .ok (.aload_n i, 1)) (h : lk lv (i : Nat) = some (.ref x))
    (k : WW Y d mc ms R kc ks (pc + 1) lv (.ref x :: st) n im rm) : WW Y d mc ms R kc ks pc lv (st) n im rm :=
  fun p l e s m args below meth c D ca b H locs ls C hl hP hF hL => lv_aload_n C.1 C.2.1 hd rfl (lk_at hl h) (k p l e s m args below meth c D ca b H locs ls C hl hP hF hL)
theorem r_aload {i : Nat} {x : Nat} (hd : decode Y.2.1 pc = .ok (.aload i, 2)) (h : lk lv i = some (.ref x))
    (k : WW Y d mc ms R kc ks (pc + 2) lv (.ref x :: st) n im rm) : WW Y d mc ms R kc ks pc lv (st) n im rm :=
  fun p l e s m args below meth c D ca b H locs ls C hl hP hF hL => lv_aload C.1 C.2.1 hd (lk_at hl h) (k p l e s m args below meth c D ca b H locs ls C hl hP hF hL)
theorem r_lload_n {i : Fin 4} {x : Int64} (hd : decode Y.2.1 pc = .ok (.lload_n i, 1)) (h : lk lv (i : Nat) = some (.long x))
    (k : WW Y d mc ms R kc ks (pc + 1) lv (.long x :: st) n im rm) : WW Y d mc ms R kc ks pc lv (st) n im rm :=
  fun p l e s m args below meth c D ca b H locs ls C hl hP hF hL => lv_lload_n C.1 C.2.1 hd rfl (lk_at hl h) (k p l e s m args below meth c D ca b H locs ls C hl hP hF hL)
theorem r_lload {i : Nat} {x : Int64} (hd : decode Y.2.1 pc = .ok (.lload i, 2)) (h : lk lv i = some (.long x))
    (k : WW Y d mc ms R kc ks (pc + 2) lv (.long x :: st) n im rm) : WW Y d mc ms R kc ks pc lv (st) n im rm :=
  fun p l e s m args below meth c D ca b H locs ls C hl hP hF hL => lv_lload C.1 C.2.1 hd (lk_at hl h) (k p l e s m args below meth c D ca b H locs ls C hl hP hF hL)
theorem r_istore_n {i : Fin 4} {x : Int32} (hd : decode Y.2.1 pc = .ok (.istore_n i, 1)) (hn : (i : Nat) < Y.2.2.1)
    (k : WW Y d mc ms R kc ks (pc + 1) (((i : Nat), .int x) :: ld lv (i : Nat)) st n im rm) : WW Y d mc ms R kc ks pc lv (.int x :: st) n im rm :=
  fun p l e s m args below meth c D ca b H locs ls C hl hP hF hL => lv_istore_n C.1 C.2.1 hd rfl hl hn (by rw [ld_map]; rfl) (fun ls hl => k p l e s m args below meth c D ca b H locs ls C hl hP hF hL)
theorem r_istore {i : Nat} {x : Int32} (hd : decode Y.2.1 pc = .ok (.istore i, 2)) (hn : i < Y.2.2.1)
    (k : WW Y d mc ms R kc ks (pc + 2) ((i, .int x) :: ld lv i) st n im rm) : WW Y d mc ms R kc ks pc lv (.int x :: st) n im rm :=
  fun p l e s m args below meth c D ca b H locs ls C hl hP hF hL => lv_istore C.1 C.2.1 hd hl hn (by rw [ld_map]; rfl) (fun ls hl => k p l e s m args below meth c D ca b H locs ls C hl hP hF hL)
theorem r_astore_n {i : Fin 4} {x : Nat} (hd : decode Y.2.1 pc = .ok (.astore_n i, 1)) (hn : (i : Nat) < Y.2.2.1)
    (k : WW Y d mc ms R kc ks (pc + 1) (((i : Nat), .ref x) :: ld lv (i : Nat)) st n im rm) : WW Y d mc ms R kc ks pc lv (.ref x :: st) n im rm :=
  fun p l e s m args below meth c D ca b H locs ls C hl hP hF hL => lv_astore_n C.1 C.2.1 hd rfl hl hn (by rw [ld_map]; rfl) (fun ls hl => k p l e s m args below meth c D ca b H locs ls C hl hP hF hL)
theorem r_astore {i : Nat} {x : Nat} (hd : decode Y.2.1 pc = .ok (.astore i, 2)) (hn : i < Y.2.2.1)
    (k : WW Y d mc ms R kc ks (pc + 2) ((i, .ref x) :: ld lv i) st n im rm) : WW Y d mc ms R kc ks pc lv (.ref x :: st) n im rm :=
  fun p l e s m args below meth c D ca b H locs ls C hl hP hF hL => lv_astore C.1 C.2.1 hd hl hn (by rw [ld_map]; rfl) (fun ls hl => k p l e s m args below meth c D ca b H locs ls C hl hP hF hL)
theorem r_lstore_n {i : Fin 4} {x : Int64} (hd : decode Y.2.1 pc = .ok (.lstore_n i, 1)) (hn : (i : Nat) + 1 < Y.2.2.1)
    (k : WW Y d mc ms R kc ks (pc + 1) (((i : Nat), .long x) :: ld2 lv (i : Nat)) st n im rm) : WW Y d mc ms R kc ks pc lv (.long x :: st) n im rm :=
  fun p l e s m args below meth c D ca b H locs ls C hl hP hF hL => lv_lstore_n C.1 C.2.1 hd rfl hl hn (by rw [ld2_map]; rfl) (fun ls hl => k p l e s m args below meth c D ca b H locs ls C hl hP hF hL)
theorem r_lstore {i : Nat} {x : Int64} (hd : decode Y.2.1 pc = .ok (.lstore i, 2)) (hn : i + 1 < Y.2.2.1)
    (k : WW Y d mc ms R kc ks (pc + 2) ((i, .long x) :: ld2 lv i) st n im rm) : WW Y d mc ms R kc ks pc lv (.long x :: st) n im rm :=
  fun p l e s m args below meth c D ca b H locs ls C hl hP hF hL => lv_lstore C.1 C.2.1 hd hl hn (by rw [ld2_map]; rfl) (fun ls hl => k p l e s m args below meth c D ca b H locs ls C hl hP hF hL)
theorem lk_idx : ∀ (l : LV) (i : Nat) (v : Value), lk l i = some v → ∃ j : Nat, l[j]? = some (i, v) := fun l i v h => List.getElem?_of_mem (lk_mem l i v h)
theorem r_iinc {i : Nat} {a : Int} {x v : Int32} (hd : decode Y.2.1 pc = .ok (.iinc i a, 3)) (h : lk lv i = some (.int x)) (hn : i < Y.2.2.1) (hv : x + Int32.ofInt a = v)
    (k : WW Y d mc ms R kc ks (pc + 3) ((i, .int v) :: ld lv i) st n im rm) : WW Y d mc ms R kc ks pc lv st n im rm := by
  intro p l e s m args below meth c D ca b H locs ls C hl hP hF hL
  obtain ⟨j, hj⟩ := lk_idx lv i _ h
  exact lv_iinc C.1 C.2.1 hd hl (k := j) (x := x) (by rw [List.getElem?_map, hj]; rfl) hv hn (by rw [ld_map]; rfl) (fun ls hl => k p l e s m args below meth c D ca b H locs ls C hl hP hF hL)
theorem r_iadd {x y : Int32} (hd : decode Y.2.1 pc = .ok (.iadd, 1))
    (k : WW Y d mc ms R kc ks (pc + 1) lv (.int (x + y) :: st) n im rm) : WW Y d mc ms R kc ks pc lv (.int y :: .int x :: st) n im rm :=
  fun p l e s m args below meth c D ca b H locs ls C hl hP hF hL => lv_iadd C.1 C.2.1 hd (k p l e s m args below meth c D ca b H locs ls C hl hP hF hL)
theorem r_isub {x y : Int32} (hd : decode Y.2.1 pc = .ok (.isub, 1))
    (k : WW Y d mc ms R kc ks (pc + 1) lv (.int (x - y) :: st) n im rm) : WW Y d mc ms R kc ks pc lv (.int y :: .int x :: st) n im rm :=
  fun p l e s m args below meth c D ca b H locs ls C hl hP hF hL => lv_isub C.1 C.2.1 hd (k p l e s m args below meth c D ca b H locs ls C hl hP hF hL)
theorem r_imul {x y : Int32} (hd : decode Y.2.1 pc = .ok (.imul, 1))
    (k : WW Y d mc ms R kc ks (pc + 1) lv (.int (x * y) :: st) n im rm) : WW Y d mc ms R kc ks pc lv (.int y :: .int x :: st) n im rm :=
  fun p l e s m args below meth c D ca b H locs ls C hl hP hF hL => lv_imul C.1 C.2.1 hd (k p l e s m args below meth c D ca b H locs ls C hl hP hF hL)
theorem r_iand {x y : Int32} (hd : decode Y.2.1 pc = .ok (.iand, 1))
    (k : WW Y d mc ms R kc ks (pc + 1) lv (.int (x &&& y) :: st) n im rm) : WW Y d mc ms R kc ks pc lv (.int y :: .int x :: st) n im rm :=
  fun p l e s m args below meth c D ca b H locs ls C hl hP hF hL => lv_iand C.1 C.2.1 hd (k p l e s m args below meth c D ca b H locs ls C hl hP hF hL)
theorem r_ior {x y : Int32} (hd : decode Y.2.1 pc = .ok (.ior, 1))
    (k : WW Y d mc ms R kc ks (pc + 1) lv (.int (x ||| y) :: st) n im rm) : WW Y d mc ms R kc ks pc lv (.int y :: .int x :: st) n im rm :=
  fun p l e s m args below meth c D ca b H locs ls C hl hP hF hL => lv_ior C.1 C.2.1 hd (k p l e s m args below meth c D ca b H locs ls C hl hP hF hL)
theorem r_ixor {x y : Int32} (hd : decode Y.2.1 pc = .ok (.ixor, 1))
    (k : WW Y d mc ms R kc ks (pc + 1) lv (.int (x ^^^ y) :: st) n im rm) : WW Y d mc ms R kc ks pc lv (.int y :: .int x :: st) n im rm :=
  fun p l e s m args below meth c D ca b H locs ls C hl hP hF hL => lv_ixor C.1 C.2.1 hd (k p l e s m args below meth c D ca b H locs ls C hl hP hF hL)
theorem r_ishl {x y : Int32} (hd : decode Y.2.1 pc = .ok (.ishl, 1))
    (k : WW Y d mc ms R kc ks (pc + 1) lv (.int (x <<< (y &&& 31)) :: st) n im rm) : WW Y d mc ms R kc ks pc lv (.int y :: .int x :: st) n im rm :=
  fun p l e s m args below meth c D ca b H locs ls C hl hP hF hL => lv_ishl C.1 C.2.1 hd (k p l e s m args below meth c D ca b H locs ls C hl hP hF hL)
theorem r_ishr {x y : Int32} (hd : decode Y.2.1 pc = .ok (.ishr, 1))
    (k : WW Y d mc ms R kc ks (pc + 1) lv (.int (x >>> (y &&& 31)) :: st) n im rm) : WW Y d mc ms R kc ks pc lv (.int y :: .int x :: st) n im rm :=
  fun p l e s m args below meth c D ca b H locs ls C hl hP hF hL => lv_ishr C.1 C.2.1 hd (k p l e s m args below meth c D ca b H locs ls C hl hP hF hL)
theorem r_iushr {x y v : Int32} (hd : decode Y.2.1 pc = .ok (.iushr, 1)) (hv : (x.toUInt32 >>> (y.toUInt32 &&& Int32.toUInt32 31)).toInt32 = v)
    (k : WW Y d mc ms R kc ks (pc + 1) lv (.int v :: st) n im rm) : WW Y d mc ms R kc ks pc lv (.int y :: .int x :: st) n im rm :=
  fun p l e s m args below meth c D ca b H locs ls C hl hP hF hL => lv_iushr C.1 C.2.1 hd hv (k p l e s m args below meth c D ca b H locs ls C hl hP hF hL)
theorem r_idiv {x y : Int32} (hd : decode Y.2.1 pc = .ok (.idiv, 1)) (hne : ¬ y = 0)
    (k : WW Y d mc ms R kc ks (pc + 1) lv (.int (x / y) :: st) n im rm) : WW Y d mc ms R kc ks pc lv (.int y :: .int x :: st) n im rm :=
  fun p l e s m args below meth c D ca b H locs ls C hl hP hF hL => lv_idiv C.1 C.2.1 hd hne (k p l e s m args below meth c D ca b H locs ls C hl hP hF hL)
theorem r_irem {x y : Int32} (hd : decode Y.2.1 pc = .ok (.irem, 1)) (hne : ¬ y = 0)
    (k : WW Y d mc ms R kc ks (pc + 1) lv (.int (x - x / y * y) :: st) n im rm) : WW Y d mc ms R kc ks pc lv (.int y :: .int x :: st) n im rm :=
  fun p l e s m args below meth c D ca b H locs ls C hl hP hF hL => lv_irem C.1 C.2.1 hd hne (k p l e s m args below meth c D ca b H locs ls C hl hP hF hL)
theorem r_ladd {x y : Int64} (hd : decode Y.2.1 pc = .ok (.ladd, 1))
    (k : WW Y d mc ms R kc ks (pc + 1) lv (.long (x + y) :: st) n im rm) : WW Y d mc ms R kc ks pc lv (.long y :: .long x :: st) n im rm :=
  fun p l e s m args below meth c D ca b H locs ls C hl hP hF hL => lv_ladd C.1 C.2.1 hd (k p l e s m args below meth c D ca b H locs ls C hl hP hF hL)
theorem r_lmul {x y : Int64} (hd : decode Y.2.1 pc = .ok (.lmul, 1))
    (k : WW Y d mc ms R kc ks (pc + 1) lv (.long (x * y) :: st) n im rm) : WW Y d mc ms R kc ks pc lv (.long y :: .long x :: st) n im rm :=
  fun p l e s m args below meth c D ca b H locs ls C hl hP hF hL => lv_lmul C.1 C.2.1 hd (k p l e s m args below meth c D ca b H locs ls C hl hP hF hL)
theorem r_land {x y : Int64} (hd : decode Y.2.1 pc = .ok (.land, 1))
    (k : WW Y d mc ms R kc ks (pc + 1) lv (.long (x &&& y) :: st) n im rm) : WW Y d mc ms R kc ks pc lv (.long y :: .long x :: st) n im rm :=
  fun p l e s m args below meth c D ca b H locs ls C hl hP hF hL => lv_land C.1 C.2.1 hd (k p l e s m args below meth c D ca b H locs ls C hl hP hF hL)
theorem r_ldiv {x y : Int64} (hd : decode Y.2.1 pc = .ok (.ldiv, 1)) (hne : ¬ y = 0)
    (k : WW Y d mc ms R kc ks (pc + 1) lv (.long (x / y) :: st) n im rm) : WW Y d mc ms R kc ks pc lv (.long y :: .long x :: st) n im rm :=
  fun p l e s m args below meth c D ca b H locs ls C hl hP hF hL => lv_ldiv C.1 C.2.1 hd hne (k p l e s m args below meth c D ca b H locs ls C hl hP hF hL)
theorem r_lrem {x y : Int64} (hd : decode Y.2.1 pc = .ok (.lrem, 1)) (hne : ¬ y = 0)
    (k : WW Y d mc ms R kc ks (pc + 1) lv (.long (x - x / y * y) :: st) n im rm) : WW Y d mc ms R kc ks pc lv (.long y :: .long x :: st) n im rm :=
  fun p l e s m args below meth c D ca b H locs ls C hl hP hF hL => lv_lrem C.1 C.2.1 hd hne (k p l e s m args below meth c D ca b H locs ls C hl hP hF hL)
theorem r_i2l {x : Int32} (hd : decode Y.2.1 pc = .ok (.i2l, 1))
    (k : WW Y d mc ms R kc ks (pc + 1) lv (.long x.toInt64 :: st) n im rm) : WW Y d mc ms R kc ks pc lv (.int x :: st) n im rm :=
  fun p l e s m args below meth c D ca b H locs ls C hl hP hF hL => lv_i2l C.1 C.2.1 hd rfl (k p l e s m args below meth c D ca b H locs ls C hl hP hF hL)
theorem r_l2i {x : Int64} (hd : decode Y.2.1 pc = .ok (.l2i, 1))
    (k : WW Y d mc ms R kc ks (pc + 1) lv (.int x.toInt32 :: st) n im rm) : WW Y d mc ms R kc ks pc lv (.long x :: st) n im rm :=
  fun p l e s m args below meth c D ca b H locs ls C hl hP hF hL => lv_l2i C.1 C.2.1 hd rfl (k p l e s m args below meth c D ca b H locs ls C hl hP hF hL)
theorem r_goto {off : Int} {tgt : Nat} (hd : decode Y.2.1 pc = .ok (.goto off, 3)) (ht : (pc : Int) + off = (tgt : Int)) (k : WW Y d mc ms R kc ks tgt lv st n im rm) : WW Y d mc ms R kc ks pc lv st n im rm :=
  fun p l e s m args below meth c D ca b H locs ls C hl hP hF hL => lv_goto C.1 C.2.1 hd ht (k p l e s m args below meth c D ca b H locs ls C hl hP hF hL)
theorem r_if_eq {x : Int32} {off : Int} {tgt : Nat} (hd : decode Y.2.1 pc = .ok (.ifCond .eq off, 3)) (ht : (pc : Int) + off = (tgt : Int))
    (kt : x = 0 → WW Y d mc ms R kc ks tgt lv st n im rm) (kf : ¬ x = 0 → WW Y d mc ms R kc ks (pc + 3) lv st n im rm) : WW Y d mc ms R kc ks pc lv (.int x :: st) n im rm :=
  fun p l e s m args below meth c D ca b H locs ls C hl hP hF hL => lv_if_eq C.1 C.2.1 hd ht (fun q => kt q p l e s m args below meth c D ca b H locs ls C hl hP hF hL) (fun q => kf q p l e s m args below meth c D ca b H locs ls C hl hP hF hL)
theorem r_icmp_eq {x y : Int32} {off : Int} {tgt : Nat} (hd : decode Y.2.1 pc = .ok (.if_icmp .eq off, 3)) (ht : (pc : Int) + off = (tgt : Int))
    (kt : x = y → WW Y d mc ms R kc ks tgt lv st n im rm) (kf : ¬ x = y → WW Y d mc ms R kc ks (pc + 3) lv st n im rm) : WW Y d mc ms R kc ks pc lv (.int y :: .int x :: st) n im rm :=
  fun p l e s m args below meth c D ca b H locs ls C hl hP hF hL => lv_icmp_eq C.1 C.2.1 hd ht (fun q => kt q p l e s m args below meth c D ca b H locs ls C hl hP hF hL) (fun q => kf q p l e s m args below meth c D ca b H locs ls C hl hP hF hL)
theorem r_if_ne {x : Int32} {off : Int} {tgt : Nat} (hd : decode Y.2.1 pc = .ok (.ifCond .ne off, 3)) (ht : (pc : Int) + off = (tgt : Int))
    (kt : ¬ x = 0 → WW Y d mc ms R kc ks tgt lv st n im rm) (kf : x = 0 → WW Y d mc ms R kc ks (pc + 3) lv st n im rm) : WW Y d mc ms R kc ks pc lv (.int x :: st) n im rm :=
  fun p l e s m args below meth c D ca b H locs ls C hl hP hF hL => lv_if_ne C.1 C.2.1 hd ht (fun q => kt q p l e s m args below meth c D ca b H locs ls C hl hP hF hL) (fun q => kf q p l e s m args below meth c D ca b H locs ls C hl hP hF hL)
theorem r_icmp_ne {x y : Int32} {off : Int} {tgt : Nat} (hd : decode Y.2.1 pc = .ok (.if_icmp .ne off, 3)) (ht : (pc : Int) + off = (tgt : Int))
    (kt : ¬ x = y → WW Y d mc ms R kc ks tgt lv st n im rm) (kf : x = y → WW Y d mc ms R kc ks (pc + 3) lv st n im rm) : WW Y d mc ms R kc ks pc lv (.int y :: .int x :: st) n im rm :=
  fun p l e s m args below meth c D ca b H locs ls C hl hP hF hL => lv_icmp_ne C.1 C.2.1 hd ht (fun q => kt q p l e s m args below meth c D ca b H locs ls C hl hP hF hL) (fun q => kf q p l e s m args below meth c D ca b H locs ls C hl hP hF hL)
theorem r_if_lt {x : Int32} {off : Int} {tgt : Nat} (hd : decode Y.2.1 pc = .ok (.ifCond .lt off, 3)) (ht : (pc : Int) + off = (tgt : Int))
    (kt : x < 0 → WW Y d mc ms R kc ks tgt lv st n im rm) (kf : ¬ x < 0 → WW Y d mc ms R kc ks (pc + 3) lv st n im rm) : WW Y d mc ms R kc ks pc lv (.int x :: st) n im rm :=
  fun p l e s m args below meth c D ca b H locs ls C hl hP hF hL => lv_if_lt C.1 C.2.1 hd ht (fun q => kt q p l e s m args below meth c D ca b H locs ls C hl hP hF hL) (fun q => kf q p l e s m args below meth c D ca b H locs ls C hl hP hF hL)
theorem r_icmp_lt {x y : Int32} {off : Int} {tgt : Nat} (hd : decode Y.2.1 pc = .ok (.if_icmp .lt off, 3)) (ht : (pc : Int) + off = (tgt : Int))
    (kt : x < y → WW Y d mc ms R kc ks tgt lv st n im rm) (kf : ¬ x < y → WW Y d mc ms R kc ks (pc + 3) lv st n im rm) : WW Y d mc ms R kc ks pc lv (.int y :: .int x :: st) n im rm :=
  fun p l e s m args below meth c D ca b H locs ls C hl hP hF hL => lv_icmp_lt C.1 C.2.1 hd ht (fun q => kt q p l e s m args below meth c D ca b H locs ls C hl hP hF hL) (fun q => kf q p l e s m args below meth c D ca b H locs ls C hl hP hF hL)
theorem r_if_ge {x : Int32} {off : Int} {tgt : Nat} (hd : decode Y.2.1 pc = .ok (.ifCond .ge off, 3)) (ht : (pc : Int) + off = (tgt : Int))
    (kt : 0 ≤ x → WW Y d mc ms R kc ks tgt lv st n im rm) (kf : ¬ 0 ≤ x → WW Y d mc ms R kc ks (pc + 3) lv st n im rm) : WW Y d mc ms R kc ks pc lv (.int x :: st) n im rm :=
  fun p l e s m args below meth c D ca b H locs ls C hl hP hF hL => lv_if_ge C.1 C.2.1 hd ht (fun q => kt q p l e s m args below meth c D ca b H locs ls C hl hP hF hL) (fun q => kf q p l e s m args below meth c D ca b H locs ls C hl hP hF hL)
theorem r_icmp_ge {x y : Int32} {off : Int} {tgt : Nat} (hd : decode Y.2.1 pc = .ok (.if_icmp .ge off, 3)) (ht : (pc : Int) + off = (tgt : Int))
    (kt : y ≤ x → WW Y d mc ms R kc ks tgt lv st n im rm) (kf : ¬ y ≤ x → WW Y d mc ms R kc ks (pc + 3) lv st n im rm) : WW Y d mc ms R kc ks pc lv (.int y :: .int x :: st) n im rm :=
  fun p l e s m args below meth c D ca b H locs ls C hl hP hF hL => lv_icmp_ge C.1 C.2.1 hd ht (fun q => kt q p l e s m args below meth c D ca b H locs ls C hl hP hF hL) (fun q => kf q p l e s m args below meth c D ca b H locs ls C hl hP hF hL)
theorem r_if_gt {x : Int32} {off : Int} {tgt : Nat} (hd : decode Y.2.1 pc = .ok (.ifCond .gt off, 3)) (ht : (pc : Int) + off = (tgt : Int))
    (kt : 0 < x → WW Y d mc ms R kc ks tgt lv st n im rm) (kf : ¬ 0 < x → WW Y d mc ms R kc ks (pc + 3) lv st n im rm) : WW Y d mc ms R kc ks pc lv (.int x :: st) n im rm :=
  fun p l e s m args below meth c D ca b H locs ls C hl hP hF hL => lv_if_gt C.1 C.2.1 hd ht (fun q => kt q p l e s m args below meth c D ca b H locs ls C hl hP hF hL) (fun q => kf q p l e s m args below meth c D ca b H locs ls C hl hP hF hL)
theorem r_icmp_gt {x y : Int32} {off : Int} {tgt : Nat} (hd : decode Y.2.1 pc = .ok (.if_icmp .gt off, 3)) (ht : (pc : Int) + off = (tgt : Int))
    (kt : y < x → WW Y d mc ms R kc ks tgt lv st n im rm) (kf : ¬ y < x → WW Y d mc ms R kc ks (pc + 3) lv st n im rm) : WW Y d mc ms R kc ks pc lv (.int y :: .int x :: st) n im rm :=
  fun p l e s m args below meth c D ca b H locs ls C hl hP hF hL => lv_icmp_gt C.1 C.2.1 hd ht (fun q => kt q p l e s m args below meth c D ca b H locs ls C hl hP hF hL) (fun q => kf q p l e s m args below meth c D ca b H locs ls C hl hP hF hL)
theorem r_if_le {x : Int32} {off : Int} {tgt : Nat} (hd : decode Y.2.1 pc = .ok (.ifCond .le off, 3)) (ht : (pc : Int) + off = (tgt : Int))
    (kt : x ≤ 0 → WW Y d mc ms R kc ks tgt lv st n im rm) (kf : ¬ x ≤ 0 → WW Y d mc ms R kc ks (pc + 3) lv st n im rm) : WW Y d mc ms R kc ks pc lv (.int x :: st) n im rm :=
  fun p l e s m args below meth c D ca b H locs ls C hl hP hF hL => lv_if_le C.1 C.2.1 hd ht (fun q => kt q p l e s m args below meth c D ca b H locs ls C hl hP hF hL) (fun q => kf q p l e s m args below meth c D ca b H locs ls C hl hP hF hL)
theorem r_icmp_le {x y : Int32} {off : Int} {tgt : Nat} (hd : decode Y.2.1 pc = .ok (.if_icmp .le off, 3)) (ht : (pc : Int) + off = (tgt : Int))
    (kt : x ≤ y → WW Y d mc ms R kc ks tgt lv st n im rm) (kf : ¬ x ≤ y → WW Y d mc ms R kc ks (pc + 3) lv st n im rm) : WW Y d mc ms R kc ks pc lv (.int y :: .int x :: st) n im rm :=
  fun p l e s m args below meth c D ca b H locs ls C hl hP hF hL => lv_icmp_le C.1 C.2.1 hd ht (fun q => kt q p l e s m args below meth c D ca b H locs ls C hl hP hF hL) (fun q => kf q p l e s m args below meth c D ca b H locs ls C hl hP hF hL)
theorem r_tabOut {dflt lo hi : Int} {offs : Array Int} {len : Nat} {x : Int32} {tgt : Nat} (hd : decode Y.2.1 pc = .ok (.tableswitch dflt lo hi offs, len)) (h : x.toInt < lo ∨ hi < x.toInt) (ht : (pc : Int) + dflt = (tgt : Int))
    (k : WW Y d mc ms R kc ks tgt lv st n im rm) : WW Y d mc ms R kc ks pc lv (.int x :: st) n im rm :=
  fun p l e s m args below meth c D ca b H locs ls C hl hP hF hL => lv_tableOut C.1 C.2.1 hd h ht (k p l e s m args below meth c D ca b H locs ls C hl hP hF hL)
theorem r_tabIn {dflt lo hi : Int} {offs : Array Int} {len : Nat} {x : Int32} {off : Int} {tgt : Nat} (hd : decode Y.2.1 pc = .ok (.tableswitch dflt lo hi offs, len)) (h1 : ¬ x.toInt < lo) (h2 : ¬ hi < x.toInt) (ho : offs[(x.toInt - lo).toNat]? = some off) (ht : (pc : Int) + off = (tgt : Int))
    (k : WW Y d mc ms R kc ks tgt lv st n im rm) : WW Y d mc ms R kc ks pc lv (.int x :: st) n im rm :=
  fun p l e s m args below meth c D ca b H locs ls C hl hP hF hL => lv_tableIn C.1 C.2.1 hd h1 h2 ho ht (k p l e s m args below meth c D ca b H locs ls C hl hP hF hL)
theorem one_cat {b : Nat} {v : Value} (h : v.category = 1) : (tv b v).category = 1 := (tv_cat b v).trans h
theorem r_dup {v : Value} (hd : decode Y.2.1 pc = .ok (.dup, 1)) (h : v.category = 1) (k : WW Y d mc ms R kc ks (pc + 1) lv (v :: v :: st) n im rm) : WW Y d mc ms R kc ks pc lv (v :: st) n im rm :=
  fun p l e s m args below meth c D ca b H locs ls C hl hP hF hL => lv_dup C.1 C.2.1 hd (one_cat h) (k p l e s m args below meth c D ca b H locs ls C hl hP hF hL)
theorem r_dup2 {v u : Value} (hd : decode Y.2.1 pc = .ok (.dup2, 1)) (h : v.category = 1) (h2 : u.category = 1) (k : WW Y d mc ms R kc ks (pc + 1) lv (v :: u :: v :: u :: st) n im rm) : WW Y d mc ms R kc ks pc lv (v :: u :: st) n im rm :=
  fun p l e s m args below meth c D ca b H locs ls C hl hP hF hL => lv_dup2_11 C.1 C.2.1 hd (one_cat h) (one_cat h2) (k p l e s m args below meth c D ca b H locs ls C hl hP hF hL)
theorem r_iret {v : Int32} (hd : decode Y.2.1 pc = .ok (.ireturn, 1)) (hr : Y.2.2.2 = some .int) (hR : R = (some (.int v), n, im, rm)) (hc : kc ≤ mc) (hs : ks ≤ ms) : WW Y d mc ms R kc ks pc lv [.int v] n im rm := by
  intro p l e s m args below meth c D ca b H locs ls C hl hP hF hL
  subst hR
  have hlocks : meth.locks = false := C.2.2.2.2.2.2.1
  exact W.widen hc hs (W.iret (v := v) C.1 C.2.1 (C.2.2.1.trans hr) (fun t ht _ => ⟨rfl, by rw [ht]; exact hP, by rw [ht]; exact hF⟩) hL hd)
theorem r_zret {v : Int32} (hd : decode Y.2.1 pc = .ok (.ireturn, 1)) (hr : Y.2.2.2 = some .boolean) (hv : narrow .boolean (.int v) = .int v) (hR : R = (some (.int v), n, im, rm)) (hc : kc ≤ mc) (hs : ks ≤ ms) : WW Y d mc ms R kc ks pc lv [.int v] n im rm := by
  intro p l e s m args below meth c D ca b H locs ls C hl hP hF hL
  subst hR
  have hlocks : meth.locks = false := C.2.2.2.2.2.2.1
  exact W.widen hc hs (W.zret (v := v) C.1 C.2.1 (C.2.2.1.trans hr) hv (fun t ht _ => ⟨rfl, by rw [ht]; exact hP, by rw [ht]; exact hF⟩) hL hd)
theorem r_vret (hd : decode Y.2.1 pc = .ok (.return_, 1)) (hr : Y.2.2.2 = none) (hR : R = (none, n, im, rm)) (hc : kc ≤ mc) (hs : ks ≤ ms) : WW Y d mc ms R kc ks pc lv [] n im rm := by
  intro p l e s m args below meth c D ca b H locs ls C hl hP hF hL
  subst hR
  have hlocks : meth.locks = false := C.2.2.2.2.2.2.1
  exact W.widen hc hs (W.vret C.1 C.2.1 (C.2.2.1.trans hr) (fun t ht _ => ⟨rfl, by rw [ht]; exact hP, by rw [ht]; exact hF⟩) hL hd)
theorem r_aret {v : Nat} {cn : String} (hd : decode Y.2.1 pc = .ok (.areturn, 1)) (hr : Y.2.2.2 = some (.object cn)) (hR : R = (some (.ref v), n, im, rm)) (hc : kc ≤ mc) (hs : ks ≤ ms) : WW Y d mc ms R kc ks pc lv [.ref v] n im rm := by
  intro p l e s m args below meth c D ca b H locs ls C hl hP hF hL
  subst hR
  have hlocks : meth.locks = false := C.2.2.2.2.2.2.1
  exact W.widen hc hs (W.aret (v := .ref (b + v)) C.1 C.2.1 (C.2.2.1.trans hr) (Or.inl ⟨cn, rfl⟩) (Or.inr ⟨_, rfl⟩) (fun t ht _ => ⟨rfl, by rw [ht]; exact hP, by rw [ht]; exact hF⟩) hL hd)
theorem r_eq {st' : List Value} {lv' : LV} {im' : IM} (h1 : lv = lv') (h2 : st = st') (h3 : im = im') (k : WW Y d mc ms R kc ks pc lv' st' n im' rm) : WW Y d mc ms R kc ks pc lv st n im rm := by
  subst h1; subst h2; subst h3; exact k
theorem r_sub {lv' : LV} (h : ∀ q ∈ lv', q ∈ lv) (k : WW Y d mc ms R kc ks pc lv' st n im rm) : WW Y d mc ms R kc ks pc lv st n im rm := by
  intro p l e s m args below meth c D ca b H locs ls C hl hP hF hL
  refine k p l e s m args below meth c D ca b H locs ls C ⟨hl.1, hl.2.1, fun q hq => ?_⟩ hP hF hL
  obtain ⟨a, ha, rfl⟩ := List.mem_map.mp hq
  exact hl.2.2 _ (List.mem_map.mpr ⟨a, h a ha, rfl⟩)
end RULES
end
section
section MEM
variable {Y : Card} {d mc ms : Nat} {R : Rs} {kc ks pc : Nat} {lv : LV} {st : List Value} {n : Nat} {im : IM} {rm : RM}
theorem r_get {k ci j idx : Nat} {ty : FieldType} {fin : Bool} {v : Value} (hF : FL Y.1.cls idx ci j ty fin) (hd : decode Y.2.1 pc = .ok (.getfield idx, 3)) (hk : kd k = (0, ci)) (hn : k < n) (hv : ∀ b, fv b im rm ci k j = tv b v)
    (kk : WW Y d mc ms R kc ks (pc + 3) lv (v :: st) n im rm) : WW Y d mc ms R kc ks pc lv (.ref k :: st) n im rm := by
  intro p l e s m args below meth c D ca b H locs ls C hl hP hF0 hL
  obtain ⟨hx, hb, hr, hml, hown, htb, hlocks, hK, hbs, hnm⟩ := id C
  obtain ⟨C0, T, N, hc, hj, hlink, hcls, hfin, hpd⟩ := hF
  obtain ⟨r, h1, cell, q1, q2, q3, q4⟩ := hP.obj hk hn
  have hr : r = (C0, T, N) := Option.some.inj (h1.symm.trans hc)
  subst hr
  obtain ⟨hin, ⟨ty0, hty, hnms, -⟩, hN⟩ := klass hc
  obtain ⟨hS, hfc, kC, hkC, hkind⟩ := hK.1 ci _ hc
  obtain ⟨cf, kf, fi, f, hi, hsl⟩ := hS j hj
  refine W.getf hx hb hown (htb _ hlink rfl) (by rw [hcls] at hi; exact hi) (u_facts hfc hkC (u_lays htb.u hin hj) hi).1 q1 (by rw [q3]; exact fun h => by cases h) (v := tv b v) ?_ rfl rfl hd (kk p l e s m args below meth c D ca b H locs ls C hl hP hF0 hL)
  rw [hsl, q4 j hj]
  have hj' : j < nf ci := by rw [← hN]; exact hj
  rw [vp_V_fv hj', hv b]
theorem r_geti {k ci j idx : Nat} {ty : FieldType} {fin : Bool} (hF : FL Y.1.cls idx ci j ty fin) (hd : decode Y.2.1 pc = .ok (.getfield idx, 3)) (hk : kd k = (0, ci)) (hn : k < n) (hi : rft ci j = false)
    (kk : WW Y d mc ms R kc ks (pc + 3) lv (.int (im k j) :: st) n im rm) : WW Y d mc ms R kc ks pc lv (.ref k :: st) n im rm :=
  r_get hF hd hk hn (fun b => by unfold fv; rw [hi]; rfl) kk
theorem r_getr {k ci j idx a : Nat} {ty : FieldType} {fin : Bool} (hF : FL Y.1.cls idx ci j ty fin) (hd : decode Y.2.1 pc = .ok (.getfield idx, 3)) (hk : kd k = (0, ci)) (hn : k < n) (hi : rft ci j = true) (ha : rm k j = some a)
    (kk : WW Y d mc ms R kc ks (pc + 3) lv (.ref a :: st) n im rm) : WW Y d mc ms R kc ks pc lv (.ref k :: st) n im rm :=
  r_get hF hd hk hn (fun b => by unfold fv rr; rw [hi, ha]; rfl) kk
theorem r_put {k ci j idx : Nat} {ty : FieldType} {v : Value} {im' : IM} {rm' : RM} (hF : FL Y.1.cls idx ci j ty false) (hd : decode Y.2.1 pc = .ok (.putfield idx, 3)) (hk : kd k = (0, ci)) (hn : k < n) (hnar : ∀ b, narrow ty (tv b v) = tv b v) (hfit : ∀ b, fits ty (tv b v) = true)
    (hv : ∀ b i, fv b im' rm' ci k i = if i = j then tv b v else fv b im rm ci k i) (ho : ∀ ca b a, a ≠ k → ce ca b im' rm' a = ce ca b im rm a)
    (kk : WW Y d mc ms R kc ks (pc + 3) lv st n im' rm') : WW Y d mc ms R kc ks pc lv (v :: .ref k :: st) n im rm := by
  intro p l e s m args below meth c D ca b H locs ls C hl hP hF0 hL
  obtain ⟨hx, hb, hr, hml, hown, htb, hlocks, hK, hbs, hnm⟩ := id C
  obtain ⟨C0, T, N, hc, hj, hlink, hcls, hfin, hpd⟩ := hF
  obtain ⟨r, h1, cell, q1, q2, q3, q4⟩ := hP.obj hk hn
  have hr : r = (C0, T, N) := Option.some.inj (h1.symm.trans hc)
  subst hr
  obtain ⟨hin, ⟨ty0, hty, hnms, -⟩, hN⟩ := klass hc
  have hap := va_apart (own := Y.1.cls) htb.u hin ty0 hty hnms hK hc
  obtain ⟨hS, hfc, kC, hkC, hkind⟩ := hK.1 ci _ hc
  obtain ⟨cf, kf, fi, f, hi, hsl⟩ := hS j hj
  have hlay := htb.u _ (hin _ (u_in_lay hj))
  unfold u_lay at hlay
  rw [if_neg (by rw [hfin]; decide)] at hlay
  have hst := (u_facts hfc hkC (u_lays htb.u hin hj) hi).1
  have h6 := u_store hfc hkC hkind hlay hi hpd (hnar b) (hfit b)
  refine W.putK hx hb (f := f) ⟨hown, htb _ hlink rfl, ⟨_, _, _, by rw [hcls] at hi; exact hi⟩, hst⟩ (by rw [q2]; exact h6) q1 q3 (by rw [hsl]; exact k2_hasslot (q4 j hj)) rfl rfl hd fun H' e1 e2 e3 => ?_
  rw [hsl] at e1 ⊢
  refine kk p l e s m args below meth c D ca b H' _ ls C hl (hP.set e2 e3 (ho ca b) (fun _ => ?_)) (fun q hq => (e3 q (Nat.ne_of_lt (Nat.lt_of_lt_of_le hq (Nat.le_add_right b k)))).trans (hF0 q hq)) (fun q hq => ?_)
  · unfold ce ceT
    rw [hk]
    refine ⟨_, hc, t_OB.to (V := updV _ j (tv b v)) ⟨_, e1, q2, q3, t_set q4 hap hj (tv b v)⟩ (fun i hi' => ?_)⟩
    have hi2 : i < nf ci := by rw [← hN]; exact hi'
    show updV _ j (tv b v) i = vp_V ((List.range (nf ci)).map (fv b im' rm' ci k)) i
    rw [vp_V_fv hi2, hv b i]
    unfold updV
    rw [vp_V_fv hi2]
  · rcases List.mem_append.mp hq with h | h
    · exact hL q h
    · rw [List.mem_singleton.mp h]
      exact Nat.le_add_right b k
theorem r_putF {k ci j idx : Nat} {ty : FieldType} {v : Value} {im' : IM} {rm' : RM} (hF : FL Y.1.cls idx ci j ty true) (hd : decode Y.2.1 pc = .ok (.putfield idx, 3)) (hk : kd k = (0, ci)) (hn : k < n) (hini : Y.1.name = "<init>") (hown' : ∀ C T N, vwCl[ci]? = some (C, T, N) → Y.1.cls = C) (hnar : ∀ b, narrow ty (tv b v) = tv b v) (hfit : ∀ b, fits ty (tv b v) = true)
    (hv : ∀ b i, fv b im' rm' ci k i = if i = j then tv b v else fv b im rm ci k i) (ho : ∀ ca b a, a ≠ k → ce ca b im' rm' a = ce ca b im rm a)
    (kk : WW Y d mc ms R kc ks (pc + 3) lv st n im' rm') : WW Y d mc ms R kc ks pc lv (v :: .ref k :: st) n im rm := by
  intro p l e s m args below meth c D ca b H locs ls C hl hP hF0 hL
  obtain ⟨hx, hb, hr, hml, hown, htb, hlocks, hK, hbs, hnm⟩ := id C
  obtain ⟨C0, T, N, hc, hj, hlink, hcls, hfin, hpd⟩ := hF
  obtain ⟨r, h1, cell, q1, q2, q3, q4⟩ := hP.obj hk hn
  have hr : r = (C0, T, N) := Option.some.inj (h1.symm.trans hc)
  subst hr
  obtain ⟨hin, ⟨ty0, hty, hnms, -⟩, hN⟩ := klass hc
  have hap := va_apart (own := Y.1.cls) htb.u hin ty0 hty hnms hK hc
  obtain ⟨hS, hfc, kC, hkC, hkind⟩ := hK.1 ci _ hc
  obtain ⟨cf, kf, fi, f, hi, hsl⟩ := hS j hj
  have hlay := htb.u _ (hin _ (u_in_lay hj))
  unfold u_lay at hlay
  rw [if_pos hfin] at hlay
  have hst := (u_facts hfc hkC (u_lays htb.u hin hj) hi).1
  have hcf : m.cls = cf := by
    obtain ⟨_, _, c', _, _, _, -, -, hf', -, -, -, hown2, -⟩ := Cond.laysFinal_spec hlay
    have e1 : c' = cf := by have := hi.symm.trans hf'; simp at this; exact this.1.symm
    rw [hcls, ← hown' _ _ _ hc] at hown2
    rw [← e1]; exact Option.some.inj (hown.symm.trans hown2)
  have h6 := u_fits hfc hkC hkind (Or.inr hlay) hi hpd (hnar b) (hfit b)
  refine W.putFinK hx hb hown (htb _ hlink rfl) (by rw [hcls] at hi; exact hi) hst hcf (hnm.trans hini) (by rw [q2]; exact h6) q1 q3 (by rw [hsl]; exact k2_hasslot (q4 j hj)) rfl rfl hd fun H' e1 e2 e3 => ?_
  rw [hsl] at e1 ⊢
  refine kk p l e s m args below meth c D ca b H' _ ls C hl (hP.set e2 e3 (ho ca b) (fun _ => ?_)) (fun q hq => (e3 q (Nat.ne_of_lt (Nat.lt_of_lt_of_le hq (Nat.le_add_right b k)))).trans (hF0 q hq)) (fun q hq => ?_)
  · unfold ce ceT
    rw [hk]
    refine ⟨_, hc, t_OB.to (V := updV _ j (tv b v)) ⟨_, e1, q2, q3, t_set q4 hap hj (tv b v)⟩ (fun i hi' => ?_)⟩
    have hi2 : i < nf ci := by rw [← hN]; exact hi'
    show updV _ j (tv b v) i = vp_V ((List.range (nf ci)).map (fv b im' rm' ci k)) i
    rw [vp_V_fv hi2, hv b i]
    unfold updV
    rw [vp_V_fv hi2]
  · rcases List.mem_append.mp hq with h | h
    · exact hL q h
    · rw [List.mem_singleton.mp h]
      exact Nat.le_add_right b k
theorem fv_upd {b k ci j : Nat} {x : Int32} (hi : rft ci j = false) (i : Nat) : fv b (upR im k (upd (im k) j x)) rm ci k i = if i = j then tv b (.int x) else fv b im rm ci k i := by
  unfold fv
  rw [upR_same]
  unfold upd
  by_cases h : i = j
  · subst h
    rw [if_pos rfl, if_pos rfl, hi]
    rfl
  · rw [if_neg h, if_neg h]
theorem fv_upq {b k ci j : Nat} {x : Option Nat} (hi : rft ci j = true) (i : Nat) : fv b im (upQ rm k j x) ci k i = if i = j then tv b (va_rf x) else fv b im rm ci k i := by
  unfold fv rr upQ
  by_cases h : i = j
  · subst h
    rw [if_pos rfl, hi, if_pos rfl, if_pos ⟨rfl, rfl⟩]
    cases x <;> rfl
  · have e : ¬ (k = k ∧ i = j) := fun q => h q.2
    simp only [h, and_false, if_false]
theorem r_puti {k ci j idx : Nat} {x : Int32} (hF : FL Y.1.cls idx ci j .int false) (hd : decode Y.2.1 pc = .ok (.putfield idx, 3)) (hk : kd k = (0, ci)) (hn : k < n) (hi : rft ci j = false)
    (kk : WW Y d mc ms R kc ks (pc + 3) lv st n (upR im k (upd (im k) j x)) rm) : WW Y d mc ms R kc ks pc lv (.int x :: .ref k :: st) n im rm :=
  r_put hF hd hk hn (fun _ => rfl) (fun _ => rfl) (fun b i => fv_upd hi i) (fun ca b a h => ce_upR h) kk
theorem r_putz {k ci j idx : Nat} {x : Int32} (hF : FL Y.1.cls idx ci j .boolean false) (hd : decode Y.2.1 pc = .ok (.putfield idx, 3)) (hk : kd k = (0, ci)) (hn : k < n) (hi : rft ci j = false) (hx : narrow .boolean (.int x) = .int x ∧ fits .boolean (.int x) = true)
    (kk : WW Y d mc ms R kc ks (pc + 3) lv st n (upR im k (upd (im k) j x)) rm) : WW Y d mc ms R kc ks pc lv (.int x :: .ref k :: st) n im rm :=
  r_put hF hd hk hn (fun _ => hx.1) (fun _ => hx.2) (fun b i => fv_upd hi i) (fun ca b a h => ce_upR h) kk
theorem r_putr {k ci j idx a : Nat} {cn : String} (hF : FL Y.1.cls idx ci j (.object cn) false) (hd : decode Y.2.1 pc = .ok (.putfield idx, 3)) (hk : kd k = (0, ci)) (hn : k < n) (hi : rft ci j = true)
    (kk : WW Y d mc ms R kc ks (pc + 3) lv st n im (upQ rm k j (some a))) : WW Y d mc ms R kc ks pc lv (.ref a :: .ref k :: st) n im rm :=
  r_put hF hd hk hn (fun _ => rfl) (fun _ => rfl) (fun b i => fv_upq (x := some a) hi i) (fun ca b a h => ce_upQ h) kk
theorem r_putFr {k ci j idx a : Nat} {ty : FieldType} (hF : FL Y.1.cls idx ci j ty true) (hd : decode Y.2.1 pc = .ok (.putfield idx, 3)) (hk : kd k = (0, ci)) (hn : k < n) (hini : Y.1.name = "<init>") (hown' : ∀ C T N, vwCl[ci]? = some (C, T, N) → Y.1.cls = C) (hi : rft ci j = true) (hty : ∀ b : Nat, narrow ty (.ref b) = .ref b ∧ fits ty (.ref b) = true)
    (kk : WW Y d mc ms R kc ks (pc + 3) lv st n im (upQ rm k j (some a))) : WW Y d mc ms R kc ks pc lv (.ref a :: .ref k :: st) n im rm :=
  r_putF hF hd hk hn hini hown' (fun b => (hty (b + a)).1) (fun b => (hty (b + a)).2) (fun b i => fv_upq (x := some a) hi i) (fun ca b a h => ce_upQ h) kk
theorem r_iald {k len j : Nat} {i : Int32} (hd : decode Y.2.1 pc = .ok (.iaload, 1)) (hk : kd k = (1, len)) (hn : k < n) (hi : i = nI j) (hj : j < len) (hlen : len < 2147483648)
    (kk : WW Y d mc ms R kc ks (pc + 1) lv (.int (im k j) :: st) n im rm) : WW Y d mc ms R kc ks pc lv (.int i :: .ref k :: st) n im rm := by
  intro p l e s m args below meth c D ca b H locs ls C hl hP hF0 hL
  have hK : va_K D vwCl (tyL ca) s := C.2.2.2.2.2.2.2.1
  obtain ⟨hin, hcl⟩ := vp_in_of_nI hi hj hlen
  refine W.iald (v := .int (im k j)) C.1 C.2.1 (hP.arr hk (Or.inl rfl) hn) ((hK.2 0 _ rfl).1 len (fun j => .int (im k j))) (fun q => by cases q) (by show ¬ (i < 0 ∨ (arrV _ _ _).slots.size ≤ _); rw [arrV_size]; exact hin) (by show (arrV _ _ _).slots[_]? = _; rw [hcl, arrV_read _ _ hj]) rfl rfl hd (kk p l e s m args below meth c D ca b H locs ls C hl hP hF0 hL)
theorem r_zald {k len j : Nat} {i : Int32} (hd : decode Y.2.1 pc = .ok (.baload, 1)) (hk : kd k = (2, len)) (hn : k < n) (hi : i = nI j) (hj : j < len) (hlen : len < 2147483648)
    (kk : WW Y d mc ms R kc ks (pc + 1) lv (.int (im k j) :: st) n im rm) : WW Y d mc ms R kc ks pc lv (.int i :: .ref k :: st) n im rm := by
  intro p l e s m args below meth c D ca b H locs ls C hl hP hF0 hL
  have hK : va_K D vwCl (tyL ca) s := C.2.2.2.2.2.2.2.1
  obtain ⟨hin, hcl⟩ := vp_in_of_nI hi hj hlen
  refine W.zald (v := .int (im k j)) C.1 C.2.1 (hP.arr hk (Or.inr rfl) hn) ((hK.2 1 _ rfl).1 len (fun j => .int (im k j))) (fun q => by cases q) (by show ¬ (i < 0 ∨ (arrV _ _ _).slots.size ≤ _); rw [arrV_size]; exact hin) (by show (arrV _ _ _).slots[_]? = _; rw [hcl, arrV_read _ _ hj]) rfl rfl hd (kk p l e s m args below meth c D ca b H locs ls C hl hP hF0 hL)
theorem r_aald {k t len j a : Nat} {i : Int32} (hd : decode Y.2.1 pc = .ok (.aaload, 1)) (hk : kd k = (t, len)) (ht : t = 3 ∨ t = 4) (hn : k < n) (hi : i = nI j) (hj : j < len) (hlen : len < 2147483648) (ha : rm k j = some a)
    (kk : WW Y d mc ms R kc ks (pc + 1) lv (.ref a :: st) n im rm) : WW Y d mc ms R kc ks pc lv (.int i :: .ref k :: st) n im rm := by
  intro p l e s m args below meth c D ca b H locs ls C hl hP hF0 hL
  have hK : va_K D vwCl (tyL ca) s := C.2.2.2.2.2.2.2.1
  obtain ⟨hin, hcl⟩ := vp_in_of_nI hi hj hlen
  have hv : va_rf (rr b rm k j) = .ref (b + a) := by unfold rr; rw [ha]; rfl
  obtain ⟨E, hE, hrE⟩ : ∃ E : FieldType, ArrOfT s (ca t) E ∧ E.isReference = true := by
    rcases ht with rfl | rfl
    · exact ⟨_, (hK.2 2 _ rfl).1, rfl⟩
    · exact ⟨_, (hK.2 3 _ rfl).1, rfl⟩
  refine W.aald (v := .ref (b + a)) (ty := E) C.1 C.2.1 (hP.arq hk ht hn) (hE len (fun j => va_rf (rr b rm k j))) hrE (fun q => by cases q) (by show ¬ (i < 0 ∨ (arrV _ _ _).slots.size ≤ _); rw [arrV_size]; exact hin) (by show (arrV _ _ _).slots[_]? = _; rw [hcl, arrV_read _ _ hj, hv]) rfl rfl hd (kk p l e s m args below meth c D ca b H locs ls C hl hP hF0 hL)
theorem cell_upd {cA : ClassId} {len j : Nat} {f : Nat → Int32} {x : Int32} : (vp_cell cA (len, .inl f)).setSlot j (.int x) = vp_cell cA (len, .inl (upd f j x)) := by
  rw [vp_cell_i, vp_cell_i, arrV_store]
  congr 2
  funext q
  unfold updV upd
  split <;> rfl
theorem r_iast {k len j : Nat} {i x : Int32} (hd : decode Y.2.1 pc = .ok (.iastore, 1)) (hk : kd k = (1, len)) (hn : k < n) (hi : i = nI j) (hj : j < len) (hlen : len < 2147483648)
    (kk : WW Y d mc ms R kc ks (pc + 1) lv st n (upR im k (upd (im k) j x)) rm) : WW Y d mc ms R kc ks pc lv (.int x :: .int i :: .ref k :: st) n im rm := by
  intro p l e s m args below meth c D ca b H locs ls C hl hP hF0 hL
  have hK : va_K D vwCl (tyL ca) s := C.2.2.2.2.2.2.2.1
  obtain ⟨hin, hcl⟩ := vp_in_of_nI hi hj hlen
  refine W.iast C.1 C.2.1 (hP.arr hk (Or.inl rfl) hn) ((hK.2 0 _ rfl).1 len (fun j => .int (im k j))) (fun q => by cases q) (by show ¬ (i < 0 ∨ (arrV _ _ _).slots.size ≤ _); rw [arrV_size]; exact hin) rfl rfl hd fun H' e1 e2 e3 => ?_
  refine kk p l e s m args below meth c D ca b H' _ ls C hl (hP.set e2 e3 (fun a h => ce_upR h) (fun _ => ?_)) (fun q hq => (e3 q (Nat.ne_of_lt (Nat.lt_of_lt_of_le hq (Nat.le_add_right b k)))).trans (hF0 q hq)) (fun q hq => ?_)
  · unfold ce ceT
    rw [hk, upR_same]
    show H'[b + k]? = some (vp_cell (ca 1) (len, .inl (upd (im k) j x)))
    rw [e1, hcl, cell_upd]
  · rcases List.mem_append.mp hq with h | h
    · exact hL q h
    · rw [List.mem_singleton.mp h]
      exact Nat.le_add_right b k
theorem r_zast {k len j : Nat} {i x : Int32} (hd : decode Y.2.1 pc = .ok (.bastore, 1)) (hk : kd k = (2, len)) (hn : k < n) (hi : i = nI j) (hj : j < len) (hlen : len < 2147483648) (hx : narrow .boolean (.int x) = .int x)
    (kk : WW Y d mc ms R kc ks (pc + 1) lv st n (upR im k (upd (im k) j x)) rm) : WW Y d mc ms R kc ks pc lv (.int x :: .int i :: .ref k :: st) n im rm := by
  intro p l e s m args below meth c D ca b H locs ls C hl hP hF0 hL
  have hK : va_K D vwCl (tyL ca) s := C.2.2.2.2.2.2.2.1
  obtain ⟨hin, hcl⟩ := vp_in_of_nI hi hj hlen
  refine W.zast C.1 C.2.1 (hP.arr hk (Or.inr rfl) hn) ((hK.2 1 _ rfl).1 len (fun j => .int (im k j))) (fun q => by cases q) (by show ¬ (i < 0 ∨ (arrV _ _ _).slots.size ≤ _); rw [arrV_size]; exact hin) rfl rfl hd fun H' e1 e2 e3 => ?_
  refine kk p l e s m args below meth c D ca b H' _ ls C hl (hP.set e2 e3 (fun a h => ce_upR h) (fun _ => ?_)) (fun q hq => (e3 q (Nat.ne_of_lt (Nat.lt_of_lt_of_le hq (Nat.le_add_right b k)))).trans (hF0 q hq)) (fun q hq => ?_)
  · unfold ce ceT
    rw [hk, upR_same]
    show H'[b + k]? = some (vp_cell (ca 2) (len, .inl (upd (im k) j x)))
    rw [e1, hcl, hx, cell_upd]
  · rcases List.mem_append.mp hq with h | h
    · exact hL q h
    · rw [List.mem_singleton.mp h]
      exact Nat.le_add_right b k
theorem Pic.push {D : va_G} {ca : Nat → ClassId} {b : Nat} {H : Heap} (h : Pic D ca b n im rm H) {im' : IM} {rm' : RM} {H' : Heap} (hz : H'.size = b + n + 1) (oq : ∀ q, q < b + n → H'[q]? = H[q]?) (ho : ∀ a, a < n → ce ca b im' rm' a = ce ca b im rm a) (hc : va_at D vwCl (b + n, ce ca b im' rm' n) H') : Pic D ca b (n + 1) im' rm' H' := by
  refine ⟨by rw [hz]; omega, fun a ha => ?_⟩
  by_cases hak : a = n
  · subst hak
    exact hc
  · rw [ho a (by omega)]
    exact (h.2 a (by omega)).kept (oq _ (by show b + a < b + n; omega))
def upN (rm : RM) (k : Nat) : RM := fun a c => if a = k then none else rm a c
theorem ce_upN {ca : Nat → ClassId} {b k a : Nat} {f : Nat → Int32} (h : a ≠ k) : ce ca b (upR im k f) (upN rm k) a = ce ca b im rm a := by
  have e : rr b (upN rm k) a = rr b rm a := by
    funext c
    unfold rr upN
    rw [if_neg h]
  have e2 : upR im k f a = im a := upR_ne h
  unfold ce ceT fv
  rw [e, e2]
theorem r_new {idx ci : Nat} (hF : CK Y.1.cls idx ci) (hd : decode Y.2.1 pc = .ok (.new idx, 3)) (hk : kd n = (0, ci)) (hc : kc + 1 ≤ mc) (hs : ks + nf ci ≤ ms)
    (kk : WW Y d mc ms R (kc + 1) (ks + nf ci) (pc + 3) lv (.ref n :: st) (n + 1) (upR im n (fun _ => 0)) (upN rm n)) : WW Y d mc ms R kc ks pc lv st n im rm := by
  intro p l e s m args below meth c D ca b H locs ls C hl hP hF0 hL
  obtain ⟨hx, hb, hr, hml, hown, htb, hlocks, hK, hbs, hnm⟩ := id C
  obtain ⟨C0, T, N, hcl, hlink, hins, hini⟩ := hF
  obtain ⟨hin, ⟨ty0, hty, hnms, hdef⟩, hN⟩ := klass hcl
  subst hN
  have hKn := hK.1 ci _ hcl
  refine W.newcK hx hb hown (htb _ hlink rfl) (htb _ hins rfl) (htb _ hini rfl) rfl hd hc hs hKn.2.1 hP.1 fun H1 kC hkC e1 z1 o1 => ?_
  refine kk p l e s m args below meth c D ca b H1 _ ls C hl (hP.push z1 o1 (fun a ha => ce_upN (by omega)) ?_) (fun q hq => (o1 q (by omega)).trans (hF0 q hq)) hL
  unfold ce ceT
  rw [hk]
  refine ⟨_, hcl, (u_born ty0 htb.u hin hKn hkC e1 hty).to (fun i hi => ?_)⟩
  show defaultValue (ty0 i) = vp_V ((List.range (nf ci)).map _) i
  rw [vp_V_fv hi, hdef i hi]
  unfold fv rr upN
  rw [upR_same, if_pos rfl]
  rfl
theorem r_newi {len : Nat} {i : Int32} (hd : decode Y.2.1 pc = .ok (.newarray .int, 2)) (hk : kd n = (1, len)) (hi : i = nI len) (hlen : len < 1000) (hc : kc + 1 ≤ mc) (hs : ks + len ≤ ms)
    (kk : WW Y d mc ms R (kc + 1) (ks + len) (pc + 2) lv (.ref n :: st) (n + 1) (upR im n (fun _ => 0)) (upN rm n)) : WW Y d mc ms R kc ks pc lv (.int i :: st) n im rm := by
  intro p l e s m args below meth c D ca b H locs ls C hl hP hF0 hL
  obtain ⟨hx, hb, hr, hml, hown, htb, hlocks, hK, hbs, hnm⟩ := id C
  subst hi
  refine va_newaK (atype := .int) hx hb (htb _ ac_int rfl) rfl hd rfl (nI_pos (by omega)) (nI_clamp (by omega)) (by show len * 4 ≤ 536870912; omega) hc hs hP.1 fun H1 cA e1 z1 o1 hA hfc => ?_
  have hca : cA = ca 1 := Option.some.inj (hfc.symm.trans (hK.2 0 _ rfl).2)
  subst hca
  refine kk p l e s m args below meth c D ca b H1 _ ls C hl (hP.push z1 o1 (fun a ha => ce_upN (by omega)) ?_) (fun q hq => (o1 q (by omega)).trans (hF0 q hq)) hL
  unfold ce ceT
  rw [hk, upR_same]
  exact e1
theorem r_newz {len : Nat} {i : Int32} (hd : decode Y.2.1 pc = .ok (.newarray .boolean, 2)) (hk : kd n = (2, len)) (hi : i = nI len) (hlen : len < 1000) (hc : kc + 1 ≤ mc) (hs : ks + len ≤ ms)
    (kk : WW Y d mc ms R (kc + 1) (ks + len) (pc + 2) lv (.ref n :: st) (n + 1) (upR im n (fun _ => 0)) (upN rm n)) : WW Y d mc ms R kc ks pc lv (.int i :: st) n im rm := by
  intro p l e s m args below meth c D ca b H locs ls C hl hP hF0 hL
  obtain ⟨hx, hb, hr, hml, hown, htb, hlocks, hK, hbs, hnm⟩ := id C
  subst hi
  refine va_newaK (atype := .boolean) hx hb (htb _ ac_boolean rfl) rfl hd rfl (nI_pos (by omega)) (nI_clamp (by omega)) (by show len * 1 ≤ 536870912; omega) hc hs hP.1 fun H1 cA e1 z1 o1 hA hfc => ?_
  have hca : cA = ca 2 := Option.some.inj (hfc.symm.trans (hK.2 1 _ rfl).2)
  subst hca
  refine kk p l e s m args below meth c D ca b H1 _ ls C hl (hP.push z1 o1 (fun a ha => ce_upN (by omega)) ?_) (fun q hq => (o1 q (by omega)).trans (hF0 q hq)) hL
  unfold ce ceT
  rw [hk, upR_same]
  exact e1
theorem r_newq {len t idx ci : Nat} {i : Int32} (hd : decode Y.2.1 pc = .ok (.anewarray idx, 3)) (hF : CK Y.1.cls idx ci) (ht : (t = 3 ∧ ci = 0) ∨ (t = 4 ∧ ci = 6)) (hk : kd n = (t, len)) (hi : i = nI len) (hlen : len < 1000) (hc : kc + 1 ≤ mc) (hs : ks + len ≤ ms)
    (kk : WW Y d mc ms R (kc + 1) (ks + len) (pc + 3) lv (.ref n :: st) (n + 1) (upR im n (fun _ => 0)) (upN rm n)) : WW Y d mc ms R kc ks pc lv (.int i :: st) n im rm := by
  intro p l e s m args below meth c D ca b H locs ls C hl hP hF0 hL
  obtain ⟨hx, hb, hr, hml, hown, htb, hlocks, hK, hbs, hnm⟩ := id C
  subst hi
  obtain ⟨C0, T, N, hcl, hlink, hins, hini⟩ := hF
  have hcm : (nI len).toNatClampNeg = len := nI_clamp (by omega)
  have hov : Cond.arrayOver (.object C0) ∈ lw_tbl ∧ ∃ i : Nat, (tyL ca)[i]? = some (ca t, FieldType.object C0) := by
    rcases ht with ⟨rfl, rfl⟩ | ⟨rfl, rfl⟩
    · cases hcl; exact ⟨ao_0, 2, rfl⟩
    · cases hcl; exact ⟨ao_6, 3, rfl⟩
  obtain ⟨hov, i0, hi0⟩ := hov
  refine W.anew hx hb hown (htb _ hlink rfl) (htb _ hov rfl) rfl hd rfl (nI_pos (by omega)) (by rw [hcm]; omega) hc (by rw [hcm]; exact hs) fun cA kA comp f1 f2 f3 f4 => ?_
  rw [hcm]
  obtain ⟨kA', comp', g1, g2, g3, g4⟩ := (hK.2 i0 _ hi0).2
  have hca : cA = ca t := Option.some.inj (f1.symm.trans g4)
  subst hca
  generalize hH1 : H.push ({ cls := ca t, slots := Array.replicate len .null, vm := .none } : Cell) = H1
  have z1 : H1.size = b + n + 1 := by rw [← hH1, Array.size_push, hP.1]
  have e1 : H1[b + n]? = some (arrV (ca t) len (fun _ => .null)) := by rw [← hH1, ← hP.1, Array.getElem?_push_size, ← arrV_new]
  have o1 : ∀ q : Nat, q < b + n → H1[q]? = H[q]? := fun q hq => by rw [← hH1, Array.getElem?_push, if_neg (by rw [hP.1]; omega)]
  rw [hP.1]
  refine kk p l e s m args below meth c D ca b H1 _ ls C hl (hP.push z1 o1 (fun a ha => ce_upN (by omega)) ?_) (fun q hq => (o1 q (by omega)).trans (hF0 q hq)) hL
  unfold ce ceT
  rw [hk]
  have hrr : rr b (upN rm n) n = fun _ => none := by
    funext j
    unfold rr upN
    rw [if_pos rfl]
    rfl
  rw [hrr]
  rcases ht with ⟨rfl, -⟩ | ⟨rfl, -⟩ <;> exact e1
end MEM
end
section
section CALLS
variable {Y Z : Card} {d mc ms : Nat} {R Q : Rs} {kc ks pc : Nat} {lv : LV} {st : List Value} {n : Nat} {im : IM} {rm : RM} {d' mc' ms' idx k : Nat}
theorem mt_of {av : List Value} (hy : plainName Y.1.cls = true) (hn : (lg_sl av).length ≤ Y.2.2.1) (h : WW Y d mc ms R 0 0 0 (lv_args 0 av) [] n im rm) : MT Y d mc ms av n im rm R := by
  intro l D ca b
  refine Met.ofW (cc := Y.2.1) (maxL := Y.2.2.1) (ret := Y.2.2.2) hy rfl ?_
  intro p e s m args below meth c s₁ B hml hv
  obtain ⟨rfl, hP, hK, hT⟩ := hv
  have hown : s.vm.findClass Y.1.cls = some m.cls := findClass_of_methodNamed B.named
  have hlen : (lg_sl (av.map (tv b))).length = (lg_sl av).length ∧ lv_args 0 (av.map (tv b)) = (lv_args 0 av).map fun q => (q.1, tv b q.2) := by
    have key : ∀ (av : List Value) (i : Nat), (lg_sl (av.map (tv b))).length = (lg_sl av).length ∧ lv_args i (av.map (tv b)) = (lv_args i av).map fun q => (q.1, tv b q.2) := by
      intro av
      induction av with
      | nil => intro i; exact ⟨rfl, rfl⟩
      | cons v r ih =>
        intro i
        obtain ⟨h1, -⟩ := ih i
        constructor
        · unfold lg_sl at h1 ⊢
          rw [List.map_cons, List.flatMap_cons, List.flatMap_cons, List.length_append, List.length_append, h1, tv_cat]
          congr 1
          split <;> rfl
        · simp only [List.map_cons, lv_args, tv_cat]
          split <;> simp [(ih _).2]
    exact key av 0
  have hl := lv_entry (av.map (tv b)) (n := Y.2.2.1) (by rw [hlen.1]; exact hn)
  rw [hlen.2] at hl
  rw [lg_entry_eq]
  exact h p l e s m _ below meth c D ca b s.heap [] _ ⟨B.exec, B.bytes, B.returns, hml, hown, tb_move (State.WarmedH.refl s) hT, B.notSynchronized, hK, by rw [hP.1]; exact Nat.le_add_right _ _, (name_of_methodNamed B.named B.method).1⟩ hl hP (fun _ _ => rfl) (fun _ h => by cases h)
theorem code_good {args : Array Value} {s : State} (ht : TB args s) (h : Cond.code Z.1 Z.2.1 Z.2.2.1 Z.2.2.2 ∈ lw_tbl) : GoodIn lw_u [Cond.code Z.1 Z.2.1 Z.2.2.1 Z.2.2.2] := by
  intro w hw
  rw [List.mem_singleton.mp hw]
  exact ⟨List.mem_filter.mpr ⟨h, rfl⟩, Or.inl rfl⟩
theorem mem_u {w : Cond} (h : w ∈ lw_tbl) (hu : uw w = true) : w ∈ lw_u := List.mem_filter.mpr ⟨h, hu⟩
/-- behind a call -/
theorem r_back {p : Program} {l : Launch} {e : Env} {s : State} {m : MethodId} {args a : Array Value} {below : List Frame} {meth : Method} {c : Code} {D : va_G} {ca : Nat → ClassId} {b : Nat} {H : Heap} {locs : List Loc} {ls : Array Slot} {st0 : List Value}
    (hr : va_Run p l e (rmd d mc ms) s m args below meth c H locs kc ks mc' ms' (F0 m pc ls st0) (st.map (tv b)) (QQ D ca b Q a) (fun q => b ≤ q))
    (C : Cx D ca b p s m args meth c Y) (hl : lv_has ls Y.2.2.1 (lv.map fun q => (q.1, tv b q.2))) (hF : ∀ q : Nat, q < b → H[q]? = s.heap[q]?) (hL : ∀ q ∈ locs, b ≤ q.base)
    (kk : WW Y d mc ms R (kc + mc') (ks + ms') (pc + 3) lv (Q.1.toList ++ st) Q.2.1 Q.2.2.1 Q.2.2.2) : W p l e (rmd d mc ms) s m args below meth c H locs kc ks (MQ below (QQ D ca b R) args s mc ms (fun q => b ≤ q)) (F0 m pc ls st0) := by
  intro T hT X
  obtain ⟨v, st₀, t, T', L, h0, X', hL', e1, e2, ⟨hv, hP, hk⟩, stp⟩ := hr T hT X
  cases hv
  obtain ⟨t2, a1, b1⟩ := kk p l e s m args below meth c D ca b T'.heap (locs ++ L) ls C hl (by rw [e1]; exact hP) (fun q hq => by rw [e1, hk q hq, h0]; exact hF q hq) (fun q hq => by
    rcases List.mem_append.mp hq with h | h
    · exact hL q h
    · exact hL' q h) T' rfl X'
  refine ⟨t2, stp t2 ?_, b1⟩
  have he : (Option.map (tv b) Q.1).toList ++ st.map (tv b) = (Q.1.toList ++ st).map (tv b) := by
    rw [List.map_append]
    cases Q.1 <;> rfl
  show Steps p.tables e below (T'.setTop { F0 m pc ls st0 with pc := pc + 3, stack := (Option.map (tv b) Q.1).toList ++ st.map (tv b) }) t2
  rw [he]
  exact a1
theorem pre_of {s : State} {D : va_G} {ca : Nat → ClassId} {b : Nat} {H : Heap} {args : Array Value} {av : List Value} (hP : Pic D ca b n im rm H) (hK : va_K D vwCl (tyL ca) s) (ht : TB args s) : PreS s H (va_Pc (av.map (tv b)) (fun U => Pic D ca b n im rm U.heap ∧ va_K D vwCl (tyL ca) U ∧ TB #[] U)) (av.map (tv b)) :=
  ⟨fun a U g mk q => ⟨q.1, q.2.1, va_K.moved (u := U) (U := U.calling g mk a) (Vm.Alike.refl U.vm) q.2.2.1, tb_move (s := U) (U := U.calling g mk a) (State.WarmedH.refl U) q.2.2.2⟩, fun U hU hW => ⟨rfl, by rw [hU]; exact hP, va_K.moved hW.alike hK, tb_move hW ht⟩⟩
theorem call_stk (b o : Nat) (As st : List Value) : (As.reverse ++ .ref o :: st).map (tv b) = (As.map (tv b)).reverse ++ .ref (b + o) :: st.map (tv b) := by
  rw [List.map_append, List.map_reverse]
  rfl
theorem call_stkS (b : Nat) (As st : List Value) : (As.reverse ++ st).map (tv b) = (As.map (tv b)).reverse ++ st.map (tv b) := by
  rw [List.map_append, List.map_reverse]
theorem r_callV {o ci : Nat} {As : List Value} (hc : CV Y.1.cls idx Z k) (hd : decode Y.2.1 pc = .ok (.invokevirtual idx, 3)) (hM : MT Z d' mc' ms' (.ref o :: As) n im rm Q) (hdp : d' + 1 ≤ d ∧ 8 + (Z.2.2.1 + 11) + 37 * d' ≤ 37 * d) (hlen : As.length = k) (ho : kd o = (0, ci)) (hon : o < n) (hcl : ∀ r : vw_C, vwCl[ci]? = some r → r.1 = Z.1.cls) (hw : (st.map fun v => v.category).sum ≤ 8) (hm : kc + mc' ≤ mc ∧ ks + ms' ≤ ms)
    (kk : WW Y d mc ms R (kc + mc') (ks + ms') (pc + 3) lv (Q.1.toList ++ st) Q.2.1 Q.2.2.1 Q.2.2.2) : WW Y d mc ms R kc ks pc lv (As.reverse ++ .ref o :: st) n im rm := by
  intro p l e s m args below meth c D ca b H locs ls C hl hP hF0 hL
  obtain ⟨hx, hb, hr, hml, hown, htb, hlocks, hK, hbs, hnm⟩ := id C
  obtain ⟨c1, c2, c3, c4, c5, c6⟩ := hc
  have cb : CallB (rmd d mc ms) s args Y.1.cls idx Z.1 Z.2.1 Z.2.2.1 Z.2.2.2 [Cond.code Z.1 Z.2.1 Z.2.2.1 Z.2.2.2] (rmd d' mc' ms') mc' ms' k := callB_of k htb.u (code_good htb c5) rfl rfl rfl (htb _ c4 rfl) (htb _ c1 rfl) c6 hdp
  have hpre := pre_of (av := .ref o :: As) hP hK htb
  obtain ⟨r, h1, cell, q1, q2, q3, q4⟩ := hP.obj ho hon
  have hcell : ∃ cellB : Cell, H[b + o]? = some cellB ∧ cellB.vm.isStatics = false ∧ s.vm.findClass Z.1.cls = some cellB.cls := ⟨cell, q1, by rw [q3]; rfl, by rw [q2, ← hcl r h1]; exact (hK.1 ci r h1).2.1⟩
  refine r_back (Q := Q) (a := (Value.ref (b + o) :: As.map (tv b)).toArray) (va_runV (C := Z.1.cls) (b := b + o) (As := As.map (tv b)) (rest := st.map (tv b)) (Ts := lw_u) (g := F0 m pc ls ((As.reverse ++ .ref o :: st).map (tv b))) ⟨hx, hb, hml, hown, htb.u⟩ (hM l D ca b) ⟨cb, htb _ c2 rfl, htb _ c3 rfl⟩ ⟨hpre.1, hcell, hpre.2⟩ rfl (by rw [List.length_map]; exact hlen) hl.1 (call_stk b o As st) (by rw [cat_sum]; exact lv_room (m := m) (pc := pc) (ls := ls) (rest := []) hw) hd hm) C hl hF0 hL kk
theorem r_callS {As : List Value} (hc : CS Y.1.cls idx Z k) (hd : decode Y.2.1 pc = .ok (.invokestatic idx, 3)) (hM : MT Z d' mc' ms' As n im rm Q) (hdp : d' + 1 ≤ d ∧ 8 + (Z.2.2.1 + 11) + 37 * d' ≤ 37 * d) (hlen : As.length = k) (hw : (st.map fun v => v.category).sum ≤ 8) (hm : kc + mc' ≤ mc ∧ ks + ms' ≤ ms)
    (kk : WW Y d mc ms R (kc + mc') (ks + ms') (pc + 3) lv (Q.1.toList ++ st) Q.2.1 Q.2.2.1 Q.2.2.2) : WW Y d mc ms R kc ks pc lv (As.reverse ++ st) n im rm := by
  intro p l e s m args below meth c D ca b H locs ls C hl hP hF0 hL
  obtain ⟨hx, hb, hr, hml, hown, htb, hlocks, hK, hbs, hnm⟩ := id C
  obtain ⟨c1, c2, c4, c5, c6⟩ := hc
  have cb : CallB (rmd d mc ms) s args Y.1.cls idx Z.1 Z.2.1 Z.2.2.1 Z.2.2.2 [Cond.code Z.1 Z.2.1 Z.2.2.1 Z.2.2.2] (rmd d' mc' ms') mc' ms' k := callB_of k htb.u (code_good htb c5) rfl rfl rfl (htb _ c4 rfl) (htb _ c1 rfl) c6 hdp
  have hpre := pre_of (av := As) hP hK htb
  refine r_back (Q := Q) (a := (As.map (tv b)).toArray) (va_runS (As := As.map (tv b)) (rest := st.map (tv b)) (Ts := lw_u) (g := F0 m pc ls ((As.reverse ++ st).map (tv b))) ⟨hx, hb, hml, hown, htb.u⟩ (hM l D ca b) ⟨cb, htb _ c2 rfl⟩ hpre rfl (by rw [List.length_map]; exact hlen) hl.1 (call_stkS b As st) (by rw [cat_sum]; exact lv_room (m := m) (pc := pc) (ls := ls) (rest := []) hw) hd hm) C hl hF0 hL kk
theorem r_callN {As : List Value} (hc : CN Y.1.cls idx Z k) (hd : decode Y.2.1 pc = .ok (.invokestatic idx, 3)) (hM : MT Z d' mc' ms' As n im rm Q) (hdp : d' + 1 ≤ d ∧ 8 + (Z.2.2.1 + 11) + 37 * d' ≤ 37 * d) (hlen : As.length = k) (hw : (st.map fun v => v.category).sum ≤ 8) (hm : kc + mc' ≤ mc ∧ ks + ms' ≤ ms)
    (kk : WW Y d mc ms R (kc + mc') (ks + ms') (pc + 3) lv (Q.1.toList ++ st) Q.2.1 Q.2.2.1 Q.2.2.2) : WW Y d mc ms R kc ks pc lv (As.reverse ++ st) n im rm := by
  intro p l e s m args below meth c D ca b H locs ls C hl hP hF0 hL
  obtain ⟨hx, hb, hr, hml, hown, htb, hlocks, hK, hbs, hnm⟩ := id C
  obtain ⟨c1, c2, c4, c5, c6⟩ := hc
  have cb : va_CN (rmd d mc ms) s args Y.1.cls idx Z.1 "TurningWheel" Z.2.1 Z.2.2.1 Z.2.2.2 [Cond.code Z.1 Z.2.1 Z.2.2.1 Z.2.2.2] (rmd d' mc' ms') mc' ms' k := va_cnB k htb.u (code_good htb c5) rfl rfl rfl (va_Nw.of rfl (htb _ c1 rfl)) (htb _ c4 rfl) c6 hdp
  have hpre := pre_of (av := As) hP hK htb
  refine r_back (Q := Q) (a := (As.map (tv b)).toArray) (va_runSN (As := As.map (tv b)) (rest := st.map (tv b)) (Ts := lw_u) (g := F0 m pc ls ((As.reverse ++ st).map (tv b))) ⟨hx, hb, hml, hown, htb.u⟩ (hM l D ca b) ⟨cb, htb _ c2 rfl, trivial⟩ hpre rfl (by rw [List.length_map]; exact hlen) hl.1 (call_stkS b As st) (by rw [cat_sum]; exact lv_room (m := m) (pc := pc) (ls := ls) (rest := []) hw) hd hm) C hl hF0 hL kk
theorem r_callI {o : Nat} {As : List Value} (hZ : Z.2.2.2 = none) (hc : CI Y.1.cls idx Z k) (hd : decode Y.2.1 pc = .ok (.invokespecial idx, 3)) (hM : MT Z d' mc' ms' (.ref o :: As) n im rm Q) (hdp : d' + 1 ≤ d ∧ 8 + (Z.2.2.1 + 11) + 37 * d' ≤ 37 * d) (hlen : As.length = k) (hw : (st.map fun v => v.category).sum ≤ 8) (hm : kc + mc' ≤ mc ∧ ks + ms' ≤ ms)
    (kk : WW Y d mc ms R (kc + mc') (ks + ms') (pc + 3) lv (Q.1.toList ++ st) Q.2.1 Q.2.2.1 Q.2.2.2) : WW Y d mc ms R kc ks pc lv (As.reverse ++ .ref o :: st) n im rm := by
  intro p l e s m args below meth c D ca b H locs ls C hl hP hF0 hL
  obtain ⟨hx, hb, hr, hml, hown, htb, hlocks, hK, hbs, hnm⟩ := id C
  obtain ⟨c1, ⟨c2, c3⟩, c4, c5, c6⟩ := hc
  have hM' := hM l D ca b
  rw [hZ] at hM'
  rw [hZ] at c5
  have hcg : GoodIn lw_u [Cond.code Z.1 Z.2.1 Z.2.2.1 none] := by
    intro w hw
    rw [List.mem_singleton.mp hw]
    exact ⟨List.mem_filter.mpr ⟨c5, rfl⟩, Or.inl rfl⟩
  have cb : CallB (rmd d mc ms) s args Y.1.cls idx Z.1 Z.2.1 Z.2.2.1 none [Cond.code Z.1 Z.2.1 Z.2.2.1 none] (rmd d' mc' ms') mc' ms' k := callB_of k htb.u hcg rfl rfl rfl (htb _ c4 rfl) (htb _ c1 rfl) c6 hdp
  have hpre := pre_of (av := .ref o :: As) hP hK htb
  refine r_back (Q := Q) (a := (Value.ref (b + o) :: As.map (tv b)).toArray) (va_runI (b := b + o) (As := As.map (tv b)) (rest := st.map (tv b)) (Ts := lw_u) (g := F0 m pc ls ((As.reverse ++ .ref o :: st).map (tv b))) ⟨hx, hb, hml, hown, htb.u⟩ hM' ⟨cb, c2, htb _ c3 rfl⟩ hpre rfl (by rw [List.length_map]; exact hlen) hl.1 (call_stk b o As st) (by rw [cat_sum]; exact lv_room (m := m) (pc := pc) (ls := ls) (rest := []) hw) hd hm) C hl hF0 hL kk
theorem r_callJ {o : Nat} {As : List Value} (hZ : Z.2.2.2 = none) (hc : CJ Y.1.cls idx Z k) (hd : decode Y.2.1 pc = .ok (.invokespecial idx, 3)) (hM : MT Z d' mc' ms' (.ref o :: As) n im rm Q) (hdp : d' + 1 ≤ d ∧ 8 + (Z.2.2.1 + 11) + 37 * d' ≤ 37 * d) (hlen : As.length = k) (hw : (st.map fun v => v.category).sum ≤ 8) (hm : kc + mc' ≤ mc ∧ ks + ms' ≤ ms)
    (kk : WW Y d mc ms R (kc + mc') (ks + ms') (pc + 3) lv (Q.1.toList ++ st) Q.2.1 Q.2.2.1 Q.2.2.2) : WW Y d mc ms R kc ks pc lv (As.reverse ++ .ref o :: st) n im rm := by
  intro p l e s m args below meth c D ca b H locs ls C hl hP hF0 hL
  obtain ⟨hx, hb, hr, hml, hown, htb, hlocks, hK, hbs, hnm⟩ := id C
  obtain ⟨c1, ⟨c2, c3⟩, c4, c5, c6⟩ := hc
  have hM' := hM l D ca b
  rw [hZ] at hM'
  rw [hZ] at c5
  have hcg : GoodIn lw_u [Cond.code Z.1 Z.2.1 Z.2.2.1 none] := by
    intro w hw
    rw [List.mem_singleton.mp hw]
    exact ⟨List.mem_filter.mpr ⟨c5, rfl⟩, Or.inl rfl⟩
  have cb : va_CN (rmd d mc ms) s args Y.1.cls idx Z.1 "TurningWheel" Z.2.1 Z.2.2.1 none [Cond.code Z.1 Z.2.1 Z.2.2.1 none] (rmd d' mc' ms') mc' ms' k := va_cnB k htb.u hcg rfl rfl rfl (va_Nw.of rfl (htb _ c1 rfl)) (htb _ c4 rfl) c6 hdp
  have hpre := pre_of (av := .ref o :: As) hP hK htb
  refine r_back (Q := Q) (a := (Value.ref (b + o) :: As.map (tv b)).toArray) (va_runIN (b := b + o) (As := As.map (tv b)) (rest := st.map (tv b)) (Ts := lw_u) (g := F0 m pc ls ((As.reverse ++ .ref o :: st).map (tv b))) ⟨hx, hb, hml, hown, htb.u⟩ hM' ⟨cb, c2, htb _ c3 rfl⟩ hpre rfl (by rw [List.length_map]; exact hlen) hl.1 (call_stk b o As st) (by rw [cat_sum]; exact lv_room (m := m) (pc := pc) (ls := ls) (rest := []) hw) hd hm) C hl hF0 hL kk
theorem r_objI {o : Nat} (hc : Cond.methodLink Y.1.cls idx Lib.objectInit ∈ lw_tbl) (hd : decode Y.2.1 pc = .ok (.invokespecial idx, 3)) (h1 : 1 ≤ d) (hw : (st.map fun v => v.category).sum + 12 ≤ 37)
    (kk : WW Y d mc ms R kc ks (pc + 3) lv st n im rm) : WW Y d mc ms R kc ks pc lv (.ref o :: st) n im rm := by
  intro p l e s m args below meth c D ca b H locs ls C hl hP hF0 hL
  obtain ⟨hx, hb, hr, hml, hown, htb, hlocks, hK, hbs, hnm⟩ := id C
  refine W.objInit (g := F0 m pc ls (.ref (b + o) :: st.map (tv b))) hx hb hown (htb _ hc rfl) (htb _ oi_in rfl) (htb _ oi_co rfl) rfl (by rw [hml]; exact hl.1) rfl hd h1 ?_ (kk p l e s m args below meth c D ca b H locs ls C hl hP hF0 hL)
  rw [cat_sum]
  show 2 * 0 + _ + 12 ≤ 37 * d
  omega
theorem WW.loop (S : Nat → LV) (I : Nat → IM) {N : Nat} (hx : WW Y d mc ms R kc ks pc (S N) st n (I N) rm) (hs : ∀ t, t < N → WW Y d mc ms R kc ks pc (S (t + 1)) st n (I (t + 1)) rm → WW Y d mc ms R kc ks pc (S t) st n (I t) rm) : ∀ t, t ≤ N → WW Y d mc ms R kc ks pc (S t) st n (I t) rm := by
  have key : ∀ j t, t + j = N → WW Y d mc ms R kc ks pc (S t) st n (I t) rm := by
    intro j
    induction j with
    | zero => intro t h; rw [show t = N by omega]; exact hx
    | succ j ih => intro t h; exact hs t (by omega) (ih (t + 1) (by omega))
  exact fun t h => key (N - t) t (by omega)
end CALLS
end
section
def bI (b : Bool) : Int32 := if b = true then 1 else 0
theorem bI_t {b : Bool} (h : b = true) : bI b = 1 := by rw [h]; rfl
theorem bI_f {b : Bool} (h : b = false) : bI b = 0 := by rw [h]; rfl
theorem bI_0 {b : Bool} (h : bI b = 0) : b = false := by cases b <;> first | rfl | (exact absurd h (by decide))
theorem bI_1 {b : Bool} (h : ¬ bI b = 0) : b = true := by cases b <;> first | rfl | (exact absurd rfl h)
theorem bI_nar (b : Bool) : narrow .boolean (.int (bI b)) = .int (bI b) := by cases b <;> decide +kernel
theorem nar0 : narrow .boolean (.int 0) = .int 0 := by decide +kernel
theorem nar1 : narrow .boolean (.int 1) = .int 1 := by decide +kernel
theorem fit_bI (b : Bool) : fits .boolean (.int (bI b)) = true := by cases b <;> decide +kernel
def st (im : IM) (k j : Nat) (x : Int32) : IM := upR im k (upd (im k) j x)
def tn (x : Int32) : Nat := x.toNatClampNeg
theorem tn_nI {n : Nat} (h : n < 2147483648) : tn (nI n) = n := nI_clamp h
theorem st_same (im : IM) (k j : Nat) (x : Int32) : st im k j x k j = x := by unfold st upR upd; rw [if_pos rfl, if_pos rfl]
theorem st_row {im : IM} {k j a : Nat} {x : Int32} (h : a ≠ k) : st im k j x a = im a := upR_ne h
theorem st_ne {im : IM} {k j a i : Nat} {x : Int32} (h : ¬ (a = k ∧ i = j)) : st im k j x a i = im a i := by
  unfold st upR upd
  by_cases h1 : a = k
  · subst h1
    rw [if_pos rfl, if_neg (fun q => h ⟨rfl, q⟩)]
  · rw [if_neg h1]
theorem st_at (im : IM) (k j a i : Nat) (x : Int32) : st im k j x a i = if a = k ∧ i = j then x else im a i := by
  by_cases h : a = k ∧ i = j
  · rw [if_pos h, h.1, h.2, st_same]
  · rw [if_neg h, st_ne h]
theorem cI (n : Nat) : (OfNat.ofNat n : Int32) = nI n := rfl
theorem ix_add {x y : Int32} {a b : Nat} (h : x = nI a) (h2 : y = nI b) : x + y = nI (a + b) := by rw [h, h2, nI_add]
theorem ix_mul {x y : Int32} {a b : Nat} (h : x = nI a) (h2 : y = nI b) : x * y = nI (a * b) := by rw [h, h2, pk_mul]
theorem ix_sub {x y : Int32} {a b : Nat} (h : x = nI a) (h2 : y = nI b) (hb : b ≤ a) : x - y = nI (a - b) := by rw [h, h2, pk_sub hb]
theorem ix_inc {x : Int32} {a : Nat} (h : x = nI a) : x + Int32.ofInt 1 = nI (a + 1) := by rw [h]; exact nI_1 a
def AL (lv lv' : LV) : Prop := ∀ q ∈ lv', lk lv q.1 = some q.2
theorem al_nil {lv : LV} : AL lv [] := fun q h => by cases h
theorem al_cons {lv r : LV} {i : Nat} {v : Value} (h : lk lv i = some v) (t : AL lv r) : AL lv ((i, v) :: r) := fun q hq => by
  rcases List.mem_cons.mp hq with rfl | hq
  · exact h
  · exact t q hq
theorem al_int {lv r : LV} {i : Nat} {x y : Int32} (h : lk lv i = some (.int x)) (e : x = y) (t : AL lv r) : AL lv ((i, .int y) :: r) := al_cons (e ▸ h) t
section AUX
variable {Y : Card} {d mc ms : Nat} {R : Rs} {kc ks pc : Nat} {lv : LV} {sk : List Value} {n : Nat} {im : IM} {rm : RM}
theorem r_lv {lv' : LV} (h : AL lv lv') (k : WW Y d mc ms R kc ks pc lv' sk n im rm) : WW Y d mc ms R kc ks pc lv sk n im rm :=
  r_sub (fun q hq => lk_mem lv q.1 q.2 (h q hq)) k
theorem r_im {im' : IM} (h : im = im') (k : WW Y d mc ms R kc ks pc lv sk n im' rm) : WW Y d mc ms R kc ks pc lv sk n im rm := h ▸ k
theorem r_rm {rm' : RM} (h : rm = rm') (k : WW Y d mc ms R kc ks pc lv sk n im rm') : WW Y d mc ms R kc ks pc lv sk n im rm := h ▸ k
theorem r_top {x y : Int32} (h : x = y) (k : WW Y d mc ms R kc ks pc lv (.int y :: sk) n im rm) : WW Y d mc ms R kc ks pc lv (.int x :: sk) n im rm := h ▸ k
theorem r_getx {k ci j idx : Nat} {ty : FieldType} {fin : Bool} {x : Int32} (hF : FL Y.1.cls idx ci j ty fin) (hd : decode Y.2.1 pc = .ok (.getfield idx, 3)) (hk : kd k = (0, ci)) (hn : k < n) (hi : rft ci j = false) (hx : im k j = x)
    (kk : WW Y d mc ms R kc ks (pc + 3) lv (.int x :: sk) n im rm) : WW Y d mc ms R kc ks pc lv (.ref k :: sk) n im rm := r_geti hF hd hk hn hi (hx.symm ▸ kk)
theorem r_ialx {k len j : Nat} {i x : Int32} (hd : decode Y.2.1 pc = .ok (.iaload, 1)) (hk : kd k = (1, len)) (hn : k < n) (hi : i = nI j) (hj : j < len) (hlen : len < 2147483648) (hx : im k j = x)
    (kk : WW Y d mc ms R kc ks (pc + 1) lv (.int x :: sk) n im rm) : WW Y d mc ms R kc ks pc lv (.int i :: .ref k :: sk) n im rm := r_iald hd hk hn hi hj hlen (hx.symm ▸ kk)
theorem r_zalx {k len j : Nat} {i x : Int32} (hd : decode Y.2.1 pc = .ok (.baload, 1)) (hk : kd k = (2, len)) (hn : k < n) (hi : i = nI j) (hj : j < len) (hlen : len < 2147483648) (hx : im k j = x)
    (kk : WW Y d mc ms R kc ks (pc + 1) lv (.int x :: sk) n im rm) : WW Y d mc ms R kc ks pc lv (.int i :: .ref k :: sk) n im rm := r_zald hd hk hn hi hj hlen (hx.symm ▸ kk)
theorem r_bz_eq {b : Bool} {off : Int} {tgt : Nat} (hd : decode Y.2.1 pc = .ok (.ifCond .eq off, 3)) (ht : (pc : Int) + off = (tgt : Int)) (kt : b = false → WW Y d mc ms R kc ks tgt lv sk n im rm) (kf : b = true → WW Y d mc ms R kc ks (pc + 3) lv sk n im rm) : WW Y d mc ms R kc ks pc lv (.int (bI b) :: sk) n im rm :=
  r_if_eq hd ht (fun h => kt (bI_0 h)) (fun h => kf (bI_1 h))
theorem r_bz_ne {b : Bool} {off : Int} {tgt : Nat} (hd : decode Y.2.1 pc = .ok (.ifCond .ne off, 3)) (ht : (pc : Int) + off = (tgt : Int)) (kt : b = true → WW Y d mc ms R kc ks tgt lv sk n im rm) (kf : b = false → WW Y d mc ms R kc ks (pc + 3) lv sk n im rm) : WW Y d mc ms R kc ks pc lv (.int (bI b) :: sk) n im rm :=
  r_if_ne hd ht (fun h => kt (bI_1 (by first | exact h | simpa using h))) (fun h => kf (bI_0 (by first | exact h | simpa using h)))
end AUX
end
section
theorem kd_0 : kd 0 = (0, 8) := rfl
theorem ln_0 : 0 < 137 := by decide
theorem kd_1 : kd 1 = (1, 240) := rfl
theorem ln_1 : 1 < 137 := by decide
theorem kd_2 : kd 2 = (0, 7) := rfl
theorem ln_2 : 2 < 137 := by decide
theorem kd_3 : kd 3 = (0, 2) := rfl
theorem ln_3 : 3 < 137 := by decide
theorem kd_4 : kd 4 = (1, 8) := rfl
theorem ln_4 : 4 < 137 := by decide
theorem kd_5 : kd 5 = (1, 6) := rfl
theorem ln_5 : 5 < 137 := by decide
theorem kd_6 : kd 6 = (1, 6) := rfl
theorem ln_6 : 6 < 137 := by decide
theorem kd_7 : kd 7 = (1, 6) := rfl
theorem ln_7 : 7 < 137 := by decide
theorem kd_8 : kd 8 = (1, 5) := rfl
theorem ln_8 : 8 < 137 := by decide
theorem kd_9 : kd 9 = (1, 5) := rfl
theorem ln_9 : 9 < 137 := by decide
theorem kd_10 : kd 10 = (0, 2) := rfl
theorem ln_10 : 10 < 137 := by decide
theorem kd_11 : kd 11 = (1, 8) := rfl
theorem ln_11 : 11 < 137 := by decide
theorem kd_12 : kd 12 = (1, 6) := rfl
theorem ln_12 : 12 < 137 := by decide
theorem kd_13 : kd 13 = (1, 6) := rfl
theorem ln_13 : 13 < 137 := by decide
theorem kd_14 : kd 14 = (1, 6) := rfl
theorem ln_14 : 14 < 137 := by decide
theorem kd_15 : kd 15 = (1, 5) := rfl
theorem ln_15 : 15 < 137 := by decide
theorem kd_16 : kd 16 = (1, 5) := rfl
theorem ln_16 : 16 < 137 := by decide
theorem kd_17 : kd 17 = (0, 0) := rfl
theorem ln_17 : 17 < 137 := by decide
theorem kd_18 : kd 18 = (1, 5) := rfl
theorem ln_18 : 18 < 137 := by decide
theorem kd_19 : kd 19 = (1, 5) := rfl
theorem ln_19 : 19 < 137 := by decide
theorem kd_20 : kd 20 = (1, 5) := rfl
theorem ln_20 : 20 < 137 := by decide
theorem kd_21 : kd 21 = (0, 5) := rfl
theorem ln_21 : 21 < 137 := by decide
theorem kd_22 : kd 22 = (3, 20) := rfl
theorem ln_22 : 22 < 137 := by decide
theorem kd_23 : kd 23 = (0, 0) := rfl
theorem ln_23 : 23 < 137 := by decide
theorem kd_24 : kd 24 = (1, 5) := rfl
theorem ln_24 : 24 < 137 := by decide
theorem kd_25 : kd 25 = (1, 5) := rfl
theorem ln_25 : 25 < 137 := by decide
theorem kd_26 : kd 26 = (1, 5) := rfl
theorem ln_26 : 26 < 137 := by decide
theorem kd_27 : kd 27 = (0, 0) := rfl
theorem ln_27 : 27 < 137 := by decide
theorem kd_28 : kd 28 = (1, 5) := rfl
theorem ln_28 : 28 < 137 := by decide
theorem kd_29 : kd 29 = (1, 5) := rfl
theorem ln_29 : 29 < 137 := by decide
theorem kd_30 : kd 30 = (1, 5) := rfl
theorem ln_30 : 30 < 137 := by decide
theorem kd_31 : kd 31 = (0, 0) := rfl
theorem ln_31 : 31 < 137 := by decide
theorem kd_32 : kd 32 = (1, 5) := rfl
theorem ln_32 : 32 < 137 := by decide
theorem kd_33 : kd 33 = (1, 5) := rfl
theorem ln_33 : 33 < 137 := by decide
theorem kd_34 : kd 34 = (1, 5) := rfl
theorem ln_34 : 34 < 137 := by decide
theorem kd_35 : kd 35 = (0, 0) := rfl
theorem ln_35 : 35 < 137 := by decide
theorem kd_36 : kd 36 = (1, 5) := rfl
theorem ln_36 : 36 < 137 := by decide
theorem kd_37 : kd 37 = (1, 5) := rfl
theorem ln_37 : 37 < 137 := by decide
theorem kd_38 : kd 38 = (1, 5) := rfl
theorem ln_38 : 38 < 137 := by decide
theorem kd_39 : kd 39 = (0, 0) := rfl
theorem ln_39 : 39 < 137 := by decide
theorem kd_40 : kd 40 = (1, 5) := rfl
theorem ln_40 : 40 < 137 := by decide
theorem kd_41 : kd 41 = (1, 5) := rfl
theorem ln_41 : 41 < 137 := by decide
theorem kd_42 : kd 42 = (1, 5) := rfl
theorem ln_42 : 42 < 137 := by decide
theorem kd_43 : kd 43 = (0, 0) := rfl
theorem ln_43 : 43 < 137 := by decide
theorem kd_44 : kd 44 = (1, 5) := rfl
theorem ln_44 : 44 < 137 := by decide
theorem kd_45 : kd 45 = (1, 5) := rfl
theorem ln_45 : 45 < 137 := by decide
theorem kd_46 : kd 46 = (1, 5) := rfl
theorem ln_46 : 46 < 137 := by decide
theorem kd_47 : kd 47 = (0, 0) := rfl
theorem ln_47 : 47 < 137 := by decide
theorem kd_48 : kd 48 = (1, 5) := rfl
theorem ln_48 : 48 < 137 := by decide
theorem kd_49 : kd 49 = (1, 5) := rfl
theorem ln_49 : 49 < 137 := by decide
theorem kd_50 : kd 50 = (1, 5) := rfl
theorem ln_50 : 50 < 137 := by decide
theorem kd_51 : kd 51 = (0, 0) := rfl
theorem ln_51 : 51 < 137 := by decide
theorem kd_52 : kd 52 = (1, 5) := rfl
theorem ln_52 : 52 < 137 := by decide
theorem kd_53 : kd 53 = (1, 5) := rfl
theorem ln_53 : 53 < 137 := by decide
theorem kd_54 : kd 54 = (1, 5) := rfl
theorem ln_54 : 54 < 137 := by decide
theorem kd_55 : kd 55 = (0, 0) := rfl
theorem ln_55 : 55 < 137 := by decide
theorem kd_56 : kd 56 = (1, 5) := rfl
theorem ln_56 : 56 < 137 := by decide
theorem kd_57 : kd 57 = (1, 5) := rfl
theorem ln_57 : 57 < 137 := by decide
theorem kd_58 : kd 58 = (1, 5) := rfl
theorem ln_58 : 58 < 137 := by decide
theorem kd_59 : kd 59 = (0, 0) := rfl
theorem ln_59 : 59 < 137 := by decide
theorem kd_60 : kd 60 = (1, 5) := rfl
theorem ln_60 : 60 < 137 := by decide
theorem kd_61 : kd 61 = (1, 5) := rfl
theorem ln_61 : 61 < 137 := by decide
theorem kd_62 : kd 62 = (1, 5) := rfl
theorem ln_62 : 62 < 137 := by decide
theorem kd_63 : kd 63 = (0, 0) := rfl
theorem ln_63 : 63 < 137 := by decide
theorem kd_64 : kd 64 = (1, 5) := rfl
theorem ln_64 : 64 < 137 := by decide
theorem kd_65 : kd 65 = (1, 5) := rfl
theorem ln_65 : 65 < 137 := by decide
theorem kd_66 : kd 66 = (1, 5) := rfl
theorem ln_66 : 66 < 137 := by decide
theorem kd_67 : kd 67 = (0, 0) := rfl
theorem ln_67 : 67 < 137 := by decide
theorem kd_68 : kd 68 = (1, 5) := rfl
theorem ln_68 : 68 < 137 := by decide
theorem kd_69 : kd 69 = (1, 5) := rfl
theorem ln_69 : 69 < 137 := by decide
theorem kd_70 : kd 70 = (1, 5) := rfl
theorem ln_70 : 70 < 137 := by decide
theorem kd_71 : kd 71 = (0, 0) := rfl
theorem ln_71 : 71 < 137 := by decide
theorem kd_72 : kd 72 = (1, 5) := rfl
theorem ln_72 : 72 < 137 := by decide
theorem kd_73 : kd 73 = (1, 5) := rfl
theorem ln_73 : 73 < 137 := by decide
theorem kd_74 : kd 74 = (1, 5) := rfl
theorem ln_74 : 74 < 137 := by decide
theorem kd_75 : kd 75 = (0, 0) := rfl
theorem ln_75 : 75 < 137 := by decide
theorem kd_76 : kd 76 = (1, 5) := rfl
theorem ln_76 : 76 < 137 := by decide
theorem kd_77 : kd 77 = (1, 5) := rfl
theorem ln_77 : 77 < 137 := by decide
theorem kd_78 : kd 78 = (1, 5) := rfl
theorem ln_78 : 78 < 137 := by decide
theorem kd_79 : kd 79 = (0, 0) := rfl
theorem ln_79 : 79 < 137 := by decide
theorem kd_80 : kd 80 = (1, 5) := rfl
theorem ln_80 : 80 < 137 := by decide
theorem kd_81 : kd 81 = (1, 5) := rfl
theorem ln_81 : 81 < 137 := by decide
theorem kd_82 : kd 82 = (1, 5) := rfl
theorem ln_82 : 82 < 137 := by decide
theorem kd_83 : kd 83 = (0, 0) := rfl
theorem ln_83 : 83 < 137 := by decide
theorem kd_84 : kd 84 = (1, 5) := rfl
theorem ln_84 : 84 < 137 := by decide
theorem kd_85 : kd 85 = (1, 5) := rfl
theorem ln_85 : 85 < 137 := by decide
theorem kd_86 : kd 86 = (1, 5) := rfl
theorem ln_86 : 86 < 137 := by decide
theorem kd_87 : kd 87 = (0, 0) := rfl
theorem ln_87 : 87 < 137 := by decide
theorem kd_88 : kd 88 = (1, 5) := rfl
theorem ln_88 : 88 < 137 := by decide
theorem kd_89 : kd 89 = (1, 5) := rfl
theorem ln_89 : 89 < 137 := by decide
theorem kd_90 : kd 90 = (1, 5) := rfl
theorem ln_90 : 90 < 137 := by decide
theorem kd_91 : kd 91 = (0, 0) := rfl
theorem ln_91 : 91 < 137 := by decide
theorem kd_92 : kd 92 = (1, 5) := rfl
theorem ln_92 : 92 < 137 := by decide
theorem kd_93 : kd 93 = (1, 5) := rfl
theorem ln_93 : 93 < 137 := by decide
theorem kd_94 : kd 94 = (1, 5) := rfl
theorem ln_94 : 94 < 137 := by decide
theorem kd_95 : kd 95 = (0, 0) := rfl
theorem ln_95 : 95 < 137 := by decide
theorem kd_96 : kd 96 = (1, 5) := rfl
theorem ln_96 : 96 < 137 := by decide
theorem kd_97 : kd 97 = (1, 5) := rfl
theorem ln_97 : 97 < 137 := by decide
theorem kd_98 : kd 98 = (1, 5) := rfl
theorem ln_98 : 98 < 137 := by decide
theorem kd_99 : kd 99 = (0, 0) := rfl
theorem ln_99 : 99 < 137 := by decide
theorem kd_100 : kd 100 = (1, 5) := rfl
theorem ln_100 : 100 < 137 := by decide
theorem kd_101 : kd 101 = (1, 5) := rfl
theorem ln_101 : 101 < 137 := by decide
theorem kd_102 : kd 102 = (1, 5) := rfl
theorem ln_102 : 102 < 137 := by decide
theorem kd_103 : kd 103 = (0, 4) := rfl
theorem ln_103 : 103 < 137 := by decide
theorem kd_104 : kd 104 = (1, 6) := rfl
theorem ln_104 : 104 < 137 := by decide
theorem kd_105 : kd 105 = (2, 6) := rfl
theorem ln_105 : 105 < 137 := by decide
theorem kd_106 : kd 106 = (0, 1) := rfl
theorem ln_106 : 106 < 137 := by decide
theorem kd_107 : kd 107 = (1, 15) := rfl
theorem ln_107 : 107 < 137 := by decide
theorem kd_108 : kd 108 = (0, 3) := rfl
theorem ln_108 : 108 < 137 := by decide
theorem kd_109 : kd 109 = (4, 2) := rfl
theorem ln_109 : 109 < 137 := by decide
theorem kd_110 : kd 110 = (0, 6) := rfl
theorem ln_110 : 110 < 137 := by decide
theorem kd_111 : kd 111 = (0, 0) := rfl
theorem ln_111 : 111 < 137 := by decide
theorem kd_112 : kd 112 = (1, 5) := rfl
theorem ln_112 : 112 < 137 := by decide
theorem kd_113 : kd 113 = (1, 5) := rfl
theorem ln_113 : 113 < 137 := by decide
theorem kd_114 : kd 114 = (1, 5) := rfl
theorem ln_114 : 114 < 137 := by decide
theorem kd_115 : kd 115 = (0, 6) := rfl
theorem ln_115 : 115 < 137 := by decide
theorem kd_116 : kd 116 = (0, 0) := rfl
theorem ln_116 : 116 < 137 := by decide
theorem kd_117 : kd 117 = (1, 5) := rfl
theorem ln_117 : 117 < 137 := by decide
theorem kd_118 : kd 118 = (1, 5) := rfl
theorem ln_118 : 118 < 137 := by decide
theorem kd_119 : kd 119 = (1, 5) := rfl
theorem ln_119 : 119 < 137 := by decide
theorem kd_120 : kd 120 = (0, 9) := rfl
theorem ln_120 : 120 < 137 := by decide
theorem kd_121 : kd 121 = (1, 240) := rfl
theorem ln_121 : 121 < 137 := by decide
theorem kd_122 : kd 122 = (1, 5) := rfl
theorem ln_122 : 122 < 137 := by decide
theorem kd_123 : kd 123 = (1, 8) := rfl
theorem ln_123 : 123 < 137 := by decide
theorem kd_124 : kd 124 = (1, 18) := rfl
theorem ln_124 : 124 < 137 := by decide
theorem kd_125 : kd 125 = (1, 10) := rfl
theorem ln_125 : 125 < 137 := by decide
theorem kd_126 : kd 126 = (1, 5) := rfl
theorem ln_126 : 126 < 137 := by decide
theorem kd_127 : kd 127 = (1, 8) := rfl
theorem ln_127 : 127 < 137 := by decide
theorem kd_128 : kd 128 = (1, 18) := rfl
theorem ln_128 : 128 < 137 := by decide
theorem kd_129 : kd 129 = (1, 10) := rfl
theorem ln_129 : 129 < 137 := by decide
theorem kd_130 : kd 130 = (1, 21) := rfl
theorem ln_130 : 130 < 137 := by decide
theorem kd_131 : kd 131 = (1, 420) := rfl
theorem ln_131 : 131 < 137 := by decide
theorem kd_132 : kd 132 = (1, 42) := rfl
theorem ln_132 : 132 < 137 := by decide
theorem kd_133 : kd 133 = (1, 2) := rfl
theorem ln_133 : 133 < 137 := by decide
theorem kd_134 : kd 134 = (2, 2) := rfl
theorem ln_134 : 134 < 137 := by decide
theorem kd_135 : kd 135 = (1, 12) := rfl
theorem ln_135 : 135 < 137 := by decide
theorem kd_136 : kd 136 = (1, 15) := rfl
theorem ln_136 : 136 < 137 := by decide
theorem cl_0 : ∀ r : vw_C, vwCl[0]? = some r → r.1 = RX0 := fun r h => by cases h; rfl
theorem cl_1 : ∀ r : vw_C, vwCl[1]? = some r → r.1 = RX1 := fun r h => by cases h; rfl
theorem cl_2 : ∀ r : vw_C, vwCl[2]? = some r → r.1 = RX2 := fun r h => by cases h; rfl
theorem cl_3 : ∀ r : vw_C, vwCl[3]? = some r → r.1 = RX3 := fun r h => by cases h; rfl
theorem cl_4 : ∀ r : vw_C, vwCl[4]? = some r → r.1 = RX4 := fun r h => by cases h; rfl
theorem cl_5 : ∀ r : vw_C, vwCl[5]? = some r → r.1 = RX5 := fun r h => by cases h; rfl
theorem cl_6 : ∀ r : vw_C, vwCl[6]? = some r → r.1 = RX6 := fun r h => by cases h; rfl
theorem cl_7 : ∀ r : vw_C, vwCl[7]? = some r → r.1 = RX7 := fun r h => by cases h; rfl
theorem cl_8 : ∀ r : vw_C, vwCl[8]? = some r → r.1 = RX8 := fun r h => by cases h; rfl
theorem cl_9 : ∀ r : vw_C, vwCl[9]? = some r → r.1 = RX9 := fun r h => by cases h; rfl
def RR (pl it : Nat) : RM := fun k j =>
  if k = 0 then ([some 1, none, none, some 2, some pl, some 17, some 21, some 103, some 106, some 108, some 109] : List (Option Nat)).getD j none
  else if k = 2 then ([some 1, none, none, some it] : List (Option Nat)).getD j none
  else if kd k = (0, 2) then ([none, some (k + 1), none, some (k + 2), some (k + 3), some (k + 4), none, some (k + 5), some (k + 6)] : List (Option Nat)).getD j none
  else if kd k = (0, 0) then ([none, none, none, none, none, none, some (k + 1), some (k + 2), some (k + 3)] : List (Option Nat)).getD j none
  else if k = 21 then ([some 22] : List (Option Nat)).getD j none
  else if k = 22 then if j < 20 then some (23 + 4 * j) else none
  else if k = 103 then ([some 104, some 105] : List (Option Nat)).getD j none
  else if k = 106 then ([some 107] : List (Option Nat)).getD j none
  else if k = 109 then if j < 2 then some (110 + 5 * j) else none
  else if kd k = (0, 6) then ([none, some (k + 1)] : List (Option Nat)).getD j none
  else if k = 120 then ([some 121, none, none, some 122, some 123, some 124, some 125, some 126, some 127, some 128, some 129, some 130, some 131, none, some 132, some 133, some 134, none, some 135, none, some 136] : List (Option Nat)).getD j none
  else none
def isC (k : Nat) : Prop := k = 3 ∨ k = 10
def affL : List Nat := [17, 23, 27, 31, 35, 39, 43, 47, 51, 55, 59, 63, 67, 71, 75, 79, 83, 87, 91, 95, 99, 111, 116]
def isA (k : Nat) : Prop := k ∈ affL
theorem isC_3 : isC 3 := Or.inl rfl
theorem isC_10 : isC 10 := Or.inr rfl
theorem isA_17 : isA 17 := by show 17 ∈ affL; decide +kernel
theorem affAll {P : Nat → Prop} [DecidablePred P] (h : (affL.all fun k => decide (P k)) = true) {k : Nat} (hk : isA k) : P k := by
  have h1 := List.all_eq_true.mp h k hk
  exact of_decide_eq_true h1
theorem kC0 {k : Nat} (h : isC k) : kd (k) = (0, 2) := by rcases h with rfl | rfl <;> rfl
theorem lC0 {k : Nat} (h : isC k) : k < 137 := by rcases h with rfl | rfl <;> decide
theorem kC1 {k : Nat} (h : isC k) : kd (k + 1) = (1, 8) := by rcases h with rfl | rfl <;> rfl
theorem lC1 {k : Nat} (h : isC k) : k + 1 < 137 := by rcases h with rfl | rfl <;> decide
theorem kC2 {k : Nat} (h : isC k) : kd (k + 2) = (1, 6) := by rcases h with rfl | rfl <;> rfl
theorem lC2 {k : Nat} (h : isC k) : k + 2 < 137 := by rcases h with rfl | rfl <;> decide
theorem kC3 {k : Nat} (h : isC k) : kd (k + 3) = (1, 6) := by rcases h with rfl | rfl <;> rfl
theorem lC3 {k : Nat} (h : isC k) : k + 3 < 137 := by rcases h with rfl | rfl <;> decide
theorem kC4 {k : Nat} (h : isC k) : kd (k + 4) = (1, 6) := by rcases h with rfl | rfl <;> rfl
theorem lC4 {k : Nat} (h : isC k) : k + 4 < 137 := by rcases h with rfl | rfl <;> decide
theorem kC5 {k : Nat} (h : isC k) : kd (k + 5) = (1, 5) := by rcases h with rfl | rfl <;> rfl
theorem lC5 {k : Nat} (h : isC k) : k + 5 < 137 := by rcases h with rfl | rfl <;> decide
theorem kC6 {k : Nat} (h : isC k) : kd (k + 6) = (1, 5) := by rcases h with rfl | rfl <;> rfl
theorem lC6 {k : Nat} (h : isC k) : k + 6 < 137 := by rcases h with rfl | rfl <;> decide
theorem kA0 {k : Nat} (h : isA k) : kd (k) = (0, 0) := affAll (P := fun k => kd (k) = (0, 0)) (by decide +kernel) h
theorem lA0 {k : Nat} (h : isA k) : k < 137 := affAll (P := fun k => k < 137) (by decide +kernel) h
theorem kA1 {k : Nat} (h : isA k) : kd (k + 1) = (1, 5) := affAll (P := fun k => kd (k + 1) = (1, 5)) (by decide +kernel) h
theorem lA1 {k : Nat} (h : isA k) : k + 1 < 137 := affAll (P := fun k => k + 1 < 137) (by decide +kernel) h
theorem kA2 {k : Nat} (h : isA k) : kd (k + 2) = (1, 5) := affAll (P := fun k => kd (k + 2) = (1, 5)) (by decide +kernel) h
theorem lA2 {k : Nat} (h : isA k) : k + 2 < 137 := affAll (P := fun k => k + 2 < 137) (by decide +kernel) h
theorem kA3 {k : Nat} (h : isA k) : kd (k + 3) = (1, 5) := affAll (P := fun k => kd (k + 3) = (1, 5)) (by decide +kernel) h
theorem lA3 {k : Nat} (h : isA k) : k + 3 < 137 := affAll (P := fun k => k + 3 < 137) (by decide +kernel) h
theorem rrC1 {k pl it : Nat} (h : isC k) : RR pl it k 1 = some (k + 1) := by rcases h with rfl | rfl <;> rfl
theorem rrC3 {k pl it : Nat} (h : isC k) : RR pl it k 3 = some (k + 2) := by rcases h with rfl | rfl <;> rfl
theorem rrC4 {k pl it : Nat} (h : isC k) : RR pl it k 4 = some (k + 3) := by rcases h with rfl | rfl <;> rfl
theorem rrC5 {k pl it : Nat} (h : isC k) : RR pl it k 5 = some (k + 4) := by rcases h with rfl | rfl <;> rfl
theorem rrC7 {k pl it : Nat} (h : isC k) : RR pl it k 7 = some (k + 5) := by rcases h with rfl | rfl <;> rfl
theorem rrC8 {k pl it : Nat} (h : isC k) : RR pl it k 8 = some (k + 6) := by rcases h with rfl | rfl <;> rfl
theorem isA_ne {k : Nat} (h : isA k) : k ≠ 0 ∧ k ≠ 2 ∧ kd k ≠ (0, 2) := affAll (P := fun k => k ≠ 0 ∧ k ≠ 2 ∧ kd k ≠ (0, 2)) (by decide +kernel) h
theorem rrA6 {k pl it : Nat} (h : isA k) : RR pl it k 6 = some (k + 1) := by
  obtain ⟨h1, h2, h3⟩ := isA_ne h
  unfold RR
  rw [if_neg h1, if_neg h2, if_neg h3, if_pos (kA0 h)]
  rfl
theorem rrA7 {k pl it : Nat} (h : isA k) : RR pl it k 7 = some (k + 2) := by
  obtain ⟨h1, h2, h3⟩ := isA_ne h
  unfold RR
  rw [if_neg h1, if_neg h2, if_neg h3, if_pos (kA0 h)]
  rfl
theorem rrA8 {k pl it : Nat} (h : isA k) : RR pl it k 8 = some (k + 3) := by
  obtain ⟨h1, h2, h3⟩ := isA_ne h
  unfold RR
  rw [if_neg h1, if_neg h2, if_neg h3, if_pos (kA0 h)]
  rfl
theorem isA_past {i : Nat} (h : i < 20) : isA (23 + 4 * i) := by
  have h1 : ∀ i, i < 20 → 23 + 4 * i ∈ affL := by decide +kernel
  exact h1 i h
theorem rr_past {pl it i : Nat} (h : i < 20) : RR pl it 22 i = some (23 + 4 * i) := by
  unfold RR
  rw [if_neg (by decide), if_neg (by decide), if_neg (by decide), if_neg (by decide), if_neg (by decide), if_pos rfl, if_pos h]
theorem ix_le {x y : Int32} {a b : Nat} (hx : x = nI a) (hy : y = nI b) (h : a ≤ b) (hb : b < 2147483648) : x ≤ y := by rw [hx, hy]; exact nI_le h hb
theorem ix_nle {x y : Int32} {a b : Nat} (hx : x = nI a) (hy : y = nI b) (h : b < a) (ha : a < 2147483648) : ¬ x ≤ y := by rw [hx, hy]; exact nI_ge h ha
theorem ix_lt {x y : Int32} {a b : Nat} (hx : x = nI a) (hy : y = nI b) (h : a < b) (hb : b < 2147483648) : x < y := by rw [hx, hy]; exact nI_lt h hb
theorem ix_nlt {x y : Int32} {a b : Nat} (hx : x = nI a) (hy : y = nI b) (h : b ≤ a) (ha : a < 2147483648) : ¬ x < y := by rw [hx, hy]; exact nI_nlt h ha
theorem ix_eq {x y : Int32} {a b : Nat} (hx : x = nI a) (hy : y = nI b) (h : a = b) : x = y := by rw [hx, hy, h]
theorem ix_ne {x y : Int32} {a b : Nat} (hx : x = nI a) (hy : y = nI b) (h : a ≠ b) (ha : a < 2147483648) (hb : b < 2147483648) : ¬ x = y := by rw [hx, hy]; exact fun q => h ((nI_eq ha hb).mp q)
section ARITY
variable {Y Z : Card} {d mc ms : Nat} {R : Rs} {kc ks pc : Nat} {lv : LV} {sk : List Value} {n : Nat} {im : IM} {rm : RM} {d1 idx : Nat} {n1 : Nat} {im1 : IM} {rm1 : RM} {rv : Value}
theorem r_V0s {o ci : Nat} (hc : CV Y.1.cls idx Z 0) (hd : decode Y.2.1 pc = .ok (.invokevirtual idx, 3)) (hM : MT Z d1 0 0 (.ref o :: []) n im rm (some rv, n1, im1, rm1)) (hdp : d1 + 1 ≤ d ∧ 8 + (Z.2.2.1 + 11) + 37 * d1 ≤ 37 * d) (ho : kd o = (0, ci)) (hon : o < n) (hcl : ∀ r : vw_C, vwCl[ci]? = some r → r.1 = Z.1.cls) (hw : (sk.map fun v => v.category).sum ≤ 8) (hm : kc ≤ mc ∧ ks ≤ ms)
    (kk : WW Y d mc ms R kc ks (pc + 3) lv (rv :: sk) n1 im1 rm1) : WW Y d mc ms R kc ks pc lv (.ref o :: sk) n im rm :=
  r_callV (As := []) hc hd hM hdp rfl ho hon hcl hw hm kk
theorem r_V0n {o ci : Nat} (hc : CV Y.1.cls idx Z 0) (hd : decode Y.2.1 pc = .ok (.invokevirtual idx, 3)) (hM : MT Z d1 0 0 (.ref o :: []) n im rm (none, n1, im1, rm1)) (hdp : d1 + 1 ≤ d ∧ 8 + (Z.2.2.1 + 11) + 37 * d1 ≤ 37 * d) (ho : kd o = (0, ci)) (hon : o < n) (hcl : ∀ r : vw_C, vwCl[ci]? = some r → r.1 = Z.1.cls) (hw : (sk.map fun v => v.category).sum ≤ 8) (hm : kc ≤ mc ∧ ks ≤ ms)
    (kk : WW Y d mc ms R kc ks (pc + 3) lv sk n1 im1 rm1) : WW Y d mc ms R kc ks pc lv (.ref o :: sk) n im rm :=
  r_callV (As := []) hc hd hM hdp rfl ho hon hcl hw hm kk
theorem r_V1s {a1 : Value} {o ci : Nat} (hc : CV Y.1.cls idx Z 1) (hd : decode Y.2.1 pc = .ok (.invokevirtual idx, 3)) (hM : MT Z d1 0 0 (.ref o :: [a1]) n im rm (some rv, n1, im1, rm1)) (hdp : d1 + 1 ≤ d ∧ 8 + (Z.2.2.1 + 11) + 37 * d1 ≤ 37 * d) (ho : kd o = (0, ci)) (hon : o < n) (hcl : ∀ r : vw_C, vwCl[ci]? = some r → r.1 = Z.1.cls) (hw : (sk.map fun v => v.category).sum ≤ 8) (hm : kc ≤ mc ∧ ks ≤ ms)
    (kk : WW Y d mc ms R kc ks (pc + 3) lv (rv :: sk) n1 im1 rm1) : WW Y d mc ms R kc ks pc lv (a1 :: .ref o :: sk) n im rm :=
  r_callV (As := [a1]) hc hd hM hdp rfl ho hon hcl hw hm kk
theorem r_V1n {a1 : Value} {o ci : Nat} (hc : CV Y.1.cls idx Z 1) (hd : decode Y.2.1 pc = .ok (.invokevirtual idx, 3)) (hM : MT Z d1 0 0 (.ref o :: [a1]) n im rm (none, n1, im1, rm1)) (hdp : d1 + 1 ≤ d ∧ 8 + (Z.2.2.1 + 11) + 37 * d1 ≤ 37 * d) (ho : kd o = (0, ci)) (hon : o < n) (hcl : ∀ r : vw_C, vwCl[ci]? = some r → r.1 = Z.1.cls) (hw : (sk.map fun v => v.category).sum ≤ 8) (hm : kc ≤ mc ∧ ks ≤ ms)
    (kk : WW Y d mc ms R kc ks (pc + 3) lv sk n1 im1 rm1) : WW Y d mc ms R kc ks pc lv (a1 :: .ref o :: sk) n im rm :=
  r_callV (As := [a1]) hc hd hM hdp rfl ho hon hcl hw hm kk
theorem r_S1s {a1 : Value} (hc : CS Y.1.cls idx Z 1) (hd : decode Y.2.1 pc = .ok (.invokestatic idx, 3)) (hM : MT Z d1 0 0 [a1] n im rm (some rv, n1, im1, rm1)) (hdp : d1 + 1 ≤ d ∧ 8 + (Z.2.2.1 + 11) + 37 * d1 ≤ 37 * d) (hw : (sk.map fun v => v.category).sum ≤ 8) (hm : kc ≤ mc ∧ ks ≤ ms)
    (kk : WW Y d mc ms R kc ks (pc + 3) lv (rv :: sk) n1 im1 rm1) : WW Y d mc ms R kc ks pc lv (a1 :: sk) n im rm :=
  r_callS (As := [a1]) hc hd hM hdp rfl hw hm kk
theorem r_S1n {a1 : Value} (hc : CS Y.1.cls idx Z 1) (hd : decode Y.2.1 pc = .ok (.invokestatic idx, 3)) (hM : MT Z d1 0 0 [a1] n im rm (none, n1, im1, rm1)) (hdp : d1 + 1 ≤ d ∧ 8 + (Z.2.2.1 + 11) + 37 * d1 ≤ 37 * d) (hw : (sk.map fun v => v.category).sum ≤ 8) (hm : kc ≤ mc ∧ ks ≤ ms)
    (kk : WW Y d mc ms R kc ks (pc + 3) lv sk n1 im1 rm1) : WW Y d mc ms R kc ks pc lv (a1 :: sk) n im rm :=
  r_callS (As := [a1]) hc hd hM hdp rfl hw hm kk
theorem r_N1s {a1 : Value} (hc : CN Y.1.cls idx Z 1) (hd : decode Y.2.1 pc = .ok (.invokestatic idx, 3)) (hM : MT Z d1 0 0 [a1] n im rm (some rv, n1, im1, rm1)) (hdp : d1 + 1 ≤ d ∧ 8 + (Z.2.2.1 + 11) + 37 * d1 ≤ 37 * d) (hw : (sk.map fun v => v.category).sum ≤ 8) (hm : kc ≤ mc ∧ ks ≤ ms)
    (kk : WW Y d mc ms R kc ks (pc + 3) lv (rv :: sk) n1 im1 rm1) : WW Y d mc ms R kc ks pc lv (a1 :: sk) n im rm :=
  r_callN (As := [a1]) hc hd hM hdp rfl hw hm kk
theorem r_N1n {a1 : Value} (hc : CN Y.1.cls idx Z 1) (hd : decode Y.2.1 pc = .ok (.invokestatic idx, 3)) (hM : MT Z d1 0 0 [a1] n im rm (none, n1, im1, rm1)) (hdp : d1 + 1 ≤ d ∧ 8 + (Z.2.2.1 + 11) + 37 * d1 ≤ 37 * d) (hw : (sk.map fun v => v.category).sum ≤ 8) (hm : kc ≤ mc ∧ ks ≤ ms)
    (kk : WW Y d mc ms R kc ks (pc + 3) lv sk n1 im1 rm1) : WW Y d mc ms R kc ks pc lv (a1 :: sk) n im rm :=
  r_callN (As := [a1]) hc hd hM hdp rfl hw hm kk
theorem r_V2s {a1 a2 : Value} {o ci : Nat} (hc : CV Y.1.cls idx Z 2) (hd : decode Y.2.1 pc = .ok (.invokevirtual idx, 3)) (hM : MT Z d1 0 0 (.ref o :: [a1, a2]) n im rm (some rv, n1, im1, rm1)) (hdp : d1 + 1 ≤ d ∧ 8 + (Z.2.2.1 + 11) + 37 * d1 ≤ 37 * d) (ho : kd o = (0, ci)) (hon : o < n) (hcl : ∀ r : vw_C, vwCl[ci]? = some r → r.1 = Z.1.cls) (hw : (sk.map fun v => v.category).sum ≤ 8) (hm : kc ≤ mc ∧ ks ≤ ms)
    (kk : WW Y d mc ms R kc ks (pc + 3) lv (rv :: sk) n1 im1 rm1) : WW Y d mc ms R kc ks pc lv (a2 :: a1 :: .ref o :: sk) n im rm :=
  r_callV (As := [a1, a2]) hc hd hM hdp rfl ho hon hcl hw hm kk
theorem r_V2n {a1 a2 : Value} {o ci : Nat} (hc : CV Y.1.cls idx Z 2) (hd : decode Y.2.1 pc = .ok (.invokevirtual idx, 3)) (hM : MT Z d1 0 0 (.ref o :: [a1, a2]) n im rm (none, n1, im1, rm1)) (hdp : d1 + 1 ≤ d ∧ 8 + (Z.2.2.1 + 11) + 37 * d1 ≤ 37 * d) (ho : kd o = (0, ci)) (hon : o < n) (hcl : ∀ r : vw_C, vwCl[ci]? = some r → r.1 = Z.1.cls) (hw : (sk.map fun v => v.category).sum ≤ 8) (hm : kc ≤ mc ∧ ks ≤ ms)
    (kk : WW Y d mc ms R kc ks (pc + 3) lv sk n1 im1 rm1) : WW Y d mc ms R kc ks pc lv (a2 :: a1 :: .ref o :: sk) n im rm :=
  r_callV (As := [a1, a2]) hc hd hM hdp rfl ho hon hcl hw hm kk
theorem r_S2s {a1 a2 : Value} (hc : CS Y.1.cls idx Z 2) (hd : decode Y.2.1 pc = .ok (.invokestatic idx, 3)) (hM : MT Z d1 0 0 [a1, a2] n im rm (some rv, n1, im1, rm1)) (hdp : d1 + 1 ≤ d ∧ 8 + (Z.2.2.1 + 11) + 37 * d1 ≤ 37 * d) (hw : (sk.map fun v => v.category).sum ≤ 8) (hm : kc ≤ mc ∧ ks ≤ ms)
    (kk : WW Y d mc ms R kc ks (pc + 3) lv (rv :: sk) n1 im1 rm1) : WW Y d mc ms R kc ks pc lv (a2 :: a1 :: sk) n im rm :=
  r_callS (As := [a1, a2]) hc hd hM hdp rfl hw hm kk
theorem r_S2n {a1 a2 : Value} (hc : CS Y.1.cls idx Z 2) (hd : decode Y.2.1 pc = .ok (.invokestatic idx, 3)) (hM : MT Z d1 0 0 [a1, a2] n im rm (none, n1, im1, rm1)) (hdp : d1 + 1 ≤ d ∧ 8 + (Z.2.2.1 + 11) + 37 * d1 ≤ 37 * d) (hw : (sk.map fun v => v.category).sum ≤ 8) (hm : kc ≤ mc ∧ ks ≤ ms)
    (kk : WW Y d mc ms R kc ks (pc + 3) lv sk n1 im1 rm1) : WW Y d mc ms R kc ks pc lv (a2 :: a1 :: sk) n im rm :=
  r_callS (As := [a1, a2]) hc hd hM hdp rfl hw hm kk
theorem r_N2s {a1 a2 : Value} (hc : CN Y.1.cls idx Z 2) (hd : decode Y.2.1 pc = .ok (.invokestatic idx, 3)) (hM : MT Z d1 0 0 [a1, a2] n im rm (some rv, n1, im1, rm1)) (hdp : d1 + 1 ≤ d ∧ 8 + (Z.2.2.1 + 11) + 37 * d1 ≤ 37 * d) (hw : (sk.map fun v => v.category).sum ≤ 8) (hm : kc ≤ mc ∧ ks ≤ ms)
    (kk : WW Y d mc ms R kc ks (pc + 3) lv (rv :: sk) n1 im1 rm1) : WW Y d mc ms R kc ks pc lv (a2 :: a1 :: sk) n im rm :=
  r_callN (As := [a1, a2]) hc hd hM hdp rfl hw hm kk
theorem r_N2n {a1 a2 : Value} (hc : CN Y.1.cls idx Z 2) (hd : decode Y.2.1 pc = .ok (.invokestatic idx, 3)) (hM : MT Z d1 0 0 [a1, a2] n im rm (none, n1, im1, rm1)) (hdp : d1 + 1 ≤ d ∧ 8 + (Z.2.2.1 + 11) + 37 * d1 ≤ 37 * d) (hw : (sk.map fun v => v.category).sum ≤ 8) (hm : kc ≤ mc ∧ ks ≤ ms)
    (kk : WW Y d mc ms R kc ks (pc + 3) lv sk n1 im1 rm1) : WW Y d mc ms R kc ks pc lv (a2 :: a1 :: sk) n im rm :=
  r_callN (As := [a1, a2]) hc hd hM hdp rfl hw hm kk
theorem r_V3s {a1 a2 a3 : Value} {o ci : Nat} (hc : CV Y.1.cls idx Z 3) (hd : decode Y.2.1 pc = .ok (.invokevirtual idx, 3)) (hM : MT Z d1 0 0 (.ref o :: [a1, a2, a3]) n im rm (some rv, n1, im1, rm1)) (hdp : d1 + 1 ≤ d ∧ 8 + (Z.2.2.1 + 11) + 37 * d1 ≤ 37 * d) (ho : kd o = (0, ci)) (hon : o < n) (hcl : ∀ r : vw_C, vwCl[ci]? = some r → r.1 = Z.1.cls) (hw : (sk.map fun v => v.category).sum ≤ 8) (hm : kc ≤ mc ∧ ks ≤ ms)
    (kk : WW Y d mc ms R kc ks (pc + 3) lv (rv :: sk) n1 im1 rm1) : WW Y d mc ms R kc ks pc lv (a3 :: a2 :: a1 :: .ref o :: sk) n im rm :=
  r_callV (As := [a1, a2, a3]) hc hd hM hdp rfl ho hon hcl hw hm kk
theorem r_V3n {a1 a2 a3 : Value} {o ci : Nat} (hc : CV Y.1.cls idx Z 3) (hd : decode Y.2.1 pc = .ok (.invokevirtual idx, 3)) (hM : MT Z d1 0 0 (.ref o :: [a1, a2, a3]) n im rm (none, n1, im1, rm1)) (hdp : d1 + 1 ≤ d ∧ 8 + (Z.2.2.1 + 11) + 37 * d1 ≤ 37 * d) (ho : kd o = (0, ci)) (hon : o < n) (hcl : ∀ r : vw_C, vwCl[ci]? = some r → r.1 = Z.1.cls) (hw : (sk.map fun v => v.category).sum ≤ 8) (hm : kc ≤ mc ∧ ks ≤ ms)
    (kk : WW Y d mc ms R kc ks (pc + 3) lv sk n1 im1 rm1) : WW Y d mc ms R kc ks pc lv (a3 :: a2 :: a1 :: .ref o :: sk) n im rm :=
  r_callV (As := [a1, a2, a3]) hc hd hM hdp rfl ho hon hcl hw hm kk
theorem r_S3s {a1 a2 a3 : Value} (hc : CS Y.1.cls idx Z 3) (hd : decode Y.2.1 pc = .ok (.invokestatic idx, 3)) (hM : MT Z d1 0 0 [a1, a2, a3] n im rm (some rv, n1, im1, rm1)) (hdp : d1 + 1 ≤ d ∧ 8 + (Z.2.2.1 + 11) + 37 * d1 ≤ 37 * d) (hw : (sk.map fun v => v.category).sum ≤ 8) (hm : kc ≤ mc ∧ ks ≤ ms)
    (kk : WW Y d mc ms R kc ks (pc + 3) lv (rv :: sk) n1 im1 rm1) : WW Y d mc ms R kc ks pc lv (a3 :: a2 :: a1 :: sk) n im rm :=
  r_callS (As := [a1, a2, a3]) hc hd hM hdp rfl hw hm kk
theorem r_S3n {a1 a2 a3 : Value} (hc : CS Y.1.cls idx Z 3) (hd : decode Y.2.1 pc = .ok (.invokestatic idx, 3)) (hM : MT Z d1 0 0 [a1, a2, a3] n im rm (none, n1, im1, rm1)) (hdp : d1 + 1 ≤ d ∧ 8 + (Z.2.2.1 + 11) + 37 * d1 ≤ 37 * d) (hw : (sk.map fun v => v.category).sum ≤ 8) (hm : kc ≤ mc ∧ ks ≤ ms)
    (kk : WW Y d mc ms R kc ks (pc + 3) lv sk n1 im1 rm1) : WW Y d mc ms R kc ks pc lv (a3 :: a2 :: a1 :: sk) n im rm :=
  r_callS (As := [a1, a2, a3]) hc hd hM hdp rfl hw hm kk
theorem r_N3s {a1 a2 a3 : Value} (hc : CN Y.1.cls idx Z 3) (hd : decode Y.2.1 pc = .ok (.invokestatic idx, 3)) (hM : MT Z d1 0 0 [a1, a2, a3] n im rm (some rv, n1, im1, rm1)) (hdp : d1 + 1 ≤ d ∧ 8 + (Z.2.2.1 + 11) + 37 * d1 ≤ 37 * d) (hw : (sk.map fun v => v.category).sum ≤ 8) (hm : kc ≤ mc ∧ ks ≤ ms)
    (kk : WW Y d mc ms R kc ks (pc + 3) lv (rv :: sk) n1 im1 rm1) : WW Y d mc ms R kc ks pc lv (a3 :: a2 :: a1 :: sk) n im rm :=
  r_callN (As := [a1, a2, a3]) hc hd hM hdp rfl hw hm kk
theorem r_N3n {a1 a2 a3 : Value} (hc : CN Y.1.cls idx Z 3) (hd : decode Y.2.1 pc = .ok (.invokestatic idx, 3)) (hM : MT Z d1 0 0 [a1, a2, a3] n im rm (none, n1, im1, rm1)) (hdp : d1 + 1 ≤ d ∧ 8 + (Z.2.2.1 + 11) + 37 * d1 ≤ 37 * d) (hw : (sk.map fun v => v.category).sum ≤ 8) (hm : kc ≤ mc ∧ ks ≤ ms)
    (kk : WW Y d mc ms R kc ks (pc + 3) lv sk n1 im1 rm1) : WW Y d mc ms R kc ks pc lv (a3 :: a2 :: a1 :: sk) n im rm :=
  r_callN (As := [a1, a2, a3]) hc hd hM hdp rfl hw hm kk
theorem r_S4s {a1 a2 a3 a4 : Value} (hc : CS Y.1.cls idx Z 4) (hd : decode Y.2.1 pc = .ok (.invokestatic idx, 3)) (hM : MT Z d1 0 0 [a1, a2, a3, a4] n im rm (some rv, n1, im1, rm1)) (hdp : d1 + 1 ≤ d ∧ 8 + (Z.2.2.1 + 11) + 37 * d1 ≤ 37 * d) (hw : (sk.map fun v => v.category).sum ≤ 8) (hm : kc ≤ mc ∧ ks ≤ ms)
    (kk : WW Y d mc ms R kc ks (pc + 3) lv (rv :: sk) n1 im1 rm1) : WW Y d mc ms R kc ks pc lv (a4 :: a3 :: a2 :: a1 :: sk) n im rm :=
  r_callS (As := [a1, a2, a3, a4]) hc hd hM hdp rfl hw hm kk
theorem r_S4n {a1 a2 a3 a4 : Value} (hc : CS Y.1.cls idx Z 4) (hd : decode Y.2.1 pc = .ok (.invokestatic idx, 3)) (hM : MT Z d1 0 0 [a1, a2, a3, a4] n im rm (none, n1, im1, rm1)) (hdp : d1 + 1 ≤ d ∧ 8 + (Z.2.2.1 + 11) + 37 * d1 ≤ 37 * d) (hw : (sk.map fun v => v.category).sum ≤ 8) (hm : kc ≤ mc ∧ ks ≤ ms)
    (kk : WW Y d mc ms R kc ks (pc + 3) lv sk n1 im1 rm1) : WW Y d mc ms R kc ks pc lv (a4 :: a3 :: a2 :: a1 :: sk) n im rm :=
  r_callS (As := [a1, a2, a3, a4]) hc hd hM hdp rfl hw hm kk
theorem r_N4s {a1 a2 a3 a4 : Value} (hc : CN Y.1.cls idx Z 4) (hd : decode Y.2.1 pc = .ok (.invokestatic idx, 3)) (hM : MT Z d1 0 0 [a1, a2, a3, a4] n im rm (some rv, n1, im1, rm1)) (hdp : d1 + 1 ≤ d ∧ 8 + (Z.2.2.1 + 11) + 37 * d1 ≤ 37 * d) (hw : (sk.map fun v => v.category).sum ≤ 8) (hm : kc ≤ mc ∧ ks ≤ ms)
    (kk : WW Y d mc ms R kc ks (pc + 3) lv (rv :: sk) n1 im1 rm1) : WW Y d mc ms R kc ks pc lv (a4 :: a3 :: a2 :: a1 :: sk) n im rm :=
  r_callN (As := [a1, a2, a3, a4]) hc hd hM hdp rfl hw hm kk
theorem r_N4n {a1 a2 a3 a4 : Value} (hc : CN Y.1.cls idx Z 4) (hd : decode Y.2.1 pc = .ok (.invokestatic idx, 3)) (hM : MT Z d1 0 0 [a1, a2, a3, a4] n im rm (none, n1, im1, rm1)) (hdp : d1 + 1 ≤ d ∧ 8 + (Z.2.2.1 + 11) + 37 * d1 ≤ 37 * d) (hw : (sk.map fun v => v.category).sum ≤ 8) (hm : kc ≤ mc ∧ ks ≤ ms)
    (kk : WW Y d mc ms R kc ks (pc + 3) lv sk n1 im1 rm1) : WW Y d mc ms R kc ks pc lv (a4 :: a3 :: a2 :: a1 :: sk) n im rm :=
  r_callN (As := [a1, a2, a3, a4]) hc hd hM hdp rfl hw hm kk
theorem r_S5s {a1 a2 a3 a4 a5 : Value} (hc : CS Y.1.cls idx Z 5) (hd : decode Y.2.1 pc = .ok (.invokestatic idx, 3)) (hM : MT Z d1 0 0 [a1, a2, a3, a4, a5] n im rm (some rv, n1, im1, rm1)) (hdp : d1 + 1 ≤ d ∧ 8 + (Z.2.2.1 + 11) + 37 * d1 ≤ 37 * d) (hw : (sk.map fun v => v.category).sum ≤ 8) (hm : kc ≤ mc ∧ ks ≤ ms)
    (kk : WW Y d mc ms R kc ks (pc + 3) lv (rv :: sk) n1 im1 rm1) : WW Y d mc ms R kc ks pc lv (a5 :: a4 :: a3 :: a2 :: a1 :: sk) n im rm :=
  r_callS (As := [a1, a2, a3, a4, a5]) hc hd hM hdp rfl hw hm kk
theorem r_S5n {a1 a2 a3 a4 a5 : Value} (hc : CS Y.1.cls idx Z 5) (hd : decode Y.2.1 pc = .ok (.invokestatic idx, 3)) (hM : MT Z d1 0 0 [a1, a2, a3, a4, a5] n im rm (none, n1, im1, rm1)) (hdp : d1 + 1 ≤ d ∧ 8 + (Z.2.2.1 + 11) + 37 * d1 ≤ 37 * d) (hw : (sk.map fun v => v.category).sum ≤ 8) (hm : kc ≤ mc ∧ ks ≤ ms)
    (kk : WW Y d mc ms R kc ks (pc + 3) lv sk n1 im1 rm1) : WW Y d mc ms R kc ks pc lv (a5 :: a4 :: a3 :: a2 :: a1 :: sk) n im rm :=
  r_callS (As := [a1, a2, a3, a4, a5]) hc hd hM hdp rfl hw hm kk
theorem r_N5s {a1 a2 a3 a4 a5 : Value} (hc : CN Y.1.cls idx Z 5) (hd : decode Y.2.1 pc = .ok (.invokestatic idx, 3)) (hM : MT Z d1 0 0 [a1, a2, a3, a4, a5] n im rm (some rv, n1, im1, rm1)) (hdp : d1 + 1 ≤ d ∧ 8 + (Z.2.2.1 + 11) + 37 * d1 ≤ 37 * d) (hw : (sk.map fun v => v.category).sum ≤ 8) (hm : kc ≤ mc ∧ ks ≤ ms)
    (kk : WW Y d mc ms R kc ks (pc + 3) lv (rv :: sk) n1 im1 rm1) : WW Y d mc ms R kc ks pc lv (a5 :: a4 :: a3 :: a2 :: a1 :: sk) n im rm :=
  r_callN (As := [a1, a2, a3, a4, a5]) hc hd hM hdp rfl hw hm kk
theorem r_N5n {a1 a2 a3 a4 a5 : Value} (hc : CN Y.1.cls idx Z 5) (hd : decode Y.2.1 pc = .ok (.invokestatic idx, 3)) (hM : MT Z d1 0 0 [a1, a2, a3, a4, a5] n im rm (none, n1, im1, rm1)) (hdp : d1 + 1 ≤ d ∧ 8 + (Z.2.2.1 + 11) + 37 * d1 ≤ 37 * d) (hw : (sk.map fun v => v.category).sum ≤ 8) (hm : kc ≤ mc ∧ ks ≤ ms)
    (kk : WW Y d mc ms R kc ks (pc + 3) lv sk n1 im1 rm1) : WW Y d mc ms R kc ks pc lv (a5 :: a4 :: a3 :: a2 :: a1 :: sk) n im rm :=
  r_callN (As := [a1, a2, a3, a4, a5]) hc hd hM hdp rfl hw hm kk
theorem r_if_eq_t {x : Int32} {off : Int} {tgt : Nat} (hd : decode Y.2.1 pc = .ok (.ifCond .eq off, 3)) (ht : (pc : Int) + off = (tgt : Int)) (h : x = 0) (kt : WW Y d mc ms R kc ks tgt lv sk n im rm) : WW Y d mc ms R kc ks pc lv (.int x :: sk) n im rm := r_if_eq hd ht (fun _ => kt) (fun q => absurd h q)
theorem r_if_eq_f {x : Int32} {off : Int} {tgt : Nat} (hd : decode Y.2.1 pc = .ok (.ifCond .eq off, 3)) (ht : (pc : Int) + off = (tgt : Int)) (h : ¬ x = 0) (kf : WW Y d mc ms R kc ks (pc + 3) lv sk n im rm) : WW Y d mc ms R kc ks pc lv (.int x :: sk) n im rm := r_if_eq hd ht (fun q => absurd q h) (fun _ => kf)
theorem r_icmp_eq_t {x y : Int32} {off : Int} {tgt : Nat} (hd : decode Y.2.1 pc = .ok (.if_icmp .eq off, 3)) (ht : (pc : Int) + off = (tgt : Int)) (h : x = y) (kt : WW Y d mc ms R kc ks tgt lv sk n im rm) : WW Y d mc ms R kc ks pc lv (.int y :: .int x :: sk) n im rm := r_icmp_eq hd ht (fun _ => kt) (fun q => absurd h q)
theorem r_icmp_eq_f {x y : Int32} {off : Int} {tgt : Nat} (hd : decode Y.2.1 pc = .ok (.if_icmp .eq off, 3)) (ht : (pc : Int) + off = (tgt : Int)) (h : ¬ x = y) (kf : WW Y d mc ms R kc ks (pc + 3) lv sk n im rm) : WW Y d mc ms R kc ks pc lv (.int y :: .int x :: sk) n im rm := r_icmp_eq hd ht (fun q => absurd q h) (fun _ => kf)
theorem r_if_ne_t {x : Int32} {off : Int} {tgt : Nat} (hd : decode Y.2.1 pc = .ok (.ifCond .ne off, 3)) (ht : (pc : Int) + off = (tgt : Int)) (h : ¬ x = 0) (kt : WW Y d mc ms R kc ks tgt lv sk n im rm) : WW Y d mc ms R kc ks pc lv (.int x :: sk) n im rm := r_if_ne hd ht (fun _ => kt) (fun q => absurd q h)
theorem r_if_ne_f {x : Int32} {off : Int} {tgt : Nat} (hd : decode Y.2.1 pc = .ok (.ifCond .ne off, 3)) (ht : (pc : Int) + off = (tgt : Int)) (h : x = 0) (kf : WW Y d mc ms R kc ks (pc + 3) lv sk n im rm) : WW Y d mc ms R kc ks pc lv (.int x :: sk) n im rm := r_if_ne hd ht (fun q => absurd h q) (fun _ => kf)
theorem r_icmp_ne_t {x y : Int32} {off : Int} {tgt : Nat} (hd : decode Y.2.1 pc = .ok (.if_icmp .ne off, 3)) (ht : (pc : Int) + off = (tgt : Int)) (h : ¬ x = y) (kt : WW Y d mc ms R kc ks tgt lv sk n im rm) : WW Y d mc ms R kc ks pc lv (.int y :: .int x :: sk) n im rm := r_icmp_ne hd ht (fun _ => kt) (fun q => absurd q h)
theorem r_icmp_ne_f {x y : Int32} {off : Int} {tgt : Nat} (hd : decode Y.2.1 pc = .ok (.if_icmp .ne off, 3)) (ht : (pc : Int) + off = (tgt : Int)) (h : x = y) (kf : WW Y d mc ms R kc ks (pc + 3) lv sk n im rm) : WW Y d mc ms R kc ks pc lv (.int y :: .int x :: sk) n im rm := r_icmp_ne hd ht (fun q => absurd h q) (fun _ => kf)
theorem r_if_lt_t {x : Int32} {off : Int} {tgt : Nat} (hd : decode Y.2.1 pc = .ok (.ifCond .lt off, 3)) (ht : (pc : Int) + off = (tgt : Int)) (h : x < 0) (kt : WW Y d mc ms R kc ks tgt lv sk n im rm) : WW Y d mc ms R kc ks pc lv (.int x :: sk) n im rm := r_if_lt hd ht (fun _ => kt) (fun q => absurd h q)
theorem r_if_lt_f {x : Int32} {off : Int} {tgt : Nat} (hd : decode Y.2.1 pc = .ok (.ifCond .lt off, 3)) (ht : (pc : Int) + off = (tgt : Int)) (h : ¬ x < 0) (kf : WW Y d mc ms R kc ks (pc + 3) lv sk n im rm) : WW Y d mc ms R kc ks pc lv (.int x :: sk) n im rm := r_if_lt hd ht (fun q => absurd q h) (fun _ => kf)
theorem r_icmp_lt_t {x y : Int32} {off : Int} {tgt : Nat} (hd : decode Y.2.1 pc = .ok (.if_icmp .lt off, 3)) (ht : (pc : Int) + off = (tgt : Int)) (h : x < y) (kt : WW Y d mc ms R kc ks tgt lv sk n im rm) : WW Y d mc ms R kc ks pc lv (.int y :: .int x :: sk) n im rm := r_icmp_lt hd ht (fun _ => kt) (fun q => absurd h q)
theorem r_icmp_lt_f {x y : Int32} {off : Int} {tgt : Nat} (hd : decode Y.2.1 pc = .ok (.if_icmp .lt off, 3)) (ht : (pc : Int) + off = (tgt : Int)) (h : ¬ x < y) (kf : WW Y d mc ms R kc ks (pc + 3) lv sk n im rm) : WW Y d mc ms R kc ks pc lv (.int y :: .int x :: sk) n im rm := r_icmp_lt hd ht (fun q => absurd q h) (fun _ => kf)
theorem r_if_ge_t {x : Int32} {off : Int} {tgt : Nat} (hd : decode Y.2.1 pc = .ok (.ifCond .ge off, 3)) (ht : (pc : Int) + off = (tgt : Int)) (h : 0 ≤ x) (kt : WW Y d mc ms R kc ks tgt lv sk n im rm) : WW Y d mc ms R kc ks pc lv (.int x :: sk) n im rm := r_if_ge hd ht (fun _ => kt) (fun q => absurd h q)
theorem r_if_ge_f {x : Int32} {off : Int} {tgt : Nat} (hd : decode Y.2.1 pc = .ok (.ifCond .ge off, 3)) (ht : (pc : Int) + off = (tgt : Int)) (h : ¬ 0 ≤ x) (kf : WW Y d mc ms R kc ks (pc + 3) lv sk n im rm) : WW Y d mc ms R kc ks pc lv (.int x :: sk) n im rm := r_if_ge hd ht (fun q => absurd q h) (fun _ => kf)
theorem r_icmp_ge_t {x y : Int32} {off : Int} {tgt : Nat} (hd : decode Y.2.1 pc = .ok (.if_icmp .ge off, 3)) (ht : (pc : Int) + off = (tgt : Int)) (h : y ≤ x) (kt : WW Y d mc ms R kc ks tgt lv sk n im rm) : WW Y d mc ms R kc ks pc lv (.int y :: .int x :: sk) n im rm := r_icmp_ge hd ht (fun _ => kt) (fun q => absurd h q)
theorem r_icmp_ge_f {x y : Int32} {off : Int} {tgt : Nat} (hd : decode Y.2.1 pc = .ok (.if_icmp .ge off, 3)) (ht : (pc : Int) + off = (tgt : Int)) (h : ¬ y ≤ x) (kf : WW Y d mc ms R kc ks (pc + 3) lv sk n im rm) : WW Y d mc ms R kc ks pc lv (.int y :: .int x :: sk) n im rm := r_icmp_ge hd ht (fun q => absurd q h) (fun _ => kf)
theorem r_if_gt_t {x : Int32} {off : Int} {tgt : Nat} (hd : decode Y.2.1 pc = .ok (.ifCond .gt off, 3)) (ht : (pc : Int) + off = (tgt : Int)) (h : 0 < x) (kt : WW Y d mc ms R kc ks tgt lv sk n im rm) : WW Y d mc ms R kc ks pc lv (.int x :: sk) n im rm := r_if_gt hd ht (fun _ => kt) (fun q => absurd h q)
theorem r_if_gt_f {x : Int32} {off : Int} {tgt : Nat} (hd : decode Y.2.1 pc = .ok (.ifCond .gt off, 3)) (ht : (pc : Int) + off = (tgt : Int)) (h : ¬ 0 < x) (kf : WW Y d mc ms R kc ks (pc + 3) lv sk n im rm) : WW Y d mc ms R kc ks pc lv (.int x :: sk) n im rm := r_if_gt hd ht (fun q => absurd q h) (fun _ => kf)
theorem r_icmp_gt_t {x y : Int32} {off : Int} {tgt : Nat} (hd : decode Y.2.1 pc = .ok (.if_icmp .gt off, 3)) (ht : (pc : Int) + off = (tgt : Int)) (h : y < x) (kt : WW Y d mc ms R kc ks tgt lv sk n im rm) : WW Y d mc ms R kc ks pc lv (.int y :: .int x :: sk) n im rm := r_icmp_gt hd ht (fun _ => kt) (fun q => absurd h q)
theorem r_icmp_gt_f {x y : Int32} {off : Int} {tgt : Nat} (hd : decode Y.2.1 pc = .ok (.if_icmp .gt off, 3)) (ht : (pc : Int) + off = (tgt : Int)) (h : ¬ y < x) (kf : WW Y d mc ms R kc ks (pc + 3) lv sk n im rm) : WW Y d mc ms R kc ks pc lv (.int y :: .int x :: sk) n im rm := r_icmp_gt hd ht (fun q => absurd q h) (fun _ => kf)
theorem r_if_le_t {x : Int32} {off : Int} {tgt : Nat} (hd : decode Y.2.1 pc = .ok (.ifCond .le off, 3)) (ht : (pc : Int) + off = (tgt : Int)) (h : x ≤ 0) (kt : WW Y d mc ms R kc ks tgt lv sk n im rm) : WW Y d mc ms R kc ks pc lv (.int x :: sk) n im rm := r_if_le hd ht (fun _ => kt) (fun q => absurd h q)
theorem r_if_le_f {x : Int32} {off : Int} {tgt : Nat} (hd : decode Y.2.1 pc = .ok (.ifCond .le off, 3)) (ht : (pc : Int) + off = (tgt : Int)) (h : ¬ x ≤ 0) (kf : WW Y d mc ms R kc ks (pc + 3) lv sk n im rm) : WW Y d mc ms R kc ks pc lv (.int x :: sk) n im rm := r_if_le hd ht (fun q => absurd q h) (fun _ => kf)
theorem r_icmp_le_t {x y : Int32} {off : Int} {tgt : Nat} (hd : decode Y.2.1 pc = .ok (.if_icmp .le off, 3)) (ht : (pc : Int) + off = (tgt : Int)) (h : x ≤ y) (kt : WW Y d mc ms R kc ks tgt lv sk n im rm) : WW Y d mc ms R kc ks pc lv (.int y :: .int x :: sk) n im rm := r_icmp_le hd ht (fun _ => kt) (fun q => absurd h q)
theorem r_icmp_le_f {x y : Int32} {off : Int} {tgt : Nat} (hd : decode Y.2.1 pc = .ok (.if_icmp .le off, 3)) (ht : (pc : Int) + off = (tgt : Int)) (h : ¬ x ≤ y) (kf : WW Y d mc ms R kc ks (pc + 3) lv sk n im rm) : WW Y d mc ms R kc ks pc lv (.int y :: .int x :: sk) n im rm := r_icmp_le hd ht (fun q => absurd q h) (fun _ => kf)
theorem r_pi {k ci j idx : Nat} {x : Int32} (hF : FL Y.1.cls idx ci j .int false) (hd : decode Y.2.1 pc = .ok (.putfield idx, 3)) (hk : kd k = (0, ci)) (hn : k < n) (hi : rft ci j = false)
    (kk : WW Y d mc ms R kc ks (pc + 3) lv sk n (st im k j x) rm) : WW Y d mc ms R kc ks pc lv (.int x :: .ref k :: sk) n im rm := r_puti hF hd hk hn hi kk
theorem r_pz {k ci j idx : Nat} {x : Int32} (hF : FL Y.1.cls idx ci j .boolean false) (hd : decode Y.2.1 pc = .ok (.putfield idx, 3)) (hk : kd k = (0, ci)) (hn : k < n) (hi : rft ci j = false) (hx : narrow .boolean (.int x) = .int x ∧ fits .boolean (.int x) = true)
    (kk : WW Y d mc ms R kc ks (pc + 3) lv sk n (st im k j x) rm) : WW Y d mc ms R kc ks pc lv (.int x :: .ref k :: sk) n im rm := r_putz hF hd hk hn hi hx kk
theorem r_as {k len j : Nat} {i x : Int32} (hd : decode Y.2.1 pc = .ok (.iastore, 1)) (hk : kd k = (1, len)) (hn : k < n) (hi : i = nI j) (hj : j < len) (hlen : len < 2147483648)
    (kk : WW Y d mc ms R kc ks (pc + 1) lv sk n (st im k j x) rm) : WW Y d mc ms R kc ks pc lv (.int x :: .int i :: .ref k :: sk) n im rm := r_iast hd hk hn hi hj hlen kk
theorem r_zs {k len j : Nat} {i x : Int32} (hd : decode Y.2.1 pc = .ok (.bastore, 1)) (hk : kd k = (2, len)) (hn : k < n) (hi : i = nI j) (hj : j < len) (hlen : len < 2147483648) (hx : narrow .boolean (.int x) = .int x)
    (kk : WW Y d mc ms R kc ks (pc + 1) lv sk n (st im k j x) rm) : WW Y d mc ms R kc ks pc lv (.int x :: .int i :: .ref k :: sk) n im rm := r_zast hd hk hn hi hj hlen hx kk
end ARITY
theorem sw_split {x : Int32} {lo n : Nat} (h : lo + n < 2147483648) (h0 : 0 < n) : (x.toInt < (lo : Int) ∨ ((lo + n - 1 : Nat) : Int) < x.toInt) ∨ ∃ j : Nat, j < n ∧ x = nI (lo + j) := by
  by_cases h1 : x.toInt < (lo : Int)
  · exact Or.inl (Or.inl h1)
  · by_cases h2 : ((lo + n - 1 : Nat) : Int) < x.toInt
    · exact Or.inl (Or.inr h2)
    · refine Or.inr ⟨x.toInt.toNat - lo, by omega, ?_⟩
      have h3 : lo + (x.toInt.toNat - lo) = x.toInt.toNat := by omega
      rw [h3]
      have h4 : x.toInt.toNat < 2 ^ 31 := by omega
      apply Int32.toInt_inj.mp
      rw [nI_toInt h4]
      omega
theorem sw_out {x : Int32} {lo n : Nat} {a b : Int} (h : x.toInt < (lo : Int) ∨ ((lo + n - 1 : Nat) : Int) < x.toInt) (ha : (lo : Int) = a := by rfl) (hb : ((lo + n - 1 : Nat) : Int) = b := by rfl) : x.toInt < a ∨ b < x.toInt := by rw [← ha, ← hb]; exact h
theorem sw_a {x : Int32} {c : Nat} {a : Int} (h : x = nI c) (hc : c < 2147483648) (ha : a ≤ (c : Int)) : ¬ x.toInt < a := by rw [h, nI_toInt hc]; omega
theorem sw_b {x : Int32} {c : Nat} {a : Int} (h : x = nI c) (hc : c < 2147483648) (ha : (c : Int) ≤ a) : ¬ a < x.toInt := by rw [h, nI_toInt hc]; omega
theorem sw_c {x : Int32} {c : Nat} {lo : Int} {offs : Array Int} {off : Int} (h : x = nI c) (hc : c < 2147483648) (ho : offs[((c : Int) - lo).toNat]? = some off) : offs[(x.toInt - lo).toNat]? = some off := by rw [h, nI_toInt hc]; exact ho
end
section
def inB (x a c : Int32) : Bool := !(decide (x < a)) && !(decide (c < x))
def hasB (s k : Int32) : Bool := decide ((s >>> (k &&& 31)) &&& 1 = 1)
def mnI (x y : Int32) : Int32 := if y < x then y else x
def mxI (x y : Int32) : Int32 := if x < y then y else x
def us (x y : Int32) : Int32 := (x.toUInt32 >>> (y.toUInt32 &&& Int32.toUInt32 31)).toInt32
def bc1 (x : Int32) : Int32 := x - (us x 1 &&& 1431655765)
def bc2 (x : Int32) : Int32 := (x &&& 858993459) + (us x 2 &&& 858993459)
def bc3 (x : Int32) : Int32 := (x + us x 4) &&& 252645135
def bc4 (x : Int32) : Int32 := x + us x 8
def bc5 (x : Int32) : Int32 := x + us x 16
def bcI (x : Int32) : Int32 := bc5 (bc4 (bc3 (bc2 (bc1 x)))) &&& 63
def alS (W : Int32) : Int32 := (1 <<< (W &&& 31)) - 1
def fdI (f : Nat → Int32 → Int32) (a : Int32) : Nat → Int32
  | 0 => a
  | t + 1 => f t (fdI f a t)
def orF (row : Nat → Int32) (made : Int32) : Nat → Int32
  | 0 => 0
  | t + 1 => if hasB made (nI t) = true then orF row made t ||| row t else orF row made t
def smF (row : Nat → Int32) (made : Int32) : Nat → Int32
  | 0 => 0
  | t + 1 => if hasB made (nI t) = true then smF row made t + row t else smF row made t
def lfS (W T : Int32) (row : Nat → Int32) (made : Int32) : Int32 := alS W &&& (orF row made (tn T) ^^^ (-1))
def beS (W : Int32) (row : Nat → Int32) (w left : Int32) : Int32 :=
  if inB w 0 (W - 1) = false then 0 else if hasB left w = false then 0 else if smF row left (tn W) ≤ 0 then 0 else ((1000000 : Int64) * (row (tn w)).toInt64 / (smF row left (tn W)).toInt64).toInt32
/-- a castle's counts -/
def CA (im : IM) (k : Nat) : Prop := isC k ∧ ∃ W T S : Nat, im k 0 = nI W ∧ W ≤ 8 ∧ im k 2 = nI T ∧ T ≤ 6 ∧ im k 6 = nI S ∧ S ≤ 5
theorem inB_nat {w : Int32} {W : Nat} (h : inB w 0 (nI W - 1) = true) (hW : W ≤ 240) : ∃ j : Nat, j < W ∧ w = nI j := by
  unfold inB at h
  simp only [Bool.and_eq_true, Bool.not_eq_true', decide_eq_false_iff_not] at h
  obtain ⟨h1, h2⟩ := h
  obtain ⟨j, hj, rfl⟩ := nI_of h1
  refine ⟨j, ?_, rfl⟩
  apply Nat.lt_of_not_le
  intro h3
  apply h2
  by_cases h0 : W = 0
  · subst h0
    show (0 : Int32) - 1 < nI j
    rw [Int32.lt_iff_toInt_lt, nI_toInt hj]
    show (-1 : Int) < _
    omega
  · obtain ⟨V, rfl⟩ : ∃ V, W = V + 1 := ⟨W - 1, by omega⟩
    rw [nI_pred]
    exact nI_lt (by omega) hj
theorem fa_nlt {x : Int32} (h : ¬ 0 < x) : x ≤ 0 := by
  rw [Int32.le_iff_toInt_le]
  rw [Int32.lt_iff_toInt_lt] at h
  omega
theorem fa_ngt {x : Int32} (h : 0 < x) : ¬ x ≤ 0 := by
  rw [Int32.le_iff_toInt_le]
  rw [Int32.lt_iff_toInt_lt] at h
  omega
theorem fa_zero {x : Int32} (h : x.toInt64 = 0) : x ≤ 0 := by
  have h2 : x.toInt64.toInt = (0 : Int64).toInt := by rw [h]
  rw [Int32.toInt_toInt64] at h2
  rw [Int32.le_iff_toInt_le, h2]
  decide
end
section
set_option maxRecDepth 100000 in
set_option maxHeartbeats 4000000 in
theorem c_within {n : Nat} {im : IM} {rm : RM} (x a c : Int32) : MT YX8_within 0 0 0 [.int x, .int a, .int c] n im rm (some (.int (bI (inB x a c))), n, im, rm) := by
  refine mt_of (by decide +kernel) (Nat.le_of_ble_eq_true rfl) ?_
  show WW _ _ _ _ _ _ _ 0 [(0, .int x), (1, .int a), (2, .int c)] [] _ _ _
  refine r_iload_n dX8_within_0 rfl ?_
  refine r_iload_n dX8_within_1 rfl ?_
  refine r_icmp_lt (tgt := 14) dX8_within_2 (by decide) (fun h2 => ?_) (fun h2 => ?_)
  · refine r_iconst (v := 0) dX8_within_14 (by decide) ?_
    exact r_zret dX8_within_15 rfl nar0 (by simp [inB, bI, h2]) (Nat.le_refl _) (Nat.le_refl _)
  · refine r_iload_n dX8_within_5 rfl ?_
    refine r_iload_n dX8_within_6 rfl ?_
    refine r_icmp_gt (tgt := 14) dX8_within_7 (by decide) (fun h7 => ?_) (fun h7 => ?_)
    · refine r_iconst (v := 0) dX8_within_14 (by decide) ?_
      exact r_zret dX8_within_15 rfl nar0 (by simp [inB, bI, h2, h7]) (Nat.le_refl _) (Nat.le_refl _)
    · refine r_iconst (v := 1) dX8_within_10 (by decide) ?_
      refine r_goto (tgt := 15) dX8_within_11 (by decide) ?_
      exact r_zret dX8_within_15 rfl nar1 (by simp [inB, bI, h2, h7]) (Nat.le_refl _) (Nat.le_refl _)

set_option maxRecDepth 100000 in
set_option maxHeartbeats 4000000 in
theorem c_has {n : Nat} {im : IM} {rm : RM} (x k : Int32) : MT YX8_has 0 0 0 [.int x, .int k] n im rm (some (.int (bI (hasB x k))), n, im, rm) := by
  refine mt_of (by decide +kernel) (Nat.le_of_ble_eq_true rfl) ?_
  show WW _ _ _ _ _ _ _ 0 [(0, .int x), (1, .int k)] [] _ _ _
  refine r_iload_n dX8_has_0 rfl ?_
  refine r_iload_n dX8_has_1 rfl ?_
  refine r_ishr dX8_has_2 ?_
  refine r_iconst (v := 1) dX8_has_3 (by decide) ?_
  refine r_iand dX8_has_4 ?_
  refine r_iconst (v := 1) dX8_has_5 (by decide) ?_
  refine r_icmp_ne (tgt := 13) dX8_has_6 (by decide) (fun h6 => ?_) (fun h6 => ?_)
  · refine r_iconst (v := 0) dX8_has_13 (by decide) ?_
    exact r_zret dX8_has_14 rfl nar0 (by simp [hasB, bI, h6]) (Nat.le_refl _) (Nat.le_refl _)
  · refine r_iconst (v := 1) dX8_has_9 (by decide) ?_
    refine r_goto (tgt := 14) dX8_has_10 (by decide) ?_
    exact r_zret dX8_has_14 rfl nar1 (by simp [hasB, bI, h6]) (Nat.le_refl _) (Nat.le_refl _)

section MINMAX
variable {Y : Card} {d mc ms : Nat} {R : Rs} {kc ks pc : Nat} {lv : LV} {sk : List Value} {n : Nat} {im : IM} {rm : RM} {idx : Nat}
theorem r_min {x y : Int32} (hc : CS Y.1.cls idx YJ9_min_7cf53 2) (hd : decode Y.2.1 pc = .ok (.invokestatic idx, 3)) (h1 : 1 ≤ d) (hw : (sk.map fun v => v.category).sum ≤ 8) (hm : kc ≤ mc ∧ ks ≤ ms)
    (kk : WW Y d mc ms R kc ks (pc + 3) lv (.int (mnI x y) :: sk) n im rm) : WW Y d mc ms R kc ks pc lv (.int y :: .int x :: sk) n im rm := by
  intro p l e s m args below meth c D ca b H locs ls C hl hP hF0 hL
  obtain ⟨hx, hb, hr, hml, hown, htb, hlocks, hK, hbs, hnm⟩ := id C
  obtain ⟨c1, c2, c4, c5, c6⟩ := hc
  refine va_mmin hx hb (hml.trans hl.1.symm) hown (htb _ c1 rfl) (htb _ c2 rfl) (htb _ c4 rfl) (htb _ c5 rfl) h1 ?_ hm.1 hm.2 hd (kk p l e s m args below meth c D ca b H locs ls C hl hP hF0 hL)
  rw [cat_sum]
  show _ + 13 ≤ 37 * d
  omega
theorem r_max {x y : Int32} (hc : CS Y.1.cls idx YJ9_max_7cf53 2) (hd : decode Y.2.1 pc = .ok (.invokestatic idx, 3)) (h1 : 1 ≤ d) (hw : (sk.map fun v => v.category).sum ≤ 8) (hm : kc ≤ mc ∧ ks ≤ ms)
    (kk : WW Y d mc ms R kc ks (pc + 3) lv (.int (mxI x y) :: sk) n im rm) : WW Y d mc ms R kc ks pc lv (.int y :: .int x :: sk) n im rm := by
  intro p l e s m args below meth c D ca b H locs ls C hl hP hF0 hL
  obtain ⟨hx, hb, hr, hml, hown, htb, hlocks, hK, hbs, hnm⟩ := id C
  obtain ⟨c1, c2, c4, c5, c6⟩ := hc
  refine va_mmax hx hb (hml.trans hl.1.symm) hown (htb _ c1 rfl) (htb _ c2 rfl) (htb _ c4 rfl) (htb _ c5 rfl) h1 ?_ hm.1 hm.2 hd (kk p l e s m args below meth c D ca b H locs ls C hl hP hF0 hL)
  rw [cat_sum]
  show _ + 13 ≤ 37 * d
  omega
end MINMAX

set_option maxRecDepth 100000 in
set_option maxHeartbeats 4000000 in
theorem c_bitCount {n : Nat} {im : IM} {rm : RM} (x : Int32) : MT YJ6_bitCount_0f7a4 0 0 0 [.int x] n im rm (some (.int (bcI x)), n, im, rm) := by
  refine mt_of (by decide +kernel) (Nat.le_of_ble_eq_true rfl) ?_
  show WW _ _ _ _ _ _ _ 0 [(0, .int x)] [] _ _ _
  refine r_iload_n dJ6_bitCount_0f7a4_0 rfl ?_
  refine r_iload_n dJ6_bitCount_0f7a4_1 rfl ?_
  refine r_iconst (v := 1) dJ6_bitCount_0f7a4_2 (by decide) ?_
  refine r_iushr dJ6_bitCount_0f7a4_3 rfl ?_
  refine r_ldcw dJ6_bitCount_0f7a4_4 kn_J6_265 ?_
  refine r_iand dJ6_bitCount_0f7a4_7 ?_
  refine r_isub dJ6_bitCount_0f7a4_8 ?_
  refine r_istore_n dJ6_bitCount_0f7a4_9 (by decide) ?_
  refine r_iload_n dJ6_bitCount_0f7a4_10 rfl ?_
  refine r_ldcw dJ6_bitCount_0f7a4_11 kn_J6_266 ?_
  refine r_iand dJ6_bitCount_0f7a4_14 ?_
  refine r_iload_n dJ6_bitCount_0f7a4_15 rfl ?_
  refine r_iconst (v := 2) dJ6_bitCount_0f7a4_16 (by decide) ?_
  refine r_iushr dJ6_bitCount_0f7a4_17 rfl ?_
  refine r_ldcw dJ6_bitCount_0f7a4_18 kn_J6_266 ?_
  refine r_iand dJ6_bitCount_0f7a4_21 ?_
  refine r_iadd dJ6_bitCount_0f7a4_22 ?_
  refine r_istore_n dJ6_bitCount_0f7a4_23 (by decide) ?_
  refine r_iload_n dJ6_bitCount_0f7a4_24 rfl ?_
  refine r_iload_n dJ6_bitCount_0f7a4_25 rfl ?_
  refine r_iconst (v := 4) dJ6_bitCount_0f7a4_26 (by decide) ?_
  refine r_iushr dJ6_bitCount_0f7a4_27 rfl ?_
  refine r_iadd dJ6_bitCount_0f7a4_28 ?_
  refine r_ldcw dJ6_bitCount_0f7a4_29 kn_J6_267 ?_
  refine r_iand dJ6_bitCount_0f7a4_32 ?_
  refine r_istore_n dJ6_bitCount_0f7a4_33 (by decide) ?_
  refine r_iload_n dJ6_bitCount_0f7a4_34 rfl ?_
  refine r_iload_n dJ6_bitCount_0f7a4_35 rfl ?_
  refine r_bipush (v := 8) dJ6_bitCount_0f7a4_36 (by decide) ?_
  refine r_iushr dJ6_bitCount_0f7a4_38 rfl ?_
  refine r_iadd dJ6_bitCount_0f7a4_39 ?_
  refine r_istore_n dJ6_bitCount_0f7a4_40 (by decide) ?_
  refine r_iload_n dJ6_bitCount_0f7a4_41 rfl ?_
  refine r_iload_n dJ6_bitCount_0f7a4_42 rfl ?_
  refine r_bipush (v := 16) dJ6_bitCount_0f7a4_43 (by decide) ?_
  refine r_iushr dJ6_bitCount_0f7a4_45 rfl ?_
  refine r_iadd dJ6_bitCount_0f7a4_46 ?_
  refine r_istore_n dJ6_bitCount_0f7a4_47 (by decide) ?_
  refine r_iload_n dJ6_bitCount_0f7a4_48 rfl ?_
  refine r_bipush (v := 63) dJ6_bitCount_0f7a4_49 (by decide) ?_
  refine r_iand dJ6_bitCount_0f7a4_51 ?_
  exact r_iret dJ6_bitCount_0f7a4_52 rfl rfl (Nat.le_refl _) (Nat.le_refl _)

set_option maxRecDepth 100000 in
set_option maxHeartbeats 4000000 in
theorem c_stands {im : IM} {pl it : Nat} {k : Nat} (hc : CA im k) : MT YX2_stands 0 0 0 [.ref k] 137 im (RR pl it) (some (.int (bI (decide (0 < im k 0)))), 137, im, RR pl it) := by
  obtain ⟨hC, W, T, S, hW, hW8, hT, hT6, hS, hS5⟩ := id hc
  refine mt_of (by decide +kernel) (Nat.le_of_ble_eq_true rfl) ?_
  show WW _ _ _ _ _ _ _ 0 [(0, .ref k)] [] _ _ _
  refine r_aload_n dX2_stands_0 rfl ?_
  refine r_geti fl_X2_9 dX2_stands_1 (kC0 hC) (lC0 hC) rfl ?_
  refine r_if_le (tgt := 11) dX2_stands_4 (by decide) (fun h4 => ?_) (fun h4 => ?_)
  · refine r_iconst (v := 0) dX2_stands_11 (by decide) ?_
    exact r_zret dX2_stands_12 rfl nar0 (by simp [bI, h4]) (Nat.le_refl _) (Nat.le_refl _)
  · refine r_iconst (v := 1) dX2_stands_7 (by decide) ?_
    refine r_goto (tgt := 12) dX2_stands_8 (by decide) ?_
    exact r_zret dX2_stands_12 rfl nar1 (by simp [bI, h4]) (Nat.le_refl _) (Nat.le_refl _)

set_option maxRecDepth 100000 in
set_option maxHeartbeats 4000000 in
theorem c_allWays {im : IM} {pl it : Nat} {k : Nat} (hc : CA im k) : MT YX2_allWays 0 0 0 [.ref k] 137 im (RR pl it) (some (.int (alS (im k 0))), 137, im, RR pl it) := by
  obtain ⟨hC, W, T, S, hW, hW8, hT, hT6, hS, hS5⟩ := id hc
  refine mt_of (by decide +kernel) (Nat.le_of_ble_eq_true rfl) ?_
  show WW _ _ _ _ _ _ _ 0 [(0, .ref k)] [] _ _ _
  refine r_iconst (v := 1) dX2_allWays_0 (by decide) ?_
  refine r_aload_n dX2_allWays_1 rfl ?_
  refine r_geti fl_X2_9 dX2_allWays_2 (kC0 hC) (lC0 hC) rfl ?_
  refine r_ishl dX2_allWays_5 ?_
  refine r_iconst (v := 1) dX2_allWays_6 (by decide) ?_
  refine r_isub dX2_allWays_7 ?_
  exact r_iret dX2_allWays_8 rfl rfl (Nat.le_refl _) (Nat.le_refl _)

set_option maxRecDepth 100000 in
set_option maxHeartbeats 4000000 in
theorem c_hasWay {im : IM} {pl it : Nat} {k : Nat} (hc : CA im k) (x : Int32) : MT YX2_hasWay 1 0 0 [.ref k, .int x] 137 im (RR pl it) (some (.int (bI (inB x 0 (im k 0 - 1)))), 137, im, RR pl it) := by
  obtain ⟨hC, W, T, S, hW, hW8, hT, hT6, hS, hS5⟩ := id hc
  refine mt_of (by decide +kernel) (Nat.le_of_ble_eq_true rfl) ?_
  show WW _ _ _ _ _ _ _ 0 [(0, .ref k), (1, .int x)] [] _ _ _
  refine r_iload_n dX2_hasWay_0 rfl ?_
  refine r_iconst (v := 0) dX2_hasWay_1 (by decide) ?_
  refine r_aload_n dX2_hasWay_2 rfl ?_
  refine r_geti fl_X2_9 dX2_hasWay_3 (kC0 hC) (lC0 hC) rfl ?_
  refine r_iconst (v := 1) dX2_hasWay_6 (by decide) ?_
  refine r_isub dX2_hasWay_7 ?_
  refine r_N3s cv_X2_46 dX2_hasWay_8 (c_within x 0 ((im k 0) - 1)) ⟨by decide, by decide⟩ (Nat.le_of_ble_eq_true rfl) ⟨Nat.le_refl _, Nat.le_refl _⟩ ?_
  exact r_zret dX2_hasWay_11 rfl (bI_nar _) rfl (Nat.le_refl _) (Nat.le_refl _)

set_option maxRecDepth 100000 in
set_option maxHeartbeats 4000000 in
theorem c_hasTest {im : IM} {pl it : Nat} {k : Nat} (hc : CA im k) (x : Int32) : MT YX2_hasTest 1 0 0 [.ref k, .int x] 137 im (RR pl it) (some (.int (bI (inB x 0 (im k 2 - 1)))), 137, im, RR pl it) := by
  obtain ⟨hC, W, T, S, hW, hW8, hT, hT6, hS, hS5⟩ := id hc
  refine mt_of (by decide +kernel) (Nat.le_of_ble_eq_true rfl) ?_
  show WW _ _ _ _ _ _ _ 0 [(0, .ref k), (1, .int x)] [] _ _ _
  refine r_iload_n dX2_hasTest_0 rfl ?_
  refine r_iconst (v := 0) dX2_hasTest_1 (by decide) ?_
  refine r_aload_n dX2_hasTest_2 rfl ?_
  refine r_geti fl_X2_19 dX2_hasTest_3 (kC0 hC) (lC0 hC) rfl ?_
  refine r_iconst (v := 1) dX2_hasTest_6 (by decide) ?_
  refine r_isub dX2_hasTest_7 ?_
  refine r_N3s cv_X2_46 dX2_hasTest_8 (c_within x 0 ((im k 2) - 1)) ⟨by decide, by decide⟩ (Nat.le_of_ble_eq_true rfl) ⟨Nat.le_refl _, Nat.le_refl _⟩ ?_
  exact r_zret dX2_hasTest_11 rfl (bI_nar _) rfl (Nat.le_refl _) (Nat.le_refl _)

set_option maxRecDepth 100000 in
set_option maxHeartbeats 4000000 in
theorem c_hasServant {im : IM} {pl it : Nat} {k : Nat} (hc : CA im k) (x : Int32) : MT YX2_hasServant 1 0 0 [.ref k, .int x] 137 im (RR pl it) (some (.int (bI (inB x 0 (im k 6 - 1)))), 137, im, RR pl it) := by
  obtain ⟨hC, W, T, S, hW, hW8, hT, hT6, hS, hS5⟩ := id hc
  refine mt_of (by decide +kernel) (Nat.le_of_ble_eq_true rfl) ?_
  show WW _ _ _ _ _ _ _ 0 [(0, .ref k), (1, .int x)] [] _ _ _
  refine r_iload_n dX2_hasServant_0 rfl ?_
  refine r_iconst (v := 0) dX2_hasServant_1 (by decide) ?_
  refine r_aload_n dX2_hasServant_2 rfl ?_
  refine r_geti fl_X2_31 dX2_hasServant_3 (kC0 hC) (lC0 hC) rfl ?_
  refine r_iconst (v := 1) dX2_hasServant_6 (by decide) ?_
  refine r_isub dX2_hasServant_7 ?_
  refine r_N3s cv_X2_46 dX2_hasServant_8 (c_within x 0 ((im k 6) - 1)) ⟨by decide, by decide⟩ (Nat.le_of_ble_eq_true rfl) ⟨Nat.le_refl _, Nat.le_refl _⟩ ?_
  exact r_zret dX2_hasServant_11 rfl (bI_nar _) rfl (Nat.le_refl _) (Nat.le_refl _)

set_option maxRecDepth 100000 in
set_option maxHeartbeats 4000000 in
theorem c_hasWays {im : IM} {pl it : Nat} {k : Nat} (hc : CA im k) (x : Int32) : MT YX2_hasWays 1 0 0 [.ref k, .int x] 137 im (RR pl it) (some (.int (bI (decide (x &&& (alS (im k 0) ^^^ (-1)) = 0)))), 137, im, RR pl it) := by
  obtain ⟨hC, W, T, S, hW, hW8, hT, hT6, hS, hS5⟩ := id hc
  refine mt_of (by decide +kernel) (Nat.le_of_ble_eq_true rfl) ?_
  show WW _ _ _ _ _ _ _ 0 [(0, .ref k), (1, .int x)] [] _ _ _
  refine r_iload_n dX2_hasWays_0 rfl ?_
  refine r_aload_n dX2_hasWays_1 rfl ?_
  refine r_V0s cv_X2_50 dX2_hasWays_2 (c_allWays hc) ⟨by decide, by decide⟩ (kC0 hC) (lC0 hC) cl_2 (Nat.le_of_ble_eq_true rfl) ⟨Nat.le_refl _, Nat.le_refl _⟩ ?_
  refine r_iconst (v := (-1)) dX2_hasWays_5 (by decide) ?_
  refine r_ixor dX2_hasWays_6 ?_
  refine r_iand dX2_hasWays_7 ?_
  refine r_if_ne (tgt := 15) dX2_hasWays_8 (by decide) (fun h8 => ?_) (fun h8 => ?_)
  · refine r_iconst (v := 0) dX2_hasWays_15 (by decide) ?_
    exact r_zret dX2_hasWays_16 rfl nar0 (by rw [bI_f (decide_eq_false h8)]) (Nat.le_refl _) (Nat.le_refl _)
  · refine r_iconst (v := 1) dX2_hasWays_11 (by decide) ?_
    refine r_goto (tgt := 16) dX2_hasWays_12 (by decide) ?_
    exact r_zret dX2_hasWays_16 rfl nar1 (by rw [bI_t (decide_eq_true h8)]) (Nat.le_refl _) (Nat.le_refl _)

theorem xor_m1 (x : Int32) : x ^^^ (-1) = ~~~x := by simp
theorem and_nor (a o r : Int32) : (a &&& (o ^^^ (-1))) &&& (r ^^^ (-1)) = a &&& ((o ||| r) ^^^ (-1)) := by
  rw [xor_m1, xor_m1, xor_m1]
  apply Int32.toBitVec_inj.mp
  simp only [Int32.toBitVec_and, Int32.toBitVec_not, Int32.toBitVec_or]
  ext i hi
  simp only [BitVec.getElem_and, BitVec.getElem_not, BitVec.getElem_or]
  cases a.toBitVec[i] <;> cases o.toBitVec[i] <;> cases r.toBitVec[i] <;> rfl
theorem and_n0 (a : Int32) : a = a &&& ((0 : Int32) ^^^ (-1)) := by
  rw [show (0 : Int32) ^^^ (-1) = -1 by decide]
  simp

set_option maxRecDepth 100000 in
set_option maxHeartbeats 4000000 in
theorem c_leftBy {im : IM} {pl it : Nat} {k : Nat} (hc : CA im k) (made : Int32) : MT YX2_leftBy 1 0 0 [.ref k, .int made] 137 im (RR pl it) (some (.int (lfS (im k 0) (im k 2) (im (k + 2)) made)), 137, im, RR pl it) := by
  obtain ⟨hC, W, T, S, hW, hW8, hT, hT6, hS, hS5⟩ := id hc
  refine mt_of (by decide +kernel) (Nat.le_of_ble_eq_true rfl) ?_
  show WW _ _ _ _ _ _ _ 0 [(0, .ref k), (1, .int made)] [] _ _ _
  refine r_aload_n dX2_leftBy_0 rfl ?_
  refine r_V0s cv_X2_50 dX2_leftBy_1 (c_allWays hc) ⟨by decide, by decide⟩ (kC0 hC) (lC0 hC) cl_2 (Nat.le_of_ble_eq_true rfl) ⟨Nat.le_refl _, Nat.le_refl _⟩ ?_
  refine r_istore_n dX2_leftBy_4 (by decide) ?_
  refine r_iconst (v := 0) dX2_leftBy_5 (by decide) ?_
  refine r_istore_n dX2_leftBy_6 (by decide) ?_
  refine r_lv (lv' := [(0, .ref k), (1, .int made), (2, .int (alS (im k 0) &&& (orF (im (k + 2)) made 0 ^^^ (-1)))), (3, .int (nI 0))]) (al_cons rfl (al_cons rfl (al_int rfl (and_n0 _) (al_int rfl (by exact (cI 0)) al_nil)))) ?_
  refine WW.loop (fun t => [(0, .ref k), (1, .int made), (2, .int (alS (im k 0) &&& (orF (im (k + 2)) made t ^^^ (-1)))), (3, .int (nI t))]) (fun _ => im) (N := T) ?_ ?_ 0 (Nat.zero_le _)
  · show WW _ _ _ _ _ _ _ 7 [(0, .ref k), (1, .int made), (2, .int (alS (im k 0) &&& (orF (im (k + 2)) made T ^^^ (-1)))), (3, .int (nI T))] _ _ _ _
    refine r_iload_n dX2_leftBy_7 rfl ?_
    refine r_aload_n dX2_leftBy_8 rfl ?_
    refine r_geti fl_X2_19 dX2_leftBy_9 (kC0 hC) (lC0 hC) rfl ?_
    refine r_icmp_ge_t (tgt := 40) dX2_leftBy_12 (by decide) (ix_le hT rfl (by omega) (by omega)) ?_
    refine r_iload_n dX2_leftBy_40 rfl ?_
    exact r_iret dX2_leftBy_41 rfl (by rw [lfS, hT, tn_nI (by omega)]) (Nat.le_refl _) (Nat.le_refl _)
  · intro t ht iht
    show WW _ _ _ _ _ _ _ 7 [(0, .ref k), (1, .int made), (2, .int (alS (im k 0) &&& (orF (im (k + 2)) made t ^^^ (-1)))), (3, .int (nI t))] _ _ _ _
    refine r_iload_n dX2_leftBy_7 rfl ?_
    refine r_aload_n dX2_leftBy_8 rfl ?_
    refine r_geti fl_X2_19 dX2_leftBy_9 (kC0 hC) (lC0 hC) rfl ?_
    refine r_icmp_ge_f (tgt := 40) dX2_leftBy_12 (by decide) (ix_nle hT rfl (by omega) (by omega)) ?_
    refine r_iload_n dX2_leftBy_15 rfl ?_
    refine r_iload_n dX2_leftBy_16 rfl ?_
    refine r_N2s cv_X2_54 dX2_leftBy_17 (c_has made (nI t)) ⟨by decide, by decide⟩ (Nat.le_of_ble_eq_true rfl) ⟨Nat.le_refl _, Nat.le_refl _⟩ ?_
    refine r_bz_eq (tgt := 34) dX2_leftBy_20 (by decide) (fun h20 => ?_) (fun h20 => ?_)
    · refine r_iinc dX2_leftBy_34 rfl (by decide) (ix_inc rfl) ?_
      refine r_goto (tgt := 7) dX2_leftBy_37 (by decide) ?_
      refine r_lv (lv' := [(0, .ref k), (1, .int made), (2, .int (alS (im k 0) &&& (orF (im (k + 2)) made (t + 1) ^^^ (-1)))), (3, .int (nI (t + 1)))]) (al_cons rfl (al_cons rfl (al_int rfl (by simp only [orF, and_nor, eq_self, Bool.false_eq_true, Bool.true_eq_false, if_true, if_false, reduceIte, h20]) (al_cons rfl al_nil)))) ?_
      exact iht
    · refine r_iload_n dX2_leftBy_23 rfl ?_
      refine r_aload_n dX2_leftBy_24 rfl ?_
      refine r_getr fl_X2_22 dX2_leftBy_25 (kC0 hC) (lC0 hC) rfl (rrC3 hC) ?_
      refine r_iload_n dX2_leftBy_28 rfl ?_
      refine r_iald (j := t) dX2_leftBy_29 (kC2 hC) (lC2 hC) rfl (by omega) (by decide) ?_
      refine r_iconst (v := (-1)) dX2_leftBy_30 (by decide) ?_
      refine r_ixor dX2_leftBy_31 ?_
      refine r_iand dX2_leftBy_32 ?_
      refine r_istore_n dX2_leftBy_33 (by decide) ?_
      refine r_iinc dX2_leftBy_34 rfl (by decide) (ix_inc rfl) ?_
      refine r_goto (tgt := 7) dX2_leftBy_37 (by decide) ?_
      refine r_lv (lv' := [(0, .ref k), (1, .int made), (2, .int (alS (im k 0) &&& (orF (im (k + 2)) made (t + 1) ^^^ (-1)))), (3, .int (nI (t + 1)))]) (al_cons rfl (al_cons rfl (al_int rfl (by simp only [orF, and_nor, eq_self, Bool.false_eq_true, Bool.true_eq_false, if_true, if_false, reduceIte, h20]) (al_cons rfl al_nil)))) ?_
      exact iht

set_option maxRecDepth 100000 in
set_option maxHeartbeats 4000000 in
theorem c_secretsOf {im : IM} {pl it : Nat} {k : Nat} (hc : CA im k) (made : Int32) : MT YX2_secretsOf 1 0 0 [.ref k, .int made] 137 im (RR pl it) (some (.int (orF (im (k + 3)) made (tn (im k 2)))), 137, im, RR pl it) := by
  obtain ⟨hC, W, T, S, hW, hW8, hT, hT6, hS, hS5⟩ := id hc
  refine mt_of (by decide +kernel) (Nat.le_of_ble_eq_true rfl) ?_
  show WW _ _ _ _ _ _ _ 0 [(0, .ref k), (1, .int made)] [] _ _ _
  refine r_iconst (v := 0) dX2_secretsOf_0 (by decide) ?_
  refine r_istore_n dX2_secretsOf_1 (by decide) ?_
  refine r_iconst (v := 0) dX2_secretsOf_2 (by decide) ?_
  refine r_istore_n dX2_secretsOf_3 (by decide) ?_
  refine r_lv (lv' := [(0, .ref k), (1, .int made), (2, .int (orF (im (k + 3)) made 0)), (3, .int (nI 0))]) (al_cons rfl (al_cons rfl (al_int rfl rfl (al_int rfl (by exact (cI 0)) al_nil)))) ?_
  refine WW.loop (fun t => [(0, .ref k), (1, .int made), (2, .int (orF (im (k + 3)) made t)), (3, .int (nI t))]) (fun _ => im) (N := T) ?_ ?_ 0 (Nat.zero_le _)
  · show WW _ _ _ _ _ _ _ 4 [(0, .ref k), (1, .int made), (2, .int (orF (im (k + 3)) made T)), (3, .int (nI T))] _ _ _ _
    refine r_iload_n dX2_secretsOf_4 rfl ?_
    refine r_aload_n dX2_secretsOf_5 rfl ?_
    refine r_geti fl_X2_19 dX2_secretsOf_6 (kC0 hC) (lC0 hC) rfl ?_
    refine r_icmp_ge_t (tgt := 35) dX2_secretsOf_9 (by decide) (ix_le hT rfl (by omega) (by omega)) ?_
    refine r_iload_n dX2_secretsOf_35 rfl ?_
    exact r_iret dX2_secretsOf_36 rfl (by rw [hT, tn_nI (by omega)]) (Nat.le_refl _) (Nat.le_refl _)
  · intro t ht iht
    show WW _ _ _ _ _ _ _ 4 [(0, .ref k), (1, .int made), (2, .int (orF (im (k + 3)) made t)), (3, .int (nI t))] _ _ _ _
    refine r_iload_n dX2_secretsOf_4 rfl ?_
    refine r_aload_n dX2_secretsOf_5 rfl ?_
    refine r_geti fl_X2_19 dX2_secretsOf_6 (kC0 hC) (lC0 hC) rfl ?_
    refine r_icmp_ge_f (tgt := 35) dX2_secretsOf_9 (by decide) (ix_nle hT rfl (by omega) (by omega)) ?_
    refine r_iload_n dX2_secretsOf_12 rfl ?_
    refine r_iload_n dX2_secretsOf_13 rfl ?_
    refine r_N2s cv_X2_54 dX2_secretsOf_14 (c_has made (nI t)) ⟨by decide, by decide⟩ (Nat.le_of_ble_eq_true rfl) ⟨Nat.le_refl _, Nat.le_refl _⟩ ?_
    refine r_bz_eq (tgt := 29) dX2_secretsOf_17 (by decide) (fun h17 => ?_) (fun h17 => ?_)
    · refine r_iinc dX2_secretsOf_29 rfl (by decide) (ix_inc rfl) ?_
      refine r_goto (tgt := 4) dX2_secretsOf_32 (by decide) ?_
      refine r_lv (lv' := [(0, .ref k), (1, .int made), (2, .int (orF (im (k + 3)) made (t + 1))), (3, .int (nI (t + 1)))]) (al_cons rfl (al_cons rfl (al_int rfl (by simp only [orF, eq_self, Bool.false_eq_true, Bool.true_eq_false, if_true, if_false, reduceIte, h17]) (al_cons rfl al_nil)))) ?_
      exact iht
    · refine r_iload_n dX2_secretsOf_20 rfl ?_
      refine r_aload_n dX2_secretsOf_21 rfl ?_
      refine r_getr fl_X2_25 dX2_secretsOf_22 (kC0 hC) (lC0 hC) rfl (rrC4 hC) ?_
      refine r_iload_n dX2_secretsOf_25 rfl ?_
      refine r_iald (j := t) dX2_secretsOf_26 (kC3 hC) (lC3 hC) rfl (by omega) (by decide) ?_
      refine r_ior dX2_secretsOf_27 ?_
      refine r_istore_n dX2_secretsOf_28 (by decide) ?_
      refine r_iinc dX2_secretsOf_29 rfl (by decide) (ix_inc rfl) ?_
      refine r_goto (tgt := 4) dX2_secretsOf_32 (by decide) ?_
      refine r_lv (lv' := [(0, .ref k), (1, .int made), (2, .int (orF (im (k + 3)) made (t + 1))), (3, .int (nI (t + 1)))]) (al_cons rfl (al_cons rfl (al_int rfl (by simp only [orF, eq_self, Bool.false_eq_true, Bool.true_eq_false, if_true, if_false, reduceIte, h17]) (al_cons rfl al_nil)))) ?_
      exact iht

set_option maxRecDepth 100000 in
set_option maxHeartbeats 4000000 in
theorem c_costOf {im : IM} {pl it : Nat} {k : Nat} (hc : CA im k) (made : Int32) : MT YX2_costOf 1 0 0 [.ref k, .int made] 137 im (RR pl it) (some (.int (smF (im (k + 4)) made (tn (im k 2)))), 137, im, RR pl it) := by
  obtain ⟨hC, W, T, S, hW, hW8, hT, hT6, hS, hS5⟩ := id hc
  refine mt_of (by decide +kernel) (Nat.le_of_ble_eq_true rfl) ?_
  show WW _ _ _ _ _ _ _ 0 [(0, .ref k), (1, .int made)] [] _ _ _
  refine r_iconst (v := 0) dX2_costOf_0 (by decide) ?_
  refine r_istore_n dX2_costOf_1 (by decide) ?_
  refine r_iconst (v := 0) dX2_costOf_2 (by decide) ?_
  refine r_istore_n dX2_costOf_3 (by decide) ?_
  refine r_lv (lv' := [(0, .ref k), (1, .int made), (2, .int (smF (im (k + 4)) made 0)), (3, .int (nI 0))]) (al_cons rfl (al_cons rfl (al_int rfl rfl (al_int rfl (by exact (cI 0)) al_nil)))) ?_
  refine WW.loop (fun t => [(0, .ref k), (1, .int made), (2, .int (smF (im (k + 4)) made t)), (3, .int (nI t))]) (fun _ => im) (N := T) ?_ ?_ 0 (Nat.zero_le _)
  · show WW _ _ _ _ _ _ _ 4 [(0, .ref k), (1, .int made), (2, .int (smF (im (k + 4)) made T)), (3, .int (nI T))] _ _ _ _
    refine r_iload_n dX2_costOf_4 rfl ?_
    refine r_aload_n dX2_costOf_5 rfl ?_
    refine r_geti fl_X2_19 dX2_costOf_6 (kC0 hC) (lC0 hC) rfl ?_
    refine r_icmp_ge_t (tgt := 35) dX2_costOf_9 (by decide) (ix_le hT rfl (by omega) (by omega)) ?_
    refine r_iload_n dX2_costOf_35 rfl ?_
    exact r_iret dX2_costOf_36 rfl (by rw [hT, tn_nI (by omega)]) (Nat.le_refl _) (Nat.le_refl _)
  · intro t ht iht
    show WW _ _ _ _ _ _ _ 4 [(0, .ref k), (1, .int made), (2, .int (smF (im (k + 4)) made t)), (3, .int (nI t))] _ _ _ _
    refine r_iload_n dX2_costOf_4 rfl ?_
    refine r_aload_n dX2_costOf_5 rfl ?_
    refine r_geti fl_X2_19 dX2_costOf_6 (kC0 hC) (lC0 hC) rfl ?_
    refine r_icmp_ge_f (tgt := 35) dX2_costOf_9 (by decide) (ix_nle hT rfl (by omega) (by omega)) ?_
    refine r_iload_n dX2_costOf_12 rfl ?_
    refine r_iload_n dX2_costOf_13 rfl ?_
    refine r_N2s cv_X2_54 dX2_costOf_14 (c_has made (nI t)) ⟨by decide, by decide⟩ (Nat.le_of_ble_eq_true rfl) ⟨Nat.le_refl _, Nat.le_refl _⟩ ?_
    refine r_bz_eq (tgt := 29) dX2_costOf_17 (by decide) (fun h17 => ?_) (fun h17 => ?_)
    · refine r_iinc dX2_costOf_29 rfl (by decide) (ix_inc rfl) ?_
      refine r_goto (tgt := 4) dX2_costOf_32 (by decide) ?_
      refine r_lv (lv' := [(0, .ref k), (1, .int made), (2, .int (smF (im (k + 4)) made (t + 1))), (3, .int (nI (t + 1)))]) (al_cons rfl (al_cons rfl (al_int rfl (by simp only [smF, eq_self, Bool.false_eq_true, Bool.true_eq_false, if_true, if_false, reduceIte, h17]) (al_cons rfl al_nil)))) ?_
      exact iht
    · refine r_iload_n dX2_costOf_20 rfl ?_
      refine r_aload_n dX2_costOf_21 rfl ?_
      refine r_getr fl_X2_28 dX2_costOf_22 (kC0 hC) (lC0 hC) rfl (rrC5 hC) ?_
      refine r_iload_n dX2_costOf_25 rfl ?_
      refine r_iald (j := t) dX2_costOf_26 (kC4 hC) (lC4 hC) rfl (by omega) (by decide) ?_
      refine r_iadd dX2_costOf_27 ?_
      refine r_istore_n dX2_costOf_28 (by decide) ?_
      refine r_iinc dX2_costOf_29 rfl (by decide) (ix_inc rfl) ?_
      refine r_goto (tgt := 4) dX2_costOf_32 (by decide) ?_
      refine r_lv (lv' := [(0, .ref k), (1, .int made), (2, .int (smF (im (k + 4)) made (t + 1))), (3, .int (nI (t + 1)))]) (al_cons rfl (al_cons rfl (al_int rfl (by simp only [smF, eq_self, Bool.false_eq_true, Bool.true_eq_false, if_true, if_false, reduceIte, h17]) (al_cons rfl al_nil)))) ?_
      exact iht

set_option maxRecDepth 100000 in
set_option maxHeartbeats 4000000 in
theorem c_likelyOf {im : IM} {pl it : Nat} {k : Nat} (hc : CA im k) (made : Int32) : MT YX2_likelyOf 1 0 0 [.ref k, .int made] 137 im (RR pl it) (some (.int (smF (im (k + 1)) made (tn (im k 0)))), 137, im, RR pl it) := by
  obtain ⟨hC, W, T, S, hW, hW8, hT, hT6, hS, hS5⟩ := id hc
  refine mt_of (by decide +kernel) (Nat.le_of_ble_eq_true rfl) ?_
  show WW _ _ _ _ _ _ _ 0 [(0, .ref k), (1, .int made)] [] _ _ _
  refine r_iconst (v := 0) dX2_likelyOf_0 (by decide) ?_
  refine r_istore_n dX2_likelyOf_1 (by decide) ?_
  refine r_iconst (v := 0) dX2_likelyOf_2 (by decide) ?_
  refine r_istore_n dX2_likelyOf_3 (by decide) ?_
  refine r_lv (lv' := [(0, .ref k), (1, .int made), (2, .int (smF (im (k + 1)) made 0)), (3, .int (nI 0))]) (al_cons rfl (al_cons rfl (al_int rfl rfl (al_int rfl (by exact (cI 0)) al_nil)))) ?_
  refine WW.loop (fun t => [(0, .ref k), (1, .int made), (2, .int (smF (im (k + 1)) made t)), (3, .int (nI t))]) (fun _ => im) (N := W) ?_ ?_ 0 (Nat.zero_le _)
  · show WW _ _ _ _ _ _ _ 4 [(0, .ref k), (1, .int made), (2, .int (smF (im (k + 1)) made W)), (3, .int (nI W))] _ _ _ _
    refine r_iload_n dX2_likelyOf_4 rfl ?_
    refine r_aload_n dX2_likelyOf_5 rfl ?_
    refine r_geti fl_X2_9 dX2_likelyOf_6 (kC0 hC) (lC0 hC) rfl ?_
    refine r_icmp_ge_t (tgt := 35) dX2_likelyOf_9 (by decide) (ix_le hW rfl (by omega) (by omega)) ?_
    refine r_iload_n dX2_likelyOf_35 rfl ?_
    exact r_iret dX2_likelyOf_36 rfl (by rw [hW, tn_nI (by omega)]) (Nat.le_refl _) (Nat.le_refl _)
  · intro t ht iht
    show WW _ _ _ _ _ _ _ 4 [(0, .ref k), (1, .int made), (2, .int (smF (im (k + 1)) made t)), (3, .int (nI t))] _ _ _ _
    refine r_iload_n dX2_likelyOf_4 rfl ?_
    refine r_aload_n dX2_likelyOf_5 rfl ?_
    refine r_geti fl_X2_9 dX2_likelyOf_6 (kC0 hC) (lC0 hC) rfl ?_
    refine r_icmp_ge_f (tgt := 35) dX2_likelyOf_9 (by decide) (ix_nle hW rfl (by omega) (by omega)) ?_
    refine r_iload_n dX2_likelyOf_12 rfl ?_
    refine r_iload_n dX2_likelyOf_13 rfl ?_
    refine r_N2s cv_X2_54 dX2_likelyOf_14 (c_has made (nI t)) ⟨by decide, by decide⟩ (Nat.le_of_ble_eq_true rfl) ⟨Nat.le_refl _, Nat.le_refl _⟩ ?_
    refine r_bz_eq (tgt := 29) dX2_likelyOf_17 (by decide) (fun h17 => ?_) (fun h17 => ?_)
    · refine r_iinc dX2_likelyOf_29 rfl (by decide) (ix_inc rfl) ?_
      refine r_goto (tgt := 4) dX2_likelyOf_32 (by decide) ?_
      refine r_lv (lv' := [(0, .ref k), (1, .int made), (2, .int (smF (im (k + 1)) made (t + 1))), (3, .int (nI (t + 1)))]) (al_cons rfl (al_cons rfl (al_int rfl (by simp only [smF, eq_self, Bool.false_eq_true, Bool.true_eq_false, if_true, if_false, reduceIte, h17]) (al_cons rfl al_nil)))) ?_
      exact iht
    · refine r_iload_n dX2_likelyOf_20 rfl ?_
      refine r_aload_n dX2_likelyOf_21 rfl ?_
      refine r_getr fl_X2_15 dX2_likelyOf_22 (kC0 hC) (lC0 hC) rfl (rrC1 hC) ?_
      refine r_iload_n dX2_likelyOf_25 rfl ?_
      refine r_iald (j := t) dX2_likelyOf_26 (kC1 hC) (lC1 hC) rfl (by omega) (by decide) ?_
      refine r_iadd dX2_likelyOf_27 ?_
      refine r_istore_n dX2_likelyOf_28 (by decide) ?_
      refine r_iinc dX2_likelyOf_29 rfl (by decide) (ix_inc rfl) ?_
      refine r_goto (tgt := 4) dX2_likelyOf_32 (by decide) ?_
      refine r_lv (lv' := [(0, .ref k), (1, .int made), (2, .int (smF (im (k + 1)) made (t + 1))), (3, .int (nI (t + 1)))]) (al_cons rfl (al_cons rfl (al_int rfl (by simp only [smF, eq_self, Bool.false_eq_true, Bool.true_eq_false, if_true, if_false, reduceIte, h17]) (al_cons rfl al_nil)))) ?_
      exact iht

set_option maxRecDepth 100000 in
set_option maxHeartbeats 4000000 in
theorem c_beliefIn {im : IM} {pl it : Nat} {k : Nat} (hc : CA im k) (x left : Int32) : MT YX2_beliefIn 2 0 0 [.ref k, .int x, .int left] 137 im (RR pl it) (some (.int (beS (im k 0) (im (k + 1)) x left)), 137, im, RR pl it) := by
  obtain ⟨hC, W, T, S, hW, hW8, hT, hT6, hS, hS5⟩ := id hc
  refine mt_of (by decide +kernel) (Nat.le_of_ble_eq_true rfl) ?_
  show WW _ _ _ _ _ _ _ 0 [(0, .ref k), (1, .int x), (2, .int left)] [] _ _ _
  refine r_aload_n dX2_beliefIn_0 rfl ?_
  refine r_iload_n dX2_beliefIn_1 rfl ?_
  refine r_V1s cv_X2_58 dX2_beliefIn_2 (c_likelyOf hc left) ⟨by decide, by decide⟩ (kC0 hC) (lC0 hC) cl_2 (Nat.le_of_ble_eq_true rfl) ⟨Nat.le_refl _, Nat.le_refl _⟩ ?_
  refine r_istore_n dX2_beliefIn_5 (by decide) ?_
  refine r_aload_n dX2_beliefIn_6 rfl ?_
  refine r_iload_n dX2_beliefIn_7 rfl ?_
  refine r_V1s cv_X2_62 dX2_beliefIn_8 (c_hasWay hc x) ⟨by decide, by decide⟩ (kC0 hC) (lC0 hC) cl_2 (Nat.le_of_ble_eq_true rfl) ⟨Nat.le_refl _, Nat.le_refl _⟩ ?_
  refine r_bz_eq (tgt := 26) dX2_beliefIn_11 (by decide) (fun h11 => ?_) (fun h11 => ?_)
  · refine r_iconst (v := 0) dX2_beliefIn_26 (by decide) ?_
    exact r_iret dX2_beliefIn_27 rfl (by simp only [beS, h11, eq_self, Bool.false_eq_true, Bool.true_eq_false, if_true, if_false, reduceIte]) (Nat.le_refl _) (Nat.le_refl _)
  · refine r_iload_n dX2_beliefIn_14 rfl ?_
    refine r_iload_n dX2_beliefIn_15 rfl ?_
    refine r_N2s cv_X2_54 dX2_beliefIn_16 (c_has left x) ⟨by decide, by decide⟩ (Nat.le_of_ble_eq_true rfl) ⟨Nat.le_refl _, Nat.le_refl _⟩ ?_
    refine r_bz_eq (tgt := 26) dX2_beliefIn_19 (by decide) (fun h19 => ?_) (fun h19 => ?_)
    · refine r_iconst (v := 0) dX2_beliefIn_26 (by decide) ?_
      exact r_iret dX2_beliefIn_27 rfl (by simp only [beS, h11, h19, eq_self, Bool.false_eq_true, Bool.true_eq_false, if_true, if_false, reduceIte]) (Nat.le_refl _) (Nat.le_refl _)
    · refine r_iload_n dX2_beliefIn_22 rfl ?_
      refine r_if_gt (tgt := 28) dX2_beliefIn_23 (by decide) (fun h23 => ?_) (fun h23 => ?_)
      · obtain ⟨jw, hjw, hj⟩ := inB_nat (W := W) (by rw [← hW]; exact h11) (by omega)
        have htw : tn x = jw := by rw [hj, tn_nI (by omega)]
        refine r_ldc2 dX2_beliefIn_28 kn_X2_66 ?_
        refine r_aload_n dX2_beliefIn_31 rfl ?_
        refine r_getr fl_X2_15 dX2_beliefIn_32 (kC0 hC) (lC0 hC) rfl (rrC1 hC) ?_
        refine r_iload_n dX2_beliefIn_35 rfl ?_
        refine r_iald (j := jw) dX2_beliefIn_36 (kC1 hC) (lC1 hC) hj (by omega) (by decide) ?_
        refine r_i2l dX2_beliefIn_37 ?_
        refine r_lmul dX2_beliefIn_38 ?_
        refine r_iload_n dX2_beliefIn_39 rfl ?_
        refine r_i2l dX2_beliefIn_40 ?_
        refine r_ldiv dX2_beliefIn_41 (fun q => fa_ngt h23 (fa_zero q)) ?_
        refine r_l2i dX2_beliefIn_42 ?_
        exact r_iret dX2_beliefIn_43 rfl (by simp only [beS, h11, h19, if_neg (fa_ngt h23), htw, eq_self, Bool.false_eq_true, Bool.true_eq_false, if_true, if_false, reduceIte]) (Nat.le_refl _) (Nat.le_refl _)
      · refine r_iconst (v := 0) dX2_beliefIn_26 (by decide) ?_
        exact r_iret dX2_beliefIn_27 rfl (by simp only [beS, h11, h19, if_pos (fa_nlt h23), eq_self, Bool.false_eq_true, Bool.true_eq_false, if_true, if_false, reduceIte]) (Nat.le_refl _) (Nat.le_refl _)
end
section
def b01 (x : Int32) : Prop := x = 0 ∨ x = 1
theorem b01_nar {x : Int32} (h : b01 x) : narrow .boolean (.int x) = .int x ∧ fits .boolean (.int x) = true := by
  rcases h with rfl | rfl
  · exact ⟨nar0, rfl⟩
  · exact ⟨nar1, rfl⟩
theorem b01_bI (b : Bool) : b01 (bI b) := by cases b <;> first | exact Or.inl rfl | exact Or.inr rfl
theorem lt_of_nI {x y : Int32} {a b : Nat} (hx : x = nI a) (hy : y = nI b) (h : x < y) (ha : a < 2147483648) (hb : b < 2147483648) : a < b := by
  rw [hx, hy] at h
  exact (nI_ltI ha hb).mp h
theorem ge_of_nI {x y : Int32} {a b : Nat} (hx : x = nI a) (hy : y = nI b) (h : ¬ x < y) (ha : a < 2147483648) (hb : b < 2147483648) : b ≤ a := by
  rw [hx, hy] at h
  exact Nat.le_of_not_lt (fun q => h ((nI_ltI ha hb).mpr q))
theorem le_of_nI {x y : Int32} {a b : Nat} (hx : x = nI a) (hy : y = nI b) (h : x ≤ y) (ha : a < 2147483648) (hb : b < 2147483648) : a ≤ b := by
  rw [hx, hy] at h
  exact (nI_leI ha hb).mp h
theorem gt_of_nI {x y : Int32} {a b : Nat} (hx : x = nI a) (hy : y = nI b) (h : ¬ x ≤ y) (ha : a < 2147483648) (hb : b < 2147483648) : b < a := by
  rw [hx, hy] at h
  exact Nat.lt_of_not_le (fun q => h ((nI_leI ha hb).mpr q))
theorem isA_apart {a b : Nat} (ha : isA a) (hb : isA b) (h : a ≠ b) : a + 4 ≤ b ∨ b + 4 ≤ a := by
  have key : (affL.all fun a => affL.all fun b => decide (a ≠ b → a + 4 ≤ b ∨ b + 4 ≤ a)) = true := by decide +kernel
  have h1 := List.all_eq_true.mp (List.all_eq_true.mp key a ha) b hb
  exact of_decide_eq_true h1 h
theorem isA_ge {a : Nat} (ha : isA a) : 17 ≤ a ∧ a + 4 ≤ 120 ∧ (a + 4 ≤ 21 ∨ 23 ≤ a) ∧ (a + 4 ≤ 103 ∨ 111 ≤ a) := affAll (P := fun a => 17 ≤ a ∧ a + 4 ≤ 120 ∧ (a + 4 ≤ 21 ∨ 23 ≤ a) ∧ (a + 4 ≤ 103 ∨ 111 ≤ a)) (by decide +kernel) ha
/-- a copy of one state of affairs over another, t servants of it -/
def cpT (im : IM) (a b t : Nat) : IM := fun k j => if k = a ∧ j < 6 then im b j else if k = a + 1 ∧ j < t then im (b + 1) j else if k = a + 2 ∧ j < t then im (b + 2) j else if k = a + 3 ∧ j < t then im (b + 3) j else im k j
def cpA (im : IM) (a b : Nat) : IM := cpT im a b 5
theorem cpT_in {im : IM} {a b : Nat} : st (st (st (st (st (st im a 0 (im b 0)) a 1 (im b 1)) a 2 (im b 2)) a 3 (im b 3)) a 4 (im b 4)) a 5 (im b 5) = cpT im a b 0 := by
  funext k j
  simp only [st_at, cpT]
  grind
theorem cpT_go {im : IM} {a b t : Nat} : st (st (st (cpT im a b t) (a + 1) t (im (b + 1) t)) (a + 2) t (im (b + 2) t)) (a + 3) t (im (b + 3) t) = cpT im a b (t + 1) := by
  funext k j
  simp only [st_at, cpT]
  grind
theorem cpT_off {im : IM} {a b t k j : Nat} (h : k < a ∨ a + 4 ≤ k) : cpT im a b t k j = im k j := by
  simp only [cpT]
  grind
/-- what is so begins anew -/
def bgT (im : IM) (c t : Nat) : IM := fun k j => if k = 17 ∧ j < 6 then (if j = 2 ∨ j = 3 then bI (decide (0 < im c 0)) else 0) else if k = 18 ∧ j < t then im (c + 5) j else if k = 19 ∧ j < t then 0 else if k = 20 ∧ j < t then 0 else im k j
/-- a day: since, got of a servant -/
def pdS (im : IM) (c j : Nat) : Int32 := if hasB (im 17 5) (nI j) = true then (if im 20 j + 1 < im c 10 then im 20 j + 1 else 0) else im 20 j
def pdG (im : IM) (c j : Nat) : Int32 := if hasB (im 17 5) (nI j) = true then (if im 20 j + 1 < im c 10 then im 19 j else mnI (im 19 j + im c 9) 999999) else im 19 j
def pdT (im : IM) (c t : Nat) : IM := fun k j => if k = 17 ∧ j = 0 then im 17 0 + 1 else if k = 17 ∧ j = 1 then (if im 17 2 = 0 then im 17 1 else im 17 1 + 1) else if k = 19 ∧ j < t then pdG im c j else if k = 20 ∧ j < t then pdS im c j else im k j
def pdX (im : IM) (c : Nat) : IM := pdT im c (tn (im c 6))
def cmB (im : IM) (c : Nat) (t : Int32) : Bool := !(decide (im 17 2 = 0)) && (inB t 0 (im c 2 - 1) && (!(hasB (im 17 4) t) && (decide (im 17 3 = 0) || decide (im (c + 3) (tn t) = 0))))
def hrV (h s is : Int32) : Int32 := if is = 0 then h &&& ((1 <<< (s &&& 31)) ^^^ (-1)) else h ||| (1 <<< (s &&& 31))
def shX (im : IM) (s is : Int32) : IM := if inB s 0 4 = true then st (st im 17 5 (hrV (im 17 5) s is)) 20 (tn s) 0 else im
def giX (im : IM) (s m : Int32) : IM := if inB s 0 4 = true then st im 19 (tn s) (mnI (im 19 (tn s) + m) 999999) else im
/-- the ring -/
def rmX (im : IM) : IM := st (st (cpA im (23 + 4 * tn (im 21 1)) 17) 21 1 (nI ((tn (im 21 1) + 1) % 20))) 21 2 (mnI (im 21 2 + 1) 20)
def rcX (im : IM) : IM := if im 21 2 = 0 then im else cpA (st (st im 21 1 (nI ((tn (im 21 1) + 19) % 20))) 21 2 (im 21 2 - 1)) 17 (23 + 4 * ((tn (im 21 1) + 19) % 20))
def bkX (im : IM) (x : Int32) : IM := if im 106 1 < 15 then st (st im 107 (tn (im 106 1)) x) 106 1 (im 106 1 + 1) else im
def foF (row : Nat → Int32) (x : Int32) : Nat → Nat → Int32
  | _, 0 => -1
  | t, m + 1 => if row t = x then foF row x (t + 1) m else nI t
def drS (s : Int32) : Int32 := ((s.toInt64 * (1103515245 : Int64) + (12345 : Int64)) - (s.toInt64 * (1103515245 : Int64) + (12345 : Int64)) / (2147483648 : Int64) * (2147483648 : Int64)).toInt32
def drV (s n : Int32) : Int32 := if n ≤ 0 then 0 else s / 65536 - s / 65536 / n * n
def hsX (im : IM) (x g : Int32) : IM := if im 103 2 < 6 then st (st (st im 104 (tn (im 103 2)) x) 105 (tn (im 103 2)) g) 103 2 (im 103 2 + 1) else im
def gmB (n r e : Int32) : Bool := !(decide (e ≤ 0)) && decide (n - n / e * e = r)
def ftF (d c : Nat → Int32) (r e : Int32) : Nat → Bool
  | 0 => true
  | t + 1 => ftF d c r e t && decide (bI (gmB (d t) r e) = c t)
def fgF (d c : Nat → Int32) (e : Int32) (h : Nat) : Nat → Int32
  | 0 => 0
  | t + 1 => if ftF d c (nI t) e h = true then fgF d c e h t ||| (1 <<< (nI t &&& 31)) else fgF d c e h t
def ysF (s n e : Int32) : Nat → Int32
  | 0 => 0
  | t + 1 => if (hasB s (nI t) && gmB n (nI t) e) = true then ysF s n e t + 1 else ysF s n e t
def gpS (s n e : Int32) : Int32 := mxI (ysF s n e (tn e)) (bcI s - ysF s n e (tn e))
/-- the best question: (best, least) behind n of them -/
def bqF (s e : Int32) : Nat → Int32 × Int32
  | 0 => (-1, bcI s)
  | n + 1 => if (bqF s e n).2 ≤ gpS s (nI n) e then bqF s e n else (nI n, gpS s (nI n) e)
end
section
set_option maxRecDepth 100000 in
set_option maxHeartbeats 4000000 in
theorem c_copyFrom {im : IM} {pl it : Nat} {a b : Nat} (ha : isA a) (hb : isA b) (hab : a ≠ b) (h2 : b01 (im b 2)) (h3 : b01 (im b 3)) : MT YX0_copyFrom 0 0 0 [.ref a, .ref b] 137 im (RR pl it) (none, 137, cpA im a b, RR pl it) := by
  have hap := isA_apart ha hb hab
  refine mt_of (by decide +kernel) (Nat.le_of_ble_eq_true rfl) ?_
  show WW _ _ _ _ _ _ _ 0 [(0, .ref a), (1, .ref b)] [] _ _ _
  refine r_aload_n dX0_copyFrom_0 rfl ?_
  refine r_aload_n dX0_copyFrom_1 rfl ?_
  refine r_geti fl_X0_9 dX0_copyFrom_2 (kA0 hb) (lA0 hb) rfl ?_
  refine r_pi fl_X0_9 dX0_copyFrom_5 (kA0 ha) (lA0 ha) rfl ?_
  refine r_aload_n dX0_copyFrom_8 rfl ?_
  refine r_aload_n dX0_copyFrom_9 rfl ?_
  refine r_getx (x := im b 1) fl_X0_15 dX0_copyFrom_10 (kA0 hb) (lA0 hb) rfl (by simp only [st_at]; grind) ?_
  refine r_pi fl_X0_15 dX0_copyFrom_13 (kA0 ha) (lA0 ha) rfl ?_
  refine r_aload_n dX0_copyFrom_16 rfl ?_
  refine r_aload_n dX0_copyFrom_17 rfl ?_
  refine r_getx (x := im b 2) fl_X0_18 dX0_copyFrom_18 (kA0 hb) (lA0 hb) rfl (by simp only [st_at]; grind) ?_
  refine r_pz fl_X0_18 dX0_copyFrom_21 (kA0 ha) (lA0 ha) rfl (b01_nar h2) ?_
  refine r_aload_n dX0_copyFrom_24 rfl ?_
  refine r_aload_n dX0_copyFrom_25 rfl ?_
  refine r_getx (x := im b 3) fl_X0_22 dX0_copyFrom_26 (kA0 hb) (lA0 hb) rfl (by simp only [st_at]; grind) ?_
  refine r_pz fl_X0_22 dX0_copyFrom_29 (kA0 ha) (lA0 ha) rfl (b01_nar h3) ?_
  refine r_aload_n dX0_copyFrom_32 rfl ?_
  refine r_aload_n dX0_copyFrom_33 rfl ?_
  refine r_getx (x := im b 4) fl_X0_25 dX0_copyFrom_34 (kA0 hb) (lA0 hb) rfl (by simp only [st_at]; grind) ?_
  refine r_pi fl_X0_25 dX0_copyFrom_37 (kA0 ha) (lA0 ha) rfl ?_
  refine r_aload_n dX0_copyFrom_40 rfl ?_
  refine r_aload_n dX0_copyFrom_41 rfl ?_
  refine r_getx (x := im b 5) fl_X0_28 dX0_copyFrom_42 (kA0 hb) (lA0 hb) rfl (by simp only [st_at]; grind) ?_
  refine r_pi fl_X0_28 dX0_copyFrom_45 (kA0 ha) (lA0 ha) rfl ?_
  refine r_iconst (v := 0) dX0_copyFrom_48 (by decide) ?_
  refine r_istore_n dX0_copyFrom_49 (by decide) ?_
  refine r_lv (lv' := [(0, .ref a), (1, .ref b), (2, .int (nI 0))]) (al_cons rfl (al_cons rfl (al_int rfl (by exact (cI 0)) al_nil))) ?_
  refine r_im (im' := cpT im a b 0) cpT_in ?_
  refine WW.loop (fun t => [(0, .ref a), (1, .ref b), (2, .int (nI t))]) (fun t => cpT im a b t) (N := 5) ?_ ?_ 0 (Nat.zero_le _)
  · show WW _ _ _ _ _ _ _ 50 [(0, .ref a), (1, .ref b), (2, .int (nI 5))] _ _ (cpT im a b 5) _
    refine r_iload_n dX0_copyFrom_50 rfl ?_
    refine r_iconst (v := 5) dX0_copyFrom_51 (by decide) ?_
    refine r_icmp_ge_t (tgt := 97) dX0_copyFrom_52 (by decide) (ix_le (cI 5) rfl (by omega) (by omega)) ?_
    exact r_vret dX0_copyFrom_97 rfl rfl (Nat.le_refl _) (Nat.le_refl _)
  · intro t ht iht
    show WW _ _ _ _ _ _ _ 50 [(0, .ref a), (1, .ref b), (2, .int (nI t))] _ _ (cpT im a b t) _
    refine r_iload_n dX0_copyFrom_50 rfl ?_
    refine r_iconst (v := 5) dX0_copyFrom_51 (by decide) ?_
    refine r_icmp_ge_f (tgt := 97) dX0_copyFrom_52 (by decide) (ix_nle (cI 5) rfl (by omega) (by omega)) ?_
    refine r_aload_n dX0_copyFrom_55 rfl ?_
    refine r_getr fl_X0_31 dX0_copyFrom_56 (kA0 ha) (lA0 ha) rfl (rrA6 ha) ?_
    refine r_iload_n dX0_copyFrom_59 rfl ?_
    refine r_aload_n dX0_copyFrom_60 rfl ?_
    refine r_getr fl_X0_31 dX0_copyFrom_61 (kA0 hb) (lA0 hb) rfl (rrA6 hb) ?_
    refine r_iload_n dX0_copyFrom_64 rfl ?_
    refine r_ialx (j := t) (x := im (b + 1) t) dX0_copyFrom_65 (kA1 hb) (lA1 hb) rfl (by omega) (by decide) (by simp only [st_at, cpT]; grind) ?_
    refine r_as (j := t) dX0_copyFrom_66 (kA1 ha) (lA1 ha) rfl (by omega) (by decide) ?_
    refine r_aload_n dX0_copyFrom_67 rfl ?_
    refine r_getr fl_X0_35 dX0_copyFrom_68 (kA0 ha) (lA0 ha) rfl (rrA7 ha) ?_
    refine r_iload_n dX0_copyFrom_71 rfl ?_
    refine r_aload_n dX0_copyFrom_72 rfl ?_
    refine r_getr fl_X0_35 dX0_copyFrom_73 (kA0 hb) (lA0 hb) rfl (rrA7 hb) ?_
    refine r_iload_n dX0_copyFrom_76 rfl ?_
    refine r_ialx (j := t) (x := im (b + 2) t) dX0_copyFrom_77 (kA2 hb) (lA2 hb) rfl (by omega) (by decide) (by simp only [st_at, cpT]; grind) ?_
    refine r_as (j := t) dX0_copyFrom_78 (kA2 ha) (lA2 ha) rfl (by omega) (by decide) ?_
    refine r_aload_n dX0_copyFrom_79 rfl ?_
    refine r_getr fl_X0_38 dX0_copyFrom_80 (kA0 ha) (lA0 ha) rfl (rrA8 ha) ?_
    refine r_iload_n dX0_copyFrom_83 rfl ?_
    refine r_aload_n dX0_copyFrom_84 rfl ?_
    refine r_getr fl_X0_38 dX0_copyFrom_85 (kA0 hb) (lA0 hb) rfl (rrA8 hb) ?_
    refine r_iload_n dX0_copyFrom_88 rfl ?_
    refine r_ialx (j := t) (x := im (b + 3) t) dX0_copyFrom_89 (kA3 hb) (lA3 hb) rfl (by omega) (by decide) (by simp only [st_at, cpT]; grind) ?_
    refine r_as (j := t) dX0_copyFrom_90 (kA3 ha) (lA3 ha) rfl (by omega) (by decide) ?_
    refine r_iinc dX0_copyFrom_91 rfl (by decide) (ix_inc rfl) ?_
    refine r_goto (tgt := 50) dX0_copyFrom_94 (by decide) ?_
    refine r_lv (lv' := [(0, .ref a), (1, .ref b), (2, .int (nI (t + 1)))]) (al_cons rfl (al_cons rfl (al_cons rfl al_nil))) ?_
    refine r_im (im' := cpT im a b (t + 1)) cpT_go ?_
    exact iht

theorem CA.keep {im im' : IM} {c : Nat} (h : CA im c) (h0 : im' c 0 = im c 0) (h2 : im' c 2 = im c 2) (h6 : im' c 6 = im c 6) : CA im' c := by
  obtain ⟨hC, W, T, S, hW, hW8, hT, hT6, hS, hS5⟩ := h
  exact ⟨hC, W, T, S, h0.trans hW, hW8, h2.trans hT, hT6, h6.trans hS, hS5⟩
theorem CA.keepR {im im' : IM} {c : Nat} (h : CA im c) (h0 : im' c = im c) : CA im' c := h.keep (by rw [h0]) (by rw [h0]) (by rw [h0])
theorem bgT_in {im : IM} {c : Nat} : st (st (st (st (st (st im 17 0 0) 17 1 0) 17 2 (bI (decide (0 < im c 0)))) 17 3 (bI (decide (0 < im c 0)))) 17 4 0) 17 5 0 = bgT im c 0 := by
  funext k j
  simp only [st_at, bgT]
  grind
theorem bgT_go {im : IM} {c t : Nat} : st (st (st (bgT im c t) 18 t (im (c + 5) t)) 19 t 0) 20 t 0 = bgT im c (t + 1) := by
  funext k j
  simp only [st_at, bgT]
  grind

set_option maxRecDepth 100000 in
set_option maxHeartbeats 4000000 in
theorem c_begin {im : IM} {pl it c : Nat} (hc : CA im c) : MT YX0_begin 1 0 0 [.ref 17, .ref c] 137 im (RR pl it) (none, 137, bgT im c 5, RR pl it) := by
  obtain ⟨hC, W, T, S, hW, hW8, hT, hT6, hS, hS5⟩ := id hc
  have hcc : c = 3 ∨ c = 10 := hC
  refine mt_of (by decide +kernel) (Nat.le_of_ble_eq_true rfl) ?_
  show WW _ _ _ _ _ _ _ 0 [(0, .ref 17), (1, .ref c)] [] _ _ _
  refine r_aload_n dX0_begin_0 rfl ?_
  refine r_iconst (v := 0) dX0_begin_1 (by decide) ?_
  refine r_pi fl_X0_9 dX0_begin_2 kd_17 ln_17 rfl ?_
  refine r_aload_n dX0_begin_5 rfl ?_
  refine r_iconst (v := 0) dX0_begin_6 (by decide) ?_
  refine r_pi fl_X0_15 dX0_begin_7 kd_17 ln_17 rfl ?_
  refine r_aload_n dX0_begin_10 rfl ?_
  refine r_aload_n dX0_begin_11 rfl ?_
  refine r_V0s cv_X0_41 dX0_begin_12 (by have q := c_stands (pl := pl) (it := it) (im := st (st im 17 0 0) 17 1 0) (hc.keepR (by funext j; simp only [st_at]; grind)); rw [show (st (st im 17 0 0) 17 1 0) c 0 = im c 0 by simp only [st_at]; grind] at q; exact q) ⟨by decide, by decide⟩ (kC0 hC) (lC0 hC) cl_2 (Nat.le_of_ble_eq_true rfl) ⟨Nat.le_refl _, Nat.le_refl _⟩ ?_
  refine r_pz fl_X0_18 dX0_begin_15 kd_17 ln_17 rfl ⟨bI_nar _, fit_bI _⟩ ?_
  refine r_aload_n dX0_begin_18 rfl ?_
  refine r_aload_n dX0_begin_19 rfl ?_
  refine r_V0s cv_X0_41 dX0_begin_20 (by have q := c_stands (pl := pl) (it := it) (im := st (st (st im 17 0 0) 17 1 0) 17 2 (bI (decide (0 < im c 0)))) (hc.keepR (by funext j; simp only [st_at]; grind)); rw [show (st (st (st im 17 0 0) 17 1 0) 17 2 (bI (decide (0 < im c 0)))) c 0 = im c 0 by simp only [st_at]; grind] at q; exact q) ⟨by decide, by decide⟩ (kC0 hC) (lC0 hC) cl_2 (Nat.le_of_ble_eq_true rfl) ⟨Nat.le_refl _, Nat.le_refl _⟩ ?_
  refine r_pz fl_X0_22 dX0_begin_23 kd_17 ln_17 rfl ⟨bI_nar _, fit_bI _⟩ ?_
  refine r_aload_n dX0_begin_26 rfl ?_
  refine r_iconst (v := 0) dX0_begin_27 (by decide) ?_
  refine r_pi fl_X0_25 dX0_begin_28 kd_17 ln_17 rfl ?_
  refine r_aload_n dX0_begin_31 rfl ?_
  refine r_iconst (v := 0) dX0_begin_32 (by decide) ?_
  refine r_pi fl_X0_28 dX0_begin_33 kd_17 ln_17 rfl ?_
  refine r_iconst (v := 0) dX0_begin_36 (by decide) ?_
  refine r_istore_n dX0_begin_37 (by decide) ?_
  refine r_lv (lv' := [(0, .ref 17), (1, .ref c), (2, .int (nI 0))]) (al_cons rfl (al_cons rfl (al_int rfl (by exact (cI 0)) al_nil))) ?_
  refine r_im (im' := bgT im c 0) bgT_in ?_
  refine WW.loop (fun t => [(0, .ref 17), (1, .ref c), (2, .int (nI t))]) (fun t => bgT im c t) (N := 5) ?_ ?_ 0 (Nat.zero_le _)
  · show WW _ _ _ _ _ _ _ 38 [(0, .ref 17), (1, .ref c), (2, .int (nI 5))] _ _ (bgT im c 5) _
    refine r_iload_n dX0_begin_38 rfl ?_
    refine r_iconst (v := 5) dX0_begin_39 (by decide) ?_
    refine r_icmp_ge_t (tgt := 75) dX0_begin_40 (by decide) (ix_le (cI 5) rfl (by omega) (by omega)) ?_
    exact r_vret dX0_begin_75 rfl rfl (Nat.le_refl _) (Nat.le_refl _)
  · intro t ht iht
    show WW _ _ _ _ _ _ _ 38 [(0, .ref 17), (1, .ref c), (2, .int (nI t))] _ _ (bgT im c t) _
    refine r_iload_n dX0_begin_38 rfl ?_
    refine r_iconst (v := 5) dX0_begin_39 (by decide) ?_
    refine r_icmp_ge_f (tgt := 75) dX0_begin_40 (by decide) (ix_nle (cI 5) rfl (by omega) (by omega)) ?_
    refine r_aload_n dX0_begin_43 rfl ?_
    refine r_getr fl_X0_31 dX0_begin_44 kd_17 ln_17 rfl rfl ?_
    refine r_iload_n dX0_begin_47 rfl ?_
    refine r_aload_n dX0_begin_48 rfl ?_
    refine r_getr fl_X0_47 dX0_begin_49 (kC0 hC) (lC0 hC) rfl (rrC7 hC) ?_
    refine r_iload_n dX0_begin_52 rfl ?_
    refine r_ialx (j := t) (x := im (c + 5) t) dX0_begin_53 (kC5 hC) (lC5 hC) rfl (by omega) (by decide) (by simp only [bgT]; grind) ?_
    refine r_as (j := t) dX0_begin_54 kd_18 ln_18 rfl (by omega) (by decide) ?_
    refine r_aload_n dX0_begin_55 rfl ?_
    refine r_getr fl_X0_35 dX0_begin_56 kd_17 ln_17 rfl rfl ?_
    refine r_iload_n dX0_begin_59 rfl ?_
    refine r_iconst (v := 0) dX0_begin_60 (by decide) ?_
    refine r_as (j := t) dX0_begin_61 kd_19 ln_19 rfl (by omega) (by decide) ?_
    refine r_aload_n dX0_begin_62 rfl ?_
    refine r_getr fl_X0_38 dX0_begin_63 kd_17 ln_17 rfl rfl ?_
    refine r_iload_n dX0_begin_66 rfl ?_
    refine r_iconst (v := 0) dX0_begin_67 (by decide) ?_
    refine r_as (j := t) dX0_begin_68 kd_20 ln_20 rfl (by omega) (by decide) ?_
    refine r_iinc dX0_begin_69 rfl (by decide) (ix_inc rfl) ?_
    refine r_goto (tgt := 38) dX0_begin_72 (by decide) ?_
    refine r_lv (lv' := [(0, .ref 17), (1, .ref c), (2, .int (nI (t + 1)))]) (al_cons rfl (al_cons rfl (al_cons rfl al_nil))) ?_
    refine r_im (im' := bgT im c (t + 1)) bgT_go ?_
    exact iht

set_option maxRecDepth 100000 in
set_option maxHeartbeats 4000000 in
theorem c_canMake {im : IM} {pl it c : Nat} (hc : CA im c) (t : Int32) : MT YX0_canMake 2 0 0 [.ref 17, .ref c, .int t] 137 im (RR pl it) (some (.int (bI (cmB im c t))), 137, im, RR pl it) := by
  obtain ⟨hC, W, T, S, hW, hW8, hT, hT6, hS, hS5⟩ := id hc
  have hcc : c = 3 ∨ c = 10 := hC
  refine mt_of (by decide +kernel) (Nat.le_of_ble_eq_true rfl) ?_
  show WW _ _ _ _ _ _ _ 0 [(0, .ref 17), (1, .ref c), (2, .int t)] [] _ _ _
  refine r_aload_n dX0_canMake_0 rfl ?_
  refine r_geti fl_X0_18 dX0_canMake_1 kd_17 ln_17 rfl ?_
  refine r_if_eq (tgt := 46) dX0_canMake_4 (by decide) (fun h4 => ?_) (fun h4 => ?_)
  · refine r_iconst (v := 0) dX0_canMake_46 (by decide) ?_
    exact r_zret dX0_canMake_47 rfl nar0 (by simp only [cmB, bI, Bool.not_true, Bool.not_false, Bool.true_and, Bool.false_and, Bool.and_true, Bool.and_false, Bool.or_false, Bool.or_true, Bool.false_or, Bool.true_or, decide_true, decide_false, eq_self, Bool.false_eq_true, Bool.true_eq_false, if_true, if_false, reduceIte, h4]) (Nat.le_refl _) (Nat.le_refl _)
  · refine r_aload_n dX0_canMake_7 rfl ?_
    refine r_iload_n dX0_canMake_8 rfl ?_
    refine r_V1s cv_X0_65 dX0_canMake_9 (c_hasTest hc t) ⟨by decide, by decide⟩ (kC0 hC) (lC0 hC) cl_2 (Nat.le_of_ble_eq_true rfl) ⟨Nat.le_refl _, Nat.le_refl _⟩ ?_
    refine r_bz_eq (tgt := 46) dX0_canMake_12 (by decide) (fun h12 => ?_) (fun h12 => ?_)
    · refine r_iconst (v := 0) dX0_canMake_46 (by decide) ?_
      exact r_zret dX0_canMake_47 rfl nar0 (by simp only [cmB, bI, Bool.not_true, Bool.not_false, Bool.true_and, Bool.false_and, Bool.and_true, Bool.and_false, Bool.or_false, Bool.or_true, Bool.false_or, Bool.true_or, decide_true, decide_false, eq_self, Bool.false_eq_true, Bool.true_eq_false, if_true, if_false, reduceIte, h4, h12]) (Nat.le_refl _) (Nat.le_refl _)
    · refine r_aload_n dX0_canMake_15 rfl ?_
      refine r_geti fl_X0_25 dX0_canMake_16 kd_17 ln_17 rfl ?_
      refine r_iload_n dX0_canMake_19 rfl ?_
      refine r_N2s cv_X0_51 dX0_canMake_20 (c_has (im 17 4) t) ⟨by decide, by decide⟩ (Nat.le_of_ble_eq_true rfl) ⟨Nat.le_refl _, Nat.le_refl _⟩ ?_
      refine r_bz_ne (tgt := 46) dX0_canMake_23 (by decide) (fun h23 => ?_) (fun h23 => ?_)
      · refine r_iconst (v := 0) dX0_canMake_46 (by decide) ?_
        exact r_zret dX0_canMake_47 rfl nar0 (by simp only [cmB, bI, Bool.not_true, Bool.not_false, Bool.true_and, Bool.false_and, Bool.and_true, Bool.and_false, Bool.or_false, Bool.or_true, Bool.false_or, Bool.true_or, decide_true, decide_false, eq_self, Bool.false_eq_true, Bool.true_eq_false, if_true, if_false, reduceIte, h4, h12, h23]) (Nat.le_refl _) (Nat.le_refl _)
      · refine r_aload_n dX0_canMake_26 rfl ?_
        refine r_geti fl_X0_22 dX0_canMake_27 kd_17 ln_17 rfl ?_
        refine r_if_eq (tgt := 42) dX0_canMake_30 (by decide) (fun h30 => ?_) (fun h30 => ?_)
        · refine r_iconst (v := 1) dX0_canMake_42 (by decide) ?_
          refine r_goto (tgt := 47) dX0_canMake_43 (by decide) ?_
          exact r_zret dX0_canMake_47 rfl nar1 (by simp only [cmB, bI, Bool.not_true, Bool.not_false, Bool.true_and, Bool.false_and, Bool.and_true, Bool.and_false, Bool.or_false, Bool.or_true, Bool.false_or, Bool.true_or, decide_true, decide_false, eq_self, Bool.false_eq_true, Bool.true_eq_false, if_true, if_false, reduceIte, h4, h12, h23, h30]) (Nat.le_refl _) (Nat.le_refl _)
        · obtain ⟨jw, hjw, hj⟩ := inB_nat (W := T) (by rw [← hT]; exact h12) (by omega)
          have htt : tn t = jw := by rw [hj, tn_nI (by omega)]
          refine r_aload_n dX0_canMake_33 rfl ?_
          refine r_getr fl_X0_69 dX0_canMake_34 (kC0 hC) (lC0 hC) rfl (rrC4 hC) ?_
          refine r_iload_n dX0_canMake_37 rfl ?_
          refine r_iald (j := jw) dX0_canMake_38 (kC3 hC) (lC3 hC) hj (by omega) (by decide) ?_
          refine r_if_ne (tgt := 46) dX0_canMake_39 (by decide) (fun h39 => ?_) (fun h39 => ?_)
          · refine r_iconst (v := 0) dX0_canMake_46 (by decide) ?_
            exact r_zret dX0_canMake_47 rfl nar0 (by simp only [cmB, htt, bI, Bool.not_true, Bool.not_false, Bool.true_and, Bool.false_and, Bool.and_true, Bool.and_false, Bool.or_false, Bool.or_true, Bool.false_or, Bool.true_or, decide_true, decide_false, eq_self, Bool.false_eq_true, Bool.true_eq_false, if_true, if_false, reduceIte, h4, h12, h23, h30, h39]) (Nat.le_refl _) (Nat.le_refl _)
          · refine r_iconst (v := 1) dX0_canMake_42 (by decide) ?_
            refine r_goto (tgt := 47) dX0_canMake_43 (by decide) ?_
            exact r_zret dX0_canMake_47 rfl nar1 (by simp only [cmB, htt, bI, Bool.not_true, Bool.not_false, Bool.true_and, Bool.false_and, Bool.and_true, Bool.and_false, Bool.or_false, Bool.or_true, Bool.false_or, Bool.true_or, decide_true, decide_false, eq_self, Bool.false_eq_true, Bool.true_eq_false, if_true, if_false, reduceIte, h4, h12, h23, h30, h39]) (Nat.le_refl _) (Nat.le_refl _)

set_option maxRecDepth 100000 in
set_option maxHeartbeats 4000000 in
theorem c_setHired {im : IM} {pl it : Nat} (s is : Int32) : MT YX0_setHired 1 0 0 [.ref 17, .int s, .int is] 137 im (RR pl it) (none, 137, shX im s is, RR pl it) := by
  refine mt_of (by decide +kernel) (Nat.le_of_ble_eq_true rfl) ?_
  show WW _ _ _ _ _ _ _ 0 [(0, .ref 17), (1, .int s), (2, .int is)] [] _ _ _
  refine r_iload_n dX0_setHired_0 rfl ?_
  refine r_iconst (v := 0) dX0_setHired_1 (by decide) ?_
  refine r_iconst (v := 4) dX0_setHired_2 (by decide) ?_
  refine r_N3s cv_X0_72 dX0_setHired_3 (c_within s 0 4) ⟨by decide, by decide⟩ (Nat.le_of_ble_eq_true rfl) ⟨Nat.le_refl _, Nat.le_refl _⟩ ?_
  refine r_bz_ne (tgt := 10) dX0_setHired_6 (by decide) (fun h6 => ?_) (fun h6 => ?_)
  · obtain ⟨jw, hjw, hj⟩ := inB_nat (W := 5) (w := s) h6 (by omega)
    have htt : tn s = jw := by rw [hj, tn_nI (by omega)]
    refine r_aload_n dX0_setHired_10 rfl ?_
    refine r_iload_n dX0_setHired_11 rfl ?_
    refine r_if_eq (tgt := 26) dX0_setHired_12 (by decide) (fun h12 => ?_) (fun h12 => ?_)
    · refine r_aload_n dX0_setHired_26 rfl ?_
      refine r_geti fl_X0_28 dX0_setHired_27 kd_17 ln_17 rfl ?_
      refine r_iconst (v := 1) dX0_setHired_30 (by decide) ?_
      refine r_iload_n dX0_setHired_31 rfl ?_
      refine r_ishl dX0_setHired_32 ?_
      refine r_iconst (v := (-1)) dX0_setHired_33 (by decide) ?_
      refine r_ixor dX0_setHired_34 ?_
      refine r_iand dX0_setHired_35 ?_
      refine r_pi fl_X0_28 dX0_setHired_36 kd_17 ln_17 rfl ?_
      refine r_aload_n dX0_setHired_39 rfl ?_
      refine r_getr fl_X0_38 dX0_setHired_40 kd_17 ln_17 rfl rfl ?_
      refine r_iload_n dX0_setHired_43 rfl ?_
      refine r_iconst (v := 0) dX0_setHired_44 (by decide) ?_
      refine r_as (j := jw) dX0_setHired_45 kd_20 ln_20 hj (by omega) (by decide) ?_
      exact r_vret dX0_setHired_46 rfl (by simp only [shX, hrV, eq_self, Bool.false_eq_true, Bool.true_eq_false, if_true, if_false, reduceIte, h6, h12, htt]) (Nat.le_refl _) (Nat.le_refl _)
    · refine r_aload_n dX0_setHired_15 rfl ?_
      refine r_geti fl_X0_28 dX0_setHired_16 kd_17 ln_17 rfl ?_
      refine r_iconst (v := 1) dX0_setHired_19 (by decide) ?_
      refine r_iload_n dX0_setHired_20 rfl ?_
      refine r_ishl dX0_setHired_21 ?_
      refine r_ior dX0_setHired_22 ?_
      refine r_goto (tgt := 36) dX0_setHired_23 (by decide) ?_
      refine r_pi fl_X0_28 dX0_setHired_36 kd_17 ln_17 rfl ?_
      refine r_aload_n dX0_setHired_39 rfl ?_
      refine r_getr fl_X0_38 dX0_setHired_40 kd_17 ln_17 rfl rfl ?_
      refine r_iload_n dX0_setHired_43 rfl ?_
      refine r_iconst (v := 0) dX0_setHired_44 (by decide) ?_
      refine r_as (j := jw) dX0_setHired_45 kd_20 ln_20 hj (by omega) (by decide) ?_
      exact r_vret dX0_setHired_46 rfl (by simp only [shX, hrV, eq_self, Bool.false_eq_true, Bool.true_eq_false, if_true, if_false, reduceIte, h6, h12, htt]) (Nat.le_refl _) (Nat.le_refl _)
  · exact r_vret dX0_setHired_9 rfl (by simp only [shX, hrV, eq_self, Bool.false_eq_true, Bool.true_eq_false, if_true, if_false, reduceIte, h6]) (Nat.le_refl _) (Nat.le_refl _)

set_option maxRecDepth 100000 in
set_option maxHeartbeats 4000000 in
theorem c_give {im : IM} {pl it : Nat} (s m : Int32) : MT YX0_give 1 0 0 [.ref 17, .int s, .int m] 137 im (RR pl it) (none, 137, giX im s m, RR pl it) := by
  refine mt_of (by decide +kernel) (Nat.le_of_ble_eq_true rfl) ?_
  show WW _ _ _ _ _ _ _ 0 [(0, .ref 17), (1, .int s), (2, .int m)] [] _ _ _
  refine r_iload_n dX0_give_0 rfl ?_
  refine r_iconst (v := 0) dX0_give_1 (by decide) ?_
  refine r_iconst (v := 4) dX0_give_2 (by decide) ?_
  refine r_N3s cv_X0_72 dX0_give_3 (c_within s 0 4) ⟨by decide, by decide⟩ (Nat.le_of_ble_eq_true rfl) ⟨Nat.le_refl _, Nat.le_refl _⟩ ?_
  refine r_bz_ne (tgt := 10) dX0_give_6 (by decide) (fun h6 => ?_) (fun h6 => ?_)
  · obtain ⟨jw, hjw, hj⟩ := inB_nat (W := 5) (w := s) h6 (by omega)
    have htt : tn s = jw := by rw [hj, tn_nI (by omega)]
    refine r_aload_n dX0_give_10 rfl ?_
    refine r_getr fl_X0_35 dX0_give_11 kd_17 ln_17 rfl rfl ?_
    refine r_iload_n dX0_give_14 rfl ?_
    refine r_aload_n dX0_give_15 rfl ?_
    refine r_getr fl_X0_35 dX0_give_16 kd_17 ln_17 rfl rfl ?_
    refine r_iload_n dX0_give_19 rfl ?_
    refine r_iald (j := jw) dX0_give_20 kd_19 ln_19 hj (by omega) (by decide) ?_
    refine r_iload_n dX0_give_21 rfl ?_
    refine r_iadd dX0_give_22 ?_
    refine r_ldc dX0_give_23 kn_X0_76 ?_
    refine r_min cv_X0_77 dX0_give_25 (by decide) (Nat.le_of_ble_eq_true rfl) ⟨Nat.le_refl _, Nat.le_refl _⟩ ?_
    refine r_as (j := jw) dX0_give_28 kd_19 ln_19 hj (by omega) (by decide) ?_
    exact r_vret dX0_give_29 rfl (by simp only [giX, eq_self, Bool.false_eq_true, Bool.true_eq_false, if_true, if_false, reduceIte, h6, htt]) (Nat.le_refl _) (Nat.le_refl _)
  · exact r_vret dX0_give_9 rfl (by simp only [giX, eq_self, Bool.false_eq_true, Bool.true_eq_false, if_true, if_false, reduceIte, h6]) (Nat.le_refl _) (Nat.le_refl _)

theorem giX_nat {im : IM} {j : Nat} {m : Int32} (h : j < 5) : giX im (nI j) m = st im 19 j (mnI (im 19 j + m) 999999) := by
  have h1 : inB (nI j) 0 4 = true := by
    unfold inB
    have a1 : ¬ nI j < 0 := nI_pos (by omega)
    have a2 : ¬ (4 : Int32) < nI j := nI_nlt (a := 4) (b := j) (by omega) (by omega)
    simp [a1, a2]
  unfold giX
  rw [if_pos h1, tn_nI (by omega)]
theorem pdT_a {im : IM} {c : Nat} (h : im 17 2 = 0) : st im 17 0 (im 17 0 + 1) = pdT im c 0 := by
  funext k j
  simp only [st_at, pdT, h, if_true]
  grind
theorem pdT_b {im : IM} {c : Nat} (h : ¬ im 17 2 = 0) : st (st im 17 0 (im 17 0 + 1)) 17 1 (im 17 1 + 1) = pdT im c 0 := by
  funext k j
  simp only [st_at, pdT, h, if_false]
  grind
theorem pdT_n {im : IM} {c t : Nat} (h : hasB (im 17 5) (nI t) = false) : pdT im c t = pdT im c (t + 1) := by
  funext k j
  simp only [pdT]
  by_cases hj : j = t
  · subst hj
    have h1 : pdG im c j = im 19 j := by simp only [pdG, h, Bool.false_eq_true, if_false]
    have h2 : pdS im c j = im 20 j := by simp only [pdS, h, Bool.false_eq_true, if_false]
    grind
  · grind
theorem pdT_l {im : IM} {c t : Nat} (h : hasB (im 17 5) (nI t) = true) (h2 : im 20 t + 1 < im c 10) : st (pdT im c t) 20 t (im 20 t + 1) = pdT im c (t + 1) := by
  funext k j
  simp only [st_at, pdT]
  by_cases hj : j = t
  · subst hj
    have h1 : pdG im c j = im 19 j := by simp only [pdG, h, h2, if_true]
    have h2 : pdS im c j = im 20 j + 1 := by simp only [pdS, h, h2, if_true]
    grind
  · grind
theorem pdT_p {im : IM} {c t : Nat} (h : hasB (im 17 5) (nI t) = true) (h2 : ¬ im 20 t + 1 < im c 10) : st (st (st (pdT im c t) 20 t (im 20 t + 1)) 19 t (mnI (im 19 t + im c 9) 999999)) 20 t 0 = pdT im c (t + 1) := by
  funext k j
  simp only [st_at, pdT]
  by_cases hj : j = t
  · subst hj
    have h1 : pdG im c j = mnI (im 19 j + im c 9) 999999 := by simp only [pdG, h, h2, if_true, if_false]
    have h2 : pdS im c j = 0 := by simp only [pdS, h, h2, if_true, if_false]
    grind
  · grind

set_option maxRecDepth 100000 in
set_option maxHeartbeats 4000000 in
theorem c_passDay {im : IM} {pl it c : Nat} (hc : CA im c) : MT YX0_passDay 2 0 0 [.ref 17, .ref c] 137 im (RR pl it) (none, 137, pdX im c, RR pl it) := by
  obtain ⟨hC, W, T, S, hW, hW8, hT, hT6, hS, hS5⟩ := id hc
  have hcc : c = 3 ∨ c = 10 := hC
  refine mt_of (by decide +kernel) (Nat.le_of_ble_eq_true rfl) ?_
  show WW _ _ _ _ _ _ _ 0 [(0, .ref 17), (1, .ref c)] [] _ _ _
  refine r_aload_n dX0_passDay_0 rfl ?_
  refine r_dup dX0_passDay_1 rfl ?_
  refine r_geti fl_X0_9 dX0_passDay_2 kd_17 ln_17 rfl ?_
  refine r_iconst (v := 1) dX0_passDay_5 (by decide) ?_
  refine r_iadd dX0_passDay_6 ?_
  refine r_pi fl_X0_9 dX0_passDay_7 kd_17 ln_17 rfl ?_
  refine r_aload_n dX0_passDay_10 rfl ?_
  refine r_getx (x := im 17 2) fl_X0_18 dX0_passDay_11 kd_17 ln_17 rfl (by simp only [st_at]; grind) ?_
  refine r_if_eq (tgt := 27) dX0_passDay_14 (by decide) (fun h14 => ?_) (fun h14 => ?_)
  · refine r_iconst (v := 0) dX0_passDay_27 (by decide) ?_
    refine r_istore_n dX0_passDay_28 (by decide) ?_
    refine r_lv (lv' := [(0, .ref 17), (1, .ref c), (2, .int (nI 0))]) (al_cons rfl (al_cons rfl (al_int rfl (by exact (cI 0)) al_nil))) ?_
    refine r_im (im' := pdT im c 0) (pdT_a h14) ?_
    refine WW.loop (fun t => [(0, .ref 17), (1, .ref c), (2, .int (nI t))]) (fun t => pdT im c t) (N := S) ?_ ?_ 0 (Nat.zero_le _)
    · show WW _ _ _ _ _ _ _ 29 [(0, .ref 17), (1, .ref c), (2, .int (nI S))] _ _ (pdT im c S) _
      refine r_iload_n dX0_passDay_29 rfl ?_
      refine r_aload_n dX0_passDay_30 rfl ?_
      refine r_getx (x := im c 6) fl_X0_48 dX0_passDay_31 (kC0 hC) (lC0 hC) rfl (by simp only [pdT]; grind) ?_
      refine r_icmp_ge_t (tgt := 96) dX0_passDay_34 (by decide) (ix_le hS rfl (by omega) (by omega)) ?_
      exact r_vret dX0_passDay_96 rfl (by rw [pdX, hS, tn_nI (by omega)]) (Nat.le_refl _) (Nat.le_refl _)
    · intro t ht iht
      show WW _ _ _ _ _ _ _ 29 [(0, .ref 17), (1, .ref c), (2, .int (nI t))] _ _ (pdT im c t) _
      refine r_iload_n dX0_passDay_29 rfl ?_
      refine r_aload_n dX0_passDay_30 rfl ?_
      refine r_getx (x := im c 6) fl_X0_48 dX0_passDay_31 (kC0 hC) (lC0 hC) rfl (by simp only [pdT]; grind) ?_
      refine r_icmp_ge_f (tgt := 96) dX0_passDay_34 (by decide) (ix_nle hS rfl (by omega) (by omega)) ?_
      refine r_aload_n dX0_passDay_37 rfl ?_
      refine r_getx (x := im 17 5) fl_X0_28 dX0_passDay_38 kd_17 ln_17 rfl (by simp only [pdT]; grind) ?_
      refine r_iload_n dX0_passDay_41 rfl ?_
      refine r_N2s cv_X0_51 dX0_passDay_42 (c_has (im 17 5) (nI t)) ⟨by decide, by decide⟩ (Nat.le_of_ble_eq_true rfl) ⟨Nat.le_refl _, Nat.le_refl _⟩ ?_
      refine r_bz_ne (tgt := 51) dX0_passDay_45 (by decide) (fun h45 => ?_) (fun h45 => ?_)
      · refine r_aload_n dX0_passDay_51 rfl ?_
        refine r_getr fl_X0_38 dX0_passDay_52 kd_17 ln_17 rfl rfl ?_
        refine r_iload_n dX0_passDay_55 rfl ?_
        refine r_dup2 dX0_passDay_56 rfl rfl ?_
        refine r_ialx (j := t) (x := im 20 t) dX0_passDay_57 kd_20 ln_20 rfl (by omega) (by decide) (by simp only [pdT]; grind) ?_
        refine r_iconst (v := 1) dX0_passDay_58 (by decide) ?_
        refine r_iadd dX0_passDay_59 ?_
        refine r_as (j := t) dX0_passDay_60 kd_20 ln_20 rfl (by omega) (by decide) ?_
        refine r_aload_n dX0_passDay_61 rfl ?_
        refine r_getr fl_X0_38 dX0_passDay_62 kd_17 ln_17 rfl rfl ?_
        refine r_iload_n dX0_passDay_65 rfl ?_
        refine r_ialx (j := t) (x := im 20 t + 1) dX0_passDay_66 kd_20 ln_20 rfl (by omega) (by decide) (by simp only [st_at]; grind) ?_
        refine r_aload_n dX0_passDay_67 rfl ?_
        refine r_getx (x := im c 10) fl_X0_55 dX0_passDay_68 (kC0 hC) (lC0 hC) rfl (by simp only [st_at, pdT]; grind) ?_
        refine r_icmp_lt (tgt := 90) dX0_passDay_71 (by decide) (fun h71 => ?_) (fun h71 => ?_)
        · refine r_iinc dX0_passDay_90 rfl (by decide) (ix_inc rfl) ?_
          refine r_goto (tgt := 29) dX0_passDay_93 (by decide) ?_
          refine r_lv (lv' := [(0, .ref 17), (1, .ref c), (2, .int (nI (t + 1)))]) (al_cons rfl (al_cons rfl (al_cons rfl al_nil))) ?_
          refine r_im (im' := pdT im c (t + 1)) (pdT_l h45 h71) ?_
          exact iht
        · refine r_aload_n dX0_passDay_74 rfl ?_
          refine r_iload_n dX0_passDay_75 rfl ?_
          refine r_aload_n dX0_passDay_76 rfl ?_
          refine r_getx (x := im c 9) fl_X0_58 dX0_passDay_77 (kC0 hC) (lC0 hC) rfl (by simp only [st_at, pdT]; grind) ?_
          refine r_V2n cv_X0_61 dX0_passDay_80 (by have q := c_give (pl := pl) (it := it) (im := st (pdT im c t) 20 t (im 20 t + 1)) (nI t) (im c 9); rw [giX_nat (by omega), show (st (pdT im c t) 20 t (im 20 t + 1)) 19 t = im 19 t by simp only [st_at, pdT]; grind] at q; exact q) ⟨by decide, by decide⟩ kd_17 ln_17 cl_0 (Nat.le_of_ble_eq_true rfl) ⟨Nat.le_refl _, Nat.le_refl _⟩ ?_
          refine r_aload_n dX0_passDay_83 rfl ?_
          refine r_getr fl_X0_38 dX0_passDay_84 kd_17 ln_17 rfl rfl ?_
          refine r_iload_n dX0_passDay_87 rfl ?_
          refine r_iconst (v := 0) dX0_passDay_88 (by decide) ?_
          refine r_as (j := t) dX0_passDay_89 kd_20 ln_20 rfl (by omega) (by decide) ?_
          refine r_iinc dX0_passDay_90 rfl (by decide) (ix_inc rfl) ?_
          refine r_goto (tgt := 29) dX0_passDay_93 (by decide) ?_
          refine r_lv (lv' := [(0, .ref 17), (1, .ref c), (2, .int (nI (t + 1)))]) (al_cons rfl (al_cons rfl (al_cons rfl al_nil))) ?_
          refine r_im (im' := pdT im c (t + 1)) (pdT_p h45 h71) ?_
          exact iht
      · refine r_goto (tgt := 90) dX0_passDay_48 (by decide) ?_
        refine r_iinc dX0_passDay_90 rfl (by decide) (ix_inc rfl) ?_
        refine r_goto (tgt := 29) dX0_passDay_93 (by decide) ?_
        refine r_lv (lv' := [(0, .ref 17), (1, .ref c), (2, .int (nI (t + 1)))]) (al_cons rfl (al_cons rfl (al_cons rfl al_nil))) ?_
        refine r_im (im' := pdT im c (t + 1)) (pdT_n h45) ?_
        exact iht
  · refine r_aload_n dX0_passDay_17 rfl ?_
    refine r_dup dX0_passDay_18 rfl ?_
    refine r_getx (x := im 17 1) fl_X0_15 dX0_passDay_19 kd_17 ln_17 rfl (by simp only [st_at]; grind) ?_
    refine r_iconst (v := 1) dX0_passDay_22 (by decide) ?_
    refine r_iadd dX0_passDay_23 ?_
    refine r_pi fl_X0_15 dX0_passDay_24 kd_17 ln_17 rfl ?_
    refine r_iconst (v := 0) dX0_passDay_27 (by decide) ?_
    refine r_istore_n dX0_passDay_28 (by decide) ?_
    refine r_lv (lv' := [(0, .ref 17), (1, .ref c), (2, .int (nI 0))]) (al_cons rfl (al_cons rfl (al_int rfl (by exact (cI 0)) al_nil))) ?_
    refine r_im (im' := pdT im c 0) (pdT_b h14) ?_
    refine WW.loop (fun t => [(0, .ref 17), (1, .ref c), (2, .int (nI t))]) (fun t => pdT im c t) (N := S) ?_ ?_ 0 (Nat.zero_le _)
    · show WW _ _ _ _ _ _ _ 29 [(0, .ref 17), (1, .ref c), (2, .int (nI S))] _ _ (pdT im c S) _
      refine r_iload_n dX0_passDay_29 rfl ?_
      refine r_aload_n dX0_passDay_30 rfl ?_
      refine r_getx (x := im c 6) fl_X0_48 dX0_passDay_31 (kC0 hC) (lC0 hC) rfl (by simp only [pdT]; grind) ?_
      refine r_icmp_ge_t (tgt := 96) dX0_passDay_34 (by decide) (ix_le hS rfl (by omega) (by omega)) ?_
      exact r_vret dX0_passDay_96 rfl (by rw [pdX, hS, tn_nI (by omega)]) (Nat.le_refl _) (Nat.le_refl _)
    · intro t ht iht
      show WW _ _ _ _ _ _ _ 29 [(0, .ref 17), (1, .ref c), (2, .int (nI t))] _ _ (pdT im c t) _
      refine r_iload_n dX0_passDay_29 rfl ?_
      refine r_aload_n dX0_passDay_30 rfl ?_
      refine r_getx (x := im c 6) fl_X0_48 dX0_passDay_31 (kC0 hC) (lC0 hC) rfl (by simp only [pdT]; grind) ?_
      refine r_icmp_ge_f (tgt := 96) dX0_passDay_34 (by decide) (ix_nle hS rfl (by omega) (by omega)) ?_
      refine r_aload_n dX0_passDay_37 rfl ?_
      refine r_getx (x := im 17 5) fl_X0_28 dX0_passDay_38 kd_17 ln_17 rfl (by simp only [pdT]; grind) ?_
      refine r_iload_n dX0_passDay_41 rfl ?_
      refine r_N2s cv_X0_51 dX0_passDay_42 (c_has (im 17 5) (nI t)) ⟨by decide, by decide⟩ (Nat.le_of_ble_eq_true rfl) ⟨Nat.le_refl _, Nat.le_refl _⟩ ?_
      refine r_bz_ne (tgt := 51) dX0_passDay_45 (by decide) (fun h45 => ?_) (fun h45 => ?_)
      · refine r_aload_n dX0_passDay_51 rfl ?_
        refine r_getr fl_X0_38 dX0_passDay_52 kd_17 ln_17 rfl rfl ?_
        refine r_iload_n dX0_passDay_55 rfl ?_
        refine r_dup2 dX0_passDay_56 rfl rfl ?_
        refine r_ialx (j := t) (x := im 20 t) dX0_passDay_57 kd_20 ln_20 rfl (by omega) (by decide) (by simp only [pdT]; grind) ?_
        refine r_iconst (v := 1) dX0_passDay_58 (by decide) ?_
        refine r_iadd dX0_passDay_59 ?_
        refine r_as (j := t) dX0_passDay_60 kd_20 ln_20 rfl (by omega) (by decide) ?_
        refine r_aload_n dX0_passDay_61 rfl ?_
        refine r_getr fl_X0_38 dX0_passDay_62 kd_17 ln_17 rfl rfl ?_
        refine r_iload_n dX0_passDay_65 rfl ?_
        refine r_ialx (j := t) (x := im 20 t + 1) dX0_passDay_66 kd_20 ln_20 rfl (by omega) (by decide) (by simp only [st_at]; grind) ?_
        refine r_aload_n dX0_passDay_67 rfl ?_
        refine r_getx (x := im c 10) fl_X0_55 dX0_passDay_68 (kC0 hC) (lC0 hC) rfl (by simp only [st_at, pdT]; grind) ?_
        refine r_icmp_lt (tgt := 90) dX0_passDay_71 (by decide) (fun h71 => ?_) (fun h71 => ?_)
        · refine r_iinc dX0_passDay_90 rfl (by decide) (ix_inc rfl) ?_
          refine r_goto (tgt := 29) dX0_passDay_93 (by decide) ?_
          refine r_lv (lv' := [(0, .ref 17), (1, .ref c), (2, .int (nI (t + 1)))]) (al_cons rfl (al_cons rfl (al_cons rfl al_nil))) ?_
          refine r_im (im' := pdT im c (t + 1)) (pdT_l h45 h71) ?_
          exact iht
        · refine r_aload_n dX0_passDay_74 rfl ?_
          refine r_iload_n dX0_passDay_75 rfl ?_
          refine r_aload_n dX0_passDay_76 rfl ?_
          refine r_getx (x := im c 9) fl_X0_58 dX0_passDay_77 (kC0 hC) (lC0 hC) rfl (by simp only [st_at, pdT]; grind) ?_
          refine r_V2n cv_X0_61 dX0_passDay_80 (by have q := c_give (pl := pl) (it := it) (im := st (pdT im c t) 20 t (im 20 t + 1)) (nI t) (im c 9); rw [giX_nat (by omega), show (st (pdT im c t) 20 t (im 20 t + 1)) 19 t = im 19 t by simp only [st_at, pdT]; grind] at q; exact q) ⟨by decide, by decide⟩ kd_17 ln_17 cl_0 (Nat.le_of_ble_eq_true rfl) ⟨Nat.le_refl _, Nat.le_refl _⟩ ?_
          refine r_aload_n dX0_passDay_83 rfl ?_
          refine r_getr fl_X0_38 dX0_passDay_84 kd_17 ln_17 rfl rfl ?_
          refine r_iload_n dX0_passDay_87 rfl ?_
          refine r_iconst (v := 0) dX0_passDay_88 (by decide) ?_
          refine r_as (j := t) dX0_passDay_89 kd_20 ln_20 rfl (by omega) (by decide) ?_
          refine r_iinc dX0_passDay_90 rfl (by decide) (ix_inc rfl) ?_
          refine r_goto (tgt := 29) dX0_passDay_93 (by decide) ?_
          refine r_lv (lv' := [(0, .ref 17), (1, .ref c), (2, .int (nI (t + 1)))]) (al_cons rfl (al_cons rfl (al_cons rfl al_nil))) ?_
          refine r_im (im' := pdT im c (t + 1)) (pdT_p h45 h71) ?_
          exact iht
      · refine r_goto (tgt := 90) dX0_passDay_48 (by decide) ?_
        refine r_iinc dX0_passDay_90 rfl (by decide) (ix_inc rfl) ?_
        refine r_goto (tgt := 29) dX0_passDay_93 (by decide) ?_
        refine r_lv (lv' := [(0, .ref 17), (1, .ref c), (2, .int (nI (t + 1)))]) (al_cons rfl (al_cons rfl (al_cons rfl al_nil))) ?_
        refine r_im (im' := pdT im c (t + 1)) (pdT_n h45) ?_
        exact iht

def HE (im : IM) : Prop := ∃ E : Nat, im 21 1 = nI E ∧ E < 20
theorem rem20 {x : Int32} {a : Nat} (h : x = nI a) (ha : a < 1000) : x - x / 20 * 20 = nI (a % 20) := by
  rw [h]
  exact pk_rem (d := 20) (by omega) (by omega) (by omega)
theorem past_ne {E : Nat} (h : E < 20) : 23 + 4 * E ≠ 17 := by omega

set_option maxRecDepth 100000 in
set_option maxHeartbeats 4000000 in
theorem c_remember {im : IM} {pl it : Nat} (hE0 : HE im) (h2 : b01 (im 17 2)) (h3 : b01 (im 17 3)) : MT YX5_remember 1 0 0 [.ref 21, .ref 17] 137 im (RR pl it) (none, 137, rmX im, RR pl it) := by
  obtain ⟨E, hE, hE20⟩ := id hE0
  have htE : tn (im 21 1) = E := by rw [hE, tn_nI (by omega)]
  refine mt_of (by decide +kernel) (Nat.le_of_ble_eq_true rfl) ?_
  show WW _ _ _ _ _ _ _ 0 [(0, .ref 21), (1, .ref 17)] [] _ _ _
  refine r_aload_n dX5_remember_0 rfl ?_
  refine r_getr fl_X5_11 dX5_remember_1 kd_21 ln_21 rfl rfl ?_
  refine r_aload_n dX5_remember_4 rfl ?_
  refine r_geti fl_X5_17 dX5_remember_5 kd_21 ln_21 rfl ?_
  refine r_aald (j := E) dX5_remember_8 kd_22 (Or.inl rfl) ln_22 hE (by omega) (by decide) (rr_past hE20) ?_
  refine r_aload_n dX5_remember_9 rfl ?_
  refine r_V1n cv_X5_25 dX5_remember_10 (c_copyFrom (isA_past hE20) isA_17 (past_ne hE20) h2 h3) ⟨by decide, by decide⟩ (kA0 (isA_past hE20)) (lA0 (isA_past hE20)) cl_0 (Nat.le_of_ble_eq_true rfl) ⟨Nat.le_refl _, Nat.le_refl _⟩ ?_
  refine r_aload_n dX5_remember_13 rfl ?_
  refine r_aload_n dX5_remember_14 rfl ?_
  refine r_getx (x := im 21 1) fl_X5_17 dX5_remember_15 kd_21 ln_21 rfl (by exact cpT_off (by omega)) ?_
  refine r_iconst (v := 1) dX5_remember_18 (by decide) ?_
  refine r_iadd dX5_remember_19 ?_
  refine r_bipush (v := 20) dX5_remember_20 (by decide) ?_
  refine r_irem dX5_remember_22 (by decide) ?_
  refine r_top (rem20 (ix_add hE (cI 1)) (by omega)) ?_
  refine r_pi fl_X5_17 dX5_remember_23 kd_21 ln_21 rfl ?_
  refine r_aload_n dX5_remember_26 rfl ?_
  refine r_aload_n dX5_remember_27 rfl ?_
  refine r_getx (x := im 21 2) fl_X5_21 dX5_remember_28 kd_21 ln_21 rfl (by simp only [st_at]; simp only [Nat.reduceEqDiff, and_false, and_true, if_false, if_true]; exact cpT_off (by omega)) ?_
  refine r_iconst (v := 1) dX5_remember_31 (by decide) ?_
  refine r_iadd dX5_remember_32 ?_
  refine r_bipush (v := 20) dX5_remember_33 (by decide) ?_
  refine r_min cv_X5_29 dX5_remember_35 (by decide) (Nat.le_of_ble_eq_true rfl) ⟨Nat.le_refl _, Nat.le_refl _⟩ ?_
  refine r_pi fl_X5_21 dX5_remember_38 kd_21 ln_21 rfl ?_
  exact r_vret dX5_remember_41 rfl (by rw [rmX, htE]) (Nat.le_refl _) (Nat.le_refl _)

set_option maxRecDepth 100000 in
set_option maxHeartbeats 4000000 in
theorem c_recall {im : IM} {pl it : Nat} (hE0 : HE im) (h2 : ∀ i, i < 20 → b01 (im (23 + 4 * i) 2) ∧ b01 (im (23 + 4 * i) 3)) : MT YX5_recall 1 0 0 [.ref 21, .ref 17] 137 im (RR pl it) (none, 137, rcX im, RR pl it) := by
  obtain ⟨E, hE, hE20⟩ := id hE0
  have htE : tn (im 21 1) = E := by rw [hE, tn_nI (by omega)]
  refine mt_of (by decide +kernel) (Nat.le_of_ble_eq_true rfl) ?_
  show WW _ _ _ _ _ _ _ 0 [(0, .ref 21), (1, .ref 17)] [] _ _ _
  refine r_aload_n dX5_recall_0 rfl ?_
  refine r_geti fl_X5_21 dX5_recall_1 kd_21 ln_21 rfl ?_
  refine r_if_ne (tgt := 8) dX5_recall_4 (by decide) (fun h4 => ?_) (fun h4 => ?_)
  · refine r_aload_n dX5_recall_8 rfl ?_
    refine r_aload_n dX5_recall_9 rfl ?_
    refine r_geti fl_X5_17 dX5_recall_10 kd_21 ln_21 rfl ?_
    refine r_bipush (v := 20) dX5_recall_13 (by decide) ?_
    refine r_iadd dX5_recall_15 ?_
    refine r_iconst (v := 1) dX5_recall_16 (by decide) ?_
    refine r_isub dX5_recall_17 ?_
    refine r_bipush (v := 20) dX5_recall_18 (by decide) ?_
    refine r_irem dX5_recall_20 (by decide) ?_
    refine r_top (y := nI ((E + 19) % 20)) (rem20 (ix_sub (ix_add hE (cI 20)) (cI 1) (by omega)) (by omega)) ?_
    refine r_pi fl_X5_17 dX5_recall_21 kd_21 ln_21 rfl ?_
    refine r_aload_n dX5_recall_24 rfl ?_
    refine r_dup dX5_recall_25 rfl ?_
    refine r_getx (x := im 21 2) fl_X5_21 dX5_recall_26 kd_21 ln_21 rfl (by simp only [st_at]; grind) ?_
    refine r_iconst (v := 1) dX5_recall_29 (by decide) ?_
    refine r_isub dX5_recall_30 ?_
    refine r_pi fl_X5_21 dX5_recall_31 kd_21 ln_21 rfl ?_
    refine r_aload_n dX5_recall_34 rfl ?_
    refine r_aload_n dX5_recall_35 rfl ?_
    refine r_getr fl_X5_11 dX5_recall_36 kd_21 ln_21 rfl rfl ?_
    refine r_aload_n dX5_recall_39 rfl ?_
    refine r_getx (x := nI ((E + 19) % 20)) fl_X5_17 dX5_recall_40 kd_21 ln_21 rfl (by simp only [st_at]; grind) ?_
    refine r_aald (j := (E + 19) % 20) dX5_recall_43 kd_22 (Or.inl rfl) ln_22 rfl (by omega) (by decide) (rr_past (show (E + 19) % 20 < 20 by omega)) ?_
    refine r_V1n cv_X5_25 dX5_recall_44 (c_copyFrom isA_17 (isA_past (show (E + 19) % 20 < 20 by omega)) (Ne.symm (past_ne (show (E + 19) % 20 < 20 by omega))) (by rw [st_row (by omega), st_row (by omega)]; exact (h2 _ (by omega)).1) (by rw [st_row (by omega), st_row (by omega)]; exact (h2 _ (by omega)).2)) ⟨by decide, by decide⟩ kd_17 ln_17 cl_0 (Nat.le_of_ble_eq_true rfl) ⟨Nat.le_refl _, Nat.le_refl _⟩ ?_
    exact r_vret dX5_recall_47 rfl (by simp only [rcX, htE, eq_self, Bool.false_eq_true, Bool.true_eq_false, if_true, if_false, reduceIte, h4]) (Nat.le_refl _) (Nat.le_refl _)
  · exact r_vret dX5_recall_7 rfl (by simp only [rcX, htE, eq_self, Bool.false_eq_true, Bool.true_eq_false, if_true, if_false, reduceIte, h4]) (Nat.le_refl _) (Nat.le_refl _)

set_option maxRecDepth 100000 in
set_option maxHeartbeats 4000000 in
theorem c_forget {im : IM} {pl it : Nat}  : MT YX5_forget 0 0 0 [.ref 21] 137 im (RR pl it) (none, 137, st im 21 2 0, RR pl it) := by
  refine mt_of (by decide +kernel) (Nat.le_of_ble_eq_true rfl) ?_
  show WW _ _ _ _ _ _ _ 0 [(0, .ref 21)] [] _ _ _
  refine r_aload_n dX5_forget_0 rfl ?_
  refine r_iconst (v := 0) dX5_forget_1 (by decide) ?_
  refine r_pi fl_X5_21 dX5_forget_2 kd_21 ln_21 rfl ?_
  exact r_vret dX5_forget_5 rfl rfl (Nat.le_refl _) (Nat.le_refl _)

def HB (im : IM) : Prop := ∃ B : Nat, im 106 1 = nI B ∧ B ≤ 15
def HH (im : IM) : Prop := ∃ B : Nat, im 103 2 = nI B ∧ B ≤ 6

set_option maxRecDepth 100000 in
set_option maxHeartbeats 4000000 in
theorem c_bookAdd {im : IM} {pl it : Nat} (hB0 : HB im) (x : Int32) : MT YX1_add 0 0 0 [.ref 106, .int x] 137 im (RR pl it) (some (.int (bI (decide (im 106 1 < 15)))), 137, bkX im x, RR pl it) := by
  obtain ⟨B, hB, hB15⟩ := id hB0
  have htB : tn (im 106 1) = B := by rw [hB, tn_nI (by omega)]
  refine mt_of (by decide +kernel) (Nat.le_of_ble_eq_true rfl) ?_
  show WW _ _ _ _ _ _ _ 0 [(0, .ref 106), (1, .int x)] [] _ _ _
  refine r_aload_n dX1_add_0 rfl ?_
  refine r_geti fl_X1_15 dX1_add_1 kd_106 ln_106 rfl ?_
  refine r_bipush (v := 15) dX1_add_4 (by decide) ?_
  refine r_icmp_lt (tgt := 11) dX1_add_6 (by decide) (fun h6 => ?_) (fun h6 => ?_)
  · have hBl : B < 15 := lt_of_nI hB (cI 15) h6 (by omega) (by omega)
    refine r_aload_n dX1_add_11 rfl ?_
    refine r_getr fl_X1_9 dX1_add_12 kd_106 ln_106 rfl rfl ?_
    refine r_aload_n dX1_add_15 rfl ?_
    refine r_geti fl_X1_15 dX1_add_16 kd_106 ln_106 rfl ?_
    refine r_iload_n dX1_add_19 rfl ?_
    refine r_as (j := B) dX1_add_20 kd_107 ln_107 hB (by omega) (by decide) ?_
    refine r_aload_n dX1_add_21 rfl ?_
    refine r_dup dX1_add_22 rfl ?_
    refine r_getx (x := im 106 1) fl_X1_15 dX1_add_23 kd_106 ln_106 rfl (by simp only [st_at]; grind) ?_
    refine r_iconst (v := 1) dX1_add_26 (by decide) ?_
    refine r_iadd dX1_add_27 ?_
    refine r_pi fl_X1_15 dX1_add_28 kd_106 ln_106 rfl ?_
    refine r_iconst (v := 1) dX1_add_31 (by decide) ?_
    exact r_zret dX1_add_32 rfl nar1 (by simp only [bkX, bI, decide_true, decide_false, eq_self, Bool.false_eq_true, Bool.true_eq_false, if_true, if_false, reduceIte, h6, htB]) (Nat.le_refl _) (Nat.le_refl _)
  · refine r_iconst (v := 0) dX1_add_9 (by decide) ?_
    exact r_zret dX1_add_10 rfl nar0 (by simp only [bkX, bI, decide_true, decide_false, eq_self, Bool.false_eq_true, Bool.true_eq_false, if_true, if_false, reduceIte, h6]) (Nat.le_refl _) (Nat.le_refl _)

theorem foF_go {row : Nat → Int32} {x : Int32} {t m : Nat} (h : row t = x) : foF row x t (m + 1) = foF row x (t + 1) m := by rw [foF, if_pos h]
theorem foF_st {row : Nat → Int32} {x : Int32} {t m : Nat} (h : ¬ row t = x) : foF row x t (m + 1) = nI t := by rw [foF, if_neg h]

set_option maxRecDepth 100000 in
set_option maxHeartbeats 4000000 in
theorem c_firstOther {im : IM} {pl it : Nat} (hB0 : HB im) (x : Int32) : MT YX1_firstOtherThan 0 0 0 [.ref 106, .int x] 137 im (RR pl it) (some (.int (foF (im 107) x 0 (tn (im 106 1)))), 137, im, RR pl it) := by
  obtain ⟨B, hB, hB15⟩ := id hB0
  rw [hB, tn_nI (by omega)]
  refine mt_of (by decide +kernel) (Nat.le_of_ble_eq_true rfl) ?_
  show WW _ _ _ _ _ _ _ 0 [(0, .ref 106), (1, .int x)] [] _ _ _
  have key : ∀ m t, t + m = B → WW YX1_firstOtherThan 0 0 0 (some (.int (foF (im 107) x t m)), 137, im, RR pl it) 0 0 2 [(0, .ref 106), (1, .int x), (2, .int (nI t))] [] 137 im (RR pl it) := by
    intro m
    induction m with
    | zero =>
      intro t ht
      refine r_iload_n dX1_firstOtherThan_2 rfl ?_
      refine r_aload_n dX1_firstOtherThan_3 rfl ?_
      refine r_geti fl_X1_15 dX1_firstOtherThan_4 kd_106 ln_106 rfl ?_
      refine r_icmp_ge_t (tgt := 28) dX1_firstOtherThan_7 (by decide) (ix_le hB rfl (by omega) (by omega)) ?_
      refine r_iconst (v := (-1)) dX1_firstOtherThan_28 (by decide) ?_
      exact r_iret dX1_firstOtherThan_29 rfl rfl (Nat.le_refl _) (Nat.le_refl _)
    | succ m ih =>
      intro t ht
      refine r_iload_n dX1_firstOtherThan_2 rfl ?_
      refine r_aload_n dX1_firstOtherThan_3 rfl ?_
      refine r_geti fl_X1_15 dX1_firstOtherThan_4 kd_106 ln_106 rfl ?_
      refine r_icmp_ge_f (tgt := 28) dX1_firstOtherThan_7 (by decide) (ix_nle hB rfl (by omega) (by omega)) ?_
      refine r_aload_n dX1_firstOtherThan_10 rfl ?_
      refine r_getr fl_X1_9 dX1_firstOtherThan_11 kd_106 ln_106 rfl rfl ?_
      refine r_iload_n dX1_firstOtherThan_14 rfl ?_
      refine r_iald (j := t) dX1_firstOtherThan_15 kd_107 ln_107 rfl (by omega) (by decide) ?_
      refine r_iload_n dX1_firstOtherThan_16 rfl ?_
      refine r_icmp_eq (tgt := 22) dX1_firstOtherThan_17 (by decide) (fun h17 => ?_) (fun h17 => ?_)
      · refine r_iinc dX1_firstOtherThan_22 rfl (by decide) (ix_inc rfl) ?_
        refine r_goto (tgt := 2) dX1_firstOtherThan_25 (by decide) ?_
        rw [foF_go h17]
        refine r_lv (lv' := [(0, .ref 106), (1, .int x), (2, .int (nI (t + 1)))]) (al_cons rfl (al_cons rfl (al_cons rfl al_nil))) ?_
        exact ih (t + 1) (by omega)
      · refine r_iload_n dX1_firstOtherThan_20 rfl ?_
        exact r_iret dX1_firstOtherThan_21 rfl (by rw [foF_st h17]) (Nat.le_refl _) (Nat.le_refl _)
  refine r_iconst (v := 0) dX1_firstOtherThan_0 (by decide) ?_
  refine r_istore_n dX1_firstOtherThan_1 (by decide) ?_
  refine r_lv (lv' := [(0, .ref 106), (1, .int x), (2, .int (nI 0))]) (al_cons rfl (al_cons rfl (al_cons rfl al_nil))) ?_
  exact key B 0 (by omega)

set_option maxRecDepth 100000 in
set_option maxHeartbeats 4000000 in
theorem c_draw {im : IM} {pl it : Nat} (x : Int32) : MT YX3_draw 0 0 0 [.ref 108, .int x] 137 im (RR pl it) (some (.int (drV (drS (im 108 0)) x)), 137, st im 108 0 (drS (im 108 0)), RR pl it) := by
  refine mt_of (by decide +kernel) (Nat.le_of_ble_eq_true rfl) ?_
  show WW _ _ _ _ _ _ _ 0 [(0, .ref 108), (1, .int x)] [] _ _ _
  refine r_aload_n dX3_draw_0 rfl ?_
  refine r_aload_n dX3_draw_1 rfl ?_
  refine r_geti fl_X3_7 dX3_draw_2 kd_108 ln_108 rfl ?_
  refine r_i2l dX3_draw_5 ?_
  refine r_ldc2 dX3_draw_6 kn_X3_13 ?_
  refine r_lmul dX3_draw_9 ?_
  refine r_ldc2 dX3_draw_10 kn_X3_15 ?_
  refine r_ladd dX3_draw_13 ?_
  refine r_ldc2 dX3_draw_14 kn_X3_17 ?_
  refine r_lrem dX3_draw_17 (by decide) ?_
  refine r_l2i dX3_draw_18 ?_
  refine r_pi fl_X3_7 dX3_draw_19 kd_108 ln_108 rfl ?_
  refine r_iload_n dX3_draw_22 rfl ?_
  refine r_if_le (tgt := 38) dX3_draw_23 (by decide) (fun h23 => ?_) (fun h23 => ?_)
  · refine r_iconst (v := 0) dX3_draw_38 (by decide) ?_
    exact r_iret dX3_draw_39 rfl (by simp only [drV, eq_self, Bool.false_eq_true, Bool.true_eq_false, if_true, if_false, reduceIte, h23]; rfl) (Nat.le_refl _) (Nat.le_refl _)
  · refine r_aload_n dX3_draw_26 rfl ?_
    refine r_getx (x := drS (im 108 0)) fl_X3_7 dX3_draw_27 kd_108 ln_108 rfl (st_same _ _ _ _) ?_
    refine r_ldc dX3_draw_30 kn_X3_19 ?_
    refine r_idiv dX3_draw_32 (by decide) ?_
    refine r_iload_n dX3_draw_33 rfl ?_
    refine r_irem dX3_draw_34 (fun q => h23 (by rw [q]; decide)) ?_
    refine r_goto (tgt := 39) dX3_draw_35 (by decide) ?_
    exact r_iret dX3_draw_39 rfl (by simp only [drV, eq_self, Bool.false_eq_true, Bool.true_eq_false, if_true, if_false, reduceIte, h23]; rfl) (Nat.le_refl _) (Nat.le_refl _)

set_option maxRecDepth 100000 in
set_option maxHeartbeats 4000000 in
theorem c_hearAdd {im : IM} {pl it : Nat} (hB0 : HH im) (x g : Int32) (hg : b01 g) : MT YX4_add 0 0 0 [.ref 103, .int x, .int g] 137 im (RR pl it) (some (.int (bI (decide (im 103 2 < 6)))), 137, hsX im x g, RR pl it) := by
  obtain ⟨B, hB, hB15⟩ := id hB0
  have htB : tn (im 103 2) = B := by rw [hB, tn_nI (by omega)]
  refine mt_of (by decide +kernel) (Nat.le_of_ble_eq_true rfl) ?_
  show WW _ _ _ _ _ _ _ 0 [(0, .ref 103), (1, .int x), (2, .int g)] [] _ _ _
  refine r_aload_n dX4_add_0 rfl ?_
  refine r_geti fl_X4_19 dX4_add_1 kd_103 ln_103 rfl ?_
  refine r_bipush (v := 6) dX4_add_4 (by decide) ?_
  refine r_icmp_lt (tgt := 11) dX4_add_6 (by decide) (fun h6 => ?_) (fun h6 => ?_)
  · have hBl : B < 6 := lt_of_nI hB (cI 6) h6 (by omega) (by omega)
    refine r_aload_n dX4_add_11 rfl ?_
    refine r_getr fl_X4_9 dX4_add_12 kd_103 ln_103 rfl rfl ?_
    refine r_aload_n dX4_add_15 rfl ?_
    refine r_geti fl_X4_19 dX4_add_16 kd_103 ln_103 rfl ?_
    refine r_iload_n dX4_add_19 rfl ?_
    refine r_as (j := B) dX4_add_20 kd_104 ln_104 hB (by omega) (by decide) ?_
    refine r_aload_n dX4_add_21 rfl ?_
    refine r_getr fl_X4_15 dX4_add_22 kd_103 ln_103 rfl rfl ?_
    refine r_aload_n dX4_add_25 rfl ?_
    refine r_getx (x := im 103 2) fl_X4_19 dX4_add_26 kd_103 ln_103 rfl (by simp only [st_at]; grind) ?_
    refine r_iload_n dX4_add_29 rfl ?_
    refine r_zs (j := B) dX4_add_30 kd_105 ln_105 hB (by omega) (by decide) (b01_nar hg).1 ?_
    refine r_aload_n dX4_add_31 rfl ?_
    refine r_dup dX4_add_32 rfl ?_
    refine r_getx (x := im 103 2) fl_X4_19 dX4_add_33 kd_103 ln_103 rfl (by simp only [st_at]; grind) ?_
    refine r_iconst (v := 1) dX4_add_36 (by decide) ?_
    refine r_iadd dX4_add_37 ?_
    refine r_pi fl_X4_19 dX4_add_38 kd_103 ln_103 rfl ?_
    refine r_iconst (v := 1) dX4_add_41 (by decide) ?_
    exact r_zret dX4_add_42 rfl nar1 (by simp only [hsX, bI, decide_true, decide_false, eq_self, Bool.false_eq_true, Bool.true_eq_false, if_true, if_false, reduceIte, h6, htB]) (Nat.le_refl _) (Nat.le_refl _)
  · refine r_iconst (v := 0) dX4_add_9 (by decide) ?_
    exact r_zret dX4_add_10 rfl nar0 (by simp only [hsX, bI, decide_true, decide_false, eq_self, Bool.false_eq_true, Bool.true_eq_false, if_true, if_false, reduceIte, h6]) (Nat.le_refl _) (Nat.le_refl _)

set_option maxRecDepth 100000 in
set_option maxHeartbeats 4000000 in
theorem c_gotMoney {n : Nat} {im : IM} {rm : RM} (x r e : Int32) : MT YX4_gotMoney 0 0 0 [.int x, .int r, .int e] n im rm (some (.int (bI (gmB x r e))), n, im, rm) := by
  refine mt_of (by decide +kernel) (Nat.le_of_ble_eq_true rfl) ?_
  show WW _ _ _ _ _ _ _ 0 [(0, .int x), (1, .int r), (2, .int e)] [] _ _ _
  refine r_iload_n dX4_gotMoney_0 rfl ?_
  refine r_if_le (tgt := 15) dX4_gotMoney_1 (by decide) (fun h1 => ?_) (fun h1 => ?_)
  · refine r_iconst (v := 0) dX4_gotMoney_15 (by decide) ?_
    exact r_zret dX4_gotMoney_16 rfl nar0 (by simp only [gmB, bI, decide_true, decide_false, Bool.not_true, Bool.not_false, Bool.and_true, Bool.true_and, Bool.false_and, Bool.and_false, eq_self, Bool.false_eq_true, Bool.true_eq_false, if_true, if_false, reduceIte, h1]) (Nat.le_refl _) (Nat.le_refl _)
  · refine r_iload_n dX4_gotMoney_4 rfl ?_
    refine r_iload_n dX4_gotMoney_5 rfl ?_
    refine r_irem dX4_gotMoney_6 (fun q => h1 (by rw [q]; decide)) ?_
    refine r_iload_n dX4_gotMoney_7 rfl ?_
    refine r_icmp_ne (tgt := 15) dX4_gotMoney_8 (by decide) (fun h8 => ?_) (fun h8 => ?_)
    · refine r_iconst (v := 0) dX4_gotMoney_15 (by decide) ?_
      exact r_zret dX4_gotMoney_16 rfl nar0 (by simp only [gmB, bI, decide_true, decide_false, Bool.not_true, Bool.not_false, Bool.and_true, Bool.true_and, Bool.false_and, Bool.and_false, eq_self, Bool.false_eq_true, Bool.true_eq_false, if_true, if_false, reduceIte, h1, h8]) (Nat.le_refl _) (Nat.le_refl _)
    · refine r_iconst (v := 1) dX4_gotMoney_11 (by decide) ?_
      refine r_goto (tgt := 16) dX4_gotMoney_12 (by decide) ?_
      exact r_zret dX4_gotMoney_16 rfl nar1 (by simp only [gmB, bI, decide_true, decide_false, Bool.not_true, Bool.not_false, Bool.and_true, Bool.true_and, Bool.false_and, Bool.and_false, eq_self, Bool.false_eq_true, Bool.true_eq_false, if_true, if_false, reduceIte, h1, h8]) (Nat.le_refl _) (Nat.le_refl _)
end
