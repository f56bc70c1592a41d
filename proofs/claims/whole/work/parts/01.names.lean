def lw_okq (q : MethodName × Nat) : Prop := (q.1.cls ≠ "java/lang/invoke/MethodHandle" ∧ q.1.cls ≠ "java/lang/invoke/VarHandle") ∧ Cond.instantiable q.1.cls q.2 ∈ tables_1 ∧ Cond.privateMethod q.1 ∈ tables_1 ∧ Cond.instanceMethod q.1 ∈ tables_1
theorem lw_p0 : lw_okq (⟨"TurningWheel$Reader", "skipBlanks", "()V"⟩, 10) := ⟨⟨by decide +kernel, by decide +kernel⟩, List.mem_of_getElem? (i := 22) (by decide +kernel), List.mem_of_getElem? (i := 311) (by decide +kernel), List.mem_of_getElem? (i := 312) (by decide +kernel)⟩
theorem lw_p1 : lw_okq (⟨"TurningWheel$Reader", "readWays", "()Z"⟩, 10) := ⟨⟨by decide +kernel, by decide +kernel⟩, List.mem_of_getElem? (i := 22) (by decide +kernel), List.mem_of_getElem? (i := 315) (by decide +kernel), List.mem_of_getElem? (i := 316) (by decide +kernel)⟩
theorem lw_p2 : lw_okq (⟨"TurningWheel$Reader", "take", "(I)Z"⟩, 10) := ⟨⟨by decide +kernel, by decide +kernel⟩, List.mem_of_getElem? (i := 22) (by decide +kernel), List.mem_of_getElem? (i := 319) (by decide +kernel), List.mem_of_getElem? (i := 320) (by decide +kernel)⟩
theorem lw_p3 : lw_okq (⟨"TurningWheel$Reader", "letter", "()I"⟩, 10) := ⟨⟨by decide +kernel, by decide +kernel⟩, List.mem_of_getElem? (i := 22) (by decide +kernel), List.mem_of_getElem? (i := 323) (by decide +kernel), List.mem_of_getElem? (i := 324) (by decide +kernel)⟩
theorem lw_p4 : lw_okq (⟨"TurningWheel$Reader", "refuse", "(II)Z"⟩, 10) := ⟨⟨by decide +kernel, by decide +kernel⟩, List.mem_of_getElem? (i := 22) (by decide +kernel), List.mem_of_getElem? (i := 327) (by decide +kernel), List.mem_of_getElem? (i := 328) (by decide +kernel)⟩
theorem lw_p5 : lw_okq (⟨"TurningWheel$Reader", "readWay", "()Z"⟩, 10) := ⟨⟨by decide +kernel, by decide +kernel⟩, List.mem_of_getElem? (i := 22) (by decide +kernel), List.mem_of_getElem? (i := 331) (by decide +kernel), List.mem_of_getElem? (i := 332) (by decide +kernel)⟩
theorem lw_p6 : lw_okq (⟨"TurningWheel$Reader", "readNumber", "(II)Z"⟩, 10) := ⟨⟨by decide +kernel, by decide +kernel⟩, List.mem_of_getElem? (i := 22) (by decide +kernel), List.mem_of_getElem? (i := 335) (by decide +kernel), List.mem_of_getElem? (i := 336) (by decide +kernel)⟩
theorem lw_p7 : lw_okq (⟨"TurningWheel$Reader", "readClause", "()Z"⟩, 10) := ⟨⟨by decide +kernel, by decide +kernel⟩, List.mem_of_getElem? (i := 22) (by decide +kernel), List.mem_of_getElem? (i := 343) (by decide +kernel), List.mem_of_getElem? (i := 344) (by decide +kernel)⟩
theorem lw_p8 : lw_okq (⟨"TurningWheel$Reader", "readTest", "()Z"⟩, 10) := ⟨⟨by decide +kernel, by decide +kernel⟩, List.mem_of_getElem? (i := 22) (by decide +kernel), List.mem_of_getElem? (i := 347) (by decide +kernel), List.mem_of_getElem? (i := 348) (by decide +kernel)⟩
theorem lw_p9 : lw_okq (⟨"TurningWheel$Reader", "readWaySet", "(I)Z"⟩, 10) := ⟨⟨by decide +kernel, by decide +kernel⟩, List.mem_of_getElem? (i := 22) (by decide +kernel), List.mem_of_getElem? (i := 351) (by decide +kernel), List.mem_of_getElem? (i := 352) (by decide +kernel)⟩
theorem lw_p10 : lw_okq (⟨"TurningWheel$Reader", "readServant", "()Z"⟩, 10) := ⟨⟨by decide +kernel, by decide +kernel⟩, List.mem_of_getElem? (i := 22) (by decide +kernel), List.mem_of_getElem? (i := 366) (by decide +kernel), List.mem_of_getElem? (i := 367) (by decide +kernel)⟩
theorem lw_p11 : lw_okq (⟨"TurningWheel$Reader", "readPay", "()Z"⟩, 10) := ⟨⟨by decide +kernel, by decide +kernel⟩, List.mem_of_getElem? (i := 22) (by decide +kernel), List.mem_of_getElem? (i := 370) (by decide +kernel), List.mem_of_getElem? (i := 371) (by decide +kernel)⟩
theorem lw_p12 : lw_okq (⟨"TurningWheel", "beginAnew", "()V"⟩, 9) := ⟨⟨by decide +kernel, by decide +kernel⟩, List.mem_of_getElem? (i := 14) (by decide +kernel), List.mem_of_getElem? (i := 378) (by decide +kernel), List.mem_of_getElem? (i := 379) (by decide +kernel)⟩
theorem lw_p13 : lw_okq (⟨"TurningWheel", "waysLeft", "()I"⟩, 9) := ⟨⟨by decide +kernel, by decide +kernel⟩, List.mem_of_getElem? (i := 14) (by decide +kernel), List.mem_of_getElem? (i := 402) (by decide +kernel), List.mem_of_getElem? (i := 403) (by decide +kernel)⟩
theorem lw_p14 : lw_okq (⟨"TurningWheel", "spent", "()I"⟩, 9) := ⟨⟨by decide +kernel, by decide +kernel⟩, List.mem_of_getElem? (i := 14) (by decide +kernel), List.mem_of_getElem? (i := 415) (by decide +kernel), List.mem_of_getElem? (i := 416) (by decide +kernel)⟩
theorem lw_p15 : lw_okq (⟨"TurningWheel", "refusalOfDays", "(I)I"⟩, 9) := ⟨⟨by decide +kernel, by decide +kernel⟩, List.mem_of_getElem? (i := 14) (by decide +kernel), List.mem_of_getElem? (i := 458) (by decide +kernel), List.mem_of_getElem? (i := 459) (by decide +kernel)⟩
def lw_privs_1 : List (MethodName × Nat) := [(⟨"TurningWheel$Reader", "skipBlanks", "()V"⟩, 10), (⟨"TurningWheel$Reader", "readWays", "()Z"⟩, 10), (⟨"TurningWheel$Reader", "take", "(I)Z"⟩, 10), (⟨"TurningWheel$Reader", "letter", "()I"⟩, 10), (⟨"TurningWheel$Reader", "refuse", "(II)Z"⟩, 10), (⟨"TurningWheel$Reader", "readWay", "()Z"⟩, 10), (⟨"TurningWheel$Reader", "readNumber", "(II)Z"⟩, 10), (⟨"TurningWheel$Reader", "readClause", "()Z"⟩, 10), (⟨"TurningWheel$Reader", "readTest", "()Z"⟩, 10), (⟨"TurningWheel$Reader", "readWaySet", "(I)Z"⟩, 10), (⟨"TurningWheel$Reader", "readServant", "()Z"⟩, 10), (⟨"TurningWheel$Reader", "readPay", "()Z"⟩, 10), (⟨"TurningWheel", "beginAnew", "()V"⟩, 9), (⟨"TurningWheel", "waysLeft", "()I"⟩, 9), (⟨"TurningWheel", "spent", "()I"⟩, 9), (⟨"TurningWheel", "refusalOfDays", "(I)I"⟩, 9)]
theorem lw_r1 : ∀ q ∈ lw_privs_1, lw_okq q := List.forall_mem_cons.mpr ⟨lw_p0, List.forall_mem_cons.mpr ⟨lw_p1, List.forall_mem_cons.mpr ⟨lw_p2, List.forall_mem_cons.mpr ⟨lw_p3, List.forall_mem_cons.mpr ⟨lw_p4, List.forall_mem_cons.mpr ⟨lw_p5, List.forall_mem_cons.mpr ⟨lw_p6, List.forall_mem_cons.mpr ⟨lw_p7, List.forall_mem_cons.mpr ⟨lw_p8, List.forall_mem_cons.mpr ⟨lw_p9, List.forall_mem_cons.mpr ⟨lw_p10, List.forall_mem_cons.mpr ⟨lw_p11, List.forall_mem_cons.mpr ⟨lw_p12, List.forall_mem_cons.mpr ⟨lw_p13, List.forall_mem_cons.mpr ⟨lw_p14, List.forall_mem_cons.mpr ⟨lw_p15, fun _ h => absurd h List.not_mem_nil⟩⟩⟩⟩⟩⟩⟩⟩⟩⟩⟩⟩⟩⟩⟩⟩
theorem lw_p16 : lw_okq (⟨"TurningWheel", "doByDraw", "()V"⟩, 9) := ⟨⟨by decide +kernel, by decide +kernel⟩, List.mem_of_getElem? (i := 14) (by decide +kernel), List.mem_of_getElem? (i := 520) (by decide +kernel), List.mem_of_getElem? (i := 521) (by decide +kernel)⟩
theorem lw_p17 : lw_okq (⟨"TurningWheel", "liarsBy", "(I)I"⟩, 9) := ⟨⟨by decide +kernel, by decide +kernel⟩, List.mem_of_getElem? (i := 14) (by decide +kernel), List.mem_of_getElem? (i := 558) (by decide +kernel), List.mem_of_getElem? (i := 559) (by decide +kernel)⟩
theorem lw_p18 : lw_okq (⟨"TurningWheel", "wayOfFewestLiars", "()I"⟩, 9) := ⟨⟨by decide +kernel, by decide +kernel⟩, List.mem_of_getElem? (i := 14) (by decide +kernel), List.mem_of_getElem? (i := 566) (by decide +kernel), List.mem_of_getElem? (i := 567) (by decide +kernel)⟩
theorem lw_p19 : lw_okq (⟨"TurningWheel", "cheapestTests", "(II)I"⟩, 9) := ⟨⟨by decide +kernel, by decide +kernel⟩, List.mem_of_getElem? (i := 14) (by decide +kernel), List.mem_of_getElem? (i := 580) (by decide +kernel), List.mem_of_getElem? (i := 581) (by decide +kernel)⟩
theorem lw_p20 : lw_okq (⟨"TurningWheel", "costYet", "(I)I"⟩, 9) := ⟨⟨by decide +kernel, by decide +kernel⟩, List.mem_of_getElem? (i := 14) (by decide +kernel), List.mem_of_getElem? (i := 584) (by decide +kernel), List.mem_of_getElem? (i := 585) (by decide +kernel)⟩
theorem lw_p21 : lw_okq (⟨"TurningWheel", "offerFor", "(III)I"⟩, 9) := ⟨⟨by decide +kernel, by decide +kernel⟩, List.mem_of_getElem? (i := 14) (by decide +kernel), List.mem_of_getElem? (i := 597) (by decide +kernel), List.mem_of_getElem? (i := 598) (by decide +kernel)⟩
theorem lw_p22 : lw_okq (⟨"TurningWheel$Hearsay", "fits", "(II)Z"⟩, 3) := ⟨⟨by decide +kernel, by decide +kernel⟩, List.mem_of_getElem? (i := 193) (by decide +kernel), List.mem_of_getElem? (i := 635) (by decide +kernel), List.mem_of_getElem? (i := 636) (by decide +kernel)⟩
theorem lw_p23 : lw_okq (⟨"TurningWheelModel", "skips", "()V"⟩, 24) := ⟨⟨by decide +kernel, by decide +kernel⟩, List.mem_of_getElem? (i := 690) (by decide +kernel), List.mem_of_getElem? (i := 782) (by decide +kernel), List.mem_of_getElem? (i := 783) (by decide +kernel)⟩
theorem lw_p24 : lw_okq (⟨"TurningWheelModel", "look", "()I"⟩, 24) := ⟨⟨by decide +kernel, by decide +kernel⟩, List.mem_of_getElem? (i := 690) (by decide +kernel), List.mem_of_getElem? (i := 786) (by decide +kernel), List.mem_of_getElem? (i := 787) (by decide +kernel)⟩
theorem lw_p25 : lw_okq (⟨"TurningWheelModel", "reads", "()V"⟩, 24) := ⟨⟨by decide +kernel, by decide +kernel⟩, List.mem_of_getElem? (i := 690) (by decide +kernel), List.mem_of_getElem? (i := 790) (by decide +kernel), List.mem_of_getElem? (i := 791) (by decide +kernel)⟩
theorem lw_p26 : lw_okq (⟨"TurningWheelModel", "readsWays", "()V"⟩, 24) := ⟨⟨by decide +kernel, by decide +kernel⟩, List.mem_of_getElem? (i := 690) (by decide +kernel), List.mem_of_getElem? (i := 794) (by decide +kernel), List.mem_of_getElem? (i := 795) (by decide +kernel)⟩
theorem lw_p27 : lw_okq (⟨"TurningWheelModel", "opens", "(Z)Z"⟩, 24) := ⟨⟨by decide +kernel, by decide +kernel⟩, List.mem_of_getElem? (i := 690) (by decide +kernel), List.mem_of_getElem? (i := 798) (by decide +kernel), List.mem_of_getElem? (i := 799) (by decide +kernel)⟩
theorem lw_p28 : lw_okq (⟨"TurningWheelModel", "fails", "(I)V"⟩, 24) := ⟨⟨by decide +kernel, by decide +kernel⟩, List.mem_of_getElem? (i := 690) (by decide +kernel), List.mem_of_getElem? (i := 802) (by decide +kernel), List.mem_of_getElem? (i := 803) (by decide +kernel)⟩
theorem lw_p29 : lw_okq (⟨"TurningWheelModel", "number", "(II)I"⟩, 24) := ⟨⟨by decide +kernel, by decide +kernel⟩, List.mem_of_getElem? (i := 690) (by decide +kernel), List.mem_of_getElem? (i := 806) (by decide +kernel), List.mem_of_getElem? (i := 807) (by decide +kernel)⟩
theorem lw_p30 : lw_okq (⟨"TurningWheelModel", "word", "(I)V"⟩, 24) := ⟨⟨by decide +kernel, by decide +kernel⟩, List.mem_of_getElem? (i := 690) (by decide +kernel), List.mem_of_getElem? (i := 810) (by decide +kernel), List.mem_of_getElem? (i := 811) (by decide +kernel)⟩
theorem lw_p31 : lw_okq (⟨"TurningWheelModel", "readsTest", "()V"⟩, 24) := ⟨⟨by decide +kernel, by decide +kernel⟩, List.mem_of_getElem? (i := 690) (by decide +kernel), List.mem_of_getElem? (i := 814) (by decide +kernel), List.mem_of_getElem? (i := 815) (by decide +kernel)⟩
def lw_privs_2 : List (MethodName × Nat) := [(⟨"TurningWheel", "doByDraw", "()V"⟩, 9), (⟨"TurningWheel", "liarsBy", "(I)I"⟩, 9), (⟨"TurningWheel", "wayOfFewestLiars", "()I"⟩, 9), (⟨"TurningWheel", "cheapestTests", "(II)I"⟩, 9), (⟨"TurningWheel", "costYet", "(I)I"⟩, 9), (⟨"TurningWheel", "offerFor", "(III)I"⟩, 9), (⟨"TurningWheel$Hearsay", "fits", "(II)Z"⟩, 3), (⟨"TurningWheelModel", "skips", "()V"⟩, 24), (⟨"TurningWheelModel", "look", "()I"⟩, 24), (⟨"TurningWheelModel", "reads", "()V"⟩, 24), (⟨"TurningWheelModel", "readsWays", "()V"⟩, 24), (⟨"TurningWheelModel", "opens", "(Z)Z"⟩, 24), (⟨"TurningWheelModel", "fails", "(I)V"⟩, 24), (⟨"TurningWheelModel", "number", "(II)I"⟩, 24), (⟨"TurningWheelModel", "word", "(I)V"⟩, 24), (⟨"TurningWheelModel", "readsTest", "()V"⟩, 24)]
theorem lw_r2 : ∀ q ∈ lw_privs_2, lw_okq q := List.forall_mem_cons.mpr ⟨lw_p16, List.forall_mem_cons.mpr ⟨lw_p17, List.forall_mem_cons.mpr ⟨lw_p18, List.forall_mem_cons.mpr ⟨lw_p19, List.forall_mem_cons.mpr ⟨lw_p20, List.forall_mem_cons.mpr ⟨lw_p21, List.forall_mem_cons.mpr ⟨lw_p22, List.forall_mem_cons.mpr ⟨lw_p23, List.forall_mem_cons.mpr ⟨lw_p24, List.forall_mem_cons.mpr ⟨lw_p25, List.forall_mem_cons.mpr ⟨lw_p26, List.forall_mem_cons.mpr ⟨lw_p27, List.forall_mem_cons.mpr ⟨lw_p28, List.forall_mem_cons.mpr ⟨lw_p29, List.forall_mem_cons.mpr ⟨lw_p30, List.forall_mem_cons.mpr ⟨lw_p31, fun _ h => absurd h List.not_mem_nil⟩⟩⟩⟩⟩⟩⟩⟩⟩⟩⟩⟩⟩⟩⟩⟩
theorem lw_p32 : lw_okq (⟨"TurningWheelModel", "waysOf", "(II)I"⟩, 24) := ⟨⟨by decide +kernel, by decide +kernel⟩, List.mem_of_getElem? (i := 690) (by decide +kernel), List.mem_of_getElem? (i := 821) (by decide +kernel), List.mem_of_getElem? (i := 822) (by decide +kernel)⟩
theorem lw_p33 : lw_okq (⟨"TurningWheelModel", "readsServant", "()V"⟩, 24) := ⟨⟨by decide +kernel, by decide +kernel⟩, List.mem_of_getElem? (i := 690) (by decide +kernel), List.mem_of_getElem? (i := 825) (by decide +kernel), List.mem_of_getElem? (i := 826) (by decide +kernel)⟩
theorem lw_p34 : lw_okq (⟨"TurningWheelModel", "readsPay", "()V"⟩, 24) := ⟨⟨by decide +kernel, by decide +kernel⟩, List.mem_of_getElem? (i := 690) (by decide +kernel), List.mem_of_getElem? (i := 829) (by decide +kernel), List.mem_of_getElem? (i := 830) (by decide +kernel)⟩
theorem lw_p35 : lw_okq (⟨"TurningWheelModel", "leftBy", "(I)I"⟩, 24) := ⟨⟨by decide +kernel, by decide +kernel⟩, List.mem_of_getElem? (i := 690) (by decide +kernel), List.mem_of_getElem? (i := 844) (by decide +kernel), List.mem_of_getElem? (i := 845) (by decide +kernel)⟩
theorem lw_p36 : lw_okq (⟨"TurningWheelModel", "shownBy", "(I)I"⟩, 24) := ⟨⟨by decide +kernel, by decide +kernel⟩, List.mem_of_getElem? (i := 690) (by decide +kernel), List.mem_of_getElem? (i := 851) (by decide +kernel), List.mem_of_getElem? (i := 852) (by decide +kernel)⟩
theorem lw_p37 : lw_okq (⟨"TurningWheelModel", "spent", "()I"⟩, 24) := ⟨⟨by decide +kernel, by decide +kernel⟩, List.mem_of_getElem? (i := 690) (by decide +kernel), List.mem_of_getElem? (i := 855) (by decide +kernel), List.mem_of_getElem? (i := 856) (by decide +kernel)⟩
theorem lw_p38 : lw_okq (⟨"TurningWheelModel", "isWay", "(I)Z"⟩, 24) := ⟨⟨by decide +kernel, by decide +kernel⟩, List.mem_of_getElem? (i := 690) (by decide +kernel), List.mem_of_getElem? (i := 864) (by decide +kernel), List.mem_of_getElem? (i := 865) (by decide +kernel)⟩
theorem lw_p39 : lw_okq (⟨"TurningWheelModel", "isTest", "(I)Z"⟩, 24) := ⟨⟨by decide +kernel, by decide +kernel⟩, List.mem_of_getElem? (i := 690) (by decide +kernel), List.mem_of_getElem? (i := 873) (by decide +kernel), List.mem_of_getElem? (i := 874) (by decide +kernel)⟩
theorem lw_p40 : lw_okq (⟨"TurningWheelModel", "isServant", "(I)Z"⟩, 24) := ⟨⟨by decide +kernel, by decide +kernel⟩, List.mem_of_getElem? (i := 690) (by decide +kernel), List.mem_of_getElem? (i := 881) (by decide +kernel), List.mem_of_getElem? (i := 882) (by decide +kernel)⟩
theorem lw_p41 : lw_okq (⟨"TurningWheelModel", "barred", "(I)I"⟩, 24) := ⟨⟨by decide +kernel, by decide +kernel⟩, List.mem_of_getElem? (i := 690) (by decide +kernel), List.mem_of_getElem? (i := 889) (by decide +kernel), List.mem_of_getElem? (i := 890) (by decide +kernel)⟩
theorem lw_p42 : lw_okq (⟨"TurningWheelModel", "isCastle", "()Z"⟩, 24) := ⟨⟨by decide +kernel, by decide +kernel⟩, List.mem_of_getElem? (i := 690) (by decide +kernel), List.mem_of_getElem? (i := 893) (by decide +kernel), List.mem_of_getElem? (i := 894) (by decide +kernel)⟩
theorem lw_p43 : lw_okq (⟨"TurningWheelModel", "notes", "()V"⟩, 24) := ⟨⟨by decide +kernel, by decide +kernel⟩, List.mem_of_getElem? (i := 690) (by decide +kernel), List.mem_of_getElem? (i := 898) (by decide +kernel), List.mem_of_getElem? (i := 899) (by decide +kernel)⟩
theorem lw_p44 : lw_okq (⟨"TurningWheelModel", "passes", "()V"⟩, 24) := ⟨⟨by decide +kernel, by decide +kernel⟩, List.mem_of_getElem? (i := 690) (by decide +kernel), List.mem_of_getElem? (i := 902) (by decide +kernel), List.mem_of_getElem? (i := 903) (by decide +kernel)⟩
theorem lw_p45 : lw_okq (⟨"TurningWheelModel", "gets", "(II)V"⟩, 24) := ⟨⟨by decide +kernel, by decide +kernel⟩, List.mem_of_getElem? (i := 690) (by decide +kernel), List.mem_of_getElem? (i := 906) (by decide +kernel), List.mem_of_getElem? (i := 907) (by decide +kernel)⟩
theorem lw_p46 : lw_okq (⟨"TurningWheelModel", "canBe", "(I)Z"⟩, 24) := ⟨⟨by decide +kernel, by decide +kernel⟩, List.mem_of_getElem? (i := 690) (by decide +kernel), List.mem_of_getElem? (i := 914) (by decide +kernel), List.mem_of_getElem? (i := 915) (by decide +kernel)⟩
theorem lw_p47 : lw_okq (⟨"TurningWheelModel", "hires", "(IZ)V"⟩, 24) := ⟨⟨by decide +kernel, by decide +kernel⟩, List.mem_of_getElem? (i := 690) (by decide +kernel), List.mem_of_getElem? (i := 930) (by decide +kernel), List.mem_of_getElem? (i := 931) (by decide +kernel)⟩
def lw_privs_3 : List (MethodName × Nat) := [(⟨"TurningWheelModel", "waysOf", "(II)I"⟩, 24), (⟨"TurningWheelModel", "readsServant", "()V"⟩, 24), (⟨"TurningWheelModel", "readsPay", "()V"⟩, 24), (⟨"TurningWheelModel", "leftBy", "(I)I"⟩, 24), (⟨"TurningWheelModel", "shownBy", "(I)I"⟩, 24), (⟨"TurningWheelModel", "spent", "()I"⟩, 24), (⟨"TurningWheelModel", "isWay", "(I)Z"⟩, 24), (⟨"TurningWheelModel", "isTest", "(I)Z"⟩, 24), (⟨"TurningWheelModel", "isServant", "(I)Z"⟩, 24), (⟨"TurningWheelModel", "barred", "(I)I"⟩, 24), (⟨"TurningWheelModel", "isCastle", "()Z"⟩, 24), (⟨"TurningWheelModel", "notes", "()V"⟩, 24), (⟨"TurningWheelModel", "passes", "()V"⟩, 24), (⟨"TurningWheelModel", "gets", "(II)V"⟩, 24), (⟨"TurningWheelModel", "canBe", "(I)Z"⟩, 24), (⟨"TurningWheelModel", "hires", "(IZ)V"⟩, 24)]
theorem lw_r3 : ∀ q ∈ lw_privs_3, lw_okq q := List.forall_mem_cons.mpr ⟨lw_p32, List.forall_mem_cons.mpr ⟨lw_p33, List.forall_mem_cons.mpr ⟨lw_p34, List.forall_mem_cons.mpr ⟨lw_p35, List.forall_mem_cons.mpr ⟨lw_p36, List.forall_mem_cons.mpr ⟨lw_p37, List.forall_mem_cons.mpr ⟨lw_p38, List.forall_mem_cons.mpr ⟨lw_p39, List.forall_mem_cons.mpr ⟨lw_p40, List.forall_mem_cons.mpr ⟨lw_p41, List.forall_mem_cons.mpr ⟨lw_p42, List.forall_mem_cons.mpr ⟨lw_p43, List.forall_mem_cons.mpr ⟨lw_p44, List.forall_mem_cons.mpr ⟨lw_p45, List.forall_mem_cons.mpr ⟨lw_p46, List.forall_mem_cons.mpr ⟨lw_p47, fun _ h => absurd h List.not_mem_nil⟩⟩⟩⟩⟩⟩⟩⟩⟩⟩⟩⟩⟩⟩⟩⟩
theorem lw_p48 : lw_okq (⟨"TurningWheelModel", "areWays", "(I)Z"⟩, 24) := ⟨⟨by decide +kernel, by decide +kernel⟩, List.mem_of_getElem? (i := 690) (by decide +kernel), List.mem_of_getElem? (i := 938) (by decide +kernel), List.mem_of_getElem? (i := 939) (by decide +kernel)⟩
theorem lw_p49 : lw_okq (⟨"TurningWheelModel", "draw", "(I)I"⟩, 24) := ⟨⟨by decide +kernel, by decide +kernel⟩, List.mem_of_getElem? (i := 690) (by decide +kernel), List.mem_of_getElem? (i := 946) (by decide +kernel), List.mem_of_getElem? (i := 947) (by decide +kernel)⟩
theorem lw_p50 : lw_okq (⟨"TurningWheelModel", "beliefBy", "(II)I"⟩, 24) := ⟨⟨by decide +kernel, by decide +kernel⟩, List.mem_of_getElem? (i := 690) (by decide +kernel), List.mem_of_getElem? (i := 962) (by decide +kernel), List.mem_of_getElem? (i := 963) (by decide +kernel)⟩
theorem lw_p51 : lw_okq (⟨"TurningWheelModel", "likelyIn", "(I)I"⟩, 24) := ⟨⟨by decide +kernel, by decide +kernel⟩, List.mem_of_getElem? (i := 690) (by decide +kernel), List.mem_of_getElem? (i := 967) (by decide +kernel), List.mem_of_getElem? (i := 968) (by decide +kernel)⟩
theorem lw_p52 : lw_okq (⟨"TurningWheelModel", "liarsBy", "(I)I"⟩, 24) := ⟨⟨by decide +kernel, by decide +kernel⟩, List.mem_of_getElem? (i := 690) (by decide +kernel), List.mem_of_getElem? (i := 975) (by decide +kernel), List.mem_of_getElem? (i := 976) (by decide +kernel)⟩
theorem lw_p53 : lw_okq (⟨"TurningWheelModel", "costOf", "(I)I"⟩, 24) := ⟨⟨by decide +kernel, by decide +kernel⟩, List.mem_of_getElem? (i := 690) (by decide +kernel), List.mem_of_getElem? (i := 990) (by decide +kernel), List.mem_of_getElem? (i := 991) (by decide +kernel)⟩
theorem lw_p54 : lw_okq (⟨"TurningWheelModel", "offerBy", "(III)I"⟩, 24) := ⟨⟨by decide +kernel, by decide +kernel⟩, List.mem_of_getElem? (i := 690) (by decide +kernel), List.mem_of_getElem? (i := 1002) (by decide +kernel), List.mem_of_getElem? (i := 1003) (by decide +kernel)⟩
theorem lw_p55 : lw_okq (⟨"TurningWheelModel", "paidSet", "()I"⟩, 24) := ⟨⟨by decide +kernel, by decide +kernel⟩, List.mem_of_getElem? (i := 690) (by decide +kernel), List.mem_of_getElem? (i := 1028) (by decide +kernel), List.mem_of_getElem? (i := 1029) (by decide +kernel)⟩
theorem lw_p56 : lw_okq (⟨"TurningWheelModel", "gotBy", "(II)I"⟩, 24) := ⟨⟨by decide +kernel, by decide +kernel⟩, List.mem_of_getElem? (i := 690) (by decide +kernel), List.mem_of_getElem? (i := 1032) (by decide +kernel), List.mem_of_getElem? (i := 1033) (by decide +kernel)⟩
def lw_privs_4 : List (MethodName × Nat) := [(⟨"TurningWheelModel", "areWays", "(I)Z"⟩, 24), (⟨"TurningWheelModel", "draw", "(I)I"⟩, 24), (⟨"TurningWheelModel", "beliefBy", "(II)I"⟩, 24), (⟨"TurningWheelModel", "likelyIn", "(I)I"⟩, 24), (⟨"TurningWheelModel", "liarsBy", "(I)I"⟩, 24), (⟨"TurningWheelModel", "costOf", "(I)I"⟩, 24), (⟨"TurningWheelModel", "offerBy", "(III)I"⟩, 24), (⟨"TurningWheelModel", "paidSet", "()I"⟩, 24), (⟨"TurningWheelModel", "gotBy", "(II)I"⟩, 24)]
theorem lw_r4 : ∀ q ∈ lw_privs_4, lw_okq q := List.forall_mem_cons.mpr ⟨lw_p48, List.forall_mem_cons.mpr ⟨lw_p49, List.forall_mem_cons.mpr ⟨lw_p50, List.forall_mem_cons.mpr ⟨lw_p51, List.forall_mem_cons.mpr ⟨lw_p52, List.forall_mem_cons.mpr ⟨lw_p53, List.forall_mem_cons.mpr ⟨lw_p54, List.forall_mem_cons.mpr ⟨lw_p55, List.forall_mem_cons.mpr ⟨lw_p56, fun _ h => absurd h List.not_mem_nil⟩⟩⟩⟩⟩⟩⟩⟩⟩
def lw_privs : List (MethodName × Nat) := lw_privs_1 ++ (lw_privs_2 ++ (lw_privs_3 ++ (lw_privs_4)))
def lw_tbl : List Cond := k2_sels lw_privs ++ tables_1
theorem lw_privs_ok : ∀ q ∈ lw_privs, lw_okq q := by
  show ∀ q ∈ lw_privs_1 ++ (lw_privs_2 ++ (lw_privs_3 ++ (lw_privs_4))), lw_okq q
  exact List.forall_mem_append.mpr ⟨lw_r1, List.forall_mem_append.mpr ⟨lw_r2, List.forall_mem_append.mpr ⟨lw_r3, lw_r4⟩⟩⟩
def RX0 : String := "TurningWheel$Affairs"
def TX0 : u_T := fun k => match k with
  | 0 => ("TurningWheel$Affairs", "days", "I", false)
  | 1 => ("TurningWheel$Affairs", "turned", "I", false)
  | 2 => ("TurningWheel$Affairs", "turns", "Z", false)
  | 3 => ("TurningWheel$Affairs", "sealed", "Z", false)
  | 4 => ("TurningWheel$Affairs", "made", "I", false)
  | 5 => ("TurningWheel$Affairs", "hired", "I", false)
  | 6 => ("TurningWheel$Affairs", "says", "[I", true)
  | 7 => ("TurningWheel$Affairs", "got", "[I", true)
  | _ => ("TurningWheel$Affairs", "since", "[I", true)
def tyX0 : Nat → FieldType := fun k => match k with
  | 0 => .int
  | 1 => .int
  | 2 => .boolean
  | 3 => .boolean
  | 4 => .int
  | 5 => .int
  | 6 => .array .int
  | 7 => .array .int
  | _ => .array .int
theorem nmX0 : ∀ a, a < 9 → ∀ b, b < 9 → a ≠ b → (TX0 a).2.1 ≠ (TX0 b).2.1 := by decide +kernel
theorem tyX0_ok : ∀ k, k < 9 → parseFieldDescriptor (TX0 k).2.2.1 = some (tyX0 k) := by decide +kernel
abbrev cX0_init : ByteArray := prog_2_method_1_code
def yX0_init : MethodName := ⟨RX0, "<init>", "()V"⟩
abbrev cX0_begin : ByteArray := prog_2_method_2_code
def yX0_begin : MethodName := ⟨RX0, "begin", "(LTurningWheel$Castle;)V"⟩
abbrev cX0_copyFrom : ByteArray := prog_2_method_3_code
def yX0_copyFrom : MethodName := ⟨RX0, "copyFrom", "(LTurningWheel$Affairs;)V"⟩
abbrev cX0_passDay : ByteArray := prog_2_method_4_code
def yX0_passDay : MethodName := ⟨RX0, "passDay", "(LTurningWheel$Castle;)V"⟩
abbrev cX0_canMake : ByteArray := prog_2_method_5_code
def yX0_canMake : MethodName := ⟨RX0, "canMake", "(LTurningWheel$Castle;I)Z"⟩
abbrev cX0_setHired : ByteArray := prog_2_method_6_code
def yX0_setHired : MethodName := ⟨RX0, "setHired", "(IZ)V"⟩
abbrev cX0_give : ByteArray := prog_2_method_7_code
def yX0_give : MethodName := ⟨RX0, "give", "(II)V"⟩
def RX1 : String := "TurningWheel$Book"
def TX1 : u_T := fun k => match k with
  | 0 => ("TurningWheel$Book", "entries", "[I", true)
  | _ => ("TurningWheel$Book", "count", "I", false)
def tyX1 : Nat → FieldType := fun k => match k with
  | 0 => .array .int
  | _ => .int
theorem nmX1 : ∀ a, a < 2 → ∀ b, b < 2 → a ≠ b → (TX1 a).2.1 ≠ (TX1 b).2.1 := by decide +kernel
theorem tyX1_ok : ∀ k, k < 2 → parseFieldDescriptor (TX1 k).2.2.1 = some (tyX1 k) := by decide +kernel
abbrev cX1_init : ByteArray := prog_3_method_1_code
def yX1_init : MethodName := ⟨RX1, "<init>", "()V"⟩
abbrev cX1_add : ByteArray := prog_3_method_2_code
def yX1_add : MethodName := ⟨RX1, "add", "(I)Z"⟩
abbrev cX1_firstOtherThan : ByteArray := prog_3_method_3_code
def yX1_firstOtherThan : MethodName := ⟨RX1, "firstOtherThan", "(I)I"⟩
def RX2 : String := "TurningWheel$Castle"
def TX2 : u_T := fun k => match k with
  | 0 => ("TurningWheel$Castle", "ways", "I", false)
  | 1 => ("TurningWheel$Castle", "likely", "[I", true)
  | 2 => ("TurningWheel$Castle", "tests", "I", false)
  | 3 => ("TurningWheel$Castle", "rules", "[I", true)
  | 4 => ("TurningWheel$Castle", "shows", "[I", true)
  | 5 => ("TurningWheel$Castle", "costs", "[I", true)
  | 6 => ("TurningWheel$Castle", "servants", "I", false)
  | 7 => ("TurningWheel$Castle", "says", "[I", true)
  | 8 => ("TurningWheel$Castle", "prices", "[I", true)
  | 9 => ("TurningWheel$Castle", "pay", "I", false)
  | _ => ("TurningWheel$Castle", "every", "I", false)
def tyX2 : Nat → FieldType := fun k => match k with
  | 0 => .int
  | 1 => .array .int
  | 2 => .int
  | 3 => .array .int
  | 4 => .array .int
  | 5 => .array .int
  | 6 => .int
  | 7 => .array .int
  | 8 => .array .int
  | 9 => .int
  | _ => .int
theorem nmX2 : ∀ a, a < 11 → ∀ b, b < 11 → a ≠ b → (TX2 a).2.1 ≠ (TX2 b).2.1 := by decide +kernel
theorem tyX2_ok : ∀ k, k < 11 → parseFieldDescriptor (TX2 k).2.2.1 = some (tyX2 k) := by decide +kernel
abbrev cX2_init : ByteArray := prog_4_method_1_code
def yX2_init : MethodName := ⟨RX2, "<init>", "()V"⟩
abbrev cX2_clear : ByteArray := prog_4_method_2_code
def yX2_clear : MethodName := ⟨RX2, "clear", "()V"⟩
abbrev cX2_stands : ByteArray := prog_4_method_3_code
def yX2_stands : MethodName := ⟨RX2, "stands", "()Z"⟩
abbrev cX2_hasWay : ByteArray := prog_4_method_4_code
def yX2_hasWay : MethodName := ⟨RX2, "hasWay", "(I)Z"⟩
abbrev cX2_hasTest : ByteArray := prog_4_method_5_code
def yX2_hasTest : MethodName := ⟨RX2, "hasTest", "(I)Z"⟩
abbrev cX2_hasServant : ByteArray := prog_4_method_6_code
def yX2_hasServant : MethodName := ⟨RX2, "hasServant", "(I)Z"⟩
abbrev cX2_hasWays : ByteArray := prog_4_method_7_code
def yX2_hasWays : MethodName := ⟨RX2, "hasWays", "(I)Z"⟩
abbrev cX2_allWays : ByteArray := prog_4_method_8_code
def yX2_allWays : MethodName := ⟨RX2, "allWays", "()I"⟩
abbrev cX2_leftBy : ByteArray := prog_4_method_9_code
def yX2_leftBy : MethodName := ⟨RX2, "leftBy", "(I)I"⟩
abbrev cX2_secretsOf : ByteArray := prog_4_method_10_code
def yX2_secretsOf : MethodName := ⟨RX2, "secretsOf", "(I)I"⟩
abbrev cX2_costOf : ByteArray := prog_4_method_11_code
def yX2_costOf : MethodName := ⟨RX2, "costOf", "(I)I"⟩
abbrev cX2_likelyOf : ByteArray := prog_4_method_12_code
def yX2_likelyOf : MethodName := ⟨RX2, "likelyOf", "(I)I"⟩
abbrev cX2_beliefIn : ByteArray := prog_4_method_13_code
def yX2_beliefIn : MethodName := ⟨RX2, "beliefIn", "(II)I"⟩
def RX3 : String := "TurningWheel$Draws"
def TX3 : u_T := fun k => match k with
  | _ => ("TurningWheel$Draws", "state", "I", false)
def tyX3 : Nat → FieldType := fun k => match k with
  | _ => .int
theorem nmX3 : ∀ a, a < 1 → ∀ b, b < 1 → a ≠ b → (TX3 a).2.1 ≠ (TX3 b).2.1 := by decide +kernel
theorem tyX3_ok : ∀ k, k < 1 → parseFieldDescriptor (TX3 k).2.2.1 = some (tyX3 k) := by decide +kernel
abbrev cX3_init : ByteArray := prog_5_method_1_code
def yX3_init : MethodName := ⟨RX3, "<init>", "()V"⟩
abbrev cX3_draw : ByteArray := prog_5_method_2_code
def yX3_draw : MethodName := ⟨RX3, "draw", "(I)I"⟩
def RX4 : String := "TurningWheel$Hearsay"
def TX4 : u_T := fun k => match k with
  | 0 => ("TurningWheel$Hearsay", "daysAgo", "[I", true)
  | 1 => ("TurningWheel$Hearsay", "came", "[Z", true)
  | _ => ("TurningWheel$Hearsay", "count", "I", false)
def tyX4 : Nat → FieldType := fun k => match k with
  | 0 => .array .int
  | 1 => .array .boolean
  | _ => .int
theorem nmX4 : ∀ a, a < 3 → ∀ b, b < 3 → a ≠ b → (TX4 a).2.1 ≠ (TX4 b).2.1 := by decide +kernel
theorem tyX4_ok : ∀ k, k < 3 → parseFieldDescriptor (TX4 k).2.2.1 = some (tyX4 k) := by decide +kernel
abbrev cX4_init : ByteArray := prog_6_method_1_code
def yX4_init : MethodName := ⟨RX4, "<init>", "()V"⟩
abbrev cX4_add : ByteArray := prog_6_method_2_code
def yX4_add : MethodName := ⟨RX4, "add", "(IZ)Z"⟩
abbrev cX4_fitting : ByteArray := prog_6_method_3_code
def yX4_fitting : MethodName := ⟨RX4, "fitting", "(I)I"⟩
abbrev cX4_fits : ByteArray := prog_6_method_4_code
def yX4_fits : MethodName := ⟨RX4, "fits", "(II)Z"⟩
abbrev cX4_gotMoney : ByteArray := prog_6_method_5_code
def yX4_gotMoney : MethodName := ⟨RX4, "gotMoney", "(III)Z"⟩
abbrev cX4_bestQuestion : ByteArray := prog_6_method_6_code
def yX4_bestQuestion : MethodName := ⟨RX4, "bestQuestion", "(I)I"⟩
abbrev cX4_greaterPart : ByteArray := prog_6_method_7_code
def yX4_greaterPart : MethodName := ⟨RX4, "greaterPart", "(III)I"⟩
def RX5 : String := "TurningWheel$History"
def TX5 : u_T := fun k => match k with
  | 0 => ("TurningWheel$History", "past", "[LTurningWheel$Affairs;", true)
  | 1 => ("TurningWheel$History", "end", "I", false)
  | _ => ("TurningWheel$History", "count", "I", false)
def tyX5 : Nat → FieldType := fun k => match k with
  | 0 => .array (.object "TurningWheel$Affairs")
  | 1 => .int
  | _ => .int
theorem nmX5 : ∀ a, a < 3 → ∀ b, b < 3 → a ≠ b → (TX5 a).2.1 ≠ (TX5 b).2.1 := by decide +kernel
theorem tyX5_ok : ∀ k, k < 3 → parseFieldDescriptor (TX5 k).2.2.1 = some (tyX5 k) := by decide +kernel
abbrev cX5_init : ByteArray := prog_7_method_1_code
def yX5_init : MethodName := ⟨RX5, "<init>", "()V"⟩
abbrev cX5_remember : ByteArray := prog_7_method_2_code
def yX5_remember : MethodName := ⟨RX5, "remember", "(LTurningWheel$Affairs;)V"⟩
abbrev cX5_recall : ByteArray := prog_7_method_3_code
def yX5_recall : MethodName := ⟨RX5, "recall", "(LTurningWheel$Affairs;)V"⟩
abbrev cX5_forget : ByteArray := prog_7_method_4_code
def yX5_forget : MethodName := ⟨RX5, "forget", "()V"⟩
def RX6 : String := "TurningWheel$Image"
def TX6 : u_T := fun k => match k with
  | 0 => ("TurningWheel$Image", "kept", "Z", false)
  | 1 => ("TurningWheel$Image", "affairs", "LTurningWheel$Affairs;", true)
  | _ => ("TurningWheel$Image", "drawState", "I", false)
def tyX6 : Nat → FieldType := fun k => match k with
  | 0 => .boolean
  | 1 => .object "TurningWheel$Affairs"
  | _ => .int
theorem nmX6 : ∀ a, a < 3 → ∀ b, b < 3 → a ≠ b → (TX6 a).2.1 ≠ (TX6 b).2.1 := by decide +kernel
theorem tyX6_ok : ∀ k, k < 3 → parseFieldDescriptor (TX6 k).2.2.1 = some (tyX6 k) := by decide +kernel
abbrev cX6_init : ByteArray := prog_8_method_1_code
def yX6_init : MethodName := ⟨RX6, "<init>", "()V"⟩
def RX7 : String := "TurningWheel$Reader"
def TX7 : u_T := fun k => match k with
  | 0 => ("TurningWheel$Reader", "letters", "[I", true)
  | 1 => ("TurningWheel$Reader", "count", "I", false)
  | 2 => ("TurningWheel$Reader", "length", "I", false)
  | 3 => ("TurningWheel$Reader", "at", "I", false)
  | 4 => ("TurningWheel$Reader", "into", "LTurningWheel$Castle;", false)
  | 5 => ("TurningWheel$Reader", "payTold", "Z", false)
  | 6 => ("TurningWheel$Reader", "number", "I", false)
  | 7 => ("TurningWheel$Reader", "numberPlace", "I", false)
  | 8 => ("TurningWheel$Reader", "kind", "I", false)
  | _ => ("TurningWheel$Reader", "place", "I", false)
def tyX7 : Nat → FieldType := fun k => match k with
  | 0 => .array .int
  | 1 => .int
  | 2 => .int
  | 3 => .int
  | 4 => .object "TurningWheel$Castle"
  | 5 => .boolean
  | 6 => .int
  | 7 => .int
  | 8 => .int
  | _ => .int
theorem nmX7 : ∀ a, a < 10 → ∀ b, b < 10 → a ≠ b → (TX7 a).2.1 ≠ (TX7 b).2.1 := by decide +kernel
theorem tyX7_ok : ∀ k, k < 10 → parseFieldDescriptor (TX7 k).2.2.1 = some (tyX7 k) := by decide +kernel
abbrev cX7_init : ByteArray := prog_9_method_1_code
def yX7_init : MethodName := ⟨RX7, "<init>", "()V"⟩
abbrev cX7_add : ByteArray := prog_9_method_2_code
def yX7_add : MethodName := ⟨RX7, "add", "(I)Z"⟩
abbrev cX7_readText : ByteArray := prog_9_method_3_code
def yX7_readText : MethodName := ⟨RX7, "readText", "()I"⟩
abbrev cX7_exchange : ByteArray := prog_9_method_4_code
def yX7_exchange : MethodName := ⟨RX7, "exchange", "(LTurningWheel$Castle;)LTurningWheel$Castle;"⟩
abbrev cX7_readWays : ByteArray := prog_9_method_5_code
def yX7_readWays : MethodName := ⟨RX7, "readWays", "()Z"⟩
abbrev cX7_readWay : ByteArray := prog_9_method_6_code
def yX7_readWay : MethodName := ⟨RX7, "readWay", "()Z"⟩
abbrev cX7_readClause : ByteArray := prog_9_method_7_code
def yX7_readClause : MethodName := ⟨RX7, "readClause", "()Z"⟩
abbrev cX7_readTest : ByteArray := prog_9_method_8_code
def yX7_readTest : MethodName := ⟨RX7, "readTest", "()Z"⟩
abbrev cX7_readServant : ByteArray := prog_9_method_9_code
def yX7_readServant : MethodName := ⟨RX7, "readServant", "()Z"⟩
abbrev cX7_readPay : ByteArray := prog_9_method_10_code
def yX7_readPay : MethodName := ⟨RX7, "readPay", "()Z"⟩
abbrev cX7_readWaySet : ByteArray := prog_9_method_11_code
def yX7_readWaySet : MethodName := ⟨RX7, "readWaySet", "(I)Z"⟩
abbrev cX7_readNumber : ByteArray := prog_9_method_12_code
def yX7_readNumber : MethodName := ⟨RX7, "readNumber", "(II)Z"⟩
abbrev cX7_take : ByteArray := prog_9_method_13_code
def yX7_take : MethodName := ⟨RX7, "take", "(I)Z"⟩
abbrev cX7_letter : ByteArray := prog_9_method_14_code
def yX7_letter : MethodName := ⟨RX7, "letter", "()I"⟩
abbrev cX7_skipBlanks : ByteArray := prog_9_method_15_code
def yX7_skipBlanks : MethodName := ⟨RX7, "skipBlanks", "()V"⟩
abbrev cX7_isFigure : ByteArray := prog_9_method_16_code
def yX7_isFigure : MethodName := ⟨RX7, "isFigure", "(I)Z"⟩
abbrev cX7_refuse : ByteArray := prog_9_method_17_code
def yX7_refuse : MethodName := ⟨RX7, "refuse", "(II)Z"⟩
def RX8 : String := "TurningWheel"
def TX8 : u_T := fun k => match k with
  | 0 => ("TurningWheel", "faultPlace", "I", false)
  | 1 => ("TurningWheel", "reader", "LTurningWheel$Reader;", true)
  | 2 => ("TurningWheel", "plan", "LTurningWheel$Castle;", false)
  | 3 => ("TurningWheel", "now", "LTurningWheel$Affairs;", true)
  | 4 => ("TurningWheel", "history", "LTurningWheel$History;", true)
  | 5 => ("TurningWheel", "hearsay", "LTurningWheel$Hearsay;", true)
  | 6 => ("TurningWheel", "book", "LTurningWheel$Book;", true)
  | 7 => ("TurningWheel", "draws", "LTurningWheel$Draws;", true)
  | _ => ("TurningWheel", "images", "[LTurningWheel$Image;", true)
def tyX8 : Nat → FieldType := fun k => match k with
  | 0 => .int
  | 1 => .object "TurningWheel$Reader"
  | 2 => .object "TurningWheel$Castle"
  | 3 => .object "TurningWheel$Affairs"
  | 4 => .object "TurningWheel$History"
  | 5 => .object "TurningWheel$Hearsay"
  | 6 => .object "TurningWheel$Book"
  | 7 => .object "TurningWheel$Draws"
  | _ => .array (.object "TurningWheel$Image")
theorem nmX8 : ∀ a, a < 9 → ∀ b, b < 9 → a ≠ b → (TX8 a).2.1 ≠ (TX8 b).2.1 := by decide +kernel
theorem tyX8_ok : ∀ k, k < 9 → parseFieldDescriptor (TX8 k).2.2.1 = some (tyX8 k) := by decide +kernel
abbrev cX8_init : ByteArray := prog_1_method_1_code
def yX8_init : MethodName := ⟨RX8, "<init>", "()V"⟩
abbrev cX8_feed : ByteArray := prog_1_method_2_code
def yX8_feed : MethodName := ⟨RX8, "feed", "(I)I"⟩
abbrev cX8_castle : ByteArray := prog_1_method_3_code
def yX8_castle : MethodName := ⟨RX8, "castle", "()I"⟩
abbrev cX8_fault : ByteArray := prog_1_method_4_code
def yX8_fault : MethodName := ⟨RX8, "fault", "()I"⟩
abbrev cX8_told : ByteArray := prog_1_method_5_code
def yX8_told : MethodName := ⟨RX8, "told", "(I)I"⟩
abbrev cX8_likely : ByteArray := prog_1_method_6_code
def yX8_likely : MethodName := ⟨RX8, "likely", "(I)I"⟩
abbrev cX8_test : ByteArray := prog_1_method_7_code
def yX8_test : MethodName := ⟨RX8, "test", "(II)I"⟩
abbrev cX8_servant : ByteArray := prog_1_method_8_code
def yX8_servant : MethodName := ⟨RX8, "servant", "(II)I"⟩
abbrev cX8_day : ByteArray := prog_1_method_9_code
def yX8_day : MethodName := ⟨RX8, "day", "(I)I"⟩
abbrev cX8_make : ByteArray := prog_1_method_10_code
def yX8_make : MethodName := ⟨RX8, "make", "(I)I"⟩
abbrev cX8_seal : ByteArray := prog_1_method_11_code
def yX8_seal : MethodName := ⟨RX8, "seal", "(Z)I"⟩
abbrev cX8_smash : ByteArray := prog_1_method_12_code
def yX8_smash : MethodName := ⟨RX8, "smash", "()I"⟩
abbrev cX8_hire : ByteArray := prog_1_method_13_code
def yX8_hire : MethodName := ⟨RX8, "hire", "(IZ)I"⟩
abbrev cX8_buy : ByteArray := prog_1_method_14_code
def yX8_buy : MethodName := ⟨RX8, "buy", "(III)I"⟩
abbrev cX8_drift : ByteArray := prog_1_method_15_code
def yX8_drift : MethodName := ⟨RX8, "drift", "(I)I"⟩
abbrev cX8_undo : ByteArray := prog_1_method_16_code
def yX8_undo : MethodName := ⟨RX8, "undo", "()I"⟩
abbrev cX8_belief : ByteArray := prog_1_method_17_code
def yX8_belief : MethodName := ⟨RX8, "belief", "(I)I"⟩
abbrev cX8_liars : ByteArray := prog_1_method_18_code
def yX8_liars : MethodName := ⟨RX8, "liars", "(I)I"⟩
abbrev cX8_leastLiars : ByteArray := prog_1_method_19_code
def yX8_leastLiars : MethodName := ⟨RX8, "leastLiars", "(I)I"⟩
abbrev cX8_ruleOut : ByteArray := prog_1_method_20_code
def yX8_ruleOut : MethodName := ⟨RX8, "ruleOut", "(III)I"⟩
abbrev cX8_next : ByteArray := prog_1_method_21_code
def yX8_next : MethodName := ⟨RX8, "next", "()I"⟩
abbrev cX8_offer : ByteArray := prog_1_method_22_code
def yX8_offer : MethodName := ⟨RX8, "offer", "(II)I"⟩
abbrev cX8_both : ByteArray := prog_1_method_23_code
def yX8_both : MethodName := ⟨RX8, "both", "(III)I"⟩
abbrev cX8_worth : ByteArray := prog_1_method_24_code
def yX8_worth : MethodName := ⟨RX8, "worth", "(II)I"⟩
abbrev cX8_secret : ByteArray := prog_1_method_25_code
def yX8_secret : MethodName := ⟨RX8, "secret", "(II)I"⟩
abbrev cX8_hear : ByteArray := prog_1_method_26_code
def yX8_hear : MethodName := ⟨RX8, "hear", "(IZ)I"⟩
abbrev cX8_paid : ByteArray := prog_1_method_27_code
def yX8_paid : MethodName := ⟨RX8, "paid", "()I"⟩
abbrev cX8_ask : ByteArray := prog_1_method_28_code
def yX8_ask : MethodName := ⟨RX8, "ask", "()I"⟩
abbrev cX8_write : ByteArray := prog_1_method_29_code
def yX8_write : MethodName := ⟨RX8, "write", "(I)I"⟩
abbrev cX8_tear : ByteArray := prog_1_method_30_code
def yX8_tear : MethodName := ⟨RX8, "tear", "()I"⟩
abbrev cX8_judge : ByteArray := prog_1_method_31_code
def yX8_judge : MethodName := ⟨RX8, "judge", "()I"⟩
abbrev cX8_seed : ByteArray := prog_1_method_32_code
def yX8_seed : MethodName := ⟨RX8, "seed", "(I)I"⟩
abbrev cX8_keep : ByteArray := prog_1_method_33_code
def yX8_keep : MethodName := ⟨RX8, "keep", "(I)I"⟩
abbrev cX8_goBack : ByteArray := prog_1_method_34_code
def yX8_goBack : MethodName := ⟨RX8, "goBack", "(I)I"⟩
abbrev cX8_within : ByteArray := prog_1_method_35_code
def yX8_within : MethodName := ⟨RX8, "within", "(III)Z"⟩
abbrev cX8_has : ByteArray := prog_1_method_36_code
def yX8_has : MethodName := ⟨RX8, "has", "(II)Z"⟩
abbrev cX8_beginAnew : ByteArray := prog_1_method_37_code
def yX8_beginAnew : MethodName := ⟨RX8, "beginAnew", "()V"⟩
abbrev cX8_waysLeft : ByteArray := prog_1_method_38_code
def yX8_waysLeft : MethodName := ⟨RX8, "waysLeft", "()I"⟩
abbrev cX8_spent : ByteArray := prog_1_method_39_code
def yX8_spent : MethodName := ⟨RX8, "spent", "()I"⟩
abbrev cX8_refusalOfDays : ByteArray := prog_1_method_40_code
def yX8_refusalOfDays : MethodName := ⟨RX8, "refusalOfDays", "(I)I"⟩
abbrev cX8_doByDraw : ByteArray := prog_1_method_41_code
def yX8_doByDraw : MethodName := ⟨RX8, "doByDraw", "()V"⟩
abbrev cX8_liarsBy : ByteArray := prog_1_method_42_code
def yX8_liarsBy : MethodName := ⟨RX8, "liarsBy", "(I)I"⟩
abbrev cX8_wayOfFewestLiars : ByteArray := prog_1_method_43_code
def yX8_wayOfFewestLiars : MethodName := ⟨RX8, "wayOfFewestLiars", "()I"⟩
abbrev cX8_cheapestTests : ByteArray := prog_1_method_44_code
def yX8_cheapestTests : MethodName := ⟨RX8, "cheapestTests", "(II)I"⟩
abbrev cX8_costYet : ByteArray := prog_1_method_45_code
def yX8_costYet : MethodName := ⟨RX8, "costYet", "(I)I"⟩
abbrev cX8_offerFor : ByteArray := prog_1_method_46_code
def yX8_offerFor : MethodName := ⟨RX8, "offerFor", "(III)I"⟩
def RX9 : String := "TurningWheelModel"
def TX9 : u_T := fun k => match k with
  | 0 => ("TurningWheelModel", "text", "[I", true)
  | 1 => ("TurningWheelModel", "letters", "I", false)
  | 2 => ("TurningWheelModel", "faultAt", "I", false)
  | 3 => ("TurningWheelModel", "law", "[I", true)
  | 4 => ("TurningWheelModel", "likely", "[I", true)
  | 5 => ("TurningWheelModel", "tests", "[I", true)
  | 6 => ("TurningWheelModel", "servants", "[I", true)
  | 7 => ("TurningWheelModel", "draftLaw", "[I", true)
  | 8 => ("TurningWheelModel", "draftLikely", "[I", true)
  | 9 => ("TurningWheelModel", "draftTests", "[I", true)
  | 10 => ("TurningWheelModel", "draftServants", "[I", true)
  | 11 => ("TurningWheelModel", "now", "[I", true)
  | 12 => ("TurningWheelModel", "past", "[I", true)
  | 13 => ("TurningWheelModel", "deeds", "I", false)
  | 14 => ("TurningWheelModel", "images", "[I", true)
  | 15 => ("TurningWheelModel", "imageSeeds", "[I", true)
  | 16 => ("TurningWheelModel", "kept", "[Z", true)
  | 17 => ("TurningWheelModel", "seed", "I", false)
  | 18 => ("TurningWheelModel", "heard", "[I", true)
  | 19 => ("TurningWheelModel", "sounds", "I", false)
  | 20 => ("TurningWheelModel", "book", "[I", true)
  | 21 => ("TurningWheelModel", "entries", "I", false)
  | 22 => ("TurningWheelModel", "at", "I", false)
  | _ => ("TurningWheelModel", "wrong", "I", false)
def tyX9 : Nat → FieldType := fun k => match k with
  | 0 => .array .int
  | 1 => .int
  | 2 => .int
  | 3 => .array .int
  | 4 => .array .int
  | 5 => .array .int
  | 6 => .array .int
  | 7 => .array .int
  | 8 => .array .int
  | 9 => .array .int
  | 10 => .array .int
  | 11 => .array .int
  | 12 => .array .int
  | 13 => .int
  | 14 => .array .int
  | 15 => .array .int
  | 16 => .array .boolean
  | 17 => .int
  | 18 => .array .int
  | 19 => .int
  | 20 => .array .int
  | 21 => .int
  | 22 => .int
  | _ => .int
theorem nmX9 : ∀ a, a < 24 → ∀ b, b < 24 → a ≠ b → (TX9 a).2.1 ≠ (TX9 b).2.1 := by decide +kernel
theorem tyX9_ok : ∀ k, k < 24 → parseFieldDescriptor (TX9 k).2.2.1 = some (tyX9 k) := by decide +kernel
abbrev cX9_init : ByteArray := prog_11_method_1_code
def yX9_init : MethodName := ⟨RX9, "<init>", "()V"⟩
abbrev cX9_in : ByteArray := prog_11_method_3_code
def yX9_in : MethodName := ⟨RX9, "in", "(III)Z"⟩
abbrev cX9_has : ByteArray := prog_11_method_4_code
def yX9_has : MethodName := ⟨RX9, "has", "(II)Z"⟩
abbrev cX9_ones : ByteArray := prog_11_method_5_code
def yX9_ones : MethodName := ⟨RX9, "ones", "(I)I"⟩
abbrev cX9_feed : ByteArray := prog_11_method_6_code
def yX9_feed : MethodName := ⟨RX9, "feed", "(I)I"⟩
abbrev cX9_look : ByteArray := prog_11_method_7_code
def yX9_look : MethodName := ⟨RX9, "look", "()I"⟩
abbrev cX9_skips : ByteArray := prog_11_method_8_code
def yX9_skips : MethodName := ⟨RX9, "skips", "()V"⟩
abbrev cX9_fails : ByteArray := prog_11_method_9_code
def yX9_fails : MethodName := ⟨RX9, "fails", "(I)V"⟩
abbrev cX9_word : ByteArray := prog_11_method_10_code
def yX9_word : MethodName := ⟨RX9, "word", "(I)V"⟩
abbrev cX9_number : ByteArray := prog_11_method_11_code
def yX9_number : MethodName := ⟨RX9, "number", "(II)I"⟩
abbrev cX9_opens : ByteArray := prog_11_method_12_code
def yX9_opens : MethodName := ⟨RX9, "opens", "(Z)Z"⟩
abbrev cX9_readsWays : ByteArray := prog_11_method_13_code
def yX9_readsWays : MethodName := ⟨RX9, "readsWays", "()V"⟩
abbrev cX9_waysOf : ByteArray := prog_11_method_14_code
def yX9_waysOf : MethodName := ⟨RX9, "waysOf", "(II)I"⟩
abbrev cX9_allOf : ByteArray := prog_11_method_15_code
def yX9_allOf : MethodName := ⟨RX9, "allOf", "(I)I"⟩
abbrev cX9_readsTest : ByteArray := prog_11_method_16_code
def yX9_readsTest : MethodName := ⟨RX9, "readsTest", "()V"⟩
abbrev cX9_readsServant : ByteArray := prog_11_method_17_code
def yX9_readsServant : MethodName := ⟨RX9, "readsServant", "()V"⟩
abbrev cX9_readsPay : ByteArray := prog_11_method_18_code
def yX9_readsPay : MethodName := ⟨RX9, "readsPay", "()V"⟩
abbrev cX9_reads : ByteArray := prog_11_method_19_code
def yX9_reads : MethodName := ⟨RX9, "reads", "()V"⟩
abbrev cX9_copies : ByteArray := prog_11_method_20_code
def yX9_copies : MethodName := ⟨RX9, "copies", "([II[III)V"⟩
abbrev cX9_castle : ByteArray := prog_11_method_21_code
def yX9_castle : MethodName := ⟨RX9, "castle", "()I"⟩
abbrev cX9_fault : ByteArray := prog_11_method_22_code
def yX9_fault : MethodName := ⟨RX9, "fault", "()I"⟩
abbrev cX9_isCastle : ByteArray := prog_11_method_23_code
def yX9_isCastle : MethodName := ⟨RX9, "isCastle", "()Z"⟩
abbrev cX9_isWay : ByteArray := prog_11_method_24_code
def yX9_isWay : MethodName := ⟨RX9, "isWay", "(I)Z"⟩
abbrev cX9_areWays : ByteArray := prog_11_method_25_code
def yX9_areWays : MethodName := ⟨RX9, "areWays", "(I)Z"⟩
abbrev cX9_isTest : ByteArray := prog_11_method_26_code
def yX9_isTest : MethodName := ⟨RX9, "isTest", "(I)Z"⟩
abbrev cX9_isServant : ByteArray := prog_11_method_27_code
def yX9_isServant : MethodName := ⟨RX9, "isServant", "(I)Z"⟩
abbrev cX9_leftBy : ByteArray := prog_11_method_28_code
def yX9_leftBy : MethodName := ⟨RX9, "leftBy", "(I)I"⟩
abbrev cX9_shownBy : ByteArray := prog_11_method_29_code
def yX9_shownBy : MethodName := ⟨RX9, "shownBy", "(I)I"⟩
abbrev cX9_spent : ByteArray := prog_11_method_30_code
def yX9_spent : MethodName := ⟨RX9, "spent", "()I"⟩
abbrev cX9_told : ByteArray := prog_11_method_31_code
def yX9_told : MethodName := ⟨RX9, "told", "(I)I"⟩
abbrev cX9_likely : ByteArray := prog_11_method_32_code
def yX9_likely : MethodName := ⟨RX9, "likely", "(I)I"⟩
abbrev cX9_test : ByteArray := prog_11_method_33_code
def yX9_test : MethodName := ⟨RX9, "test", "(II)I"⟩
abbrev cX9_servant : ByteArray := prog_11_method_34_code
def yX9_servant : MethodName := ⟨RX9, "servant", "(II)I"⟩
abbrev cX9_notes : ByteArray := prog_11_method_35_code
def yX9_notes : MethodName := ⟨RX9, "notes", "()V"⟩
abbrev cX9_gets : ByteArray := prog_11_method_36_code
def yX9_gets : MethodName := ⟨RX9, "gets", "(II)V"⟩
abbrev cX9_passes : ByteArray := prog_11_method_37_code
def yX9_passes : MethodName := ⟨RX9, "passes", "()V"⟩
abbrev cX9_barred : ByteArray := prog_11_method_38_code
def yX9_barred : MethodName := ⟨RX9, "barred", "(I)I"⟩
abbrev cX9_day : ByteArray := prog_11_method_39_code
def yX9_day : MethodName := ⟨RX9, "day", "(I)I"⟩
abbrev cX9_canBe : ByteArray := prog_11_method_40_code
def yX9_canBe : MethodName := ⟨RX9, "canBe", "(I)Z"⟩
abbrev cX9_make : ByteArray := prog_11_method_41_code
def yX9_make : MethodName := ⟨RX9, "make", "(I)I"⟩
abbrev cX9_seal : ByteArray := prog_11_method_42_code
def yX9_seal : MethodName := ⟨RX9, "seal", "(Z)I"⟩
abbrev cX9_smash : ByteArray := prog_11_method_43_code
def yX9_smash : MethodName := ⟨RX9, "smash", "()I"⟩
abbrev cX9_hires : ByteArray := prog_11_method_44_code
def yX9_hires : MethodName := ⟨RX9, "hires", "(IZ)V"⟩
abbrev cX9_hire : ByteArray := prog_11_method_45_code
def yX9_hire : MethodName := ⟨RX9, "hire", "(IZ)I"⟩
abbrev cX9_buy : ByteArray := prog_11_method_46_code
def yX9_buy : MethodName := ⟨RX9, "buy", "(III)I"⟩
abbrev cX9_draw : ByteArray := prog_11_method_47_code
def yX9_draw : MethodName := ⟨RX9, "draw", "(I)I"⟩
abbrev cX9_drift : ByteArray := prog_11_method_48_code
def yX9_drift : MethodName := ⟨RX9, "drift", "(I)I"⟩
abbrev cX9_undo : ByteArray := prog_11_method_49_code
def yX9_undo : MethodName := ⟨RX9, "undo", "()I"⟩
abbrev cX9_likelyIn : ByteArray := prog_11_method_50_code
def yX9_likelyIn : MethodName := ⟨RX9, "likelyIn", "(I)I"⟩
abbrev cX9_beliefBy : ByteArray := prog_11_method_51_code
def yX9_beliefBy : MethodName := ⟨RX9, "beliefBy", "(II)I"⟩
abbrev cX9_belief : ByteArray := prog_11_method_52_code
def yX9_belief : MethodName := ⟨RX9, "belief", "(I)I"⟩
abbrev cX9_liarsBy : ByteArray := prog_11_method_53_code
def yX9_liarsBy : MethodName := ⟨RX9, "liarsBy", "(I)I"⟩
abbrev cX9_liars : ByteArray := prog_11_method_54_code
def yX9_liars : MethodName := ⟨RX9, "liars", "(I)I"⟩
abbrev cX9_leastLiars : ByteArray := prog_11_method_55_code
def yX9_leastLiars : MethodName := ⟨RX9, "leastLiars", "(I)I"⟩
abbrev cX9_costOf : ByteArray := prog_11_method_56_code
def yX9_costOf : MethodName := ⟨RX9, "costOf", "(I)I"⟩
abbrev cX9_ruleOut : ByteArray := prog_11_method_57_code
def yX9_ruleOut : MethodName := ⟨RX9, "ruleOut", "(III)I"⟩
abbrev cX9_next : ByteArray := prog_11_method_58_code
def yX9_next : MethodName := ⟨RX9, "next", "()I"⟩
abbrev cX9_offerBy : ByteArray := prog_11_method_59_code
def yX9_offerBy : MethodName := ⟨RX9, "offerBy", "(III)I"⟩
abbrev cX9_offer : ByteArray := prog_11_method_60_code
def yX9_offer : MethodName := ⟨RX9, "offer", "(II)I"⟩
abbrev cX9_both : ByteArray := prog_11_method_61_code
def yX9_both : MethodName := ⟨RX9, "both", "(III)I"⟩
abbrev cX9_worth : ByteArray := prog_11_method_62_code
def yX9_worth : MethodName := ⟨RX9, "worth", "(II)I"⟩
abbrev cX9_secret : ByteArray := prog_11_method_63_code
def yX9_secret : MethodName := ⟨RX9, "secret", "(II)I"⟩
abbrev cX9_hear : ByteArray := prog_11_method_64_code
def yX9_hear : MethodName := ⟨RX9, "hear", "(IZ)I"⟩
abbrev cX9_gotBy : ByteArray := prog_11_method_65_code
def yX9_gotBy : MethodName := ⟨RX9, "gotBy", "(II)I"⟩
abbrev cX9_paidSet : ByteArray := prog_11_method_66_code
def yX9_paidSet : MethodName := ⟨RX9, "paidSet", "()I"⟩
abbrev cX9_paid : ByteArray := prog_11_method_67_code
def yX9_paid : MethodName := ⟨RX9, "paid", "()I"⟩
abbrev cX9_ask : ByteArray := prog_11_method_68_code
def yX9_ask : MethodName := ⟨RX9, "ask", "()I"⟩
abbrev cX9_write : ByteArray := prog_11_method_69_code
def yX9_write : MethodName := ⟨RX9, "write", "(I)I"⟩
abbrev cX9_tear : ByteArray := prog_11_method_70_code
def yX9_tear : MethodName := ⟨RX9, "tear", "()I"⟩
abbrev cX9_judge : ByteArray := prog_11_method_71_code
def yX9_judge : MethodName := ⟨RX9, "judge", "()I"⟩
abbrev cX9_seed : ByteArray := prog_11_method_72_code
def yX9_seed : MethodName := ⟨RX9, "seed", "(I)I"⟩
abbrev cX9_keep : ByteArray := prog_11_method_73_code
def yX9_keep : MethodName := ⟨RX9, "keep", "(I)I"⟩
abbrev cX9_goBack : ByteArray := prog_11_method_74_code
def yX9_goBack : MethodName := ⟨RX9, "goBack", "(I)I"⟩
def RJ6 : String := "java/lang/Integer"
abbrev cJ6_bitCount_0f7a4 : ByteArray := prog_12_method_49_code
def yJ6_bitCount_0f7a4 : MethodName := ⟨RJ6, "bitCount", "(I)I"⟩
def RJ9 : String := "java/lang/Math"
abbrev cJ9_max_7cf53 : ByteArray := prog_13_method_65_code
def yJ9_max_7cf53 : MethodName := ⟨RJ9, "max", "(II)I"⟩
abbrev cJ9_min_7cf53 : ByteArray := prog_13_method_69_code
def yJ9_min_7cf53 : MethodName := ⟨RJ9, "min", "(II)I"⟩
def RL : String := "TurningWheelLaw"
abbrev cL_law : ByteArray := code
def yL_law : MethodName := ⟨RL, "law", "([I)Z"⟩
abbrev vwCl : List vw_C := [(RX0, TX0, 9), (RX1, TX1, 2), (RX2, TX2, 11), (RX3, TX3, 1), (RX4, TX4, 3), (RX5, TX5, 3), (RX6, TX6, 3), (RX7, TX7, 10), (RX8, TX8, 9), (RX9, TX9, 24)]
abbrev Card : Type := MethodName × ByteArray × Nat × Option FieldType
abbrev YX0_init : Card := (yX0_init, cX0_init, 1, none)
abbrev YX0_begin : Card := (yX0_begin, cX0_begin, 3, none)
abbrev YX0_copyFrom : Card := (yX0_copyFrom, cX0_copyFrom, 3, none)
abbrev YX0_passDay : Card := (yX0_passDay, cX0_passDay, 3, none)
abbrev YX0_canMake : Card := (yX0_canMake, cX0_canMake, 3, (some .boolean))
abbrev YX0_setHired : Card := (yX0_setHired, cX0_setHired, 3, none)
abbrev YX0_give : Card := (yX0_give, cX0_give, 3, none)
abbrev YX1_init : Card := (yX1_init, cX1_init, 1, none)
abbrev YX1_add : Card := (yX1_add, cX1_add, 2, (some .boolean))
abbrev YX1_firstOtherThan : Card := (yX1_firstOtherThan, cX1_firstOtherThan, 3, (some .int))
abbrev YX2_init : Card := (yX2_init, cX2_init, 1, none)
abbrev YX2_clear : Card := (yX2_clear, cX2_clear, 1, none)
abbrev YX2_stands : Card := (yX2_stands, cX2_stands, 1, (some .boolean))
abbrev YX2_hasWay : Card := (yX2_hasWay, cX2_hasWay, 2, (some .boolean))
abbrev YX2_hasTest : Card := (yX2_hasTest, cX2_hasTest, 2, (some .boolean))
abbrev YX2_hasServant : Card := (yX2_hasServant, cX2_hasServant, 2, (some .boolean))
abbrev YX2_hasWays : Card := (yX2_hasWays, cX2_hasWays, 2, (some .boolean))
abbrev YX2_allWays : Card := (yX2_allWays, cX2_allWays, 1, (some .int))
abbrev YX2_leftBy : Card := (yX2_leftBy, cX2_leftBy, 4, (some .int))
abbrev YX2_secretsOf : Card := (yX2_secretsOf, cX2_secretsOf, 4, (some .int))
abbrev YX2_costOf : Card := (yX2_costOf, cX2_costOf, 4, (some .int))
abbrev YX2_likelyOf : Card := (yX2_likelyOf, cX2_likelyOf, 4, (some .int))
abbrev YX2_beliefIn : Card := (yX2_beliefIn, cX2_beliefIn, 4, (some .int))
abbrev YX3_init : Card := (yX3_init, cX3_init, 1, none)
abbrev YX3_draw : Card := (yX3_draw, cX3_draw, 2, (some .int))
abbrev YX4_init : Card := (yX4_init, cX4_init, 1, none)
abbrev YX4_add : Card := (yX4_add, cX4_add, 3, (some .boolean))
abbrev YX4_fitting : Card := (yX4_fitting, cX4_fitting, 4, (some .int))
abbrev YX4_fits : Card := (yX4_fits, cX4_fits, 4, (some .boolean))
abbrev YX4_gotMoney : Card := (yX4_gotMoney, cX4_gotMoney, 3, (some .boolean))
abbrev YX4_bestQuestion : Card := (yX4_bestQuestion, cX4_bestQuestion, 7, (some .int))
abbrev YX4_greaterPart : Card := (yX4_greaterPart, cX4_greaterPart, 5, (some .int))
abbrev YX5_init : Card := (yX5_init, cX5_init, 2, none)
abbrev YX5_remember : Card := (yX5_remember, cX5_remember, 2, none)
abbrev YX5_recall : Card := (yX5_recall, cX5_recall, 2, none)
abbrev YX5_forget : Card := (yX5_forget, cX5_forget, 1, none)
abbrev YX6_init : Card := (yX6_init, cX6_init, 1, none)
abbrev YX7_init : Card := (yX7_init, cX7_init, 1, none)
abbrev YX7_add : Card := (yX7_add, cX7_add, 2, (some .boolean))
abbrev YX7_readText : Card := (yX7_readText, cX7_readText, 3, (some .int))
abbrev YX7_exchange : Card := (yX7_exchange, cX7_exchange, 3, (some (.object "TurningWheel$Castle")))
abbrev YX7_readWays : Card := (yX7_readWays, cX7_readWays, 2, (some .boolean))
abbrev YX7_readWay : Card := (yX7_readWay, cX7_readWay, 1, (some .boolean))
abbrev YX7_readClause : Card := (yX7_readClause, cX7_readClause, 1, (some .boolean))
abbrev YX7_readTest : Card := (yX7_readTest, cX7_readTest, 2, (some .boolean))
abbrev YX7_readServant : Card := (yX7_readServant, cX7_readServant, 2, (some .boolean))
abbrev YX7_readPay : Card := (yX7_readPay, cX7_readPay, 1, (some .boolean))
abbrev YX7_readWaySet : Card := (yX7_readWaySet, cX7_readWaySet, 2, (some .boolean))
abbrev YX7_readNumber : Card := (yX7_readNumber, cX7_readNumber, 3, (some .boolean))
abbrev YX7_take : Card := (yX7_take, cX7_take, 2, (some .boolean))
abbrev YX7_letter : Card := (yX7_letter, cX7_letter, 1, (some .int))
abbrev YX7_skipBlanks : Card := (yX7_skipBlanks, cX7_skipBlanks, 1, none)
abbrev YX7_isFigure : Card := (yX7_isFigure, cX7_isFigure, 1, (some .boolean))
abbrev YX7_refuse : Card := (yX7_refuse, cX7_refuse, 3, (some .boolean))
abbrev YX8_init : Card := (yX8_init, cX8_init, 2, none)
abbrev YX8_feed : Card := (yX8_feed, cX8_feed, 2, (some .int))
abbrev YX8_castle : Card := (yX8_castle, cX8_castle, 2, (some .int))
abbrev YX8_fault : Card := (yX8_fault, cX8_fault, 1, (some .int))
abbrev YX8_told : Card := (yX8_told, cX8_told, 2, (some .int))
abbrev YX8_likely : Card := (yX8_likely, cX8_likely, 2, (some .int))
abbrev YX8_test : Card := (yX8_test, cX8_test, 3, (some .int))
abbrev YX8_servant : Card := (yX8_servant, cX8_servant, 3, (some .int))
abbrev YX8_day : Card := (yX8_day, cX8_day, 4, (some .int))
abbrev YX8_make : Card := (yX8_make, cX8_make, 2, (some .int))
abbrev YX8_seal : Card := (yX8_seal, cX8_seal, 3, (some .int))
abbrev YX8_smash : Card := (yX8_smash, cX8_smash, 1, (some .int))
abbrev YX8_hire : Card := (yX8_hire, cX8_hire, 4, (some .int))
abbrev YX8_buy : Card := (yX8_buy, cX8_buy, 4, (some .int))
abbrev YX8_drift : Card := (yX8_drift, cX8_drift, 4, (some .int))
abbrev YX8_undo : Card := (yX8_undo, cX8_undo, 1, (some .int))
abbrev YX8_belief : Card := (yX8_belief, cX8_belief, 2, (some .int))
abbrev YX8_liars : Card := (yX8_liars, cX8_liars, 2, (some .int))
abbrev YX8_leastLiars : Card := (yX8_leastLiars, cX8_leastLiars, 3, (some .int))
abbrev YX8_ruleOut : Card := (yX8_ruleOut, cX8_ruleOut, 5, (some .int))
abbrev YX8_next : Card := (yX8_next, cX8_next, 7, (some .int))
abbrev YX8_offer : Card := (yX8_offer, cX8_offer, 3, (some .int))
abbrev YX8_both : Card := (yX8_both, cX8_both, 5, (some .int))
abbrev YX8_worth : Card := (yX8_worth, cX8_worth, 5, (some .int))
abbrev YX8_secret : Card := (yX8_secret, cX8_secret, 5, (some .int))
abbrev YX8_hear : Card := (yX8_hear, cX8_hear, 3, (some .int))
abbrev YX8_paid : Card := (yX8_paid, cX8_paid, 1, (some .int))
abbrev YX8_ask : Card := (yX8_ask, cX8_ask, 1, (some .int))
abbrev YX8_write : Card := (yX8_write, cX8_write, 2, (some .int))
abbrev YX8_tear : Card := (yX8_tear, cX8_tear, 2, (some .int))
abbrev YX8_judge : Card := (yX8_judge, cX8_judge, 1, (some .int))
abbrev YX8_seed : Card := (yX8_seed, cX8_seed, 3, (some .int))
abbrev YX8_keep : Card := (yX8_keep, cX8_keep, 2, (some .int))
abbrev YX8_goBack : Card := (yX8_goBack, cX8_goBack, 2, (some .int))
abbrev YX8_within : Card := (yX8_within, cX8_within, 3, (some .boolean))
abbrev YX8_has : Card := (yX8_has, cX8_has, 2, (some .boolean))
abbrev YX8_beginAnew : Card := (yX8_beginAnew, cX8_beginAnew, 2, none)
abbrev YX8_waysLeft : Card := (yX8_waysLeft, cX8_waysLeft, 1, (some .int))
abbrev YX8_spent : Card := (yX8_spent, cX8_spent, 3, (some .int))
abbrev YX8_refusalOfDays : Card := (yX8_refusalOfDays, cX8_refusalOfDays, 2, (some .int))
abbrev YX8_doByDraw : Card := (yX8_doByDraw, cX8_doByDraw, 3, none)
abbrev YX8_liarsBy : Card := (yX8_liarsBy, cX8_liarsBy, 4, (some .int))
abbrev YX8_wayOfFewestLiars : Card := (yX8_wayOfFewestLiars, cX8_wayOfFewestLiars, 6, (some .int))
abbrev YX8_cheapestTests : Card := (yX8_cheapestTests, cX8_cheapestTests, 9, (some .int))
abbrev YX8_costYet : Card := (yX8_costYet, cX8_costYet, 2, (some .int))
abbrev YX8_offerFor : Card := (yX8_offerFor, cX8_offerFor, 6, (some .int))
abbrev YX9_init : Card := (yX9_init, cX9_init, 1, none)
abbrev YX9_in : Card := (yX9_in, cX9_in, 3, (some .boolean))
abbrev YX9_has : Card := (yX9_has, cX9_has, 2, (some .boolean))
abbrev YX9_ones : Card := (yX9_ones, cX9_ones, 3, (some .int))
abbrev YX9_feed : Card := (yX9_feed, cX9_feed, 2, (some .int))
abbrev YX9_look : Card := (yX9_look, cX9_look, 1, (some .int))
abbrev YX9_skips : Card := (yX9_skips, cX9_skips, 1, none)
abbrev YX9_fails : Card := (yX9_fails, cX9_fails, 2, none)
abbrev YX9_word : Card := (yX9_word, cX9_word, 2, none)
abbrev YX9_number : Card := (yX9_number, cX9_number, 5, (some .int))
abbrev YX9_opens : Card := (yX9_opens, cX9_opens, 2, (some .boolean))
abbrev YX9_readsWays : Card := (yX9_readsWays, cX9_readsWays, 1, none)
abbrev YX9_waysOf : Card := (yX9_waysOf, cX9_waysOf, 5, (some .int))
abbrev YX9_allOf : Card := (yX9_allOf, cX9_allOf, 1, (some .int))
abbrev YX9_readsTest : Card := (yX9_readsTest, cX9_readsTest, 2, none)
abbrev YX9_readsServant : Card := (yX9_readsServant, cX9_readsServant, 2, none)
abbrev YX9_readsPay : Card := (yX9_readsPay, cX9_readsPay, 1, none)
abbrev YX9_reads : Card := (yX9_reads, cX9_reads, 1, none)
abbrev YX9_copies : Card := (yX9_copies, cX9_copies, 6, none)
abbrev YX9_castle : Card := (yX9_castle, cX9_castle, 2, (some .int))
abbrev YX9_fault : Card := (yX9_fault, cX9_fault, 1, (some .int))
abbrev YX9_isCastle : Card := (yX9_isCastle, cX9_isCastle, 1, (some .boolean))
abbrev YX9_isWay : Card := (yX9_isWay, cX9_isWay, 2, (some .boolean))
abbrev YX9_areWays : Card := (yX9_areWays, cX9_areWays, 2, (some .boolean))
abbrev YX9_isTest : Card := (yX9_isTest, cX9_isTest, 2, (some .boolean))
abbrev YX9_isServant : Card := (yX9_isServant, cX9_isServant, 2, (some .boolean))
abbrev YX9_leftBy : Card := (yX9_leftBy, cX9_leftBy, 4, (some .int))
abbrev YX9_shownBy : Card := (yX9_shownBy, cX9_shownBy, 4, (some .int))
abbrev YX9_spent : Card := (yX9_spent, cX9_spent, 3, (some .int))
abbrev YX9_told : Card := (yX9_told, cX9_told, 2, (some .int))
abbrev YX9_likely : Card := (yX9_likely, cX9_likely, 2, (some .int))
abbrev YX9_test : Card := (yX9_test, cX9_test, 3, (some .int))
abbrev YX9_servant : Card := (yX9_servant, cX9_servant, 3, (some .int))
abbrev YX9_notes : Card := (yX9_notes, cX9_notes, 2, none)
abbrev YX9_gets : Card := (yX9_gets, cX9_gets, 4, none)
abbrev YX9_passes : Card := (yX9_passes, cX9_passes, 2, none)
abbrev YX9_barred : Card := (yX9_barred, cX9_barred, 2, (some .int))
abbrev YX9_day : Card := (yX9_day, cX9_day, 4, (some .int))
abbrev YX9_canBe : Card := (yX9_canBe, cX9_canBe, 2, (some .boolean))
abbrev YX9_make : Card := (yX9_make, cX9_make, 2, (some .int))
abbrev YX9_seal : Card := (yX9_seal, cX9_seal, 3, (some .int))
abbrev YX9_smash : Card := (yX9_smash, cX9_smash, 1, (some .int))
abbrev YX9_hires : Card := (yX9_hires, cX9_hires, 3, none)
abbrev YX9_hire : Card := (yX9_hire, cX9_hire, 4, (some .int))
abbrev YX9_buy : Card := (yX9_buy, cX9_buy, 4, (some .int))
abbrev YX9_draw : Card := (yX9_draw, cX9_draw, 2, (some .int))
abbrev YX9_drift : Card := (yX9_drift, cX9_drift, 6, (some .int))
abbrev YX9_undo : Card := (yX9_undo, cX9_undo, 1, (some .int))
abbrev YX9_likelyIn : Card := (yX9_likelyIn, cX9_likelyIn, 4, (some .int))
abbrev YX9_beliefBy : Card := (yX9_beliefBy, cX9_beliefBy, 3, (some .int))
abbrev YX9_belief : Card := (yX9_belief, cX9_belief, 2, (some .int))
abbrev YX9_liarsBy : Card := (yX9_liarsBy, cX9_liarsBy, 4, (some .int))
abbrev YX9_liars : Card := (yX9_liars, cX9_liars, 2, (some .int))
abbrev YX9_leastLiars : Card := (yX9_leastLiars, cX9_leastLiars, 5, (some .int))
abbrev YX9_costOf : Card := (yX9_costOf, cX9_costOf, 4, (some .int))
abbrev YX9_ruleOut : Card := (yX9_ruleOut, cX9_ruleOut, 7, (some .int))
abbrev YX9_next : Card := (yX9_next, cX9_next, 8, (some .int))
abbrev YX9_offerBy : Card := (yX9_offerBy, cX9_offerBy, 5, (some .int))
abbrev YX9_offer : Card := (yX9_offer, cX9_offer, 3, (some .int))
abbrev YX9_both : Card := (yX9_both, cX9_both, 5, (some .int))
abbrev YX9_worth : Card := (yX9_worth, cX9_worth, 3, (some .int))
abbrev YX9_secret : Card := (yX9_secret, cX9_secret, 5, (some .int))
abbrev YX9_hear : Card := (yX9_hear, cX9_hear, 3, (some .int))
abbrev YX9_gotBy : Card := (yX9_gotBy, cX9_gotBy, 3, (some .int))
abbrev YX9_paidSet : Card := (yX9_paidSet, cX9_paidSet, 5, (some .int))
abbrev YX9_paid : Card := (yX9_paid, cX9_paid, 1, (some .int))
abbrev YX9_ask : Card := (yX9_ask, cX9_ask, 8, (some .int))
abbrev YX9_write : Card := (yX9_write, cX9_write, 2, (some .int))
abbrev YX9_tear : Card := (yX9_tear, cX9_tear, 2, (some .int))
abbrev YX9_judge : Card := (yX9_judge, cX9_judge, 2, (some .int))
abbrev YX9_seed : Card := (yX9_seed, cX9_seed, 3, (some .int))
abbrev YX9_keep : Card := (yX9_keep, cX9_keep, 2, (some .int))
abbrev YX9_goBack : Card := (yX9_goBack, cX9_goBack, 2, (some .int))
abbrev YJ6_bitCount_0f7a4 : Card := (yJ6_bitCount_0f7a4, cJ6_bitCount_0f7a4, 1, (some .int))
abbrev YJ9_max_7cf53 : Card := (yJ9_max_7cf53, cJ9_max_7cf53, 2, (some .int))
abbrev YJ9_min_7cf53 : Card := (yJ9_min_7cf53, cJ9_min_7cf53, 2, (some .int))
