def FL (own : String) (idx ci j : Nat) (ty : FieldType) (fin : Bool) : Prop := ∃ (C : String) (T : u_T) (N : Nat), vwCl[ci]? = some (C, T, N) ∧ j < N ∧ Cond.fieldLink own idx C (T j).2.1 (T j).2.2.1 ∈ lw_tbl ∧ (T j).1 = C ∧ (T j).2.2.2 = fin ∧ parseFieldDescriptor (T j).2.2.1 = some ty
def CV (own : String) (idx : Nat) (Y : Card) (k : Nat) : Prop := Cond.methodLink own idx Y.1 ∈ lw_tbl ∧ Cond.instanceMethod Y.1 ∈ lw_tbl ∧ Cond.selects Y.1.cls Y.1 Y.1 ∈ lw_tbl ∧ Cond.initialized Y.1.cls ∈ lw_tbl ∧ Cond.code Y.1 Y.2.1 Y.2.2.1 Y.2.2.2 ∈ lw_tbl ∧ (Y.1.cls ≠ "java/lang/invoke/MethodHandle" ∧ Y.1.cls ≠ "java/lang/invoke/VarHandle" ∧ (parseMethodDescriptor Y.1.desc).map (fun d => d.parameters.length) = some k)
def CS (own : String) (idx : Nat) (Y : Card) (k : Nat) : Prop := Cond.methodLink own idx Y.1 ∈ lw_tbl ∧ Cond.static Y.1 ∈ lw_tbl ∧ Cond.initialized Y.1.cls ∈ lw_tbl ∧ Cond.code Y.1 Y.2.1 Y.2.2.1 Y.2.2.2 ∈ lw_tbl ∧ (Y.1.cls ≠ "java/lang/invoke/MethodHandle" ∧ Y.1.cls ≠ "java/lang/invoke/VarHandle" ∧ (parseMethodDescriptor Y.1.desc).map (fun d => d.parameters.length) = some k)
def CN (own : String) (idx : Nat) (Y : Card) (k : Nat) : Prop := Cond.methodLinkNest own idx Y.1 "TurningWheel" ∈ lw_tbl ∧ Cond.static Y.1 ∈ lw_tbl ∧ Cond.initialized Y.1.cls ∈ lw_tbl ∧ Cond.code Y.1 Y.2.1 Y.2.2.1 Y.2.2.2 ∈ lw_tbl ∧ (Y.1.cls ≠ "java/lang/invoke/MethodHandle" ∧ Y.1.cls ≠ "java/lang/invoke/VarHandle" ∧ (parseMethodDescriptor Y.1.desc).map (fun d => d.parameters.length) = some k)
def CI (own : String) (idx : Nat) (Y : Card) (k : Nat) : Prop := Cond.methodLink own idx Y.1 ∈ lw_tbl ∧ (Y.1.name = "<init>" ∧ Cond.instanceMethod Y.1 ∈ lw_tbl) ∧ Cond.initialized Y.1.cls ∈ lw_tbl ∧ Cond.code Y.1 Y.2.1 Y.2.2.1 Y.2.2.2 ∈ lw_tbl ∧ (Y.1.cls ≠ "java/lang/invoke/MethodHandle" ∧ Y.1.cls ≠ "java/lang/invoke/VarHandle" ∧ (parseMethodDescriptor Y.1.desc).map (fun d => d.parameters.length) = some k)
def CJ (own : String) (idx : Nat) (Y : Card) (k : Nat) : Prop := Cond.methodLinkNest own idx Y.1 "TurningWheel" ∈ lw_tbl ∧ (Y.1.name = "<init>" ∧ Cond.instanceMethod Y.1 ∈ lw_tbl) ∧ Cond.initialized Y.1.cls ∈ lw_tbl ∧ Cond.code Y.1 Y.2.1 Y.2.2.1 Y.2.2.2 ∈ lw_tbl ∧ (Y.1.cls ≠ "java/lang/invoke/MethodHandle" ∧ Y.1.cls ≠ "java/lang/invoke/VarHandle" ∧ (parseMethodDescriptor Y.1.desc).map (fun d => d.parameters.length) = some k)
def CK (own : String) (idx ci : Nat) : Prop := ∃ (C : String) (T : u_T) (N : Nat), vwCl[ci]? = some (C, T, N) ∧ Cond.classLink own idx C ∈ lw_tbl ∧ Cond.instantiable C N ∈ lw_tbl ∧ Cond.initialized C ∈ lw_tbl
theorem kin_0 : ∀ w ∈ u_ws RX0 TX0 9, w ∈ lw_tbl := by decide +kernel
theorem kin_1 : ∀ w ∈ u_ws RX1 TX1 2, w ∈ lw_tbl := by decide +kernel
theorem kin_2 : ∀ w ∈ u_ws RX2 TX2 11, w ∈ lw_tbl := by decide +kernel
theorem kin_3 : ∀ w ∈ u_ws RX3 TX3 1, w ∈ lw_tbl := by decide +kernel
theorem kin_4 : ∀ w ∈ u_ws RX4 TX4 3, w ∈ lw_tbl := by decide +kernel
theorem kin_5 : ∀ w ∈ u_ws RX5 TX5 3, w ∈ lw_tbl := by decide +kernel
theorem kin_6 : ∀ w ∈ u_ws RX6 TX6 3, w ∈ lw_tbl := by decide +kernel
theorem kin_7 : ∀ w ∈ u_ws RX7 TX7 10, w ∈ lw_tbl := by decide +kernel
theorem kin_8 : ∀ w ∈ u_ws RX8 TX8 9, w ∈ lw_tbl := by decide +kernel
theorem kin_9 : ∀ w ∈ u_ws RX9 TX9 24, w ∈ lw_tbl := by decide +kernel
theorem fl_X2_9 : FL RX2 9 2 0 .int false := ⟨RX2, TX2, 11, rfl, by decide, List.mem_of_getElem? (i := 90) (by decide +kernel), rfl, rfl, by decide +kernel⟩
theorem fl_X8_96 : FL RX8 96 2 0 .int false := ⟨RX2, TX2, 11, rfl, by decide, List.mem_of_getElem? (i := 91) (by decide +kernel), rfl, rfl, by decide +kernel⟩
theorem fl_X7_78 : FL RX7 78 2 0 .int false := ⟨RX2, TX2, 11, rfl, by decide, List.mem_of_getElem? (i := 92) (by decide +kernel), rfl, rfl, by decide +kernel⟩
theorem fl_X2_15 : FL RX2 15 2 1 (.array .int) true := ⟨RX2, TX2, 11, rfl, by decide, List.mem_of_getElem? (i := 93) (by decide +kernel), rfl, rfl, by decide +kernel⟩
theorem fl_X8_146 : FL RX8 146 2 1 (.array .int) true := ⟨RX2, TX2, 11, rfl, by decide, List.mem_of_getElem? (i := 94) (by decide +kernel), rfl, rfl, by decide +kernel⟩
theorem fl_X7_88 : FL RX7 88 2 1 (.array .int) true := ⟨RX2, TX2, 11, rfl, by decide, List.mem_of_getElem? (i := 95) (by decide +kernel), rfl, rfl, by decide +kernel⟩
theorem fl_X2_19 : FL RX2 19 2 2 .int false := ⟨RX2, TX2, 11, rfl, by decide, List.mem_of_getElem? (i := 96) (by decide +kernel), rfl, rfl, by decide +kernel⟩
theorem fl_X8_99 : FL RX8 99 2 2 .int false := ⟨RX2, TX2, 11, rfl, by decide, List.mem_of_getElem? (i := 97) (by decide +kernel), rfl, rfl, by decide +kernel⟩
theorem fl_X7_100 : FL RX7 100 2 2 .int false := ⟨RX2, TX2, 11, rfl, by decide, List.mem_of_getElem? (i := 98) (by decide +kernel), rfl, rfl, by decide +kernel⟩
theorem fl_X2_22 : FL RX2 22 2 3 (.array .int) true := ⟨RX2, TX2, 11, rfl, by decide, List.mem_of_getElem? (i := 99) (by decide +kernel), rfl, rfl, by decide +kernel⟩
theorem fl_X8_154 : FL RX8 154 2 3 (.array .int) true := ⟨RX2, TX2, 11, rfl, by decide, List.mem_of_getElem? (i := 100) (by decide +kernel), rfl, rfl, by decide +kernel⟩
theorem fl_X7_109 : FL RX7 109 2 3 (.array .int) true := ⟨RX2, TX2, 11, rfl, by decide, List.mem_of_getElem? (i := 101) (by decide +kernel), rfl, rfl, by decide +kernel⟩
theorem fl_X2_25 : FL RX2 25 2 4 (.array .int) true := ⟨RX2, TX2, 11, rfl, by decide, List.mem_of_getElem? (i := 102) (by decide +kernel), rfl, rfl, by decide +kernel⟩
theorem fl_X0_69 : FL RX0 69 2 4 (.array .int) true := ⟨RX2, TX2, 11, rfl, by decide, List.mem_of_getElem? (i := 103) (by decide +kernel), rfl, rfl, by decide +kernel⟩
theorem fl_X8_157 : FL RX8 157 2 4 (.array .int) true := ⟨RX2, TX2, 11, rfl, by decide, List.mem_of_getElem? (i := 104) (by decide +kernel), rfl, rfl, by decide +kernel⟩
theorem fl_X7_112 : FL RX7 112 2 4 (.array .int) true := ⟨RX2, TX2, 11, rfl, by decide, List.mem_of_getElem? (i := 105) (by decide +kernel), rfl, rfl, by decide +kernel⟩
theorem fl_X2_28 : FL RX2 28 2 5 (.array .int) true := ⟨RX2, TX2, 11, rfl, by decide, List.mem_of_getElem? (i := 106) (by decide +kernel), rfl, rfl, by decide +kernel⟩
theorem fl_X8_160 : FL RX8 160 2 5 (.array .int) true := ⟨RX2, TX2, 11, rfl, by decide, List.mem_of_getElem? (i := 107) (by decide +kernel), rfl, rfl, by decide +kernel⟩
theorem fl_X7_115 : FL RX7 115 2 5 (.array .int) true := ⟨RX2, TX2, 11, rfl, by decide, List.mem_of_getElem? (i := 108) (by decide +kernel), rfl, rfl, by decide +kernel⟩
theorem fl_X2_31 : FL RX2 31 2 6 .int false := ⟨RX2, TX2, 11, rfl, by decide, List.mem_of_getElem? (i := 109) (by decide +kernel), rfl, rfl, by decide +kernel⟩
theorem fl_X0_48 : FL RX0 48 2 6 .int false := ⟨RX2, TX2, 11, rfl, by decide, List.mem_of_getElem? (i := 110) (by decide +kernel), rfl, rfl, by decide +kernel⟩
theorem fl_X8_102 : FL RX8 102 2 6 .int false := ⟨RX2, TX2, 11, rfl, by decide, List.mem_of_getElem? (i := 111) (by decide +kernel), rfl, rfl, by decide +kernel⟩
theorem fl_X7_118 : FL RX7 118 2 6 .int false := ⟨RX2, TX2, 11, rfl, by decide, List.mem_of_getElem? (i := 112) (by decide +kernel), rfl, rfl, by decide +kernel⟩
theorem fl_X2_34 : FL RX2 34 2 7 (.array .int) true := ⟨RX2, TX2, 11, rfl, by decide, List.mem_of_getElem? (i := 113) (by decide +kernel), rfl, rfl, by decide +kernel⟩
theorem fl_X0_47 : FL RX0 47 2 7 (.array .int) true := ⟨RX2, TX2, 11, rfl, by decide, List.mem_of_getElem? (i := 114) (by decide +kernel), rfl, rfl, by decide +kernel⟩
theorem fl_X7_121 : FL RX7 121 2 7 (.array .int) true := ⟨RX2, TX2, 11, rfl, by decide, List.mem_of_getElem? (i := 115) (by decide +kernel), rfl, rfl, by decide +kernel⟩
theorem fl_X2_37 : FL RX2 37 2 8 (.array .int) true := ⟨RX2, TX2, 11, rfl, by decide, List.mem_of_getElem? (i := 116) (by decide +kernel), rfl, rfl, by decide +kernel⟩
theorem fl_X8_173 : FL RX8 173 2 8 (.array .int) true := ⟨RX2, TX2, 11, rfl, by decide, List.mem_of_getElem? (i := 117) (by decide +kernel), rfl, rfl, by decide +kernel⟩
theorem fl_X7_124 : FL RX7 124 2 8 (.array .int) true := ⟨RX2, TX2, 11, rfl, by decide, List.mem_of_getElem? (i := 118) (by decide +kernel), rfl, rfl, by decide +kernel⟩
theorem fl_X2_40 : FL RX2 40 2 9 .int false := ⟨RX2, TX2, 11, rfl, by decide, List.mem_of_getElem? (i := 119) (by decide +kernel), rfl, rfl, by decide +kernel⟩
theorem fl_X7_54 : FL RX7 54 2 9 .int false := ⟨RX2, TX2, 11, rfl, by decide, List.mem_of_getElem? (i := 120) (by decide +kernel), rfl, rfl, by decide +kernel⟩
theorem fl_X0_58 : FL RX0 58 2 9 .int false := ⟨RX2, TX2, 11, rfl, by decide, List.mem_of_getElem? (i := 121) (by decide +kernel), rfl, rfl, by decide +kernel⟩
theorem fl_X8_105 : FL RX8 105 2 9 .int false := ⟨RX2, TX2, 11, rfl, by decide, List.mem_of_getElem? (i := 122) (by decide +kernel), rfl, rfl, by decide +kernel⟩
theorem fl_X2_43 : FL RX2 43 2 10 .int false := ⟨RX2, TX2, 11, rfl, by decide, List.mem_of_getElem? (i := 123) (by decide +kernel), rfl, rfl, by decide +kernel⟩
theorem fl_X7_57 : FL RX7 57 2 10 .int false := ⟨RX2, TX2, 11, rfl, by decide, List.mem_of_getElem? (i := 124) (by decide +kernel), rfl, rfl, by decide +kernel⟩
theorem fl_X0_55 : FL RX0 55 2 10 .int false := ⟨RX2, TX2, 11, rfl, by decide, List.mem_of_getElem? (i := 125) (by decide +kernel), rfl, rfl, by decide +kernel⟩
theorem fl_X8_108 : FL RX8 108 2 10 .int false := ⟨RX2, TX2, 11, rfl, by decide, List.mem_of_getElem? (i := 126) (by decide +kernel), rfl, rfl, by decide +kernel⟩
theorem fl_X7_9 : FL RX7 9 7 0 (.array .int) true := ⟨RX7, TX7, 10, rfl, by decide, List.mem_of_getElem? (i := 151) (by decide +kernel), rfl, rfl, by decide +kernel⟩
theorem fl_X7_15 : FL RX7 15 7 1 .int false := ⟨RX7, TX7, 10, rfl, by decide, List.mem_of_getElem? (i := 152) (by decide +kernel), rfl, rfl, by decide +kernel⟩
theorem fl_X8_78 : FL RX8 78 7 1 .int false := ⟨RX7, TX7, 10, rfl, by decide, List.mem_of_getElem? (i := 153) (by decide +kernel), rfl, rfl, by decide +kernel⟩
theorem fl_X7_19 : FL RX7 19 7 2 .int false := ⟨RX7, TX7, 10, rfl, by decide, List.mem_of_getElem? (i := 154) (by decide +kernel), rfl, rfl, by decide +kernel⟩
theorem fl_X7_22 : FL RX7 22 7 3 .int false := ⟨RX7, TX7, 10, rfl, by decide, List.mem_of_getElem? (i := 155) (by decide +kernel), rfl, rfl, by decide +kernel⟩
theorem fl_X7_28 : FL RX7 28 7 4 (.object "TurningWheel$Castle") false := ⟨RX7, TX7, 10, rfl, by decide, List.mem_of_getElem? (i := 156) (by decide +kernel), rfl, rfl, by decide +kernel⟩
theorem fl_X7_32 : FL RX7 32 7 5 .boolean false := ⟨RX7, TX7, 10, rfl, by decide, List.mem_of_getElem? (i := 157) (by decide +kernel), rfl, rfl, by decide +kernel⟩
theorem fl_X7_36 : FL RX7 36 7 6 .int false := ⟨RX7, TX7, 10, rfl, by decide, List.mem_of_getElem? (i := 158) (by decide +kernel), rfl, rfl, by decide +kernel⟩
theorem fl_X7_39 : FL RX7 39 7 7 .int false := ⟨RX7, TX7, 10, rfl, by decide, List.mem_of_getElem? (i := 159) (by decide +kernel), rfl, rfl, by decide +kernel⟩
theorem fl_X7_42 : FL RX7 42 7 8 .int false := ⟨RX7, TX7, 10, rfl, by decide, List.mem_of_getElem? (i := 160) (by decide +kernel), rfl, rfl, by decide +kernel⟩
theorem fl_X7_45 : FL RX7 45 7 9 .int false := ⟨RX7, TX7, 10, rfl, by decide, List.mem_of_getElem? (i := 161) (by decide +kernel), rfl, rfl, by decide +kernel⟩
theorem fl_X8_86 : FL RX8 86 7 9 .int false := ⟨RX7, TX7, 10, rfl, by decide, List.mem_of_getElem? (i := 162) (by decide +kernel), rfl, rfl, by decide +kernel⟩
theorem fl_X0_9 : FL RX0 9 0 0 .int false := ⟨RX0, TX0, 9, rfl, by decide, List.mem_of_getElem? (i := 192) (by decide +kernel), rfl, rfl, by decide +kernel⟩
theorem fl_X8_111 : FL RX8 111 0 0 .int false := ⟨RX0, TX0, 9, rfl, by decide, List.mem_of_getElem? (i := 193) (by decide +kernel), rfl, rfl, by decide +kernel⟩
theorem fl_X0_15 : FL RX0 15 0 1 .int false := ⟨RX0, TX0, 9, rfl, by decide, List.mem_of_getElem? (i := 194) (by decide +kernel), rfl, rfl, by decide +kernel⟩
theorem fl_X8_114 : FL RX8 114 0 1 .int false := ⟨RX0, TX0, 9, rfl, by decide, List.mem_of_getElem? (i := 195) (by decide +kernel), rfl, rfl, by decide +kernel⟩
theorem fl_X0_18 : FL RX0 18 0 2 .boolean false := ⟨RX0, TX0, 9, rfl, by decide, List.mem_of_getElem? (i := 196) (by decide +kernel), rfl, rfl, by decide +kernel⟩
theorem fl_X8_117 : FL RX8 117 0 2 .boolean false := ⟨RX0, TX0, 9, rfl, by decide, List.mem_of_getElem? (i := 197) (by decide +kernel), rfl, rfl, by decide +kernel⟩
theorem fl_X0_22 : FL RX0 22 0 3 .boolean false := ⟨RX0, TX0, 9, rfl, by decide, List.mem_of_getElem? (i := 198) (by decide +kernel), rfl, rfl, by decide +kernel⟩
theorem fl_X8_121 : FL RX8 121 0 3 .boolean false := ⟨RX0, TX0, 9, rfl, by decide, List.mem_of_getElem? (i := 199) (by decide +kernel), rfl, rfl, by decide +kernel⟩
theorem fl_X0_25 : FL RX0 25 0 4 .int false := ⟨RX0, TX0, 9, rfl, by decide, List.mem_of_getElem? (i := 200) (by decide +kernel), rfl, rfl, by decide +kernel⟩
theorem fl_X8_124 : FL RX8 124 0 4 .int false := ⟨RX0, TX0, 9, rfl, by decide, List.mem_of_getElem? (i := 201) (by decide +kernel), rfl, rfl, by decide +kernel⟩
theorem fl_X0_28 : FL RX0 28 0 5 .int false := ⟨RX0, TX0, 9, rfl, by decide, List.mem_of_getElem? (i := 202) (by decide +kernel), rfl, rfl, by decide +kernel⟩
theorem fl_X8_134 : FL RX8 134 0 5 .int false := ⟨RX0, TX0, 9, rfl, by decide, List.mem_of_getElem? (i := 203) (by decide +kernel), rfl, rfl, by decide +kernel⟩
theorem fl_X0_31 : FL RX0 31 0 6 (.array .int) true := ⟨RX0, TX0, 9, rfl, by decide, List.mem_of_getElem? (i := 204) (by decide +kernel), rfl, rfl, by decide +kernel⟩
theorem fl_X8_170 : FL RX8 170 0 6 (.array .int) true := ⟨RX0, TX0, 9, rfl, by decide, List.mem_of_getElem? (i := 205) (by decide +kernel), rfl, rfl, by decide +kernel⟩
theorem fl_X0_35 : FL RX0 35 0 7 (.array .int) true := ⟨RX0, TX0, 9, rfl, by decide, List.mem_of_getElem? (i := 206) (by decide +kernel), rfl, rfl, by decide +kernel⟩
theorem fl_X8_176 : FL RX8 176 0 7 (.array .int) true := ⟨RX0, TX0, 9, rfl, by decide, List.mem_of_getElem? (i := 207) (by decide +kernel), rfl, rfl, by decide +kernel⟩
theorem fl_X0_38 : FL RX0 38 0 8 (.array .int) true := ⟨RX0, TX0, 9, rfl, by decide, List.mem_of_getElem? (i := 208) (by decide +kernel), rfl, rfl, by decide +kernel⟩
theorem fl_X8_179 : FL RX8 179 0 8 (.array .int) true := ⟨RX0, TX0, 9, rfl, by decide, List.mem_of_getElem? (i := 209) (by decide +kernel), rfl, rfl, by decide +kernel⟩
theorem fl_X5_11 : FL RX5 11 5 0 (.array (.object "TurningWheel$Affairs")) true := ⟨RX5, TX5, 3, rfl, by decide, List.mem_of_getElem? (i := 238) (by decide +kernel), rfl, rfl, by decide +kernel⟩
theorem fl_X5_17 : FL RX5 17 5 1 .int false := ⟨RX5, TX5, 3, rfl, by decide, List.mem_of_getElem? (i := 239) (by decide +kernel), rfl, rfl, by decide +kernel⟩
theorem fl_X5_21 : FL RX5 21 5 2 .int false := ⟨RX5, TX5, 3, rfl, by decide, List.mem_of_getElem? (i := 240) (by decide +kernel), rfl, rfl, by decide +kernel⟩
theorem fl_X8_142 : FL RX8 142 5 2 .int false := ⟨RX5, TX5, 3, rfl, by decide, List.mem_of_getElem? (i := 241) (by decide +kernel), rfl, rfl, by decide +kernel⟩
theorem fl_X4_9 : FL RX4 9 4 0 (.array .int) true := ⟨RX4, TX4, 3, rfl, by decide, List.mem_of_getElem? (i := 255) (by decide +kernel), rfl, rfl, by decide +kernel⟩
theorem fl_X4_15 : FL RX4 15 4 1 (.array .boolean) true := ⟨RX4, TX4, 3, rfl, by decide, List.mem_of_getElem? (i := 256) (by decide +kernel), rfl, rfl, by decide +kernel⟩
theorem fl_X4_19 : FL RX4 19 4 2 .int false := ⟨RX4, TX4, 3, rfl, by decide, List.mem_of_getElem? (i := 257) (by decide +kernel), rfl, rfl, by decide +kernel⟩
theorem fl_X8_140 : FL RX8 140 4 2 .int false := ⟨RX4, TX4, 3, rfl, by decide, List.mem_of_getElem? (i := 258) (by decide +kernel), rfl, rfl, by decide +kernel⟩
theorem fl_X1_9 : FL RX1 9 1 0 (.array .int) true := ⟨RX1, TX1, 2, rfl, by decide, List.mem_of_getElem? (i := 273) (by decide +kernel), rfl, rfl, by decide +kernel⟩
theorem fl_X1_15 : FL RX1 15 1 1 .int false := ⟨RX1, TX1, 2, rfl, by decide, List.mem_of_getElem? (i := 274) (by decide +kernel), rfl, rfl, by decide +kernel⟩
theorem fl_X8_141 : FL RX8 141 1 1 .int false := ⟨RX1, TX1, 2, rfl, by decide, List.mem_of_getElem? (i := 275) (by decide +kernel), rfl, rfl, by decide +kernel⟩
theorem fl_X3_7 : FL RX3 7 3 0 .int false := ⟨RX3, TX3, 1, rfl, by decide, List.mem_of_getElem? (i := 287) (by decide +kernel), rfl, rfl, by decide +kernel⟩
theorem fl_X8_262 : FL RX8 262 3 0 .int false := ⟨RX3, TX3, 1, rfl, by decide, List.mem_of_getElem? (i := 288) (by decide +kernel), rfl, rfl, by decide +kernel⟩
theorem fl_X6_7 : FL RX6 7 6 0 .boolean false := ⟨RX6, TX6, 3, rfl, by decide, List.mem_of_getElem? (i := 301) (by decide +kernel), rfl, rfl, by decide +kernel⟩
theorem fl_X8_265 : FL RX8 265 6 0 .boolean false := ⟨RX6, TX6, 3, rfl, by decide, List.mem_of_getElem? (i := 302) (by decide +kernel), rfl, rfl, by decide +kernel⟩
theorem fl_X6_16 : FL RX6 16 6 1 (.object "TurningWheel$Affairs") true := ⟨RX6, TX6, 3, rfl, by decide, List.mem_of_getElem? (i := 303) (by decide +kernel), rfl, rfl, by decide +kernel⟩
theorem fl_X8_268 : FL RX8 268 6 1 (.object "TurningWheel$Affairs") true := ⟨RX6, TX6, 3, rfl, by decide, List.mem_of_getElem? (i := 304) (by decide +kernel), rfl, rfl, by decide +kernel⟩
theorem fl_X6_20 : FL RX6 20 6 2 .int false := ⟨RX6, TX6, 3, rfl, by decide, List.mem_of_getElem? (i := 305) (by decide +kernel), rfl, rfl, by decide +kernel⟩
theorem fl_X8_274 : FL RX8 274 6 2 .int false := ⟨RX6, TX6, 3, rfl, by decide, List.mem_of_getElem? (i := 306) (by decide +kernel), rfl, rfl, by decide +kernel⟩
theorem fl_X8_9 : FL RX8 9 8 0 .int false := ⟨RX8, TX8, 9, rfl, by decide, List.mem_of_getElem? (i := 314) (by decide +kernel), rfl, rfl, by decide +kernel⟩
theorem fl_X8_16 : FL RX8 16 8 1 (.object "TurningWheel$Reader") true := ⟨RX8, TX8, 9, rfl, by decide, List.mem_of_getElem? (i := 315) (by decide +kernel), rfl, rfl, by decide +kernel⟩
theorem fl_X8_23 : FL RX8 23 8 2 (.object "TurningWheel$Castle") false := ⟨RX8, TX8, 9, rfl, by decide, List.mem_of_getElem? (i := 316) (by decide +kernel), rfl, rfl, by decide +kernel⟩
theorem fl_X8_30 : FL RX8 30 8 3 (.object "TurningWheel$Affairs") true := ⟨RX8, TX8, 9, rfl, by decide, List.mem_of_getElem? (i := 317) (by decide +kernel), rfl, rfl, by decide +kernel⟩
theorem fl_X8_37 : FL RX8 37 8 4 (.object "TurningWheel$History") true := ⟨RX8, TX8, 9, rfl, by decide, List.mem_of_getElem? (i := 318) (by decide +kernel), rfl, rfl, by decide +kernel⟩
theorem fl_X8_44 : FL RX8 44 8 5 (.object "TurningWheel$Hearsay") true := ⟨RX8, TX8, 9, rfl, by decide, List.mem_of_getElem? (i := 319) (by decide +kernel), rfl, rfl, by decide +kernel⟩
theorem fl_X8_51 : FL RX8 51 8 6 (.object "TurningWheel$Book") true := ⟨RX8, TX8, 9, rfl, by decide, List.mem_of_getElem? (i := 320) (by decide +kernel), rfl, rfl, by decide +kernel⟩
theorem fl_X8_58 : FL RX8 58 8 7 (.object "TurningWheel$Draws") true := ⟨RX8, TX8, 9, rfl, by decide, List.mem_of_getElem? (i := 321) (by decide +kernel), rfl, rfl, by decide +kernel⟩
theorem fl_X8_64 : FL RX8 64 8 8 (.array (.object "TurningWheel$Image")) true := ⟨RX8, TX8, 9, rfl, by decide, List.mem_of_getElem? (i := 322) (by decide +kernel), rfl, rfl, by decide +kernel⟩
theorem fl_X9_7 : FL RX9 7 9 0 (.array .int) true := ⟨RX9, TX9, 24, rfl, by decide, List.mem_of_getElem? (i := 752) (by decide +kernel), rfl, rfl, by decide +kernel⟩
theorem fl_X9_68 : FL RX9 68 9 1 .int false := ⟨RX9, TX9, 24, rfl, by decide, List.mem_of_getElem? (i := 753) (by decide +kernel), rfl, rfl, by decide +kernel⟩
theorem fl_X9_13 : FL RX9 13 9 2 .int false := ⟨RX9, TX9, 24, rfl, by decide, List.mem_of_getElem? (i := 754) (by decide +kernel), rfl, rfl, by decide +kernel⟩
theorem fl_X9_17 : FL RX9 17 9 3 (.array .int) true := ⟨RX9, TX9, 24, rfl, by decide, List.mem_of_getElem? (i := 755) (by decide +kernel), rfl, rfl, by decide +kernel⟩
theorem fl_X9_20 : FL RX9 20 9 4 (.array .int) true := ⟨RX9, TX9, 24, rfl, by decide, List.mem_of_getElem? (i := 756) (by decide +kernel), rfl, rfl, by decide +kernel⟩
theorem fl_X9_23 : FL RX9 23 9 5 (.array .int) true := ⟨RX9, TX9, 24, rfl, by decide, List.mem_of_getElem? (i := 757) (by decide +kernel), rfl, rfl, by decide +kernel⟩
theorem fl_X9_26 : FL RX9 26 9 6 (.array .int) true := ⟨RX9, TX9, 24, rfl, by decide, List.mem_of_getElem? (i := 758) (by decide +kernel), rfl, rfl, by decide +kernel⟩
theorem fl_X9_29 : FL RX9 29 9 7 (.array .int) true := ⟨RX9, TX9, 24, rfl, by decide, List.mem_of_getElem? (i := 759) (by decide +kernel), rfl, rfl, by decide +kernel⟩
theorem fl_X9_32 : FL RX9 32 9 8 (.array .int) true := ⟨RX9, TX9, 24, rfl, by decide, List.mem_of_getElem? (i := 760) (by decide +kernel), rfl, rfl, by decide +kernel⟩
theorem fl_X9_35 : FL RX9 35 9 9 (.array .int) true := ⟨RX9, TX9, 24, rfl, by decide, List.mem_of_getElem? (i := 761) (by decide +kernel), rfl, rfl, by decide +kernel⟩
theorem fl_X9_38 : FL RX9 38 9 10 (.array .int) true := ⟨RX9, TX9, 24, rfl, by decide, List.mem_of_getElem? (i := 762) (by decide +kernel), rfl, rfl, by decide +kernel⟩
theorem fl_X9_41 : FL RX9 41 9 11 (.array .int) true := ⟨RX9, TX9, 24, rfl, by decide, List.mem_of_getElem? (i := 763) (by decide +kernel), rfl, rfl, by decide +kernel⟩
theorem fl_X9_44 : FL RX9 44 9 12 (.array .int) true := ⟨RX9, TX9, 24, rfl, by decide, List.mem_of_getElem? (i := 764) (by decide +kernel), rfl, rfl, by decide +kernel⟩
theorem fl_X9_126 : FL RX9 126 9 13 .int false := ⟨RX9, TX9, 24, rfl, by decide, List.mem_of_getElem? (i := 765) (by decide +kernel), rfl, rfl, by decide +kernel⟩
theorem fl_X9_47 : FL RX9 47 9 14 (.array .int) true := ⟨RX9, TX9, 24, rfl, by decide, List.mem_of_getElem? (i := 766) (by decide +kernel), rfl, rfl, by decide +kernel⟩
theorem fl_X9_50 : FL RX9 50 9 15 (.array .int) true := ⟨RX9, TX9, 24, rfl, by decide, List.mem_of_getElem? (i := 767) (by decide +kernel), rfl, rfl, by decide +kernel⟩
theorem fl_X9_53 : FL RX9 53 9 16 (.array .boolean) true := ⟨RX9, TX9, 24, rfl, by decide, List.mem_of_getElem? (i := 768) (by decide +kernel), rfl, rfl, by decide +kernel⟩
theorem fl_X9_188 : FL RX9 188 9 17 .int false := ⟨RX9, TX9, 24, rfl, by decide, List.mem_of_getElem? (i := 769) (by decide +kernel), rfl, rfl, by decide +kernel⟩
theorem fl_X9_57 : FL RX9 57 9 18 (.array .int) true := ⟨RX9, TX9, 24, rfl, by decide, List.mem_of_getElem? (i := 770) (by decide +kernel), rfl, rfl, by decide +kernel⟩
theorem fl_X9_129 : FL RX9 129 9 19 .int false := ⟨RX9, TX9, 24, rfl, by decide, List.mem_of_getElem? (i := 771) (by decide +kernel), rfl, rfl, by decide +kernel⟩
theorem fl_X9_60 : FL RX9 60 9 20 (.array .int) true := ⟨RX9, TX9, 24, rfl, by decide, List.mem_of_getElem? (i := 772) (by decide +kernel), rfl, rfl, by decide +kernel⟩
theorem fl_X9_132 : FL RX9 132 9 21 .int false := ⟨RX9, TX9, 24, rfl, by decide, List.mem_of_getElem? (i := 773) (by decide +kernel), rfl, rfl, by decide +kernel⟩
theorem fl_X9_72 : FL RX9 72 9 22 .int false := ⟨RX9, TX9, 24, rfl, by decide, List.mem_of_getElem? (i := 774) (by decide +kernel), rfl, rfl, by decide +kernel⟩
theorem fl_X9_75 : FL RX9 75 9 23 .int false := ⟨RX9, TX9, 24, rfl, by decide, List.mem_of_getElem? (i := 775) (by decide +kernel), rfl, rfl, by decide +kernel⟩
theorem wm_72 : Cond.methodLink RL 9 yX8_init ∈ lw_tbl := List.mem_of_getElem? (i := 72) (by decide +kernel)
theorem wm_73 : Cond.instanceMethod yX8_init ∈ lw_tbl := List.mem_of_getElem? (i := 73) (by decide +kernel)
theorem wm_58 : Cond.initialized RX8 ∈ lw_tbl := List.mem_of_getElem? (i := 58) (by decide +kernel)
theorem wm_74 : Cond.code YX8_init.1 YX8_init.2.1 YX8_init.2.2.1 YX8_init.2.2.2 ∈ lw_tbl := List.mem_of_getElem? (i := 74) (by decide +kernel)
theorem cv_L_9 : CI RL 9 YX8_init 0 := ⟨wm_72, ⟨rfl, wm_73⟩, wm_58, wm_74, ⟨by decide +kernel, by decide +kernel, by decide +kernel⟩⟩
theorem wm_231 : Cond.methodLink RX8 36 yX5_init ∈ lw_tbl := List.mem_of_getElem? (i := 231) (by decide +kernel)
theorem wm_232 : Cond.instanceMethod yX5_init ∈ lw_tbl := List.mem_of_getElem? (i := 232) (by decide +kernel)
theorem wm_62 : Cond.initialized RX5 ∈ lw_tbl := List.mem_of_getElem? (i := 62) (by decide +kernel)
theorem wm_233 : Cond.code YX5_init.1 YX5_init.2.1 YX5_init.2.2.1 YX5_init.2.2.2 ∈ lw_tbl := List.mem_of_getElem? (i := 233) (by decide +kernel)
theorem cv_X8_36 : CI RX8 36 YX5_init 0 := ⟨wm_231, ⟨rfl, wm_232⟩, wm_62, wm_233, ⟨by decide +kernel, by decide +kernel, by decide +kernel⟩⟩
theorem wm_342 : Cond.methodLink RL 13 yX8_feed ∈ lw_tbl := List.mem_of_getElem? (i := 342) (by decide +kernel)
theorem wm_343 : Cond.instanceMethod yX8_feed ∈ lw_tbl := List.mem_of_getElem? (i := 343) (by decide +kernel)
theorem wm_344 : Cond.selects yX8_feed.cls yX8_feed yX8_feed ∈ lw_tbl := List.mem_of_getElem? (i := 344) (by decide +kernel)
theorem wm_345 : Cond.code YX8_feed.1 YX8_feed.2.1 YX8_feed.2.2.1 YX8_feed.2.2.2 ∈ lw_tbl := List.mem_of_getElem? (i := 345) (by decide +kernel)
theorem cv_L_13 : CV RL 13 YX8_feed 1 := ⟨wm_342, wm_343, wm_344, wm_58, wm_345, ⟨by decide +kernel, by decide +kernel, by decide +kernel⟩⟩
theorem wm_346 : Cond.methodLink RX8 69 yX8_within ∈ lw_tbl := List.mem_of_getElem? (i := 346) (by decide +kernel)
theorem wm_347 : Cond.static yX8_within ∈ lw_tbl := List.mem_of_getElem? (i := 347) (by decide +kernel)
theorem wm_348 : Cond.code YX8_within.1 YX8_within.2.1 YX8_within.2.2.1 YX8_within.2.2.2 ∈ lw_tbl := List.mem_of_getElem? (i := 348) (by decide +kernel)
theorem cv_X8_69 : CS RX8 69 YX8_within 3 := ⟨wm_346, wm_347, wm_58, wm_348, ⟨by decide +kernel, by decide +kernel, by decide +kernel⟩⟩
theorem wm_350 : Cond.methodLink RX8 74 yX7_add ∈ lw_tbl := List.mem_of_getElem? (i := 350) (by decide +kernel)
theorem wm_351 : Cond.instanceMethod yX7_add ∈ lw_tbl := List.mem_of_getElem? (i := 351) (by decide +kernel)
theorem wm_352 : Cond.selects yX7_add.cls yX7_add yX7_add ∈ lw_tbl := List.mem_of_getElem? (i := 352) (by decide +kernel)
theorem wm_59 : Cond.initialized RX7 ∈ lw_tbl := List.mem_of_getElem? (i := 59) (by decide +kernel)
theorem wm_353 : Cond.code YX7_add.1 YX7_add.2.1 YX7_add.2.2.1 YX7_add.2.2.2 ∈ lw_tbl := List.mem_of_getElem? (i := 353) (by decide +kernel)
theorem cv_X8_74 : CV RX8 74 YX7_add 1 := ⟨wm_350, wm_351, wm_352, wm_59, wm_353, ⟨by decide +kernel, by decide +kernel, by decide +kernel⟩⟩
theorem wm_355 : Cond.methodLink RL 18 yX8_castle ∈ lw_tbl := List.mem_of_getElem? (i := 355) (by decide +kernel)
theorem wm_356 : Cond.instanceMethod yX8_castle ∈ lw_tbl := List.mem_of_getElem? (i := 356) (by decide +kernel)
theorem wm_357 : Cond.selects yX8_castle.cls yX8_castle yX8_castle ∈ lw_tbl := List.mem_of_getElem? (i := 357) (by decide +kernel)
theorem wm_358 : Cond.code YX8_castle.1 YX8_castle.2.1 YX8_castle.2.2.1 YX8_castle.2.2.2 ∈ lw_tbl := List.mem_of_getElem? (i := 358) (by decide +kernel)
theorem cv_L_18 : CV RL 18 YX8_castle 0 := ⟨wm_355, wm_356, wm_357, wm_58, wm_358, ⟨by decide +kernel, by decide +kernel, by decide +kernel⟩⟩
theorem wm_359 : Cond.methodLink RX8 82 yX7_readText ∈ lw_tbl := List.mem_of_getElem? (i := 359) (by decide +kernel)
theorem wm_360 : Cond.instanceMethod yX7_readText ∈ lw_tbl := List.mem_of_getElem? (i := 360) (by decide +kernel)
theorem wm_361 : Cond.selects yX7_readText.cls yX7_readText yX7_readText ∈ lw_tbl := List.mem_of_getElem? (i := 361) (by decide +kernel)
theorem wm_362 : Cond.code YX7_readText.1 YX7_readText.2.1 YX7_readText.2.2.1 YX7_readText.2.2.2 ∈ lw_tbl := List.mem_of_getElem? (i := 362) (by decide +kernel)
theorem cv_X8_82 : CV RX8 82 YX7_readText 0 := ⟨wm_359, wm_360, wm_361, wm_59, wm_362, ⟨by decide +kernel, by decide +kernel, by decide +kernel⟩⟩
theorem wm_363 : Cond.methodLink RX7 48 yX2_clear ∈ lw_tbl := List.mem_of_getElem? (i := 363) (by decide +kernel)
theorem wm_364 : Cond.instanceMethod yX2_clear ∈ lw_tbl := List.mem_of_getElem? (i := 364) (by decide +kernel)
theorem wm_365 : Cond.selects yX2_clear.cls yX2_clear yX2_clear ∈ lw_tbl := List.mem_of_getElem? (i := 365) (by decide +kernel)
theorem wm_60 : Cond.initialized RX2 ∈ lw_tbl := List.mem_of_getElem? (i := 60) (by decide +kernel)
theorem wm_366 : Cond.code YX2_clear.1 YX2_clear.2.1 YX2_clear.2.2.1 YX2_clear.2.2.2 ∈ lw_tbl := List.mem_of_getElem? (i := 366) (by decide +kernel)
theorem cv_X7_48 : CV RX7 48 YX2_clear 0 := ⟨wm_363, wm_364, wm_365, wm_60, wm_366, ⟨by decide +kernel, by decide +kernel, by decide +kernel⟩⟩
theorem wm_367 : Cond.methodLink RX7 51 yX7_skipBlanks ∈ lw_tbl := List.mem_of_getElem? (i := 367) (by decide +kernel)
theorem wm_369 : Cond.instanceMethod yX7_skipBlanks ∈ lw_tbl := List.mem_of_getElem? (i := 369) (by decide +kernel)
theorem wm_0 : Cond.selects yX7_skipBlanks.cls yX7_skipBlanks yX7_skipBlanks ∈ lw_tbl := List.mem_of_getElem? (i := 0) (by decide +kernel)
theorem wm_370 : Cond.code YX7_skipBlanks.1 YX7_skipBlanks.2.1 YX7_skipBlanks.2.2.1 YX7_skipBlanks.2.2.2 ∈ lw_tbl := List.mem_of_getElem? (i := 370) (by decide +kernel)
theorem cv_X7_51 : CV RX7 51 YX7_skipBlanks 0 := ⟨wm_367, wm_369, wm_0, wm_59, wm_370, ⟨by decide +kernel, by decide +kernel, by decide +kernel⟩⟩
theorem wm_371 : Cond.methodLink RX7 60 yX7_readWays ∈ lw_tbl := List.mem_of_getElem? (i := 371) (by decide +kernel)
theorem wm_373 : Cond.instanceMethod yX7_readWays ∈ lw_tbl := List.mem_of_getElem? (i := 373) (by decide +kernel)
theorem wm_1 : Cond.selects yX7_readWays.cls yX7_readWays yX7_readWays ∈ lw_tbl := List.mem_of_getElem? (i := 1) (by decide +kernel)
theorem wm_374 : Cond.code YX7_readWays.1 YX7_readWays.2.1 YX7_readWays.2.2.1 YX7_readWays.2.2.2 ∈ lw_tbl := List.mem_of_getElem? (i := 374) (by decide +kernel)
theorem cv_X7_60 : CV RX7 60 YX7_readWays 0 := ⟨wm_371, wm_373, wm_1, wm_59, wm_374, ⟨by decide +kernel, by decide +kernel, by decide +kernel⟩⟩
theorem wm_375 : Cond.methodLink RX7 67 yX7_take ∈ lw_tbl := List.mem_of_getElem? (i := 375) (by decide +kernel)
theorem wm_377 : Cond.instanceMethod yX7_take ∈ lw_tbl := List.mem_of_getElem? (i := 377) (by decide +kernel)
theorem wm_2 : Cond.selects yX7_take.cls yX7_take yX7_take ∈ lw_tbl := List.mem_of_getElem? (i := 2) (by decide +kernel)
theorem wm_378 : Cond.code YX7_take.1 YX7_take.2.1 YX7_take.2.2.1 YX7_take.2.2.2 ∈ lw_tbl := List.mem_of_getElem? (i := 378) (by decide +kernel)
theorem cv_X7_67 : CV RX7 67 YX7_take 1 := ⟨wm_375, wm_377, wm_2, wm_59, wm_378, ⟨by decide +kernel, by decide +kernel, by decide +kernel⟩⟩
theorem wm_379 : Cond.methodLink RX7 74 yX7_letter ∈ lw_tbl := List.mem_of_getElem? (i := 379) (by decide +kernel)
theorem wm_381 : Cond.instanceMethod yX7_letter ∈ lw_tbl := List.mem_of_getElem? (i := 381) (by decide +kernel)
theorem wm_3 : Cond.selects yX7_letter.cls yX7_letter yX7_letter ∈ lw_tbl := List.mem_of_getElem? (i := 3) (by decide +kernel)
theorem wm_382 : Cond.code YX7_letter.1 YX7_letter.2.1 YX7_letter.2.2.1 YX7_letter.2.2.2 ∈ lw_tbl := List.mem_of_getElem? (i := 382) (by decide +kernel)
theorem cv_X7_74 : CV RX7 74 YX7_letter 0 := ⟨wm_379, wm_381, wm_3, wm_59, wm_382, ⟨by decide +kernel, by decide +kernel, by decide +kernel⟩⟩
theorem wm_383 : Cond.methodLink RX7 81 yX7_refuse ∈ lw_tbl := List.mem_of_getElem? (i := 383) (by decide +kernel)
theorem wm_385 : Cond.instanceMethod yX7_refuse ∈ lw_tbl := List.mem_of_getElem? (i := 385) (by decide +kernel)
theorem wm_4 : Cond.selects yX7_refuse.cls yX7_refuse yX7_refuse ∈ lw_tbl := List.mem_of_getElem? (i := 4) (by decide +kernel)
theorem wm_386 : Cond.code YX7_refuse.1 YX7_refuse.2.1 YX7_refuse.2.2.1 YX7_refuse.2.2.2 ∈ lw_tbl := List.mem_of_getElem? (i := 386) (by decide +kernel)
theorem cv_X7_81 : CV RX7 81 YX7_refuse 2 := ⟨wm_383, wm_385, wm_4, wm_59, wm_386, ⟨by decide +kernel, by decide +kernel, by decide +kernel⟩⟩
theorem wm_387 : Cond.methodLink RX7 71 yX7_readWay ∈ lw_tbl := List.mem_of_getElem? (i := 387) (by decide +kernel)
theorem wm_389 : Cond.instanceMethod yX7_readWay ∈ lw_tbl := List.mem_of_getElem? (i := 389) (by decide +kernel)
theorem wm_5 : Cond.selects yX7_readWay.cls yX7_readWay yX7_readWay ∈ lw_tbl := List.mem_of_getElem? (i := 5) (by decide +kernel)
theorem wm_390 : Cond.code YX7_readWay.1 YX7_readWay.2.1 YX7_readWay.2.2.1 YX7_readWay.2.2.2 ∈ lw_tbl := List.mem_of_getElem? (i := 390) (by decide +kernel)
theorem cv_X7_71 : CV RX7 71 YX7_readWay 0 := ⟨wm_387, wm_389, wm_5, wm_59, wm_390, ⟨by decide +kernel, by decide +kernel, by decide +kernel⟩⟩
theorem wm_391 : Cond.methodLink RX7 85 yX7_readNumber ∈ lw_tbl := List.mem_of_getElem? (i := 391) (by decide +kernel)
theorem wm_393 : Cond.instanceMethod yX7_readNumber ∈ lw_tbl := List.mem_of_getElem? (i := 393) (by decide +kernel)
theorem wm_6 : Cond.selects yX7_readNumber.cls yX7_readNumber yX7_readNumber ∈ lw_tbl := List.mem_of_getElem? (i := 6) (by decide +kernel)
theorem wm_394 : Cond.code YX7_readNumber.1 YX7_readNumber.2.1 YX7_readNumber.2.2.1 YX7_readNumber.2.2.2 ∈ lw_tbl := List.mem_of_getElem? (i := 394) (by decide +kernel)
theorem cv_X7_85 : CV RX7 85 YX7_readNumber 2 := ⟨wm_391, wm_393, wm_6, wm_59, wm_394, ⟨by decide +kernel, by decide +kernel, by decide +kernel⟩⟩
theorem wm_395 : Cond.methodLink RX7 130 yX7_isFigure ∈ lw_tbl := List.mem_of_getElem? (i := 395) (by decide +kernel)
theorem wm_396 : Cond.static yX7_isFigure ∈ lw_tbl := List.mem_of_getElem? (i := 396) (by decide +kernel)
theorem wm_397 : Cond.code YX7_isFigure.1 YX7_isFigure.2.1 YX7_isFigure.2.2.1 YX7_isFigure.2.2.2 ∈ lw_tbl := List.mem_of_getElem? (i := 397) (by decide +kernel)
theorem cv_X7_130 : CS RX7 130 YX7_isFigure 1 := ⟨wm_395, wm_396, wm_59, wm_397, ⟨by decide +kernel, by decide +kernel, by decide +kernel⟩⟩
theorem wm_399 : Cond.methodLink RX7 64 yX7_readClause ∈ lw_tbl := List.mem_of_getElem? (i := 399) (by decide +kernel)
theorem wm_401 : Cond.instanceMethod yX7_readClause ∈ lw_tbl := List.mem_of_getElem? (i := 401) (by decide +kernel)
theorem wm_7 : Cond.selects yX7_readClause.cls yX7_readClause yX7_readClause ∈ lw_tbl := List.mem_of_getElem? (i := 7) (by decide +kernel)
theorem wm_402 : Cond.code YX7_readClause.1 YX7_readClause.2.1 YX7_readClause.2.2.1 YX7_readClause.2.2.2 ∈ lw_tbl := List.mem_of_getElem? (i := 402) (by decide +kernel)
theorem cv_X7_64 : CV RX7 64 YX7_readClause 0 := ⟨wm_399, wm_401, wm_7, wm_59, wm_402, ⟨by decide +kernel, by decide +kernel, by decide +kernel⟩⟩
theorem wm_403 : Cond.methodLink RX7 91 yX7_readTest ∈ lw_tbl := List.mem_of_getElem? (i := 403) (by decide +kernel)
theorem wm_405 : Cond.instanceMethod yX7_readTest ∈ lw_tbl := List.mem_of_getElem? (i := 405) (by decide +kernel)
theorem wm_8 : Cond.selects yX7_readTest.cls yX7_readTest yX7_readTest ∈ lw_tbl := List.mem_of_getElem? (i := 8) (by decide +kernel)
theorem wm_406 : Cond.code YX7_readTest.1 YX7_readTest.2.1 YX7_readTest.2.2.1 YX7_readTest.2.2.2 ∈ lw_tbl := List.mem_of_getElem? (i := 406) (by decide +kernel)
theorem cv_X7_91 : CV RX7 91 YX7_readTest 0 := ⟨wm_403, wm_405, wm_8, wm_59, wm_406, ⟨by decide +kernel, by decide +kernel, by decide +kernel⟩⟩
theorem wm_407 : Cond.methodLink RX7 103 yX7_readWaySet ∈ lw_tbl := List.mem_of_getElem? (i := 407) (by decide +kernel)
theorem wm_409 : Cond.instanceMethod yX7_readWaySet ∈ lw_tbl := List.mem_of_getElem? (i := 409) (by decide +kernel)
theorem wm_9 : Cond.selects yX7_readWaySet.cls yX7_readWaySet yX7_readWaySet ∈ lw_tbl := List.mem_of_getElem? (i := 9) (by decide +kernel)
theorem wm_410 : Cond.code YX7_readWaySet.1 YX7_readWaySet.2.1 YX7_readWaySet.2.2.1 YX7_readWaySet.2.2.2 ∈ lw_tbl := List.mem_of_getElem? (i := 410) (by decide +kernel)
theorem cv_X7_103 : CV RX7 103 YX7_readWaySet 1 := ⟨wm_407, wm_409, wm_9, wm_59, wm_410, ⟨by decide +kernel, by decide +kernel, by decide +kernel⟩⟩
theorem wm_411 : Cond.methodLink RX7 127 yX2_hasWays ∈ lw_tbl := List.mem_of_getElem? (i := 411) (by decide +kernel)
theorem wm_412 : Cond.instanceMethod yX2_hasWays ∈ lw_tbl := List.mem_of_getElem? (i := 412) (by decide +kernel)
theorem wm_413 : Cond.selects yX2_hasWays.cls yX2_hasWays yX2_hasWays ∈ lw_tbl := List.mem_of_getElem? (i := 413) (by decide +kernel)
theorem wm_414 : Cond.code YX2_hasWays.1 YX2_hasWays.2.1 YX2_hasWays.2.2.1 YX2_hasWays.2.2.2 ∈ lw_tbl := List.mem_of_getElem? (i := 414) (by decide +kernel)
theorem cv_X7_127 : CV RX7 127 YX2_hasWays 1 := ⟨wm_411, wm_412, wm_413, wm_60, wm_414, ⟨by decide +kernel, by decide +kernel, by decide +kernel⟩⟩
theorem wm_415 : Cond.methodLink RX2 50 yX2_allWays ∈ lw_tbl := List.mem_of_getElem? (i := 415) (by decide +kernel)
theorem wm_416 : Cond.instanceMethod yX2_allWays ∈ lw_tbl := List.mem_of_getElem? (i := 416) (by decide +kernel)
theorem wm_417 : Cond.selects yX2_allWays.cls yX2_allWays yX2_allWays ∈ lw_tbl := List.mem_of_getElem? (i := 417) (by decide +kernel)
theorem wm_418 : Cond.code YX2_allWays.1 YX2_allWays.2.1 YX2_allWays.2.2.1 YX2_allWays.2.2.2 ∈ lw_tbl := List.mem_of_getElem? (i := 418) (by decide +kernel)
theorem cv_X2_50 : CV RX2 50 YX2_allWays 0 := ⟨wm_415, wm_416, wm_417, wm_60, wm_418, ⟨by decide +kernel, by decide +kernel, by decide +kernel⟩⟩
theorem wm_422 : Cond.methodLink RX7 94 yX7_readServant ∈ lw_tbl := List.mem_of_getElem? (i := 422) (by decide +kernel)
theorem wm_424 : Cond.instanceMethod yX7_readServant ∈ lw_tbl := List.mem_of_getElem? (i := 424) (by decide +kernel)
theorem wm_10 : Cond.selects yX7_readServant.cls yX7_readServant yX7_readServant ∈ lw_tbl := List.mem_of_getElem? (i := 10) (by decide +kernel)
theorem wm_425 : Cond.code YX7_readServant.1 YX7_readServant.2.1 YX7_readServant.2.2.1 YX7_readServant.2.2.2 ∈ lw_tbl := List.mem_of_getElem? (i := 425) (by decide +kernel)
theorem cv_X7_94 : CV RX7 94 YX7_readServant 0 := ⟨wm_422, wm_424, wm_10, wm_59, wm_425, ⟨by decide +kernel, by decide +kernel, by decide +kernel⟩⟩
theorem wm_426 : Cond.methodLink RX7 97 yX7_readPay ∈ lw_tbl := List.mem_of_getElem? (i := 426) (by decide +kernel)
theorem wm_428 : Cond.instanceMethod yX7_readPay ∈ lw_tbl := List.mem_of_getElem? (i := 428) (by decide +kernel)
theorem wm_11 : Cond.selects yX7_readPay.cls yX7_readPay yX7_readPay ∈ lw_tbl := List.mem_of_getElem? (i := 11) (by decide +kernel)
theorem wm_429 : Cond.code YX7_readPay.1 YX7_readPay.2.1 YX7_readPay.2.2.1 YX7_readPay.2.2.2 ∈ lw_tbl := List.mem_of_getElem? (i := 429) (by decide +kernel)
theorem cv_X7_97 : CV RX7 97 YX7_readPay 0 := ⟨wm_426, wm_428, wm_11, wm_59, wm_429, ⟨by decide +kernel, by decide +kernel, by decide +kernel⟩⟩
theorem wm_430 : Cond.methodLink RX8 89 yX7_exchange ∈ lw_tbl := List.mem_of_getElem? (i := 430) (by decide +kernel)
theorem wm_431 : Cond.instanceMethod yX7_exchange ∈ lw_tbl := List.mem_of_getElem? (i := 431) (by decide +kernel)
theorem wm_432 : Cond.selects yX7_exchange.cls yX7_exchange yX7_exchange ∈ lw_tbl := List.mem_of_getElem? (i := 432) (by decide +kernel)
theorem wm_433 : Cond.code YX7_exchange.1 YX7_exchange.2.1 YX7_exchange.2.2.1 YX7_exchange.2.2.2 ∈ lw_tbl := List.mem_of_getElem? (i := 433) (by decide +kernel)
theorem cv_X8_89 : CV RX8 89 YX7_exchange 1 := ⟨wm_430, wm_431, wm_432, wm_59, wm_433, ⟨by decide +kernel, by decide +kernel, by decide +kernel⟩⟩
theorem wm_434 : Cond.methodLink RX8 93 yX8_beginAnew ∈ lw_tbl := List.mem_of_getElem? (i := 434) (by decide +kernel)
theorem wm_436 : Cond.instanceMethod yX8_beginAnew ∈ lw_tbl := List.mem_of_getElem? (i := 436) (by decide +kernel)
theorem wm_12 : Cond.selects yX8_beginAnew.cls yX8_beginAnew yX8_beginAnew ∈ lw_tbl := List.mem_of_getElem? (i := 12) (by decide +kernel)
theorem wm_437 : Cond.code YX8_beginAnew.1 YX8_beginAnew.2.1 YX8_beginAnew.2.2.1 YX8_beginAnew.2.2.2 ∈ lw_tbl := List.mem_of_getElem? (i := 437) (by decide +kernel)
theorem cv_X8_93 : CV RX8 93 YX8_beginAnew 0 := ⟨wm_434, wm_436, wm_12, wm_58, wm_437, ⟨by decide +kernel, by decide +kernel, by decide +kernel⟩⟩
theorem wm_438 : Cond.methodLink RX8 280 yX0_begin ∈ lw_tbl := List.mem_of_getElem? (i := 438) (by decide +kernel)
theorem wm_439 : Cond.instanceMethod yX0_begin ∈ lw_tbl := List.mem_of_getElem? (i := 439) (by decide +kernel)
theorem wm_440 : Cond.selects yX0_begin.cls yX0_begin yX0_begin ∈ lw_tbl := List.mem_of_getElem? (i := 440) (by decide +kernel)
theorem wm_61 : Cond.initialized RX0 ∈ lw_tbl := List.mem_of_getElem? (i := 61) (by decide +kernel)
theorem wm_441 : Cond.code YX0_begin.1 YX0_begin.2.1 YX0_begin.2.2.1 YX0_begin.2.2.2 ∈ lw_tbl := List.mem_of_getElem? (i := 441) (by decide +kernel)
theorem cv_X8_280 : CV RX8 280 YX0_begin 1 := ⟨wm_438, wm_439, wm_440, wm_61, wm_441, ⟨by decide +kernel, by decide +kernel, by decide +kernel⟩⟩
theorem wm_442 : Cond.methodLink RX0 41 yX2_stands ∈ lw_tbl := List.mem_of_getElem? (i := 442) (by decide +kernel)
theorem wm_443 : Cond.instanceMethod yX2_stands ∈ lw_tbl := List.mem_of_getElem? (i := 443) (by decide +kernel)
theorem wm_444 : Cond.selects yX2_stands.cls yX2_stands yX2_stands ∈ lw_tbl := List.mem_of_getElem? (i := 444) (by decide +kernel)
theorem wm_445 : Cond.code YX2_stands.1 YX2_stands.2.1 YX2_stands.2.2.1 YX2_stands.2.2.2 ∈ lw_tbl := List.mem_of_getElem? (i := 445) (by decide +kernel)
theorem cv_X0_41 : CV RX0 41 YX2_stands 0 := ⟨wm_442, wm_443, wm_444, wm_60, wm_445, ⟨by decide +kernel, by decide +kernel, by decide +kernel⟩⟩
theorem wm_446 : Cond.methodLink RX8 277 yX5_forget ∈ lw_tbl := List.mem_of_getElem? (i := 446) (by decide +kernel)
theorem wm_447 : Cond.instanceMethod yX5_forget ∈ lw_tbl := List.mem_of_getElem? (i := 447) (by decide +kernel)
theorem wm_448 : Cond.selects yX5_forget.cls yX5_forget yX5_forget ∈ lw_tbl := List.mem_of_getElem? (i := 448) (by decide +kernel)
theorem wm_449 : Cond.code YX5_forget.1 YX5_forget.2.1 YX5_forget.2.2.1 YX5_forget.2.2.2 ∈ lw_tbl := List.mem_of_getElem? (i := 449) (by decide +kernel)
theorem cv_X8_277 : CV RX8 277 YX5_forget 0 := ⟨wm_446, wm_447, wm_448, wm_62, wm_449, ⟨by decide +kernel, by decide +kernel, by decide +kernel⟩⟩
theorem wm_450 : Cond.methodLink RL 23 yX8_fault ∈ lw_tbl := List.mem_of_getElem? (i := 450) (by decide +kernel)
theorem wm_451 : Cond.instanceMethod yX8_fault ∈ lw_tbl := List.mem_of_getElem? (i := 451) (by decide +kernel)
theorem wm_452 : Cond.selects yX8_fault.cls yX8_fault yX8_fault ∈ lw_tbl := List.mem_of_getElem? (i := 452) (by decide +kernel)
theorem wm_453 : Cond.code YX8_fault.1 YX8_fault.2.1 YX8_fault.2.2.1 YX8_fault.2.2.2 ∈ lw_tbl := List.mem_of_getElem? (i := 453) (by decide +kernel)
theorem cv_L_23 : CV RL 23 YX8_fault 0 := ⟨wm_450, wm_451, wm_452, wm_58, wm_453, ⟨by decide +kernel, by decide +kernel, by decide +kernel⟩⟩
theorem wm_454 : Cond.methodLink RL 27 yX8_told ∈ lw_tbl := List.mem_of_getElem? (i := 454) (by decide +kernel)
theorem wm_455 : Cond.instanceMethod yX8_told ∈ lw_tbl := List.mem_of_getElem? (i := 455) (by decide +kernel)
theorem wm_456 : Cond.selects yX8_told.cls yX8_told yX8_told ∈ lw_tbl := List.mem_of_getElem? (i := 456) (by decide +kernel)
theorem wm_457 : Cond.code YX8_told.1 YX8_told.2.1 YX8_told.2.2.1 YX8_told.2.2.2 ∈ lw_tbl := List.mem_of_getElem? (i := 457) (by decide +kernel)
theorem cv_L_27 : CV RL 27 YX8_told 1 := ⟨wm_454, wm_455, wm_456, wm_58, wm_457, ⟨by decide +kernel, by decide +kernel, by decide +kernel⟩⟩
theorem wm_458 : Cond.methodLink RX8 127 yX8_waysLeft ∈ lw_tbl := List.mem_of_getElem? (i := 458) (by decide +kernel)
theorem wm_460 : Cond.instanceMethod yX8_waysLeft ∈ lw_tbl := List.mem_of_getElem? (i := 460) (by decide +kernel)
theorem wm_13 : Cond.selects yX8_waysLeft.cls yX8_waysLeft yX8_waysLeft ∈ lw_tbl := List.mem_of_getElem? (i := 13) (by decide +kernel)
theorem wm_461 : Cond.code YX8_waysLeft.1 YX8_waysLeft.2.1 YX8_waysLeft.2.2.1 YX8_waysLeft.2.2.2 ∈ lw_tbl := List.mem_of_getElem? (i := 461) (by decide +kernel)
theorem cv_X8_127 : CV RX8 127 YX8_waysLeft 0 := ⟨wm_458, wm_460, wm_13, wm_58, wm_461, ⟨by decide +kernel, by decide +kernel, by decide +kernel⟩⟩
theorem wm_462 : Cond.methodLink RX8 283 yX2_leftBy ∈ lw_tbl := List.mem_of_getElem? (i := 462) (by decide +kernel)
theorem wm_463 : Cond.instanceMethod yX2_leftBy ∈ lw_tbl := List.mem_of_getElem? (i := 463) (by decide +kernel)
theorem wm_464 : Cond.selects yX2_leftBy.cls yX2_leftBy yX2_leftBy ∈ lw_tbl := List.mem_of_getElem? (i := 464) (by decide +kernel)
theorem wm_465 : Cond.code YX2_leftBy.1 YX2_leftBy.2.1 YX2_leftBy.2.2.1 YX2_leftBy.2.2.2 ∈ lw_tbl := List.mem_of_getElem? (i := 465) (by decide +kernel)
theorem cv_X8_283 : CV RX8 283 YX2_leftBy 1 := ⟨wm_462, wm_463, wm_464, wm_60, wm_465, ⟨by decide +kernel, by decide +kernel, by decide +kernel⟩⟩
theorem wm_467 : Cond.methodLink RX8 130 yX2_secretsOf ∈ lw_tbl := List.mem_of_getElem? (i := 467) (by decide +kernel)
theorem wm_468 : Cond.instanceMethod yX2_secretsOf ∈ lw_tbl := List.mem_of_getElem? (i := 468) (by decide +kernel)
theorem wm_469 : Cond.selects yX2_secretsOf.cls yX2_secretsOf yX2_secretsOf ∈ lw_tbl := List.mem_of_getElem? (i := 469) (by decide +kernel)
theorem wm_470 : Cond.code YX2_secretsOf.1 YX2_secretsOf.2.1 YX2_secretsOf.2.2.1 YX2_secretsOf.2.2.2 ∈ lw_tbl := List.mem_of_getElem? (i := 470) (by decide +kernel)
theorem cv_X8_130 : CV RX8 130 YX2_secretsOf 1 := ⟨wm_467, wm_468, wm_469, wm_60, wm_470, ⟨by decide +kernel, by decide +kernel, by decide +kernel⟩⟩
theorem wm_471 : Cond.methodLink RX8 137 yX8_spent ∈ lw_tbl := List.mem_of_getElem? (i := 471) (by decide +kernel)
theorem wm_473 : Cond.instanceMethod yX8_spent ∈ lw_tbl := List.mem_of_getElem? (i := 473) (by decide +kernel)
theorem wm_14 : Cond.selects yX8_spent.cls yX8_spent yX8_spent ∈ lw_tbl := List.mem_of_getElem? (i := 14) (by decide +kernel)
theorem wm_474 : Cond.code YX8_spent.1 YX8_spent.2.1 YX8_spent.2.2.1 YX8_spent.2.2.2 ∈ lw_tbl := List.mem_of_getElem? (i := 474) (by decide +kernel)
theorem cv_X8_137 : CV RX8 137 YX8_spent 0 := ⟨wm_471, wm_473, wm_14, wm_58, wm_474, ⟨by decide +kernel, by decide +kernel, by decide +kernel⟩⟩
theorem wm_475 : Cond.methodLink RX8 286 yX2_costOf ∈ lw_tbl := List.mem_of_getElem? (i := 475) (by decide +kernel)
theorem wm_476 : Cond.instanceMethod yX2_costOf ∈ lw_tbl := List.mem_of_getElem? (i := 476) (by decide +kernel)
theorem wm_477 : Cond.selects yX2_costOf.cls yX2_costOf yX2_costOf ∈ lw_tbl := List.mem_of_getElem? (i := 477) (by decide +kernel)
theorem wm_478 : Cond.code YX2_costOf.1 YX2_costOf.2.1 YX2_costOf.2.2.1 YX2_costOf.2.2.2 ∈ lw_tbl := List.mem_of_getElem? (i := 478) (by decide +kernel)
theorem cv_X8_286 : CV RX8 286 YX2_costOf 1 := ⟨wm_475, wm_476, wm_477, wm_60, wm_478, ⟨by decide +kernel, by decide +kernel, by decide +kernel⟩⟩
theorem wm_480 : Cond.methodLink RX8 290 yJ9_min_7cf53 ∈ lw_tbl := List.mem_of_getElem? (i := 480) (by decide +kernel)
theorem wm_481 : Cond.static yJ9_min_7cf53 ∈ lw_tbl := List.mem_of_getElem? (i := 481) (by decide +kernel)
theorem wm_68 : Cond.initialized RJ9 ∈ lw_tbl := List.mem_of_getElem? (i := 68) (by decide +kernel)
theorem wm_482 : Cond.code YJ9_min_7cf53.1 YJ9_min_7cf53.2.1 YJ9_min_7cf53.2.2.1 YJ9_min_7cf53.2.2.2 ∈ lw_tbl := List.mem_of_getElem? (i := 482) (by decide +kernel)
theorem cv_X8_290 : CS RX8 290 YJ9_min_7cf53 2 := ⟨wm_480, wm_481, wm_68, wm_482, ⟨by decide +kernel, by decide +kernel, by decide +kernel⟩⟩
theorem wm_483 : Cond.methodLink RL 31 yX8_likely ∈ lw_tbl := List.mem_of_getElem? (i := 483) (by decide +kernel)
theorem wm_484 : Cond.instanceMethod yX8_likely ∈ lw_tbl := List.mem_of_getElem? (i := 484) (by decide +kernel)
theorem wm_485 : Cond.selects yX8_likely.cls yX8_likely yX8_likely ∈ lw_tbl := List.mem_of_getElem? (i := 485) (by decide +kernel)
theorem wm_486 : Cond.code YX8_likely.1 YX8_likely.2.1 YX8_likely.2.2.1 YX8_likely.2.2.2 ∈ lw_tbl := List.mem_of_getElem? (i := 486) (by decide +kernel)
theorem cv_L_31 : CV RL 31 YX8_likely 1 := ⟨wm_483, wm_484, wm_485, wm_58, wm_486, ⟨by decide +kernel, by decide +kernel, by decide +kernel⟩⟩
theorem wm_487 : Cond.methodLink RX8 143 yX2_hasWay ∈ lw_tbl := List.mem_of_getElem? (i := 487) (by decide +kernel)
theorem wm_488 : Cond.instanceMethod yX2_hasWay ∈ lw_tbl := List.mem_of_getElem? (i := 488) (by decide +kernel)
theorem wm_489 : Cond.selects yX2_hasWay.cls yX2_hasWay yX2_hasWay ∈ lw_tbl := List.mem_of_getElem? (i := 489) (by decide +kernel)
theorem wm_490 : Cond.code YX2_hasWay.1 YX2_hasWay.2.1 YX2_hasWay.2.2.1 YX2_hasWay.2.2.2 ∈ lw_tbl := List.mem_of_getElem? (i := 490) (by decide +kernel)
theorem cv_X8_143 : CV RX8 143 YX2_hasWay 1 := ⟨wm_487, wm_488, wm_489, wm_60, wm_490, ⟨by decide +kernel, by decide +kernel, by decide +kernel⟩⟩
theorem wm_493 : Cond.methodLink RL 35 yX8_test ∈ lw_tbl := List.mem_of_getElem? (i := 493) (by decide +kernel)
theorem wm_494 : Cond.instanceMethod yX8_test ∈ lw_tbl := List.mem_of_getElem? (i := 494) (by decide +kernel)
theorem wm_495 : Cond.selects yX8_test.cls yX8_test yX8_test ∈ lw_tbl := List.mem_of_getElem? (i := 495) (by decide +kernel)
theorem wm_496 : Cond.code YX8_test.1 YX8_test.2.1 YX8_test.2.2.1 YX8_test.2.2.2 ∈ lw_tbl := List.mem_of_getElem? (i := 496) (by decide +kernel)
theorem cv_L_35 : CV RL 35 YX8_test 2 := ⟨wm_493, wm_494, wm_495, wm_58, wm_496, ⟨by decide +kernel, by decide +kernel, by decide +kernel⟩⟩
theorem wm_497 : Cond.methodLink RX8 151 yX2_hasTest ∈ lw_tbl := List.mem_of_getElem? (i := 497) (by decide +kernel)
theorem wm_498 : Cond.instanceMethod yX2_hasTest ∈ lw_tbl := List.mem_of_getElem? (i := 498) (by decide +kernel)
theorem wm_499 : Cond.selects yX2_hasTest.cls yX2_hasTest yX2_hasTest ∈ lw_tbl := List.mem_of_getElem? (i := 499) (by decide +kernel)
theorem wm_500 : Cond.code YX2_hasTest.1 YX2_hasTest.2.1 YX2_hasTest.2.2.1 YX2_hasTest.2.2.2 ∈ lw_tbl := List.mem_of_getElem? (i := 500) (by decide +kernel)
theorem cv_X8_151 : CV RX8 151 YX2_hasTest 1 := ⟨wm_497, wm_498, wm_499, wm_60, wm_500, ⟨by decide +kernel, by decide +kernel, by decide +kernel⟩⟩
theorem wm_501 : Cond.methodLink RX8 163 yX8_has ∈ lw_tbl := List.mem_of_getElem? (i := 501) (by decide +kernel)
theorem wm_420 : Cond.static yX8_has ∈ lw_tbl := List.mem_of_getElem? (i := 420) (by decide +kernel)
theorem wm_421 : Cond.code YX8_has.1 YX8_has.2.1 YX8_has.2.2.1 YX8_has.2.2.2 ∈ lw_tbl := List.mem_of_getElem? (i := 421) (by decide +kernel)
theorem cv_X8_163 : CS RX8 163 YX8_has 2 := ⟨wm_501, wm_420, wm_58, wm_421, ⟨by decide +kernel, by decide +kernel, by decide +kernel⟩⟩
theorem wm_502 : Cond.methodLink RL 40 yX8_servant ∈ lw_tbl := List.mem_of_getElem? (i := 502) (by decide +kernel)
theorem wm_503 : Cond.instanceMethod yX8_servant ∈ lw_tbl := List.mem_of_getElem? (i := 503) (by decide +kernel)
theorem wm_504 : Cond.selects yX8_servant.cls yX8_servant yX8_servant ∈ lw_tbl := List.mem_of_getElem? (i := 504) (by decide +kernel)
theorem wm_505 : Cond.code YX8_servant.1 YX8_servant.2.1 YX8_servant.2.2.1 YX8_servant.2.2.2 ∈ lw_tbl := List.mem_of_getElem? (i := 505) (by decide +kernel)
theorem cv_L_40 : CV RL 40 YX8_servant 2 := ⟨wm_502, wm_503, wm_504, wm_58, wm_505, ⟨by decide +kernel, by decide +kernel, by decide +kernel⟩⟩
theorem wm_506 : Cond.methodLink RX8 167 yX2_hasServant ∈ lw_tbl := List.mem_of_getElem? (i := 506) (by decide +kernel)
theorem wm_507 : Cond.instanceMethod yX2_hasServant ∈ lw_tbl := List.mem_of_getElem? (i := 507) (by decide +kernel)
theorem wm_508 : Cond.selects yX2_hasServant.cls yX2_hasServant yX2_hasServant ∈ lw_tbl := List.mem_of_getElem? (i := 508) (by decide +kernel)
theorem wm_509 : Cond.code YX2_hasServant.1 YX2_hasServant.2.1 YX2_hasServant.2.2.1 YX2_hasServant.2.2.2 ∈ lw_tbl := List.mem_of_getElem? (i := 509) (by decide +kernel)
theorem cv_X8_167 : CV RX8 167 YX2_hasServant 1 := ⟨wm_506, wm_507, wm_508, wm_60, wm_509, ⟨by decide +kernel, by decide +kernel, by decide +kernel⟩⟩
theorem wm_510 : Cond.methodLink RL 44 yX8_day ∈ lw_tbl := List.mem_of_getElem? (i := 510) (by decide +kernel)
theorem wm_511 : Cond.instanceMethod yX8_day ∈ lw_tbl := List.mem_of_getElem? (i := 511) (by decide +kernel)
theorem wm_512 : Cond.selects yX8_day.cls yX8_day yX8_day ∈ lw_tbl := List.mem_of_getElem? (i := 512) (by decide +kernel)
theorem wm_513 : Cond.code YX8_day.1 YX8_day.2.1 YX8_day.2.2.1 YX8_day.2.2.2 ∈ lw_tbl := List.mem_of_getElem? (i := 513) (by decide +kernel)
theorem cv_L_44 : CV RL 44 YX8_day 1 := ⟨wm_510, wm_511, wm_512, wm_58, wm_513, ⟨by decide +kernel, by decide +kernel, by decide +kernel⟩⟩
theorem wm_514 : Cond.methodLink RX8 182 yX8_refusalOfDays ∈ lw_tbl := List.mem_of_getElem? (i := 514) (by decide +kernel)
theorem wm_516 : Cond.instanceMethod yX8_refusalOfDays ∈ lw_tbl := List.mem_of_getElem? (i := 516) (by decide +kernel)
theorem wm_15 : Cond.selects yX8_refusalOfDays.cls yX8_refusalOfDays yX8_refusalOfDays ∈ lw_tbl := List.mem_of_getElem? (i := 15) (by decide +kernel)
theorem wm_517 : Cond.code YX8_refusalOfDays.1 YX8_refusalOfDays.2.1 YX8_refusalOfDays.2.2.1 YX8_refusalOfDays.2.2.2 ∈ lw_tbl := List.mem_of_getElem? (i := 517) (by decide +kernel)
theorem cv_X8_182 : CV RX8 182 YX8_refusalOfDays 1 := ⟨wm_514, wm_516, wm_15, wm_58, wm_517, ⟨by decide +kernel, by decide +kernel, by decide +kernel⟩⟩
theorem wm_518 : Cond.methodLink RX8 198 yX2_stands ∈ lw_tbl := List.mem_of_getElem? (i := 518) (by decide +kernel)
theorem cv_X8_198 : CV RX8 198 YX2_stands 0 := ⟨wm_518, wm_443, wm_444, wm_60, wm_445, ⟨by decide +kernel, by decide +kernel, by decide +kernel⟩⟩
theorem wm_520 : Cond.methodLink RX8 185 yX5_remember ∈ lw_tbl := List.mem_of_getElem? (i := 520) (by decide +kernel)
theorem wm_521 : Cond.instanceMethod yX5_remember ∈ lw_tbl := List.mem_of_getElem? (i := 521) (by decide +kernel)
theorem wm_522 : Cond.selects yX5_remember.cls yX5_remember yX5_remember ∈ lw_tbl := List.mem_of_getElem? (i := 522) (by decide +kernel)
theorem wm_523 : Cond.code YX5_remember.1 YX5_remember.2.1 YX5_remember.2.2.1 YX5_remember.2.2.2 ∈ lw_tbl := List.mem_of_getElem? (i := 523) (by decide +kernel)
theorem cv_X8_185 : CV RX8 185 YX5_remember 1 := ⟨wm_520, wm_521, wm_522, wm_62, wm_523, ⟨by decide +kernel, by decide +kernel, by decide +kernel⟩⟩
theorem wm_524 : Cond.methodLink RX5 25 yX0_copyFrom ∈ lw_tbl := List.mem_of_getElem? (i := 524) (by decide +kernel)
theorem wm_525 : Cond.instanceMethod yX0_copyFrom ∈ lw_tbl := List.mem_of_getElem? (i := 525) (by decide +kernel)
theorem wm_526 : Cond.selects yX0_copyFrom.cls yX0_copyFrom yX0_copyFrom ∈ lw_tbl := List.mem_of_getElem? (i := 526) (by decide +kernel)
theorem wm_527 : Cond.code YX0_copyFrom.1 YX0_copyFrom.2.1 YX0_copyFrom.2.2.1 YX0_copyFrom.2.2.2 ∈ lw_tbl := List.mem_of_getElem? (i := 527) (by decide +kernel)
theorem cv_X5_25 : CV RX5 25 YX0_copyFrom 1 := ⟨wm_524, wm_525, wm_526, wm_61, wm_527, ⟨by decide +kernel, by decide +kernel, by decide +kernel⟩⟩
theorem wm_528 : Cond.methodLink RX5 29 yJ9_min_7cf53 ∈ lw_tbl := List.mem_of_getElem? (i := 528) (by decide +kernel)
theorem cv_X5_29 : CS RX5 29 YJ9_min_7cf53 2 := ⟨wm_528, wm_481, wm_68, wm_482, ⟨by decide +kernel, by decide +kernel, by decide +kernel⟩⟩
theorem wm_529 : Cond.methodLink RX8 189 yX0_passDay ∈ lw_tbl := List.mem_of_getElem? (i := 529) (by decide +kernel)
theorem wm_530 : Cond.instanceMethod yX0_passDay ∈ lw_tbl := List.mem_of_getElem? (i := 530) (by decide +kernel)
theorem wm_531 : Cond.selects yX0_passDay.cls yX0_passDay yX0_passDay ∈ lw_tbl := List.mem_of_getElem? (i := 531) (by decide +kernel)
theorem wm_532 : Cond.code YX0_passDay.1 YX0_passDay.2.1 YX0_passDay.2.2.1 YX0_passDay.2.2.2 ∈ lw_tbl := List.mem_of_getElem? (i := 532) (by decide +kernel)
theorem cv_X8_189 : CV RX8 189 YX0_passDay 1 := ⟨wm_529, wm_530, wm_531, wm_61, wm_532, ⟨by decide +kernel, by decide +kernel, by decide +kernel⟩⟩
theorem wm_534 : Cond.methodLink RX0 61 yX0_give ∈ lw_tbl := List.mem_of_getElem? (i := 534) (by decide +kernel)
theorem wm_535 : Cond.instanceMethod yX0_give ∈ lw_tbl := List.mem_of_getElem? (i := 535) (by decide +kernel)
theorem wm_536 : Cond.selects yX0_give.cls yX0_give yX0_give ∈ lw_tbl := List.mem_of_getElem? (i := 536) (by decide +kernel)
theorem wm_537 : Cond.code YX0_give.1 YX0_give.2.1 YX0_give.2.2.1 YX0_give.2.2.2 ∈ lw_tbl := List.mem_of_getElem? (i := 537) (by decide +kernel)
theorem cv_X0_61 : CV RX0 61 YX0_give 2 := ⟨wm_534, wm_535, wm_536, wm_61, wm_537, ⟨by decide +kernel, by decide +kernel, by decide +kernel⟩⟩
theorem wm_540 : Cond.methodLink RX0 77 yJ9_min_7cf53 ∈ lw_tbl := List.mem_of_getElem? (i := 540) (by decide +kernel)
theorem cv_X0_77 : CS RX0 77 YJ9_min_7cf53 2 := ⟨wm_540, wm_481, wm_68, wm_482, ⟨by decide +kernel, by decide +kernel, by decide +kernel⟩⟩
theorem wm_541 : Cond.methodLink RL 48 yX8_make ∈ lw_tbl := List.mem_of_getElem? (i := 541) (by decide +kernel)
theorem wm_542 : Cond.instanceMethod yX8_make ∈ lw_tbl := List.mem_of_getElem? (i := 542) (by decide +kernel)
theorem wm_543 : Cond.selects yX8_make.cls yX8_make yX8_make ∈ lw_tbl := List.mem_of_getElem? (i := 543) (by decide +kernel)
theorem wm_544 : Cond.code YX8_make.1 YX8_make.2.1 YX8_make.2.2.1 YX8_make.2.2.2 ∈ lw_tbl := List.mem_of_getElem? (i := 544) (by decide +kernel)
theorem cv_L_48 : CV RL 48 YX8_make 1 := ⟨wm_541, wm_542, wm_543, wm_58, wm_544, ⟨by decide +kernel, by decide +kernel, by decide +kernel⟩⟩
theorem wm_545 : Cond.methodLink RX8 193 yX0_canMake ∈ lw_tbl := List.mem_of_getElem? (i := 545) (by decide +kernel)
theorem wm_546 : Cond.instanceMethod yX0_canMake ∈ lw_tbl := List.mem_of_getElem? (i := 546) (by decide +kernel)
theorem wm_547 : Cond.selects yX0_canMake.cls yX0_canMake yX0_canMake ∈ lw_tbl := List.mem_of_getElem? (i := 547) (by decide +kernel)
theorem wm_548 : Cond.code YX0_canMake.1 YX0_canMake.2.1 YX0_canMake.2.2.1 YX0_canMake.2.2.2 ∈ lw_tbl := List.mem_of_getElem? (i := 548) (by decide +kernel)
theorem cv_X8_193 : CV RX8 193 YX0_canMake 2 := ⟨wm_545, wm_546, wm_547, wm_61, wm_548, ⟨by decide +kernel, by decide +kernel, by decide +kernel⟩⟩
theorem wm_549 : Cond.methodLink RX0 65 yX2_hasTest ∈ lw_tbl := List.mem_of_getElem? (i := 549) (by decide +kernel)
theorem cv_X0_65 : CV RX0 65 YX2_hasTest 1 := ⟨wm_549, wm_498, wm_499, wm_60, wm_500, ⟨by decide +kernel, by decide +kernel, by decide +kernel⟩⟩
theorem wm_550 : Cond.methodLink RL 52 yX8_seal ∈ lw_tbl := List.mem_of_getElem? (i := 550) (by decide +kernel)
theorem wm_551 : Cond.instanceMethod yX8_seal ∈ lw_tbl := List.mem_of_getElem? (i := 551) (by decide +kernel)
theorem wm_552 : Cond.selects yX8_seal.cls yX8_seal yX8_seal ∈ lw_tbl := List.mem_of_getElem? (i := 552) (by decide +kernel)
theorem wm_553 : Cond.code YX8_seal.1 YX8_seal.2.1 YX8_seal.2.2.1 YX8_seal.2.2.2 ∈ lw_tbl := List.mem_of_getElem? (i := 553) (by decide +kernel)
theorem cv_L_52 : CV RL 52 YX8_seal 1 := ⟨wm_550, wm_551, wm_552, wm_58, wm_553, ⟨by decide +kernel, by decide +kernel, by decide +kernel⟩⟩
theorem wm_554 : Cond.methodLink RL 57 yX8_smash ∈ lw_tbl := List.mem_of_getElem? (i := 554) (by decide +kernel)
theorem wm_555 : Cond.instanceMethod yX8_smash ∈ lw_tbl := List.mem_of_getElem? (i := 555) (by decide +kernel)
theorem wm_556 : Cond.selects yX8_smash.cls yX8_smash yX8_smash ∈ lw_tbl := List.mem_of_getElem? (i := 556) (by decide +kernel)
theorem wm_557 : Cond.code YX8_smash.1 YX8_smash.2.1 YX8_smash.2.2.1 YX8_smash.2.2.2 ∈ lw_tbl := List.mem_of_getElem? (i := 557) (by decide +kernel)
theorem cv_L_57 : CV RL 57 YX8_smash 0 := ⟨wm_554, wm_555, wm_556, wm_58, wm_557, ⟨by decide +kernel, by decide +kernel, by decide +kernel⟩⟩
theorem wm_558 : Cond.methodLink RL 61 yX8_hire ∈ lw_tbl := List.mem_of_getElem? (i := 558) (by decide +kernel)
theorem wm_559 : Cond.instanceMethod yX8_hire ∈ lw_tbl := List.mem_of_getElem? (i := 559) (by decide +kernel)
theorem wm_560 : Cond.selects yX8_hire.cls yX8_hire yX8_hire ∈ lw_tbl := List.mem_of_getElem? (i := 560) (by decide +kernel)
theorem wm_561 : Cond.code YX8_hire.1 YX8_hire.2.1 YX8_hire.2.2.1 YX8_hire.2.2.2 ∈ lw_tbl := List.mem_of_getElem? (i := 561) (by decide +kernel)
theorem cv_L_61 : CV RL 61 YX8_hire 2 := ⟨wm_558, wm_559, wm_560, wm_58, wm_561, ⟨by decide +kernel, by decide +kernel, by decide +kernel⟩⟩
theorem wm_562 : Cond.methodLink RX8 202 yX0_setHired ∈ lw_tbl := List.mem_of_getElem? (i := 562) (by decide +kernel)
theorem wm_563 : Cond.instanceMethod yX0_setHired ∈ lw_tbl := List.mem_of_getElem? (i := 563) (by decide +kernel)
theorem wm_564 : Cond.selects yX0_setHired.cls yX0_setHired yX0_setHired ∈ lw_tbl := List.mem_of_getElem? (i := 564) (by decide +kernel)
theorem wm_565 : Cond.code YX0_setHired.1 YX0_setHired.2.1 YX0_setHired.2.2.1 YX0_setHired.2.2.2 ∈ lw_tbl := List.mem_of_getElem? (i := 565) (by decide +kernel)
theorem cv_X8_202 : CV RX8 202 YX0_setHired 2 := ⟨wm_562, wm_563, wm_564, wm_61, wm_565, ⟨by decide +kernel, by decide +kernel, by decide +kernel⟩⟩
theorem wm_566 : Cond.methodLink RL 66 yX8_buy ∈ lw_tbl := List.mem_of_getElem? (i := 566) (by decide +kernel)
theorem wm_567 : Cond.instanceMethod yX8_buy ∈ lw_tbl := List.mem_of_getElem? (i := 567) (by decide +kernel)
theorem wm_568 : Cond.selects yX8_buy.cls yX8_buy yX8_buy ∈ lw_tbl := List.mem_of_getElem? (i := 568) (by decide +kernel)
theorem wm_569 : Cond.code YX8_buy.1 YX8_buy.2.1 YX8_buy.2.2.1 YX8_buy.2.2.2 ∈ lw_tbl := List.mem_of_getElem? (i := 569) (by decide +kernel)
theorem cv_L_66 : CV RL 66 YX8_buy 3 := ⟨wm_566, wm_567, wm_568, wm_58, wm_569, ⟨by decide +kernel, by decide +kernel, by decide +kernel⟩⟩
theorem wm_570 : Cond.methodLink RX8 206 yX2_hasWays ∈ lw_tbl := List.mem_of_getElem? (i := 570) (by decide +kernel)
theorem cv_X8_206 : CV RX8 206 YX2_hasWays 1 := ⟨wm_570, wm_412, wm_413, wm_60, wm_414, ⟨by decide +kernel, by decide +kernel, by decide +kernel⟩⟩
theorem wm_571 : Cond.methodLink RX8 209 yX0_give ∈ lw_tbl := List.mem_of_getElem? (i := 571) (by decide +kernel)
theorem cv_X8_209 : CV RX8 209 YX0_give 2 := ⟨wm_571, wm_535, wm_536, wm_61, wm_537, ⟨by decide +kernel, by decide +kernel, by decide +kernel⟩⟩
theorem wm_572 : Cond.methodLink RL 71 yX8_drift ∈ lw_tbl := List.mem_of_getElem? (i := 572) (by decide +kernel)
theorem wm_573 : Cond.instanceMethod yX8_drift ∈ lw_tbl := List.mem_of_getElem? (i := 573) (by decide +kernel)
theorem wm_574 : Cond.selects yX8_drift.cls yX8_drift yX8_drift ∈ lw_tbl := List.mem_of_getElem? (i := 574) (by decide +kernel)
theorem wm_575 : Cond.code YX8_drift.1 YX8_drift.2.1 YX8_drift.2.2.1 YX8_drift.2.2.2 ∈ lw_tbl := List.mem_of_getElem? (i := 575) (by decide +kernel)
theorem cv_L_71 : CV RL 71 YX8_drift 1 := ⟨wm_572, wm_573, wm_574, wm_58, wm_575, ⟨by decide +kernel, by decide +kernel, by decide +kernel⟩⟩
theorem wm_576 : Cond.methodLink RX8 213 yX8_doByDraw ∈ lw_tbl := List.mem_of_getElem? (i := 576) (by decide +kernel)
theorem wm_578 : Cond.instanceMethod yX8_doByDraw ∈ lw_tbl := List.mem_of_getElem? (i := 578) (by decide +kernel)
theorem wm_16 : Cond.selects yX8_doByDraw.cls yX8_doByDraw yX8_doByDraw ∈ lw_tbl := List.mem_of_getElem? (i := 16) (by decide +kernel)
theorem wm_579 : Cond.code YX8_doByDraw.1 YX8_doByDraw.2.1 YX8_doByDraw.2.2.1 YX8_doByDraw.2.2.2 ∈ lw_tbl := List.mem_of_getElem? (i := 579) (by decide +kernel)
theorem cv_X8_213 : CV RX8 213 YX8_doByDraw 0 := ⟨wm_576, wm_578, wm_16, wm_58, wm_579, ⟨by decide +kernel, by decide +kernel, by decide +kernel⟩⟩
theorem wm_580 : Cond.methodLink RX8 295 yX3_draw ∈ lw_tbl := List.mem_of_getElem? (i := 580) (by decide +kernel)
theorem wm_581 : Cond.instanceMethod yX3_draw ∈ lw_tbl := List.mem_of_getElem? (i := 581) (by decide +kernel)
theorem wm_582 : Cond.selects yX3_draw.cls yX3_draw yX3_draw ∈ lw_tbl := List.mem_of_getElem? (i := 582) (by decide +kernel)
theorem wm_65 : Cond.initialized RX3 ∈ lw_tbl := List.mem_of_getElem? (i := 65) (by decide +kernel)
theorem wm_583 : Cond.code YX3_draw.1 YX3_draw.2.1 YX3_draw.2.2.1 YX3_draw.2.2.2 ∈ lw_tbl := List.mem_of_getElem? (i := 583) (by decide +kernel)
theorem cv_X8_295 : CV RX8 295 YX3_draw 1 := ⟨wm_580, wm_581, wm_582, wm_65, wm_583, ⟨by decide +kernel, by decide +kernel, by decide +kernel⟩⟩
theorem wm_588 : Cond.methodLink RL 75 yX8_undo ∈ lw_tbl := List.mem_of_getElem? (i := 588) (by decide +kernel)
theorem wm_589 : Cond.instanceMethod yX8_undo ∈ lw_tbl := List.mem_of_getElem? (i := 589) (by decide +kernel)
theorem wm_590 : Cond.selects yX8_undo.cls yX8_undo yX8_undo ∈ lw_tbl := List.mem_of_getElem? (i := 590) (by decide +kernel)
theorem wm_591 : Cond.code YX8_undo.1 YX8_undo.2.1 YX8_undo.2.2.1 YX8_undo.2.2.2 ∈ lw_tbl := List.mem_of_getElem? (i := 591) (by decide +kernel)
theorem cv_L_75 : CV RL 75 YX8_undo 0 := ⟨wm_588, wm_589, wm_590, wm_58, wm_591, ⟨by decide +kernel, by decide +kernel, by decide +kernel⟩⟩
theorem wm_592 : Cond.methodLink RX8 216 yX5_recall ∈ lw_tbl := List.mem_of_getElem? (i := 592) (by decide +kernel)
theorem wm_593 : Cond.instanceMethod yX5_recall ∈ lw_tbl := List.mem_of_getElem? (i := 593) (by decide +kernel)
theorem wm_594 : Cond.selects yX5_recall.cls yX5_recall yX5_recall ∈ lw_tbl := List.mem_of_getElem? (i := 594) (by decide +kernel)
theorem wm_595 : Cond.code YX5_recall.1 YX5_recall.2.1 YX5_recall.2.2.1 YX5_recall.2.2.2 ∈ lw_tbl := List.mem_of_getElem? (i := 595) (by decide +kernel)
theorem cv_X8_216 : CV RX8 216 YX5_recall 1 := ⟨wm_592, wm_593, wm_594, wm_62, wm_595, ⟨by decide +kernel, by decide +kernel, by decide +kernel⟩⟩
theorem wm_596 : Cond.methodLink RL 79 yX8_belief ∈ lw_tbl := List.mem_of_getElem? (i := 596) (by decide +kernel)
theorem wm_597 : Cond.instanceMethod yX8_belief ∈ lw_tbl := List.mem_of_getElem? (i := 597) (by decide +kernel)
theorem wm_598 : Cond.selects yX8_belief.cls yX8_belief yX8_belief ∈ lw_tbl := List.mem_of_getElem? (i := 598) (by decide +kernel)
theorem wm_599 : Cond.code YX8_belief.1 YX8_belief.2.1 YX8_belief.2.2.1 YX8_belief.2.2.2 ∈ lw_tbl := List.mem_of_getElem? (i := 599) (by decide +kernel)
theorem cv_L_79 : CV RL 79 YX8_belief 1 := ⟨wm_596, wm_597, wm_598, wm_58, wm_599, ⟨by decide +kernel, by decide +kernel, by decide +kernel⟩⟩
theorem wm_600 : Cond.methodLink RX8 219 yX2_beliefIn ∈ lw_tbl := List.mem_of_getElem? (i := 600) (by decide +kernel)
theorem wm_601 : Cond.instanceMethod yX2_beliefIn ∈ lw_tbl := List.mem_of_getElem? (i := 601) (by decide +kernel)
theorem wm_602 : Cond.selects yX2_beliefIn.cls yX2_beliefIn yX2_beliefIn ∈ lw_tbl := List.mem_of_getElem? (i := 602) (by decide +kernel)
theorem wm_603 : Cond.code YX2_beliefIn.1 YX2_beliefIn.2.1 YX2_beliefIn.2.2.1 YX2_beliefIn.2.2.2 ∈ lw_tbl := List.mem_of_getElem? (i := 603) (by decide +kernel)
theorem cv_X8_219 : CV RX8 219 YX2_beliefIn 2 := ⟨wm_600, wm_601, wm_602, wm_60, wm_603, ⟨by decide +kernel, by decide +kernel, by decide +kernel⟩⟩
theorem wm_604 : Cond.methodLink RX2 58 yX2_likelyOf ∈ lw_tbl := List.mem_of_getElem? (i := 604) (by decide +kernel)
theorem wm_605 : Cond.instanceMethod yX2_likelyOf ∈ lw_tbl := List.mem_of_getElem? (i := 605) (by decide +kernel)
theorem wm_606 : Cond.selects yX2_likelyOf.cls yX2_likelyOf yX2_likelyOf ∈ lw_tbl := List.mem_of_getElem? (i := 606) (by decide +kernel)
theorem wm_607 : Cond.code YX2_likelyOf.1 YX2_likelyOf.2.1 YX2_likelyOf.2.2.1 YX2_likelyOf.2.2.2 ∈ lw_tbl := List.mem_of_getElem? (i := 607) (by decide +kernel)
theorem cv_X2_58 : CV RX2 58 YX2_likelyOf 1 := ⟨wm_604, wm_605, wm_606, wm_60, wm_607, ⟨by decide +kernel, by decide +kernel, by decide +kernel⟩⟩
theorem wm_608 : Cond.methodLink RX2 62 yX2_hasWay ∈ lw_tbl := List.mem_of_getElem? (i := 608) (by decide +kernel)
theorem cv_X2_62 : CV RX2 62 YX2_hasWay 1 := ⟨wm_608, wm_488, wm_489, wm_60, wm_490, ⟨by decide +kernel, by decide +kernel, by decide +kernel⟩⟩
theorem wm_610 : Cond.methodLink RL 83 yX8_liars ∈ lw_tbl := List.mem_of_getElem? (i := 610) (by decide +kernel)
theorem wm_611 : Cond.instanceMethod yX8_liars ∈ lw_tbl := List.mem_of_getElem? (i := 611) (by decide +kernel)
theorem wm_612 : Cond.selects yX8_liars.cls yX8_liars yX8_liars ∈ lw_tbl := List.mem_of_getElem? (i := 612) (by decide +kernel)
theorem wm_613 : Cond.code YX8_liars.1 YX8_liars.2.1 YX8_liars.2.2.1 YX8_liars.2.2.2 ∈ lw_tbl := List.mem_of_getElem? (i := 613) (by decide +kernel)
theorem cv_L_83 : CV RL 83 YX8_liars 1 := ⟨wm_610, wm_611, wm_612, wm_58, wm_613, ⟨by decide +kernel, by decide +kernel, by decide +kernel⟩⟩
theorem wm_614 : Cond.methodLink RX8 223 yX8_liarsBy ∈ lw_tbl := List.mem_of_getElem? (i := 614) (by decide +kernel)
theorem wm_616 : Cond.instanceMethod yX8_liarsBy ∈ lw_tbl := List.mem_of_getElem? (i := 616) (by decide +kernel)
theorem wm_17 : Cond.selects yX8_liarsBy.cls yX8_liarsBy yX8_liarsBy ∈ lw_tbl := List.mem_of_getElem? (i := 17) (by decide +kernel)
theorem wm_617 : Cond.code YX8_liarsBy.1 YX8_liarsBy.2.1 YX8_liarsBy.2.2.1 YX8_liarsBy.2.2.2 ∈ lw_tbl := List.mem_of_getElem? (i := 617) (by decide +kernel)
theorem cv_X8_223 : CV RX8 223 YX8_liarsBy 1 := ⟨wm_614, wm_616, wm_17, wm_58, wm_617, ⟨by decide +kernel, by decide +kernel, by decide +kernel⟩⟩
theorem wm_618 : Cond.methodLink RL 87 yX8_leastLiars ∈ lw_tbl := List.mem_of_getElem? (i := 618) (by decide +kernel)
theorem wm_619 : Cond.instanceMethod yX8_leastLiars ∈ lw_tbl := List.mem_of_getElem? (i := 619) (by decide +kernel)
theorem wm_620 : Cond.selects yX8_leastLiars.cls yX8_leastLiars yX8_leastLiars ∈ lw_tbl := List.mem_of_getElem? (i := 620) (by decide +kernel)
theorem wm_621 : Cond.code YX8_leastLiars.1 YX8_leastLiars.2.1 YX8_leastLiars.2.2.1 YX8_leastLiars.2.2.2 ∈ lw_tbl := List.mem_of_getElem? (i := 621) (by decide +kernel)
theorem cv_L_87 : CV RL 87 YX8_leastLiars 1 := ⟨wm_618, wm_619, wm_620, wm_58, wm_621, ⟨by decide +kernel, by decide +kernel, by decide +kernel⟩⟩
theorem wm_622 : Cond.methodLink RX8 226 yX8_wayOfFewestLiars ∈ lw_tbl := List.mem_of_getElem? (i := 622) (by decide +kernel)
theorem wm_624 : Cond.instanceMethod yX8_wayOfFewestLiars ∈ lw_tbl := List.mem_of_getElem? (i := 624) (by decide +kernel)
theorem wm_18 : Cond.selects yX8_wayOfFewestLiars.cls yX8_wayOfFewestLiars yX8_wayOfFewestLiars ∈ lw_tbl := List.mem_of_getElem? (i := 18) (by decide +kernel)
theorem wm_625 : Cond.code YX8_wayOfFewestLiars.1 YX8_wayOfFewestLiars.2.1 YX8_wayOfFewestLiars.2.2.1 YX8_wayOfFewestLiars.2.2.2 ∈ lw_tbl := List.mem_of_getElem? (i := 625) (by decide +kernel)
theorem cv_X8_226 : CV RX8 226 YX8_wayOfFewestLiars 0 := ⟨wm_622, wm_624, wm_18, wm_58, wm_625, ⟨by decide +kernel, by decide +kernel, by decide +kernel⟩⟩
theorem wm_626 : Cond.methodLink RX8 229 yJ6_bitCount_0f7a4 ∈ lw_tbl := List.mem_of_getElem? (i := 626) (by decide +kernel)
theorem wm_627 : Cond.static yJ6_bitCount_0f7a4 ∈ lw_tbl := List.mem_of_getElem? (i := 627) (by decide +kernel)
theorem wm_69 : Cond.initialized RJ6 ∈ lw_tbl := List.mem_of_getElem? (i := 69) (by decide +kernel)
theorem wm_628 : Cond.code YJ6_bitCount_0f7a4.1 YJ6_bitCount_0f7a4.2.1 YJ6_bitCount_0f7a4.2.2.1 YJ6_bitCount_0f7a4.2.2.2 ∈ lw_tbl := List.mem_of_getElem? (i := 628) (by decide +kernel)
theorem cv_X8_229 : CS RX8 229 YJ6_bitCount_0f7a4 1 := ⟨wm_626, wm_627, wm_69, wm_628, ⟨by decide +kernel, by decide +kernel, by decide +kernel⟩⟩
theorem wm_632 : Cond.methodLink RL 91 yX8_ruleOut ∈ lw_tbl := List.mem_of_getElem? (i := 632) (by decide +kernel)
theorem wm_633 : Cond.instanceMethod yX8_ruleOut ∈ lw_tbl := List.mem_of_getElem? (i := 633) (by decide +kernel)
theorem wm_634 : Cond.selects yX8_ruleOut.cls yX8_ruleOut yX8_ruleOut ∈ lw_tbl := List.mem_of_getElem? (i := 634) (by decide +kernel)
theorem wm_635 : Cond.code YX8_ruleOut.1 YX8_ruleOut.2.1 YX8_ruleOut.2.2.1 YX8_ruleOut.2.2.2 ∈ lw_tbl := List.mem_of_getElem? (i := 635) (by decide +kernel)
theorem cv_L_91 : CV RL 91 YX8_ruleOut 3 := ⟨wm_632, wm_633, wm_634, wm_58, wm_635, ⟨by decide +kernel, by decide +kernel, by decide +kernel⟩⟩
theorem wm_636 : Cond.methodLink RX8 234 yX8_cheapestTests ∈ lw_tbl := List.mem_of_getElem? (i := 636) (by decide +kernel)
theorem wm_638 : Cond.instanceMethod yX8_cheapestTests ∈ lw_tbl := List.mem_of_getElem? (i := 638) (by decide +kernel)
theorem wm_19 : Cond.selects yX8_cheapestTests.cls yX8_cheapestTests yX8_cheapestTests ∈ lw_tbl := List.mem_of_getElem? (i := 19) (by decide +kernel)
theorem wm_639 : Cond.code YX8_cheapestTests.1 YX8_cheapestTests.2.1 YX8_cheapestTests.2.2.1 YX8_cheapestTests.2.2.2 ∈ lw_tbl := List.mem_of_getElem? (i := 639) (by decide +kernel)
theorem cv_X8_234 : CV RX8 234 YX8_cheapestTests 2 := ⟨wm_636, wm_638, wm_19, wm_58, wm_639, ⟨by decide +kernel, by decide +kernel, by decide +kernel⟩⟩
theorem wm_640 : Cond.methodLink RX8 237 yX8_costYet ∈ lw_tbl := List.mem_of_getElem? (i := 640) (by decide +kernel)
theorem wm_642 : Cond.instanceMethod yX8_costYet ∈ lw_tbl := List.mem_of_getElem? (i := 642) (by decide +kernel)
theorem wm_20 : Cond.selects yX8_costYet.cls yX8_costYet yX8_costYet ∈ lw_tbl := List.mem_of_getElem? (i := 20) (by decide +kernel)
theorem wm_643 : Cond.code YX8_costYet.1 YX8_costYet.2.1 YX8_costYet.2.2.1 YX8_costYet.2.2.2 ∈ lw_tbl := List.mem_of_getElem? (i := 643) (by decide +kernel)
theorem cv_X8_237 : CV RX8 237 YX8_costYet 1 := ⟨wm_640, wm_642, wm_20, wm_58, wm_643, ⟨by decide +kernel, by decide +kernel, by decide +kernel⟩⟩
theorem wm_644 : Cond.methodLink RL 95 yX8_next ∈ lw_tbl := List.mem_of_getElem? (i := 644) (by decide +kernel)
theorem wm_645 : Cond.instanceMethod yX8_next ∈ lw_tbl := List.mem_of_getElem? (i := 645) (by decide +kernel)
theorem wm_646 : Cond.selects yX8_next.cls yX8_next yX8_next ∈ lw_tbl := List.mem_of_getElem? (i := 646) (by decide +kernel)
theorem wm_647 : Cond.code YX8_next.1 YX8_next.2.1 YX8_next.2.2.1 YX8_next.2.2.2 ∈ lw_tbl := List.mem_of_getElem? (i := 647) (by decide +kernel)
theorem cv_L_95 : CV RL 95 YX8_next 0 := ⟨wm_644, wm_645, wm_646, wm_58, wm_647, ⟨by decide +kernel, by decide +kernel, by decide +kernel⟩⟩
theorem wm_648 : Cond.methodLink RX8 240 yX2_likelyOf ∈ lw_tbl := List.mem_of_getElem? (i := 648) (by decide +kernel)
theorem cv_X8_240 : CV RX8 240 YX2_likelyOf 1 := ⟨wm_648, wm_605, wm_606, wm_60, wm_607, ⟨by decide +kernel, by decide +kernel, by decide +kernel⟩⟩
theorem wm_649 : Cond.methodLink RL 99 yX8_offer ∈ lw_tbl := List.mem_of_getElem? (i := 649) (by decide +kernel)
theorem wm_650 : Cond.instanceMethod yX8_offer ∈ lw_tbl := List.mem_of_getElem? (i := 650) (by decide +kernel)
theorem wm_651 : Cond.selects yX8_offer.cls yX8_offer yX8_offer ∈ lw_tbl := List.mem_of_getElem? (i := 651) (by decide +kernel)
theorem wm_652 : Cond.code YX8_offer.1 YX8_offer.2.1 YX8_offer.2.2.1 YX8_offer.2.2.2 ∈ lw_tbl := List.mem_of_getElem? (i := 652) (by decide +kernel)
theorem cv_L_99 : CV RL 99 YX8_offer 2 := ⟨wm_649, wm_650, wm_651, wm_58, wm_652, ⟨by decide +kernel, by decide +kernel, by decide +kernel⟩⟩
theorem wm_653 : Cond.methodLink RX8 243 yX8_offerFor ∈ lw_tbl := List.mem_of_getElem? (i := 653) (by decide +kernel)
theorem wm_655 : Cond.instanceMethod yX8_offerFor ∈ lw_tbl := List.mem_of_getElem? (i := 655) (by decide +kernel)
theorem wm_21 : Cond.selects yX8_offerFor.cls yX8_offerFor yX8_offerFor ∈ lw_tbl := List.mem_of_getElem? (i := 21) (by decide +kernel)
theorem wm_656 : Cond.code YX8_offerFor.1 YX8_offerFor.2.1 YX8_offerFor.2.2.1 YX8_offerFor.2.2.2 ∈ lw_tbl := List.mem_of_getElem? (i := 656) (by decide +kernel)
theorem cv_X8_243 : CV RX8 243 YX8_offerFor 3 := ⟨wm_653, wm_655, wm_21, wm_58, wm_656, ⟨by decide +kernel, by decide +kernel, by decide +kernel⟩⟩
theorem wm_658 : Cond.methodLink RX8 300 yJ9_max_7cf53 ∈ lw_tbl := List.mem_of_getElem? (i := 658) (by decide +kernel)
theorem wm_659 : Cond.static yJ9_max_7cf53 ∈ lw_tbl := List.mem_of_getElem? (i := 659) (by decide +kernel)
theorem wm_660 : Cond.code YJ9_max_7cf53.1 YJ9_max_7cf53.2.1 YJ9_max_7cf53.2.2.1 YJ9_max_7cf53.2.2.2 ∈ lw_tbl := List.mem_of_getElem? (i := 660) (by decide +kernel)
theorem cv_X8_300 : CS RX8 300 YJ9_max_7cf53 2 := ⟨wm_658, wm_659, wm_68, wm_660, ⟨by decide +kernel, by decide +kernel, by decide +kernel⟩⟩
theorem wm_661 : Cond.methodLink RL 103 yX8_both ∈ lw_tbl := List.mem_of_getElem? (i := 661) (by decide +kernel)
theorem wm_662 : Cond.instanceMethod yX8_both ∈ lw_tbl := List.mem_of_getElem? (i := 662) (by decide +kernel)
theorem wm_663 : Cond.selects yX8_both.cls yX8_both yX8_both ∈ lw_tbl := List.mem_of_getElem? (i := 663) (by decide +kernel)
theorem wm_664 : Cond.code YX8_both.1 YX8_both.2.1 YX8_both.2.2.1 YX8_both.2.2.2 ∈ lw_tbl := List.mem_of_getElem? (i := 664) (by decide +kernel)
theorem cv_L_103 : CV RL 103 YX8_both 3 := ⟨wm_661, wm_662, wm_663, wm_58, wm_664, ⟨by decide +kernel, by decide +kernel, by decide +kernel⟩⟩
theorem wm_665 : Cond.methodLink RL 107 yX8_worth ∈ lw_tbl := List.mem_of_getElem? (i := 665) (by decide +kernel)
theorem wm_666 : Cond.instanceMethod yX8_worth ∈ lw_tbl := List.mem_of_getElem? (i := 666) (by decide +kernel)
theorem wm_667 : Cond.selects yX8_worth.cls yX8_worth yX8_worth ∈ lw_tbl := List.mem_of_getElem? (i := 667) (by decide +kernel)
theorem wm_668 : Cond.code YX8_worth.1 YX8_worth.2.1 YX8_worth.2.2.1 YX8_worth.2.2.2 ∈ lw_tbl := List.mem_of_getElem? (i := 668) (by decide +kernel)
theorem cv_L_107 : CV RL 107 YX8_worth 2 := ⟨wm_665, wm_666, wm_667, wm_58, wm_668, ⟨by decide +kernel, by decide +kernel, by decide +kernel⟩⟩
theorem wm_670 : Cond.methodLink RL 111 yX8_secret ∈ lw_tbl := List.mem_of_getElem? (i := 670) (by decide +kernel)
theorem wm_671 : Cond.instanceMethod yX8_secret ∈ lw_tbl := List.mem_of_getElem? (i := 671) (by decide +kernel)
theorem wm_672 : Cond.selects yX8_secret.cls yX8_secret yX8_secret ∈ lw_tbl := List.mem_of_getElem? (i := 672) (by decide +kernel)
theorem wm_673 : Cond.code YX8_secret.1 YX8_secret.2.1 YX8_secret.2.2.1 YX8_secret.2.2.2 ∈ lw_tbl := List.mem_of_getElem? (i := 673) (by decide +kernel)
theorem cv_L_111 : CV RL 111 YX8_secret 2 := ⟨wm_670, wm_671, wm_672, wm_58, wm_673, ⟨by decide +kernel, by decide +kernel, by decide +kernel⟩⟩
theorem wm_675 : Cond.methodLink RL 115 yX8_hear ∈ lw_tbl := List.mem_of_getElem? (i := 675) (by decide +kernel)
theorem wm_676 : Cond.instanceMethod yX8_hear ∈ lw_tbl := List.mem_of_getElem? (i := 676) (by decide +kernel)
theorem wm_677 : Cond.selects yX8_hear.cls yX8_hear yX8_hear ∈ lw_tbl := List.mem_of_getElem? (i := 677) (by decide +kernel)
theorem wm_678 : Cond.code YX8_hear.1 YX8_hear.2.1 YX8_hear.2.2.1 YX8_hear.2.2.2 ∈ lw_tbl := List.mem_of_getElem? (i := 678) (by decide +kernel)
theorem cv_L_115 : CV RL 115 YX8_hear 2 := ⟨wm_675, wm_676, wm_677, wm_58, wm_678, ⟨by decide +kernel, by decide +kernel, by decide +kernel⟩⟩
theorem wm_679 : Cond.methodLink RX8 249 yX4_add ∈ lw_tbl := List.mem_of_getElem? (i := 679) (by decide +kernel)
theorem wm_680 : Cond.instanceMethod yX4_add ∈ lw_tbl := List.mem_of_getElem? (i := 680) (by decide +kernel)
theorem wm_681 : Cond.selects yX4_add.cls yX4_add yX4_add ∈ lw_tbl := List.mem_of_getElem? (i := 681) (by decide +kernel)
theorem wm_63 : Cond.initialized RX4 ∈ lw_tbl := List.mem_of_getElem? (i := 63) (by decide +kernel)
theorem wm_682 : Cond.code YX4_add.1 YX4_add.2.1 YX4_add.2.2.1 YX4_add.2.2.2 ∈ lw_tbl := List.mem_of_getElem? (i := 682) (by decide +kernel)
theorem cv_X8_249 : CV RX8 249 YX4_add 2 := ⟨wm_679, wm_680, wm_681, wm_63, wm_682, ⟨by decide +kernel, by decide +kernel, by decide +kernel⟩⟩
theorem wm_683 : Cond.methodLink RL 119 yX8_paid ∈ lw_tbl := List.mem_of_getElem? (i := 683) (by decide +kernel)
theorem wm_684 : Cond.instanceMethod yX8_paid ∈ lw_tbl := List.mem_of_getElem? (i := 684) (by decide +kernel)
theorem wm_685 : Cond.selects yX8_paid.cls yX8_paid yX8_paid ∈ lw_tbl := List.mem_of_getElem? (i := 685) (by decide +kernel)
theorem wm_686 : Cond.code YX8_paid.1 YX8_paid.2.1 YX8_paid.2.2.1 YX8_paid.2.2.2 ∈ lw_tbl := List.mem_of_getElem? (i := 686) (by decide +kernel)
theorem cv_L_119 : CV RL 119 YX8_paid 0 := ⟨wm_683, wm_684, wm_685, wm_58, wm_686, ⟨by decide +kernel, by decide +kernel, by decide +kernel⟩⟩
theorem wm_687 : Cond.methodLink RX8 252 yX4_fitting ∈ lw_tbl := List.mem_of_getElem? (i := 687) (by decide +kernel)
theorem wm_688 : Cond.instanceMethod yX4_fitting ∈ lw_tbl := List.mem_of_getElem? (i := 688) (by decide +kernel)
theorem wm_689 : Cond.selects yX4_fitting.cls yX4_fitting yX4_fitting ∈ lw_tbl := List.mem_of_getElem? (i := 689) (by decide +kernel)
theorem wm_690 : Cond.code YX4_fitting.1 YX4_fitting.2.1 YX4_fitting.2.2.1 YX4_fitting.2.2.2 ∈ lw_tbl := List.mem_of_getElem? (i := 690) (by decide +kernel)
theorem cv_X8_252 : CV RX8 252 YX4_fitting 1 := ⟨wm_687, wm_688, wm_689, wm_63, wm_690, ⟨by decide +kernel, by decide +kernel, by decide +kernel⟩⟩
theorem wm_691 : Cond.methodLink RX4 23 yX4_fits ∈ lw_tbl := List.mem_of_getElem? (i := 691) (by decide +kernel)
theorem wm_693 : Cond.instanceMethod yX4_fits ∈ lw_tbl := List.mem_of_getElem? (i := 693) (by decide +kernel)
theorem wm_22 : Cond.selects yX4_fits.cls yX4_fits yX4_fits ∈ lw_tbl := List.mem_of_getElem? (i := 22) (by decide +kernel)
theorem wm_694 : Cond.code YX4_fits.1 YX4_fits.2.1 YX4_fits.2.2.1 YX4_fits.2.2.2 ∈ lw_tbl := List.mem_of_getElem? (i := 694) (by decide +kernel)
theorem cv_X4_23 : CV RX4 23 YX4_fits 2 := ⟨wm_691, wm_693, wm_22, wm_63, wm_694, ⟨by decide +kernel, by decide +kernel, by decide +kernel⟩⟩
theorem wm_695 : Cond.methodLink RX4 27 yX4_gotMoney ∈ lw_tbl := List.mem_of_getElem? (i := 695) (by decide +kernel)
theorem wm_696 : Cond.static yX4_gotMoney ∈ lw_tbl := List.mem_of_getElem? (i := 696) (by decide +kernel)
theorem wm_697 : Cond.code YX4_gotMoney.1 YX4_gotMoney.2.1 YX4_gotMoney.2.2.1 YX4_gotMoney.2.2.2 ∈ lw_tbl := List.mem_of_getElem? (i := 697) (by decide +kernel)
theorem cv_X4_27 : CS RX4 27 YX4_gotMoney 3 := ⟨wm_695, wm_696, wm_63, wm_697, ⟨by decide +kernel, by decide +kernel, by decide +kernel⟩⟩
theorem wm_698 : Cond.methodLink RL 123 yX8_ask ∈ lw_tbl := List.mem_of_getElem? (i := 698) (by decide +kernel)
theorem wm_699 : Cond.instanceMethod yX8_ask ∈ lw_tbl := List.mem_of_getElem? (i := 699) (by decide +kernel)
theorem wm_700 : Cond.selects yX8_ask.cls yX8_ask yX8_ask ∈ lw_tbl := List.mem_of_getElem? (i := 700) (by decide +kernel)
theorem wm_701 : Cond.code YX8_ask.1 YX8_ask.2.1 YX8_ask.2.2.1 YX8_ask.2.2.2 ∈ lw_tbl := List.mem_of_getElem? (i := 701) (by decide +kernel)
theorem cv_L_123 : CV RL 123 YX8_ask 0 := ⟨wm_698, wm_699, wm_700, wm_58, wm_701, ⟨by decide +kernel, by decide +kernel, by decide +kernel⟩⟩
theorem wm_702 : Cond.methodLink RX8 255 yX4_bestQuestion ∈ lw_tbl := List.mem_of_getElem? (i := 702) (by decide +kernel)
theorem wm_703 : Cond.instanceMethod yX4_bestQuestion ∈ lw_tbl := List.mem_of_getElem? (i := 703) (by decide +kernel)
theorem wm_704 : Cond.selects yX4_bestQuestion.cls yX4_bestQuestion yX4_bestQuestion ∈ lw_tbl := List.mem_of_getElem? (i := 704) (by decide +kernel)
theorem wm_705 : Cond.code YX4_bestQuestion.1 YX4_bestQuestion.2.1 YX4_bestQuestion.2.2.1 YX4_bestQuestion.2.2.2 ∈ lw_tbl := List.mem_of_getElem? (i := 705) (by decide +kernel)
theorem cv_X8_255 : CV RX8 255 YX4_bestQuestion 1 := ⟨wm_702, wm_703, wm_704, wm_63, wm_705, ⟨by decide +kernel, by decide +kernel, by decide +kernel⟩⟩
theorem wm_706 : Cond.methodLink RX4 31 yX4_fitting ∈ lw_tbl := List.mem_of_getElem? (i := 706) (by decide +kernel)
theorem cv_X4_31 : CV RX4 31 YX4_fitting 1 := ⟨wm_706, wm_688, wm_689, wm_63, wm_690, ⟨by decide +kernel, by decide +kernel, by decide +kernel⟩⟩
theorem wm_707 : Cond.methodLink RX4 35 yJ6_bitCount_0f7a4 ∈ lw_tbl := List.mem_of_getElem? (i := 707) (by decide +kernel)
theorem cv_X4_35 : CS RX4 35 YJ6_bitCount_0f7a4 1 := ⟨wm_707, wm_627, wm_69, wm_628, ⟨by decide +kernel, by decide +kernel, by decide +kernel⟩⟩
theorem wm_708 : Cond.methodLink RX4 40 yX4_greaterPart ∈ lw_tbl := List.mem_of_getElem? (i := 708) (by decide +kernel)
theorem wm_709 : Cond.static yX4_greaterPart ∈ lw_tbl := List.mem_of_getElem? (i := 709) (by decide +kernel)
theorem wm_710 : Cond.code YX4_greaterPart.1 YX4_greaterPart.2.1 YX4_greaterPart.2.2.1 YX4_greaterPart.2.2.2 ∈ lw_tbl := List.mem_of_getElem? (i := 710) (by decide +kernel)
theorem cv_X4_40 : CS RX4 40 YX4_greaterPart 3 := ⟨wm_708, wm_709, wm_63, wm_710, ⟨by decide +kernel, by decide +kernel, by decide +kernel⟩⟩
theorem wm_712 : Cond.methodLink RX4 47 yJ9_max_7cf53 ∈ lw_tbl := List.mem_of_getElem? (i := 712) (by decide +kernel)
theorem cv_X4_47 : CS RX4 47 YJ9_max_7cf53 2 := ⟨wm_712, wm_659, wm_68, wm_660, ⟨by decide +kernel, by decide +kernel, by decide +kernel⟩⟩
theorem wm_713 : Cond.methodLink RL 127 yX8_write ∈ lw_tbl := List.mem_of_getElem? (i := 713) (by decide +kernel)
theorem wm_714 : Cond.instanceMethod yX8_write ∈ lw_tbl := List.mem_of_getElem? (i := 714) (by decide +kernel)
theorem wm_715 : Cond.selects yX8_write.cls yX8_write yX8_write ∈ lw_tbl := List.mem_of_getElem? (i := 715) (by decide +kernel)
theorem wm_716 : Cond.code YX8_write.1 YX8_write.2.1 YX8_write.2.2.1 YX8_write.2.2.2 ∈ lw_tbl := List.mem_of_getElem? (i := 716) (by decide +kernel)
theorem cv_L_127 : CV RL 127 YX8_write 1 := ⟨wm_713, wm_714, wm_715, wm_58, wm_716, ⟨by decide +kernel, by decide +kernel, by decide +kernel⟩⟩
theorem wm_717 : Cond.methodLink RX8 258 yX1_add ∈ lw_tbl := List.mem_of_getElem? (i := 717) (by decide +kernel)
theorem wm_718 : Cond.instanceMethod yX1_add ∈ lw_tbl := List.mem_of_getElem? (i := 718) (by decide +kernel)
theorem wm_719 : Cond.selects yX1_add.cls yX1_add yX1_add ∈ lw_tbl := List.mem_of_getElem? (i := 719) (by decide +kernel)
theorem wm_64 : Cond.initialized RX1 ∈ lw_tbl := List.mem_of_getElem? (i := 64) (by decide +kernel)
theorem wm_720 : Cond.code YX1_add.1 YX1_add.2.1 YX1_add.2.2.1 YX1_add.2.2.2 ∈ lw_tbl := List.mem_of_getElem? (i := 720) (by decide +kernel)
theorem cv_X8_258 : CV RX8 258 YX1_add 1 := ⟨wm_717, wm_718, wm_719, wm_64, wm_720, ⟨by decide +kernel, by decide +kernel, by decide +kernel⟩⟩
theorem wm_721 : Cond.methodLink RL 131 yX8_tear ∈ lw_tbl := List.mem_of_getElem? (i := 721) (by decide +kernel)
theorem wm_722 : Cond.instanceMethod yX8_tear ∈ lw_tbl := List.mem_of_getElem? (i := 722) (by decide +kernel)
theorem wm_723 : Cond.selects yX8_tear.cls yX8_tear yX8_tear ∈ lw_tbl := List.mem_of_getElem? (i := 723) (by decide +kernel)
theorem wm_724 : Cond.code YX8_tear.1 YX8_tear.2.1 YX8_tear.2.2.1 YX8_tear.2.2.2 ∈ lw_tbl := List.mem_of_getElem? (i := 724) (by decide +kernel)
theorem cv_L_131 : CV RL 131 YX8_tear 0 := ⟨wm_721, wm_722, wm_723, wm_58, wm_724, ⟨by decide +kernel, by decide +kernel, by decide +kernel⟩⟩
theorem wm_725 : Cond.methodLink RL 135 yX8_judge ∈ lw_tbl := List.mem_of_getElem? (i := 725) (by decide +kernel)
theorem wm_726 : Cond.instanceMethod yX8_judge ∈ lw_tbl := List.mem_of_getElem? (i := 726) (by decide +kernel)
theorem wm_727 : Cond.selects yX8_judge.cls yX8_judge yX8_judge ∈ lw_tbl := List.mem_of_getElem? (i := 727) (by decide +kernel)
theorem wm_728 : Cond.code YX8_judge.1 YX8_judge.2.1 YX8_judge.2.2.1 YX8_judge.2.2.2 ∈ lw_tbl := List.mem_of_getElem? (i := 728) (by decide +kernel)
theorem cv_L_135 : CV RL 135 YX8_judge 0 := ⟨wm_725, wm_726, wm_727, wm_58, wm_728, ⟨by decide +kernel, by decide +kernel, by decide +kernel⟩⟩
theorem wm_729 : Cond.methodLink RX8 259 yX1_firstOtherThan ∈ lw_tbl := List.mem_of_getElem? (i := 729) (by decide +kernel)
theorem wm_730 : Cond.instanceMethod yX1_firstOtherThan ∈ lw_tbl := List.mem_of_getElem? (i := 730) (by decide +kernel)
theorem wm_731 : Cond.selects yX1_firstOtherThan.cls yX1_firstOtherThan yX1_firstOtherThan ∈ lw_tbl := List.mem_of_getElem? (i := 731) (by decide +kernel)
theorem wm_732 : Cond.code YX1_firstOtherThan.1 YX1_firstOtherThan.2.1 YX1_firstOtherThan.2.2.1 YX1_firstOtherThan.2.2.2 ∈ lw_tbl := List.mem_of_getElem? (i := 732) (by decide +kernel)
theorem cv_X8_259 : CV RX8 259 YX1_firstOtherThan 1 := ⟨wm_729, wm_730, wm_731, wm_64, wm_732, ⟨by decide +kernel, by decide +kernel, by decide +kernel⟩⟩
theorem wm_733 : Cond.methodLink RL 139 yX8_seed ∈ lw_tbl := List.mem_of_getElem? (i := 733) (by decide +kernel)
theorem wm_734 : Cond.instanceMethod yX8_seed ∈ lw_tbl := List.mem_of_getElem? (i := 734) (by decide +kernel)
theorem wm_735 : Cond.selects yX8_seed.cls yX8_seed yX8_seed ∈ lw_tbl := List.mem_of_getElem? (i := 735) (by decide +kernel)
theorem wm_736 : Cond.code YX8_seed.1 YX8_seed.2.1 YX8_seed.2.2.1 YX8_seed.2.2.2 ∈ lw_tbl := List.mem_of_getElem? (i := 736) (by decide +kernel)
theorem cv_L_139 : CV RL 139 YX8_seed 1 := ⟨wm_733, wm_734, wm_735, wm_58, wm_736, ⟨by decide +kernel, by decide +kernel, by decide +kernel⟩⟩
theorem wm_737 : Cond.methodLink RL 143 yX8_keep ∈ lw_tbl := List.mem_of_getElem? (i := 737) (by decide +kernel)
theorem wm_738 : Cond.instanceMethod yX8_keep ∈ lw_tbl := List.mem_of_getElem? (i := 738) (by decide +kernel)
theorem wm_739 : Cond.selects yX8_keep.cls yX8_keep yX8_keep ∈ lw_tbl := List.mem_of_getElem? (i := 739) (by decide +kernel)
theorem wm_740 : Cond.code YX8_keep.1 YX8_keep.2.1 YX8_keep.2.2.1 YX8_keep.2.2.2 ∈ lw_tbl := List.mem_of_getElem? (i := 740) (by decide +kernel)
theorem cv_L_143 : CV RL 143 YX8_keep 1 := ⟨wm_737, wm_738, wm_739, wm_58, wm_740, ⟨by decide +kernel, by decide +kernel, by decide +kernel⟩⟩
theorem wm_741 : Cond.methodLink RX8 271 yX0_copyFrom ∈ lw_tbl := List.mem_of_getElem? (i := 741) (by decide +kernel)
theorem cv_X8_271 : CV RX8 271 YX0_copyFrom 1 := ⟨wm_741, wm_525, wm_526, wm_61, wm_527, ⟨by decide +kernel, by decide +kernel, by decide +kernel⟩⟩
theorem wm_742 : Cond.methodLink RL 147 yX8_goBack ∈ lw_tbl := List.mem_of_getElem? (i := 742) (by decide +kernel)
theorem wm_743 : Cond.instanceMethod yX8_goBack ∈ lw_tbl := List.mem_of_getElem? (i := 743) (by decide +kernel)
theorem wm_744 : Cond.selects yX8_goBack.cls yX8_goBack yX8_goBack ∈ lw_tbl := List.mem_of_getElem? (i := 744) (by decide +kernel)
theorem wm_745 : Cond.code YX8_goBack.1 YX8_goBack.2.1 YX8_goBack.2.2.1 YX8_goBack.2.2.2 ∈ lw_tbl := List.mem_of_getElem? (i := 745) (by decide +kernel)
theorem cv_L_147 : CV RL 147 YX8_goBack 1 := ⟨wm_742, wm_743, wm_744, wm_58, wm_745, ⟨by decide +kernel, by decide +kernel, by decide +kernel⟩⟩
theorem wm_748 : Cond.methodLink RL 12 yX9_init ∈ lw_tbl := List.mem_of_getElem? (i := 748) (by decide +kernel)
theorem wm_749 : Cond.instanceMethod yX9_init ∈ lw_tbl := List.mem_of_getElem? (i := 749) (by decide +kernel)
theorem wm_67 : Cond.initialized RX9 ∈ lw_tbl := List.mem_of_getElem? (i := 67) (by decide +kernel)
theorem wm_750 : Cond.code YX9_init.1 YX9_init.2.1 YX9_init.2.2.1 YX9_init.2.2.2 ∈ lw_tbl := List.mem_of_getElem? (i := 750) (by decide +kernel)
theorem cv_L_12 : CI RL 12 YX9_init 0 := ⟨wm_748, ⟨rfl, wm_749⟩, wm_67, wm_750, ⟨by decide +kernel, by decide +kernel, by decide +kernel⟩⟩
theorem wm_825 : Cond.methodLink RL 17 yX9_feed ∈ lw_tbl := List.mem_of_getElem? (i := 825) (by decide +kernel)
theorem wm_826 : Cond.instanceMethod yX9_feed ∈ lw_tbl := List.mem_of_getElem? (i := 826) (by decide +kernel)
theorem wm_827 : Cond.selects yX9_feed.cls yX9_feed yX9_feed ∈ lw_tbl := List.mem_of_getElem? (i := 827) (by decide +kernel)
theorem wm_828 : Cond.code YX9_feed.1 YX9_feed.2.1 YX9_feed.2.2.1 YX9_feed.2.2.2 ∈ lw_tbl := List.mem_of_getElem? (i := 828) (by decide +kernel)
theorem cv_L_17 : CV RL 17 YX9_feed 1 := ⟨wm_825, wm_826, wm_827, wm_67, wm_828, ⟨by decide +kernel, by decide +kernel, by decide +kernel⟩⟩
theorem wm_829 : Cond.methodLink RX9 63 yX9_in ∈ lw_tbl := List.mem_of_getElem? (i := 829) (by decide +kernel)
theorem wm_830 : Cond.static yX9_in ∈ lw_tbl := List.mem_of_getElem? (i := 830) (by decide +kernel)
theorem wm_831 : Cond.code YX9_in.1 YX9_in.2.1 YX9_in.2.2.1 YX9_in.2.2.2 ∈ lw_tbl := List.mem_of_getElem? (i := 831) (by decide +kernel)
theorem cv_X9_63 : CS RX9 63 YX9_in 3 := ⟨wm_829, wm_830, wm_67, wm_831, ⟨by decide +kernel, by decide +kernel, by decide +kernel⟩⟩
theorem wm_834 : Cond.methodLink RL 22 yX9_castle ∈ lw_tbl := List.mem_of_getElem? (i := 834) (by decide +kernel)
theorem wm_835 : Cond.instanceMethod yX9_castle ∈ lw_tbl := List.mem_of_getElem? (i := 835) (by decide +kernel)
theorem wm_836 : Cond.selects yX9_castle.cls yX9_castle yX9_castle ∈ lw_tbl := List.mem_of_getElem? (i := 836) (by decide +kernel)
theorem wm_837 : Cond.code YX9_castle.1 YX9_castle.2.1 YX9_castle.2.2.1 YX9_castle.2.2.2 ∈ lw_tbl := List.mem_of_getElem? (i := 837) (by decide +kernel)
theorem cv_L_22 : CV RL 22 YX9_castle 0 := ⟨wm_834, wm_835, wm_836, wm_67, wm_837, ⟨by decide +kernel, by decide +kernel, by decide +kernel⟩⟩
theorem wm_838 : Cond.methodLink RX9 82 yX9_skips ∈ lw_tbl := List.mem_of_getElem? (i := 838) (by decide +kernel)
theorem wm_840 : Cond.instanceMethod yX9_skips ∈ lw_tbl := List.mem_of_getElem? (i := 840) (by decide +kernel)
theorem wm_23 : Cond.selects yX9_skips.cls yX9_skips yX9_skips ∈ lw_tbl := List.mem_of_getElem? (i := 23) (by decide +kernel)
theorem wm_841 : Cond.code YX9_skips.1 YX9_skips.2.1 YX9_skips.2.2.1 YX9_skips.2.2.2 ∈ lw_tbl := List.mem_of_getElem? (i := 841) (by decide +kernel)
theorem cv_X9_82 : CV RX9 82 YX9_skips 0 := ⟨wm_838, wm_840, wm_23, wm_67, wm_841, ⟨by decide +kernel, by decide +kernel, by decide +kernel⟩⟩
theorem wm_842 : Cond.methodLink RX9 78 yX9_look ∈ lw_tbl := List.mem_of_getElem? (i := 842) (by decide +kernel)
theorem wm_844 : Cond.instanceMethod yX9_look ∈ lw_tbl := List.mem_of_getElem? (i := 844) (by decide +kernel)
theorem wm_24 : Cond.selects yX9_look.cls yX9_look yX9_look ∈ lw_tbl := List.mem_of_getElem? (i := 24) (by decide +kernel)
theorem wm_845 : Cond.code YX9_look.1 YX9_look.2.1 YX9_look.2.2.1 YX9_look.2.2.2 ∈ lw_tbl := List.mem_of_getElem? (i := 845) (by decide +kernel)
theorem cv_X9_78 : CV RX9 78 YX9_look 0 := ⟨wm_842, wm_844, wm_24, wm_67, wm_845, ⟨by decide +kernel, by decide +kernel, by decide +kernel⟩⟩
theorem wm_846 : Cond.methodLink RX9 119 yX9_reads ∈ lw_tbl := List.mem_of_getElem? (i := 846) (by decide +kernel)
theorem wm_848 : Cond.instanceMethod yX9_reads ∈ lw_tbl := List.mem_of_getElem? (i := 848) (by decide +kernel)
theorem wm_25 : Cond.selects yX9_reads.cls yX9_reads yX9_reads ∈ lw_tbl := List.mem_of_getElem? (i := 25) (by decide +kernel)
theorem wm_849 : Cond.code YX9_reads.1 YX9_reads.2.1 YX9_reads.2.2.1 YX9_reads.2.2.2 ∈ lw_tbl := List.mem_of_getElem? (i := 849) (by decide +kernel)
theorem cv_X9_119 : CV RX9 119 YX9_reads 0 := ⟨wm_846, wm_848, wm_25, wm_67, wm_849, ⟨by decide +kernel, by decide +kernel, by decide +kernel⟩⟩
theorem wm_850 : Cond.methodLink RX9 107 yX9_readsWays ∈ lw_tbl := List.mem_of_getElem? (i := 850) (by decide +kernel)
theorem wm_852 : Cond.instanceMethod yX9_readsWays ∈ lw_tbl := List.mem_of_getElem? (i := 852) (by decide +kernel)
theorem wm_26 : Cond.selects yX9_readsWays.cls yX9_readsWays yX9_readsWays ∈ lw_tbl := List.mem_of_getElem? (i := 26) (by decide +kernel)
theorem wm_853 : Cond.code YX9_readsWays.1 YX9_readsWays.2.1 YX9_readsWays.2.2.1 YX9_readsWays.2.2.2 ∈ lw_tbl := List.mem_of_getElem? (i := 853) (by decide +kernel)
theorem cv_X9_107 : CV RX9 107 YX9_readsWays 0 := ⟨wm_850, wm_852, wm_26, wm_67, wm_853, ⟨by decide +kernel, by decide +kernel, by decide +kernel⟩⟩
theorem wm_854 : Cond.methodLink RX9 89 yX9_opens ∈ lw_tbl := List.mem_of_getElem? (i := 854) (by decide +kernel)
theorem wm_856 : Cond.instanceMethod yX9_opens ∈ lw_tbl := List.mem_of_getElem? (i := 856) (by decide +kernel)
theorem wm_27 : Cond.selects yX9_opens.cls yX9_opens yX9_opens ∈ lw_tbl := List.mem_of_getElem? (i := 27) (by decide +kernel)
theorem wm_857 : Cond.code YX9_opens.1 YX9_opens.2.1 YX9_opens.2.2.1 YX9_opens.2.2.2 ∈ lw_tbl := List.mem_of_getElem? (i := 857) (by decide +kernel)
theorem cv_X9_89 : CV RX9 89 YX9_opens 1 := ⟨wm_854, wm_856, wm_27, wm_67, wm_857, ⟨by decide +kernel, by decide +kernel, by decide +kernel⟩⟩
theorem wm_858 : Cond.methodLink RX9 85 yX9_fails ∈ lw_tbl := List.mem_of_getElem? (i := 858) (by decide +kernel)
theorem wm_860 : Cond.instanceMethod yX9_fails ∈ lw_tbl := List.mem_of_getElem? (i := 860) (by decide +kernel)
theorem wm_28 : Cond.selects yX9_fails.cls yX9_fails yX9_fails ∈ lw_tbl := List.mem_of_getElem? (i := 28) (by decide +kernel)
theorem wm_861 : Cond.code YX9_fails.1 YX9_fails.2.1 YX9_fails.2.2.1 YX9_fails.2.2.2 ∈ lw_tbl := List.mem_of_getElem? (i := 861) (by decide +kernel)
theorem cv_X9_85 : CV RX9 85 YX9_fails 1 := ⟨wm_858, wm_860, wm_28, wm_67, wm_861, ⟨by decide +kernel, by decide +kernel, by decide +kernel⟩⟩
theorem wm_862 : Cond.methodLink RX9 93 yX9_number ∈ lw_tbl := List.mem_of_getElem? (i := 862) (by decide +kernel)
theorem wm_864 : Cond.instanceMethod yX9_number ∈ lw_tbl := List.mem_of_getElem? (i := 864) (by decide +kernel)
theorem wm_29 : Cond.selects yX9_number.cls yX9_number yX9_number ∈ lw_tbl := List.mem_of_getElem? (i := 29) (by decide +kernel)
theorem wm_865 : Cond.code YX9_number.1 YX9_number.2.1 YX9_number.2.2.1 YX9_number.2.2.2 ∈ lw_tbl := List.mem_of_getElem? (i := 865) (by decide +kernel)
theorem cv_X9_93 : CV RX9 93 YX9_number 2 := ⟨wm_862, wm_864, wm_29, wm_67, wm_865, ⟨by decide +kernel, by decide +kernel, by decide +kernel⟩⟩
theorem wm_866 : Cond.methodLink RX9 97 yX9_word ∈ lw_tbl := List.mem_of_getElem? (i := 866) (by decide +kernel)
theorem wm_868 : Cond.instanceMethod yX9_word ∈ lw_tbl := List.mem_of_getElem? (i := 868) (by decide +kernel)
theorem wm_30 : Cond.selects yX9_word.cls yX9_word yX9_word ∈ lw_tbl := List.mem_of_getElem? (i := 30) (by decide +kernel)
theorem wm_869 : Cond.code YX9_word.1 YX9_word.2.1 YX9_word.2.2.1 YX9_word.2.2.2 ∈ lw_tbl := List.mem_of_getElem? (i := 869) (by decide +kernel)
theorem cv_X9_97 : CV RX9 97 YX9_word 1 := ⟨wm_866, wm_868, wm_30, wm_67, wm_869, ⟨by decide +kernel, by decide +kernel, by decide +kernel⟩⟩
theorem wm_870 : Cond.methodLink RX9 110 yX9_readsTest ∈ lw_tbl := List.mem_of_getElem? (i := 870) (by decide +kernel)
theorem wm_872 : Cond.instanceMethod yX9_readsTest ∈ lw_tbl := List.mem_of_getElem? (i := 872) (by decide +kernel)
theorem wm_31 : Cond.selects yX9_readsTest.cls yX9_readsTest yX9_readsTest ∈ lw_tbl := List.mem_of_getElem? (i := 31) (by decide +kernel)
theorem wm_873 : Cond.code YX9_readsTest.1 YX9_readsTest.2.1 YX9_readsTest.2.2.1 YX9_readsTest.2.2.2 ∈ lw_tbl := List.mem_of_getElem? (i := 873) (by decide +kernel)
theorem cv_X9_110 : CV RX9 110 YX9_readsTest 0 := ⟨wm_870, wm_872, wm_31, wm_67, wm_873, ⟨by decide +kernel, by decide +kernel, by decide +kernel⟩⟩
theorem wm_874 : Cond.methodLink RX9 100 yX9_allOf ∈ lw_tbl := List.mem_of_getElem? (i := 874) (by decide +kernel)
theorem wm_875 : Cond.static yX9_allOf ∈ lw_tbl := List.mem_of_getElem? (i := 875) (by decide +kernel)
theorem wm_876 : Cond.code YX9_allOf.1 YX9_allOf.2.1 YX9_allOf.2.2.1 YX9_allOf.2.2.2 ∈ lw_tbl := List.mem_of_getElem? (i := 876) (by decide +kernel)
theorem cv_X9_100 : CS RX9 100 YX9_allOf 1 := ⟨wm_874, wm_875, wm_67, wm_876, ⟨by decide +kernel, by decide +kernel, by decide +kernel⟩⟩
theorem wm_877 : Cond.methodLink RX9 104 yX9_waysOf ∈ lw_tbl := List.mem_of_getElem? (i := 877) (by decide +kernel)
theorem wm_879 : Cond.instanceMethod yX9_waysOf ∈ lw_tbl := List.mem_of_getElem? (i := 879) (by decide +kernel)
theorem wm_32 : Cond.selects yX9_waysOf.cls yX9_waysOf yX9_waysOf ∈ lw_tbl := List.mem_of_getElem? (i := 32) (by decide +kernel)
theorem wm_880 : Cond.code YX9_waysOf.1 YX9_waysOf.2.1 YX9_waysOf.2.2.1 YX9_waysOf.2.2.2 ∈ lw_tbl := List.mem_of_getElem? (i := 880) (by decide +kernel)
theorem cv_X9_104 : CV RX9 104 YX9_waysOf 2 := ⟨wm_877, wm_879, wm_32, wm_67, wm_880, ⟨by decide +kernel, by decide +kernel, by decide +kernel⟩⟩
theorem wm_881 : Cond.methodLink RX9 113 yX9_readsServant ∈ lw_tbl := List.mem_of_getElem? (i := 881) (by decide +kernel)
theorem wm_883 : Cond.instanceMethod yX9_readsServant ∈ lw_tbl := List.mem_of_getElem? (i := 883) (by decide +kernel)
theorem wm_33 : Cond.selects yX9_readsServant.cls yX9_readsServant yX9_readsServant ∈ lw_tbl := List.mem_of_getElem? (i := 33) (by decide +kernel)
theorem wm_884 : Cond.code YX9_readsServant.1 YX9_readsServant.2.1 YX9_readsServant.2.2.1 YX9_readsServant.2.2.2 ∈ lw_tbl := List.mem_of_getElem? (i := 884) (by decide +kernel)
theorem cv_X9_113 : CV RX9 113 YX9_readsServant 0 := ⟨wm_881, wm_883, wm_33, wm_67, wm_884, ⟨by decide +kernel, by decide +kernel, by decide +kernel⟩⟩
theorem wm_885 : Cond.methodLink RX9 116 yX9_readsPay ∈ lw_tbl := List.mem_of_getElem? (i := 885) (by decide +kernel)
theorem wm_887 : Cond.instanceMethod yX9_readsPay ∈ lw_tbl := List.mem_of_getElem? (i := 887) (by decide +kernel)
theorem wm_34 : Cond.selects yX9_readsPay.cls yX9_readsPay yX9_readsPay ∈ lw_tbl := List.mem_of_getElem? (i := 34) (by decide +kernel)
theorem wm_888 : Cond.code YX9_readsPay.1 YX9_readsPay.2.1 YX9_readsPay.2.2.1 YX9_readsPay.2.2.2 ∈ lw_tbl := List.mem_of_getElem? (i := 888) (by decide +kernel)
theorem cv_X9_116 : CV RX9 116 YX9_readsPay 0 := ⟨wm_885, wm_887, wm_34, wm_67, wm_888, ⟨by decide +kernel, by decide +kernel, by decide +kernel⟩⟩
theorem wm_889 : Cond.methodLink RX9 122 yX9_copies ∈ lw_tbl := List.mem_of_getElem? (i := 889) (by decide +kernel)
theorem wm_890 : Cond.static yX9_copies ∈ lw_tbl := List.mem_of_getElem? (i := 890) (by decide +kernel)
theorem wm_891 : Cond.code YX9_copies.1 YX9_copies.2.1 YX9_copies.2.2.1 YX9_copies.2.2.2 ∈ lw_tbl := List.mem_of_getElem? (i := 891) (by decide +kernel)
theorem cv_X9_122 : CS RX9 122 YX9_copies 5 := ⟨wm_889, wm_890, wm_67, wm_891, ⟨by decide +kernel, by decide +kernel, by decide +kernel⟩⟩
theorem wm_892 : Cond.methodLink RL 26 yX9_fault ∈ lw_tbl := List.mem_of_getElem? (i := 892) (by decide +kernel)
theorem wm_893 : Cond.instanceMethod yX9_fault ∈ lw_tbl := List.mem_of_getElem? (i := 893) (by decide +kernel)
theorem wm_894 : Cond.selects yX9_fault.cls yX9_fault yX9_fault ∈ lw_tbl := List.mem_of_getElem? (i := 894) (by decide +kernel)
theorem wm_895 : Cond.code YX9_fault.1 YX9_fault.2.1 YX9_fault.2.2.1 YX9_fault.2.2.2 ∈ lw_tbl := List.mem_of_getElem? (i := 895) (by decide +kernel)
theorem cv_L_26 : CV RL 26 YX9_fault 0 := ⟨wm_892, wm_893, wm_894, wm_67, wm_895, ⟨by decide +kernel, by decide +kernel, by decide +kernel⟩⟩
theorem wm_896 : Cond.methodLink RL 30 yX9_told ∈ lw_tbl := List.mem_of_getElem? (i := 896) (by decide +kernel)
theorem wm_897 : Cond.instanceMethod yX9_told ∈ lw_tbl := List.mem_of_getElem? (i := 897) (by decide +kernel)
theorem wm_898 : Cond.selects yX9_told.cls yX9_told yX9_told ∈ lw_tbl := List.mem_of_getElem? (i := 898) (by decide +kernel)
theorem wm_899 : Cond.code YX9_told.1 YX9_told.2.1 YX9_told.2.2.1 YX9_told.2.2.2 ∈ lw_tbl := List.mem_of_getElem? (i := 899) (by decide +kernel)
theorem cv_L_30 : CV RL 30 YX9_told 1 := ⟨wm_896, wm_897, wm_898, wm_67, wm_899, ⟨by decide +kernel, by decide +kernel, by decide +kernel⟩⟩
theorem wm_900 : Cond.methodLink RX9 140 yX9_leftBy ∈ lw_tbl := List.mem_of_getElem? (i := 900) (by decide +kernel)
theorem wm_902 : Cond.instanceMethod yX9_leftBy ∈ lw_tbl := List.mem_of_getElem? (i := 902) (by decide +kernel)
theorem wm_35 : Cond.selects yX9_leftBy.cls yX9_leftBy yX9_leftBy ∈ lw_tbl := List.mem_of_getElem? (i := 35) (by decide +kernel)
theorem wm_903 : Cond.code YX9_leftBy.1 YX9_leftBy.2.1 YX9_leftBy.2.2.1 YX9_leftBy.2.2.2 ∈ lw_tbl := List.mem_of_getElem? (i := 903) (by decide +kernel)
theorem cv_X9_140 : CV RX9 140 YX9_leftBy 1 := ⟨wm_900, wm_902, wm_35, wm_67, wm_903, ⟨by decide +kernel, by decide +kernel, by decide +kernel⟩⟩
theorem wm_904 : Cond.methodLink RX9 135 yX9_has ∈ lw_tbl := List.mem_of_getElem? (i := 904) (by decide +kernel)
theorem wm_905 : Cond.static yX9_has ∈ lw_tbl := List.mem_of_getElem? (i := 905) (by decide +kernel)
theorem wm_906 : Cond.code YX9_has.1 YX9_has.2.1 YX9_has.2.2.1 YX9_has.2.2.2 ∈ lw_tbl := List.mem_of_getElem? (i := 906) (by decide +kernel)
theorem cv_X9_135 : CS RX9 135 YX9_has 2 := ⟨wm_904, wm_905, wm_67, wm_906, ⟨by decide +kernel, by decide +kernel, by decide +kernel⟩⟩
theorem wm_907 : Cond.methodLink RX9 143 yX9_shownBy ∈ lw_tbl := List.mem_of_getElem? (i := 907) (by decide +kernel)
theorem wm_909 : Cond.instanceMethod yX9_shownBy ∈ lw_tbl := List.mem_of_getElem? (i := 909) (by decide +kernel)
theorem wm_36 : Cond.selects yX9_shownBy.cls yX9_shownBy yX9_shownBy ∈ lw_tbl := List.mem_of_getElem? (i := 36) (by decide +kernel)
theorem wm_910 : Cond.code YX9_shownBy.1 YX9_shownBy.2.1 YX9_shownBy.2.2.1 YX9_shownBy.2.2.2 ∈ lw_tbl := List.mem_of_getElem? (i := 910) (by decide +kernel)
theorem cv_X9_143 : CV RX9 143 YX9_shownBy 1 := ⟨wm_907, wm_909, wm_36, wm_67, wm_910, ⟨by decide +kernel, by decide +kernel, by decide +kernel⟩⟩
theorem wm_911 : Cond.methodLink RX9 146 yX9_spent ∈ lw_tbl := List.mem_of_getElem? (i := 911) (by decide +kernel)
theorem wm_913 : Cond.instanceMethod yX9_spent ∈ lw_tbl := List.mem_of_getElem? (i := 913) (by decide +kernel)
theorem wm_37 : Cond.selects yX9_spent.cls yX9_spent yX9_spent ∈ lw_tbl := List.mem_of_getElem? (i := 37) (by decide +kernel)
theorem wm_914 : Cond.code YX9_spent.1 YX9_spent.2.1 YX9_spent.2.2.1 YX9_spent.2.2.2 ∈ lw_tbl := List.mem_of_getElem? (i := 914) (by decide +kernel)
theorem cv_X9_146 : CV RX9 146 YX9_spent 0 := ⟨wm_911, wm_913, wm_37, wm_67, wm_914, ⟨by decide +kernel, by decide +kernel, by decide +kernel⟩⟩
theorem wm_916 : Cond.methodLink RL 34 yX9_likely ∈ lw_tbl := List.mem_of_getElem? (i := 916) (by decide +kernel)
theorem wm_917 : Cond.instanceMethod yX9_likely ∈ lw_tbl := List.mem_of_getElem? (i := 917) (by decide +kernel)
theorem wm_918 : Cond.selects yX9_likely.cls yX9_likely yX9_likely ∈ lw_tbl := List.mem_of_getElem? (i := 918) (by decide +kernel)
theorem wm_919 : Cond.code YX9_likely.1 YX9_likely.2.1 YX9_likely.2.2.1 YX9_likely.2.2.2 ∈ lw_tbl := List.mem_of_getElem? (i := 919) (by decide +kernel)
theorem cv_L_34 : CV RL 34 YX9_likely 1 := ⟨wm_916, wm_917, wm_918, wm_67, wm_919, ⟨by decide +kernel, by decide +kernel, by decide +kernel⟩⟩
theorem wm_920 : Cond.methodLink RX9 149 yX9_isWay ∈ lw_tbl := List.mem_of_getElem? (i := 920) (by decide +kernel)
theorem wm_922 : Cond.instanceMethod yX9_isWay ∈ lw_tbl := List.mem_of_getElem? (i := 922) (by decide +kernel)
theorem wm_38 : Cond.selects yX9_isWay.cls yX9_isWay yX9_isWay ∈ lw_tbl := List.mem_of_getElem? (i := 38) (by decide +kernel)
theorem wm_923 : Cond.code YX9_isWay.1 YX9_isWay.2.1 YX9_isWay.2.2.1 YX9_isWay.2.2.2 ∈ lw_tbl := List.mem_of_getElem? (i := 923) (by decide +kernel)
theorem cv_X9_149 : CV RX9 149 YX9_isWay 1 := ⟨wm_920, wm_922, wm_38, wm_67, wm_923, ⟨by decide +kernel, by decide +kernel, by decide +kernel⟩⟩
theorem wm_925 : Cond.methodLink RL 39 yX9_test ∈ lw_tbl := List.mem_of_getElem? (i := 925) (by decide +kernel)
theorem wm_926 : Cond.instanceMethod yX9_test ∈ lw_tbl := List.mem_of_getElem? (i := 926) (by decide +kernel)
theorem wm_927 : Cond.selects yX9_test.cls yX9_test yX9_test ∈ lw_tbl := List.mem_of_getElem? (i := 927) (by decide +kernel)
theorem wm_928 : Cond.code YX9_test.1 YX9_test.2.1 YX9_test.2.2.1 YX9_test.2.2.2 ∈ lw_tbl := List.mem_of_getElem? (i := 928) (by decide +kernel)
theorem cv_L_39 : CV RL 39 YX9_test 2 := ⟨wm_925, wm_926, wm_927, wm_67, wm_928, ⟨by decide +kernel, by decide +kernel, by decide +kernel⟩⟩
theorem wm_929 : Cond.methodLink RX9 154 yX9_isTest ∈ lw_tbl := List.mem_of_getElem? (i := 929) (by decide +kernel)
theorem wm_931 : Cond.instanceMethod yX9_isTest ∈ lw_tbl := List.mem_of_getElem? (i := 931) (by decide +kernel)
theorem wm_39 : Cond.selects yX9_isTest.cls yX9_isTest yX9_isTest ∈ lw_tbl := List.mem_of_getElem? (i := 39) (by decide +kernel)
theorem wm_932 : Cond.code YX9_isTest.1 YX9_isTest.2.1 YX9_isTest.2.2.1 YX9_isTest.2.2.2 ∈ lw_tbl := List.mem_of_getElem? (i := 932) (by decide +kernel)
theorem cv_X9_154 : CV RX9 154 YX9_isTest 1 := ⟨wm_929, wm_931, wm_39, wm_67, wm_932, ⟨by decide +kernel, by decide +kernel, by decide +kernel⟩⟩
theorem wm_933 : Cond.methodLink RL 43 yX9_servant ∈ lw_tbl := List.mem_of_getElem? (i := 933) (by decide +kernel)
theorem wm_934 : Cond.instanceMethod yX9_servant ∈ lw_tbl := List.mem_of_getElem? (i := 934) (by decide +kernel)
theorem wm_935 : Cond.selects yX9_servant.cls yX9_servant yX9_servant ∈ lw_tbl := List.mem_of_getElem? (i := 935) (by decide +kernel)
theorem wm_936 : Cond.code YX9_servant.1 YX9_servant.2.1 YX9_servant.2.2.1 YX9_servant.2.2.2 ∈ lw_tbl := List.mem_of_getElem? (i := 936) (by decide +kernel)
theorem cv_L_43 : CV RL 43 YX9_servant 2 := ⟨wm_933, wm_934, wm_935, wm_67, wm_936, ⟨by decide +kernel, by decide +kernel, by decide +kernel⟩⟩
theorem wm_937 : Cond.methodLink RX9 157 yX9_isServant ∈ lw_tbl := List.mem_of_getElem? (i := 937) (by decide +kernel)
theorem wm_939 : Cond.instanceMethod yX9_isServant ∈ lw_tbl := List.mem_of_getElem? (i := 939) (by decide +kernel)
theorem wm_40 : Cond.selects yX9_isServant.cls yX9_isServant yX9_isServant ∈ lw_tbl := List.mem_of_getElem? (i := 40) (by decide +kernel)
theorem wm_940 : Cond.code YX9_isServant.1 YX9_isServant.2.1 YX9_isServant.2.2.1 YX9_isServant.2.2.2 ∈ lw_tbl := List.mem_of_getElem? (i := 940) (by decide +kernel)
theorem cv_X9_157 : CV RX9 157 YX9_isServant 1 := ⟨wm_937, wm_939, wm_40, wm_67, wm_940, ⟨by decide +kernel, by decide +kernel, by decide +kernel⟩⟩
theorem wm_941 : Cond.methodLink RL 47 yX9_day ∈ lw_tbl := List.mem_of_getElem? (i := 941) (by decide +kernel)
theorem wm_942 : Cond.instanceMethod yX9_day ∈ lw_tbl := List.mem_of_getElem? (i := 942) (by decide +kernel)
theorem wm_943 : Cond.selects yX9_day.cls yX9_day yX9_day ∈ lw_tbl := List.mem_of_getElem? (i := 943) (by decide +kernel)
theorem wm_944 : Cond.code YX9_day.1 YX9_day.2.1 YX9_day.2.2.1 YX9_day.2.2.2 ∈ lw_tbl := List.mem_of_getElem? (i := 944) (by decide +kernel)
theorem cv_L_47 : CV RL 47 YX9_day 1 := ⟨wm_941, wm_942, wm_943, wm_67, wm_944, ⟨by decide +kernel, by decide +kernel, by decide +kernel⟩⟩
theorem wm_945 : Cond.methodLink RX9 169 yX9_barred ∈ lw_tbl := List.mem_of_getElem? (i := 945) (by decide +kernel)
theorem wm_947 : Cond.instanceMethod yX9_barred ∈ lw_tbl := List.mem_of_getElem? (i := 947) (by decide +kernel)
theorem wm_41 : Cond.selects yX9_barred.cls yX9_barred yX9_barred ∈ lw_tbl := List.mem_of_getElem? (i := 41) (by decide +kernel)
theorem wm_948 : Cond.code YX9_barred.1 YX9_barred.2.1 YX9_barred.2.2.1 YX9_barred.2.2.2 ∈ lw_tbl := List.mem_of_getElem? (i := 948) (by decide +kernel)
theorem cv_X9_169 : CV RX9 169 YX9_barred 1 := ⟨wm_945, wm_947, wm_41, wm_67, wm_948, ⟨by decide +kernel, by decide +kernel, by decide +kernel⟩⟩
theorem wm_949 : Cond.methodLink RX9 164 yX9_isCastle ∈ lw_tbl := List.mem_of_getElem? (i := 949) (by decide +kernel)
theorem wm_951 : Cond.instanceMethod yX9_isCastle ∈ lw_tbl := List.mem_of_getElem? (i := 951) (by decide +kernel)
theorem wm_42 : Cond.selects yX9_isCastle.cls yX9_isCastle yX9_isCastle ∈ lw_tbl := List.mem_of_getElem? (i := 42) (by decide +kernel)
theorem wm_952 : Cond.code YX9_isCastle.1 YX9_isCastle.2.1 YX9_isCastle.2.2.1 YX9_isCastle.2.2.2 ∈ lw_tbl := List.mem_of_getElem? (i := 952) (by decide +kernel)
theorem cv_X9_164 : CV RX9 164 YX9_isCastle 0 := ⟨wm_949, wm_951, wm_42, wm_67, wm_952, ⟨by decide +kernel, by decide +kernel, by decide +kernel⟩⟩
theorem wm_954 : Cond.methodLink RX9 172 yX9_notes ∈ lw_tbl := List.mem_of_getElem? (i := 954) (by decide +kernel)
theorem wm_956 : Cond.instanceMethod yX9_notes ∈ lw_tbl := List.mem_of_getElem? (i := 956) (by decide +kernel)
theorem wm_43 : Cond.selects yX9_notes.cls yX9_notes yX9_notes ∈ lw_tbl := List.mem_of_getElem? (i := 43) (by decide +kernel)
theorem wm_957 : Cond.code YX9_notes.1 YX9_notes.2.1 YX9_notes.2.2.1 YX9_notes.2.2.2 ∈ lw_tbl := List.mem_of_getElem? (i := 957) (by decide +kernel)
theorem cv_X9_172 : CV RX9 172 YX9_notes 0 := ⟨wm_954, wm_956, wm_43, wm_67, wm_957, ⟨by decide +kernel, by decide +kernel, by decide +kernel⟩⟩
theorem wm_958 : Cond.methodLink RX9 175 yX9_passes ∈ lw_tbl := List.mem_of_getElem? (i := 958) (by decide +kernel)
theorem wm_960 : Cond.instanceMethod yX9_passes ∈ lw_tbl := List.mem_of_getElem? (i := 960) (by decide +kernel)
theorem wm_44 : Cond.selects yX9_passes.cls yX9_passes yX9_passes ∈ lw_tbl := List.mem_of_getElem? (i := 44) (by decide +kernel)
theorem wm_961 : Cond.code YX9_passes.1 YX9_passes.2.1 YX9_passes.2.2.1 YX9_passes.2.2.2 ∈ lw_tbl := List.mem_of_getElem? (i := 961) (by decide +kernel)
theorem cv_X9_175 : CV RX9 175 YX9_passes 0 := ⟨wm_958, wm_960, wm_44, wm_67, wm_961, ⟨by decide +kernel, by decide +kernel, by decide +kernel⟩⟩
theorem wm_962 : Cond.methodLink RX9 160 yX9_gets ∈ lw_tbl := List.mem_of_getElem? (i := 962) (by decide +kernel)
theorem wm_964 : Cond.instanceMethod yX9_gets ∈ lw_tbl := List.mem_of_getElem? (i := 964) (by decide +kernel)
theorem wm_45 : Cond.selects yX9_gets.cls yX9_gets yX9_gets ∈ lw_tbl := List.mem_of_getElem? (i := 45) (by decide +kernel)
theorem wm_965 : Cond.code YX9_gets.1 YX9_gets.2.1 YX9_gets.2.2.1 YX9_gets.2.2.2 ∈ lw_tbl := List.mem_of_getElem? (i := 965) (by decide +kernel)
theorem cv_X9_160 : CV RX9 160 YX9_gets 2 := ⟨wm_962, wm_964, wm_45, wm_67, wm_965, ⟨by decide +kernel, by decide +kernel, by decide +kernel⟩⟩
theorem wm_966 : Cond.methodLink RL 51 yX9_make ∈ lw_tbl := List.mem_of_getElem? (i := 966) (by decide +kernel)
theorem wm_967 : Cond.instanceMethod yX9_make ∈ lw_tbl := List.mem_of_getElem? (i := 967) (by decide +kernel)
theorem wm_968 : Cond.selects yX9_make.cls yX9_make yX9_make ∈ lw_tbl := List.mem_of_getElem? (i := 968) (by decide +kernel)
theorem wm_969 : Cond.code YX9_make.1 YX9_make.2.1 YX9_make.2.2.1 YX9_make.2.2.2 ∈ lw_tbl := List.mem_of_getElem? (i := 969) (by decide +kernel)
theorem cv_L_51 : CV RL 51 YX9_make 1 := ⟨wm_966, wm_967, wm_968, wm_67, wm_969, ⟨by decide +kernel, by decide +kernel, by decide +kernel⟩⟩
theorem wm_970 : Cond.methodLink RX9 178 yX9_canBe ∈ lw_tbl := List.mem_of_getElem? (i := 970) (by decide +kernel)
theorem wm_972 : Cond.instanceMethod yX9_canBe ∈ lw_tbl := List.mem_of_getElem? (i := 972) (by decide +kernel)
theorem wm_46 : Cond.selects yX9_canBe.cls yX9_canBe yX9_canBe ∈ lw_tbl := List.mem_of_getElem? (i := 46) (by decide +kernel)
theorem wm_973 : Cond.code YX9_canBe.1 YX9_canBe.2.1 YX9_canBe.2.2.1 YX9_canBe.2.2.2 ∈ lw_tbl := List.mem_of_getElem? (i := 973) (by decide +kernel)
theorem cv_X9_178 : CV RX9 178 YX9_canBe 1 := ⟨wm_970, wm_972, wm_46, wm_67, wm_973, ⟨by decide +kernel, by decide +kernel, by decide +kernel⟩⟩
theorem wm_974 : Cond.methodLink RL 56 yX9_seal ∈ lw_tbl := List.mem_of_getElem? (i := 974) (by decide +kernel)
theorem wm_975 : Cond.instanceMethod yX9_seal ∈ lw_tbl := List.mem_of_getElem? (i := 975) (by decide +kernel)
theorem wm_976 : Cond.selects yX9_seal.cls yX9_seal yX9_seal ∈ lw_tbl := List.mem_of_getElem? (i := 976) (by decide +kernel)
theorem wm_977 : Cond.code YX9_seal.1 YX9_seal.2.1 YX9_seal.2.2.1 YX9_seal.2.2.2 ∈ lw_tbl := List.mem_of_getElem? (i := 977) (by decide +kernel)
theorem cv_L_56 : CV RL 56 YX9_seal 1 := ⟨wm_974, wm_975, wm_976, wm_67, wm_977, ⟨by decide +kernel, by decide +kernel, by decide +kernel⟩⟩
theorem wm_978 : Cond.methodLink RL 60 yX9_smash ∈ lw_tbl := List.mem_of_getElem? (i := 978) (by decide +kernel)
theorem wm_979 : Cond.instanceMethod yX9_smash ∈ lw_tbl := List.mem_of_getElem? (i := 979) (by decide +kernel)
theorem wm_980 : Cond.selects yX9_smash.cls yX9_smash yX9_smash ∈ lw_tbl := List.mem_of_getElem? (i := 980) (by decide +kernel)
theorem wm_981 : Cond.code YX9_smash.1 YX9_smash.2.1 YX9_smash.2.2.1 YX9_smash.2.2.2 ∈ lw_tbl := List.mem_of_getElem? (i := 981) (by decide +kernel)
theorem cv_L_60 : CV RL 60 YX9_smash 0 := ⟨wm_978, wm_979, wm_980, wm_67, wm_981, ⟨by decide +kernel, by decide +kernel, by decide +kernel⟩⟩
theorem wm_982 : Cond.methodLink RL 65 yX9_hire ∈ lw_tbl := List.mem_of_getElem? (i := 982) (by decide +kernel)
theorem wm_983 : Cond.instanceMethod yX9_hire ∈ lw_tbl := List.mem_of_getElem? (i := 983) (by decide +kernel)
theorem wm_984 : Cond.selects yX9_hire.cls yX9_hire yX9_hire ∈ lw_tbl := List.mem_of_getElem? (i := 984) (by decide +kernel)
theorem wm_985 : Cond.code YX9_hire.1 YX9_hire.2.1 YX9_hire.2.2.1 YX9_hire.2.2.2 ∈ lw_tbl := List.mem_of_getElem? (i := 985) (by decide +kernel)
theorem cv_L_65 : CV RL 65 YX9_hire 2 := ⟨wm_982, wm_983, wm_984, wm_67, wm_985, ⟨by decide +kernel, by decide +kernel, by decide +kernel⟩⟩
theorem wm_986 : Cond.methodLink RX9 181 yX9_hires ∈ lw_tbl := List.mem_of_getElem? (i := 986) (by decide +kernel)
theorem wm_988 : Cond.instanceMethod yX9_hires ∈ lw_tbl := List.mem_of_getElem? (i := 988) (by decide +kernel)
theorem wm_47 : Cond.selects yX9_hires.cls yX9_hires yX9_hires ∈ lw_tbl := List.mem_of_getElem? (i := 47) (by decide +kernel)
theorem wm_989 : Cond.code YX9_hires.1 YX9_hires.2.1 YX9_hires.2.2.1 YX9_hires.2.2.2 ∈ lw_tbl := List.mem_of_getElem? (i := 989) (by decide +kernel)
theorem cv_X9_181 : CV RX9 181 YX9_hires 2 := ⟨wm_986, wm_988, wm_47, wm_67, wm_989, ⟨by decide +kernel, by decide +kernel, by decide +kernel⟩⟩
theorem wm_990 : Cond.methodLink RL 70 yX9_buy ∈ lw_tbl := List.mem_of_getElem? (i := 990) (by decide +kernel)
theorem wm_991 : Cond.instanceMethod yX9_buy ∈ lw_tbl := List.mem_of_getElem? (i := 991) (by decide +kernel)
theorem wm_992 : Cond.selects yX9_buy.cls yX9_buy yX9_buy ∈ lw_tbl := List.mem_of_getElem? (i := 992) (by decide +kernel)
theorem wm_993 : Cond.code YX9_buy.1 YX9_buy.2.1 YX9_buy.2.2.1 YX9_buy.2.2.2 ∈ lw_tbl := List.mem_of_getElem? (i := 993) (by decide +kernel)
theorem cv_L_70 : CV RL 70 YX9_buy 3 := ⟨wm_990, wm_991, wm_992, wm_67, wm_993, ⟨by decide +kernel, by decide +kernel, by decide +kernel⟩⟩
theorem wm_994 : Cond.methodLink RX9 185 yX9_areWays ∈ lw_tbl := List.mem_of_getElem? (i := 994) (by decide +kernel)
theorem wm_996 : Cond.instanceMethod yX9_areWays ∈ lw_tbl := List.mem_of_getElem? (i := 996) (by decide +kernel)
theorem wm_48 : Cond.selects yX9_areWays.cls yX9_areWays yX9_areWays ∈ lw_tbl := List.mem_of_getElem? (i := 48) (by decide +kernel)
theorem wm_997 : Cond.code YX9_areWays.1 YX9_areWays.2.1 YX9_areWays.2.2.1 YX9_areWays.2.2.2 ∈ lw_tbl := List.mem_of_getElem? (i := 997) (by decide +kernel)
theorem cv_X9_185 : CV RX9 185 YX9_areWays 1 := ⟨wm_994, wm_996, wm_48, wm_67, wm_997, ⟨by decide +kernel, by decide +kernel, by decide +kernel⟩⟩
theorem wm_998 : Cond.methodLink RL 74 yX9_drift ∈ lw_tbl := List.mem_of_getElem? (i := 998) (by decide +kernel)
theorem wm_999 : Cond.instanceMethod yX9_drift ∈ lw_tbl := List.mem_of_getElem? (i := 999) (by decide +kernel)
theorem wm_1000 : Cond.selects yX9_drift.cls yX9_drift yX9_drift ∈ lw_tbl := List.mem_of_getElem? (i := 1000) (by decide +kernel)
theorem wm_1001 : Cond.code YX9_drift.1 YX9_drift.2.1 YX9_drift.2.2.1 YX9_drift.2.2.2 ∈ lw_tbl := List.mem_of_getElem? (i := 1001) (by decide +kernel)
theorem cv_L_74 : CV RL 74 YX9_drift 1 := ⟨wm_998, wm_999, wm_1000, wm_67, wm_1001, ⟨by decide +kernel, by decide +kernel, by decide +kernel⟩⟩
theorem wm_1002 : Cond.methodLink RX9 198 yX9_draw ∈ lw_tbl := List.mem_of_getElem? (i := 1002) (by decide +kernel)
theorem wm_1004 : Cond.instanceMethod yX9_draw ∈ lw_tbl := List.mem_of_getElem? (i := 1004) (by decide +kernel)
theorem wm_49 : Cond.selects yX9_draw.cls yX9_draw yX9_draw ∈ lw_tbl := List.mem_of_getElem? (i := 49) (by decide +kernel)
theorem wm_1005 : Cond.code YX9_draw.1 YX9_draw.2.1 YX9_draw.2.2.1 YX9_draw.2.2.2 ∈ lw_tbl := List.mem_of_getElem? (i := 1005) (by decide +kernel)
theorem cv_X9_198 : CV RX9 198 YX9_draw 1 := ⟨wm_1002, wm_1004, wm_49, wm_67, wm_1005, ⟨by decide +kernel, by decide +kernel, by decide +kernel⟩⟩
theorem wm_1010 : Cond.methodLink RL 78 yX9_undo ∈ lw_tbl := List.mem_of_getElem? (i := 1010) (by decide +kernel)
theorem wm_1011 : Cond.instanceMethod yX9_undo ∈ lw_tbl := List.mem_of_getElem? (i := 1011) (by decide +kernel)
theorem wm_1012 : Cond.selects yX9_undo.cls yX9_undo yX9_undo ∈ lw_tbl := List.mem_of_getElem? (i := 1012) (by decide +kernel)
theorem wm_1013 : Cond.code YX9_undo.1 YX9_undo.2.1 YX9_undo.2.2.1 YX9_undo.2.2.2 ∈ lw_tbl := List.mem_of_getElem? (i := 1013) (by decide +kernel)
theorem cv_L_78 : CV RL 78 YX9_undo 0 := ⟨wm_1010, wm_1011, wm_1012, wm_67, wm_1013, ⟨by decide +kernel, by decide +kernel, by decide +kernel⟩⟩
theorem wm_1014 : Cond.methodLink RL 82 yX9_belief ∈ lw_tbl := List.mem_of_getElem? (i := 1014) (by decide +kernel)
theorem wm_1015 : Cond.instanceMethod yX9_belief ∈ lw_tbl := List.mem_of_getElem? (i := 1015) (by decide +kernel)
theorem wm_1016 : Cond.selects yX9_belief.cls yX9_belief yX9_belief ∈ lw_tbl := List.mem_of_getElem? (i := 1016) (by decide +kernel)
theorem wm_1017 : Cond.code YX9_belief.1 YX9_belief.2.1 YX9_belief.2.2.1 YX9_belief.2.2.2 ∈ lw_tbl := List.mem_of_getElem? (i := 1017) (by decide +kernel)
theorem cv_L_82 : CV RL 82 YX9_belief 1 := ⟨wm_1014, wm_1015, wm_1016, wm_67, wm_1017, ⟨by decide +kernel, by decide +kernel, by decide +kernel⟩⟩
theorem wm_1018 : Cond.methodLink RX9 206 yX9_beliefBy ∈ lw_tbl := List.mem_of_getElem? (i := 1018) (by decide +kernel)
theorem wm_1020 : Cond.instanceMethod yX9_beliefBy ∈ lw_tbl := List.mem_of_getElem? (i := 1020) (by decide +kernel)
theorem wm_50 : Cond.selects yX9_beliefBy.cls yX9_beliefBy yX9_beliefBy ∈ lw_tbl := List.mem_of_getElem? (i := 50) (by decide +kernel)
theorem wm_1021 : Cond.code YX9_beliefBy.1 YX9_beliefBy.2.1 YX9_beliefBy.2.2.1 YX9_beliefBy.2.2.2 ∈ lw_tbl := List.mem_of_getElem? (i := 1021) (by decide +kernel)
theorem cv_X9_206 : CV RX9 206 YX9_beliefBy 2 := ⟨wm_1018, wm_1020, wm_50, wm_67, wm_1021, ⟨by decide +kernel, by decide +kernel, by decide +kernel⟩⟩
theorem wm_1023 : Cond.methodLink RX9 203 yX9_likelyIn ∈ lw_tbl := List.mem_of_getElem? (i := 1023) (by decide +kernel)
theorem wm_1025 : Cond.instanceMethod yX9_likelyIn ∈ lw_tbl := List.mem_of_getElem? (i := 1025) (by decide +kernel)
theorem wm_51 : Cond.selects yX9_likelyIn.cls yX9_likelyIn yX9_likelyIn ∈ lw_tbl := List.mem_of_getElem? (i := 51) (by decide +kernel)
theorem wm_1026 : Cond.code YX9_likelyIn.1 YX9_likelyIn.2.1 YX9_likelyIn.2.2.1 YX9_likelyIn.2.2.2 ∈ lw_tbl := List.mem_of_getElem? (i := 1026) (by decide +kernel)
theorem cv_X9_203 : CV RX9 203 YX9_likelyIn 1 := ⟨wm_1023, wm_1025, wm_51, wm_67, wm_1026, ⟨by decide +kernel, by decide +kernel, by decide +kernel⟩⟩
theorem wm_1027 : Cond.methodLink RL 86 yX9_liars ∈ lw_tbl := List.mem_of_getElem? (i := 1027) (by decide +kernel)
theorem wm_1028 : Cond.instanceMethod yX9_liars ∈ lw_tbl := List.mem_of_getElem? (i := 1028) (by decide +kernel)
theorem wm_1029 : Cond.selects yX9_liars.cls yX9_liars yX9_liars ∈ lw_tbl := List.mem_of_getElem? (i := 1029) (by decide +kernel)
theorem wm_1030 : Cond.code YX9_liars.1 YX9_liars.2.1 YX9_liars.2.2.1 YX9_liars.2.2.2 ∈ lw_tbl := List.mem_of_getElem? (i := 1030) (by decide +kernel)
theorem cv_L_86 : CV RL 86 YX9_liars 1 := ⟨wm_1027, wm_1028, wm_1029, wm_67, wm_1030, ⟨by decide +kernel, by decide +kernel, by decide +kernel⟩⟩
theorem wm_1031 : Cond.methodLink RX9 209 yX9_liarsBy ∈ lw_tbl := List.mem_of_getElem? (i := 1031) (by decide +kernel)
theorem wm_1033 : Cond.instanceMethod yX9_liarsBy ∈ lw_tbl := List.mem_of_getElem? (i := 1033) (by decide +kernel)
theorem wm_52 : Cond.selects yX9_liarsBy.cls yX9_liarsBy yX9_liarsBy ∈ lw_tbl := List.mem_of_getElem? (i := 52) (by decide +kernel)
theorem wm_1034 : Cond.code YX9_liarsBy.1 YX9_liarsBy.2.1 YX9_liarsBy.2.2.1 YX9_liarsBy.2.2.2 ∈ lw_tbl := List.mem_of_getElem? (i := 1034) (by decide +kernel)
theorem cv_X9_209 : CV RX9 209 YX9_liarsBy 1 := ⟨wm_1031, wm_1033, wm_52, wm_67, wm_1034, ⟨by decide +kernel, by decide +kernel, by decide +kernel⟩⟩
theorem wm_1035 : Cond.methodLink RL 90 yX9_leastLiars ∈ lw_tbl := List.mem_of_getElem? (i := 1035) (by decide +kernel)
theorem wm_1036 : Cond.instanceMethod yX9_leastLiars ∈ lw_tbl := List.mem_of_getElem? (i := 1036) (by decide +kernel)
theorem wm_1037 : Cond.selects yX9_leastLiars.cls yX9_leastLiars yX9_leastLiars ∈ lw_tbl := List.mem_of_getElem? (i := 1037) (by decide +kernel)
theorem wm_1038 : Cond.code YX9_leastLiars.1 YX9_leastLiars.2.1 YX9_leastLiars.2.2.1 YX9_leastLiars.2.2.2 ∈ lw_tbl := List.mem_of_getElem? (i := 1038) (by decide +kernel)
theorem cv_L_90 : CV RL 90 YX9_leastLiars 1 := ⟨wm_1035, wm_1036, wm_1037, wm_67, wm_1038, ⟨by decide +kernel, by decide +kernel, by decide +kernel⟩⟩
theorem wm_1039 : Cond.methodLink RX9 212 yX9_ones ∈ lw_tbl := List.mem_of_getElem? (i := 1039) (by decide +kernel)
theorem wm_1040 : Cond.static yX9_ones ∈ lw_tbl := List.mem_of_getElem? (i := 1040) (by decide +kernel)
theorem wm_1041 : Cond.code YX9_ones.1 YX9_ones.2.1 YX9_ones.2.2.1 YX9_ones.2.2.2 ∈ lw_tbl := List.mem_of_getElem? (i := 1041) (by decide +kernel)
theorem cv_X9_212 : CS RX9 212 YX9_ones 1 := ⟨wm_1039, wm_1040, wm_67, wm_1041, ⟨by decide +kernel, by decide +kernel, by decide +kernel⟩⟩
theorem wm_1042 : Cond.methodLink RL 94 yX9_ruleOut ∈ lw_tbl := List.mem_of_getElem? (i := 1042) (by decide +kernel)
theorem wm_1043 : Cond.instanceMethod yX9_ruleOut ∈ lw_tbl := List.mem_of_getElem? (i := 1043) (by decide +kernel)
theorem wm_1044 : Cond.selects yX9_ruleOut.cls yX9_ruleOut yX9_ruleOut ∈ lw_tbl := List.mem_of_getElem? (i := 1044) (by decide +kernel)
theorem wm_1045 : Cond.code YX9_ruleOut.1 YX9_ruleOut.2.1 YX9_ruleOut.2.2.1 YX9_ruleOut.2.2.2 ∈ lw_tbl := List.mem_of_getElem? (i := 1045) (by decide +kernel)
theorem cv_L_94 : CV RL 94 YX9_ruleOut 3 := ⟨wm_1042, wm_1043, wm_1044, wm_67, wm_1045, ⟨by decide +kernel, by decide +kernel, by decide +kernel⟩⟩
theorem wm_1046 : Cond.methodLink RX9 215 yX9_costOf ∈ lw_tbl := List.mem_of_getElem? (i := 1046) (by decide +kernel)
theorem wm_1048 : Cond.instanceMethod yX9_costOf ∈ lw_tbl := List.mem_of_getElem? (i := 1048) (by decide +kernel)
theorem wm_53 : Cond.selects yX9_costOf.cls yX9_costOf yX9_costOf ∈ lw_tbl := List.mem_of_getElem? (i := 53) (by decide +kernel)
theorem wm_1049 : Cond.code YX9_costOf.1 YX9_costOf.2.1 YX9_costOf.2.2.1 YX9_costOf.2.2.2 ∈ lw_tbl := List.mem_of_getElem? (i := 1049) (by decide +kernel)
theorem cv_X9_215 : CV RX9 215 YX9_costOf 1 := ⟨wm_1046, wm_1048, wm_53, wm_67, wm_1049, ⟨by decide +kernel, by decide +kernel, by decide +kernel⟩⟩
theorem wm_1050 : Cond.methodLink RL 98 yX9_next ∈ lw_tbl := List.mem_of_getElem? (i := 1050) (by decide +kernel)
theorem wm_1051 : Cond.instanceMethod yX9_next ∈ lw_tbl := List.mem_of_getElem? (i := 1051) (by decide +kernel)
theorem wm_1052 : Cond.selects yX9_next.cls yX9_next yX9_next ∈ lw_tbl := List.mem_of_getElem? (i := 1052) (by decide +kernel)
theorem wm_1053 : Cond.code YX9_next.1 YX9_next.2.1 YX9_next.2.2.1 YX9_next.2.2.2 ∈ lw_tbl := List.mem_of_getElem? (i := 1053) (by decide +kernel)
theorem cv_L_98 : CV RL 98 YX9_next 0 := ⟨wm_1050, wm_1051, wm_1052, wm_67, wm_1053, ⟨by decide +kernel, by decide +kernel, by decide +kernel⟩⟩
theorem wm_1054 : Cond.methodLink RL 102 yX9_offer ∈ lw_tbl := List.mem_of_getElem? (i := 1054) (by decide +kernel)
theorem wm_1055 : Cond.instanceMethod yX9_offer ∈ lw_tbl := List.mem_of_getElem? (i := 1055) (by decide +kernel)
theorem wm_1056 : Cond.selects yX9_offer.cls yX9_offer yX9_offer ∈ lw_tbl := List.mem_of_getElem? (i := 1056) (by decide +kernel)
theorem wm_1057 : Cond.code YX9_offer.1 YX9_offer.2.1 YX9_offer.2.2.1 YX9_offer.2.2.2 ∈ lw_tbl := List.mem_of_getElem? (i := 1057) (by decide +kernel)
theorem cv_L_102 : CV RL 102 YX9_offer 2 := ⟨wm_1054, wm_1055, wm_1056, wm_67, wm_1057, ⟨by decide +kernel, by decide +kernel, by decide +kernel⟩⟩
theorem wm_1058 : Cond.methodLink RX9 218 yX9_offerBy ∈ lw_tbl := List.mem_of_getElem? (i := 1058) (by decide +kernel)
theorem wm_1060 : Cond.instanceMethod yX9_offerBy ∈ lw_tbl := List.mem_of_getElem? (i := 1060) (by decide +kernel)
theorem wm_54 : Cond.selects yX9_offerBy.cls yX9_offerBy yX9_offerBy ∈ lw_tbl := List.mem_of_getElem? (i := 54) (by decide +kernel)
theorem wm_1061 : Cond.code YX9_offerBy.1 YX9_offerBy.2.1 YX9_offerBy.2.2.1 YX9_offerBy.2.2.2 ∈ lw_tbl := List.mem_of_getElem? (i := 1061) (by decide +kernel)
theorem cv_X9_218 : CV RX9 218 YX9_offerBy 3 := ⟨wm_1058, wm_1060, wm_54, wm_67, wm_1061, ⟨by decide +kernel, by decide +kernel, by decide +kernel⟩⟩
theorem wm_1062 : Cond.methodLink RL 106 yX9_both ∈ lw_tbl := List.mem_of_getElem? (i := 1062) (by decide +kernel)
theorem wm_1063 : Cond.instanceMethod yX9_both ∈ lw_tbl := List.mem_of_getElem? (i := 1063) (by decide +kernel)
theorem wm_1064 : Cond.selects yX9_both.cls yX9_both yX9_both ∈ lw_tbl := List.mem_of_getElem? (i := 1064) (by decide +kernel)
theorem wm_1065 : Cond.code YX9_both.1 YX9_both.2.1 YX9_both.2.2.1 YX9_both.2.2.2 ∈ lw_tbl := List.mem_of_getElem? (i := 1065) (by decide +kernel)
theorem cv_L_106 : CV RL 106 YX9_both 3 := ⟨wm_1062, wm_1063, wm_1064, wm_67, wm_1065, ⟨by decide +kernel, by decide +kernel, by decide +kernel⟩⟩
theorem wm_1066 : Cond.methodLink RL 110 yX9_worth ∈ lw_tbl := List.mem_of_getElem? (i := 1066) (by decide +kernel)
theorem wm_1067 : Cond.instanceMethod yX9_worth ∈ lw_tbl := List.mem_of_getElem? (i := 1067) (by decide +kernel)
theorem wm_1068 : Cond.selects yX9_worth.cls yX9_worth yX9_worth ∈ lw_tbl := List.mem_of_getElem? (i := 1068) (by decide +kernel)
theorem wm_1069 : Cond.code YX9_worth.1 YX9_worth.2.1 YX9_worth.2.2.1 YX9_worth.2.2.2 ∈ lw_tbl := List.mem_of_getElem? (i := 1069) (by decide +kernel)
theorem cv_L_110 : CV RL 110 YX9_worth 2 := ⟨wm_1066, wm_1067, wm_1068, wm_67, wm_1069, ⟨by decide +kernel, by decide +kernel, by decide +kernel⟩⟩
theorem wm_1071 : Cond.methodLink RL 114 yX9_secret ∈ lw_tbl := List.mem_of_getElem? (i := 1071) (by decide +kernel)
theorem wm_1072 : Cond.instanceMethod yX9_secret ∈ lw_tbl := List.mem_of_getElem? (i := 1072) (by decide +kernel)
theorem wm_1073 : Cond.selects yX9_secret.cls yX9_secret yX9_secret ∈ lw_tbl := List.mem_of_getElem? (i := 1073) (by decide +kernel)
theorem wm_1074 : Cond.code YX9_secret.1 YX9_secret.2.1 YX9_secret.2.2.1 YX9_secret.2.2.2 ∈ lw_tbl := List.mem_of_getElem? (i := 1074) (by decide +kernel)
theorem cv_L_114 : CV RL 114 YX9_secret 2 := ⟨wm_1071, wm_1072, wm_1073, wm_67, wm_1074, ⟨by decide +kernel, by decide +kernel, by decide +kernel⟩⟩
theorem wm_1076 : Cond.methodLink RL 118 yX9_hear ∈ lw_tbl := List.mem_of_getElem? (i := 1076) (by decide +kernel)
theorem wm_1077 : Cond.instanceMethod yX9_hear ∈ lw_tbl := List.mem_of_getElem? (i := 1077) (by decide +kernel)
theorem wm_1078 : Cond.selects yX9_hear.cls yX9_hear yX9_hear ∈ lw_tbl := List.mem_of_getElem? (i := 1078) (by decide +kernel)
theorem wm_1079 : Cond.code YX9_hear.1 YX9_hear.2.1 YX9_hear.2.2.1 YX9_hear.2.2.2 ∈ lw_tbl := List.mem_of_getElem? (i := 1079) (by decide +kernel)
theorem cv_L_118 : CV RL 118 YX9_hear 2 := ⟨wm_1076, wm_1077, wm_1078, wm_67, wm_1079, ⟨by decide +kernel, by decide +kernel, by decide +kernel⟩⟩
theorem wm_1080 : Cond.methodLink RL 122 yX9_paid ∈ lw_tbl := List.mem_of_getElem? (i := 1080) (by decide +kernel)
theorem wm_1081 : Cond.instanceMethod yX9_paid ∈ lw_tbl := List.mem_of_getElem? (i := 1081) (by decide +kernel)
theorem wm_1082 : Cond.selects yX9_paid.cls yX9_paid yX9_paid ∈ lw_tbl := List.mem_of_getElem? (i := 1082) (by decide +kernel)
theorem wm_1083 : Cond.code YX9_paid.1 YX9_paid.2.1 YX9_paid.2.2.1 YX9_paid.2.2.2 ∈ lw_tbl := List.mem_of_getElem? (i := 1083) (by decide +kernel)
theorem cv_L_122 : CV RL 122 YX9_paid 0 := ⟨wm_1080, wm_1081, wm_1082, wm_67, wm_1083, ⟨by decide +kernel, by decide +kernel, by decide +kernel⟩⟩
theorem wm_1084 : Cond.methodLink RX9 227 yX9_paidSet ∈ lw_tbl := List.mem_of_getElem? (i := 1084) (by decide +kernel)
theorem wm_1086 : Cond.instanceMethod yX9_paidSet ∈ lw_tbl := List.mem_of_getElem? (i := 1086) (by decide +kernel)
theorem wm_55 : Cond.selects yX9_paidSet.cls yX9_paidSet yX9_paidSet ∈ lw_tbl := List.mem_of_getElem? (i := 55) (by decide +kernel)
theorem wm_1087 : Cond.code YX9_paidSet.1 YX9_paidSet.2.1 YX9_paidSet.2.2.1 YX9_paidSet.2.2.2 ∈ lw_tbl := List.mem_of_getElem? (i := 1087) (by decide +kernel)
theorem cv_X9_227 : CV RX9 227 YX9_paidSet 0 := ⟨wm_1084, wm_1086, wm_55, wm_67, wm_1087, ⟨by decide +kernel, by decide +kernel, by decide +kernel⟩⟩
theorem wm_1088 : Cond.methodLink RX9 224 yX9_gotBy ∈ lw_tbl := List.mem_of_getElem? (i := 1088) (by decide +kernel)
theorem wm_1090 : Cond.instanceMethod yX9_gotBy ∈ lw_tbl := List.mem_of_getElem? (i := 1090) (by decide +kernel)
theorem wm_56 : Cond.selects yX9_gotBy.cls yX9_gotBy yX9_gotBy ∈ lw_tbl := List.mem_of_getElem? (i := 56) (by decide +kernel)
theorem wm_1091 : Cond.code YX9_gotBy.1 YX9_gotBy.2.1 YX9_gotBy.2.2.1 YX9_gotBy.2.2.2 ∈ lw_tbl := List.mem_of_getElem? (i := 1091) (by decide +kernel)
theorem cv_X9_224 : CV RX9 224 YX9_gotBy 2 := ⟨wm_1088, wm_1090, wm_56, wm_67, wm_1091, ⟨by decide +kernel, by decide +kernel, by decide +kernel⟩⟩
theorem wm_1092 : Cond.methodLink RL 126 yX9_ask ∈ lw_tbl := List.mem_of_getElem? (i := 1092) (by decide +kernel)
theorem wm_1093 : Cond.instanceMethod yX9_ask ∈ lw_tbl := List.mem_of_getElem? (i := 1093) (by decide +kernel)
theorem wm_1094 : Cond.selects yX9_ask.cls yX9_ask yX9_ask ∈ lw_tbl := List.mem_of_getElem? (i := 1094) (by decide +kernel)
theorem wm_1095 : Cond.code YX9_ask.1 YX9_ask.2.1 YX9_ask.2.2.1 YX9_ask.2.2.2 ∈ lw_tbl := List.mem_of_getElem? (i := 1095) (by decide +kernel)
theorem cv_L_126 : CV RL 126 YX9_ask 0 := ⟨wm_1092, wm_1093, wm_1094, wm_67, wm_1095, ⟨by decide +kernel, by decide +kernel, by decide +kernel⟩⟩
theorem wm_1096 : Cond.methodLink RL 130 yX9_write ∈ lw_tbl := List.mem_of_getElem? (i := 1096) (by decide +kernel)
theorem wm_1097 : Cond.instanceMethod yX9_write ∈ lw_tbl := List.mem_of_getElem? (i := 1097) (by decide +kernel)
theorem wm_1098 : Cond.selects yX9_write.cls yX9_write yX9_write ∈ lw_tbl := List.mem_of_getElem? (i := 1098) (by decide +kernel)
theorem wm_1099 : Cond.code YX9_write.1 YX9_write.2.1 YX9_write.2.2.1 YX9_write.2.2.2 ∈ lw_tbl := List.mem_of_getElem? (i := 1099) (by decide +kernel)
theorem cv_L_130 : CV RL 130 YX9_write 1 := ⟨wm_1096, wm_1097, wm_1098, wm_67, wm_1099, ⟨by decide +kernel, by decide +kernel, by decide +kernel⟩⟩
theorem wm_1100 : Cond.methodLink RL 134 yX9_tear ∈ lw_tbl := List.mem_of_getElem? (i := 1100) (by decide +kernel)
theorem wm_1101 : Cond.instanceMethod yX9_tear ∈ lw_tbl := List.mem_of_getElem? (i := 1101) (by decide +kernel)
theorem wm_1102 : Cond.selects yX9_tear.cls yX9_tear yX9_tear ∈ lw_tbl := List.mem_of_getElem? (i := 1102) (by decide +kernel)
theorem wm_1103 : Cond.code YX9_tear.1 YX9_tear.2.1 YX9_tear.2.2.1 YX9_tear.2.2.2 ∈ lw_tbl := List.mem_of_getElem? (i := 1103) (by decide +kernel)
theorem cv_L_134 : CV RL 134 YX9_tear 0 := ⟨wm_1100, wm_1101, wm_1102, wm_67, wm_1103, ⟨by decide +kernel, by decide +kernel, by decide +kernel⟩⟩
theorem wm_1104 : Cond.methodLink RL 138 yX9_judge ∈ lw_tbl := List.mem_of_getElem? (i := 1104) (by decide +kernel)
theorem wm_1105 : Cond.instanceMethod yX9_judge ∈ lw_tbl := List.mem_of_getElem? (i := 1105) (by decide +kernel)
theorem wm_1106 : Cond.selects yX9_judge.cls yX9_judge yX9_judge ∈ lw_tbl := List.mem_of_getElem? (i := 1106) (by decide +kernel)
theorem wm_1107 : Cond.code YX9_judge.1 YX9_judge.2.1 YX9_judge.2.2.1 YX9_judge.2.2.2 ∈ lw_tbl := List.mem_of_getElem? (i := 1107) (by decide +kernel)
theorem cv_L_138 : CV RL 138 YX9_judge 0 := ⟨wm_1104, wm_1105, wm_1106, wm_67, wm_1107, ⟨by decide +kernel, by decide +kernel, by decide +kernel⟩⟩
theorem wm_1108 : Cond.methodLink RL 142 yX9_seed ∈ lw_tbl := List.mem_of_getElem? (i := 1108) (by decide +kernel)
theorem wm_1109 : Cond.instanceMethod yX9_seed ∈ lw_tbl := List.mem_of_getElem? (i := 1109) (by decide +kernel)
theorem wm_1110 : Cond.selects yX9_seed.cls yX9_seed yX9_seed ∈ lw_tbl := List.mem_of_getElem? (i := 1110) (by decide +kernel)
theorem wm_1111 : Cond.code YX9_seed.1 YX9_seed.2.1 YX9_seed.2.2.1 YX9_seed.2.2.2 ∈ lw_tbl := List.mem_of_getElem? (i := 1111) (by decide +kernel)
theorem cv_L_142 : CV RL 142 YX9_seed 1 := ⟨wm_1108, wm_1109, wm_1110, wm_67, wm_1111, ⟨by decide +kernel, by decide +kernel, by decide +kernel⟩⟩
theorem wm_1112 : Cond.methodLink RL 146 yX9_keep ∈ lw_tbl := List.mem_of_getElem? (i := 1112) (by decide +kernel)
theorem wm_1113 : Cond.instanceMethod yX9_keep ∈ lw_tbl := List.mem_of_getElem? (i := 1113) (by decide +kernel)
theorem wm_1114 : Cond.selects yX9_keep.cls yX9_keep yX9_keep ∈ lw_tbl := List.mem_of_getElem? (i := 1114) (by decide +kernel)
theorem wm_1115 : Cond.code YX9_keep.1 YX9_keep.2.1 YX9_keep.2.2.1 YX9_keep.2.2.2 ∈ lw_tbl := List.mem_of_getElem? (i := 1115) (by decide +kernel)
theorem cv_L_146 : CV RL 146 YX9_keep 1 := ⟨wm_1112, wm_1113, wm_1114, wm_67, wm_1115, ⟨by decide +kernel, by decide +kernel, by decide +kernel⟩⟩
theorem wm_1116 : Cond.methodLink RL 150 yX9_goBack ∈ lw_tbl := List.mem_of_getElem? (i := 1116) (by decide +kernel)
theorem wm_1117 : Cond.instanceMethod yX9_goBack ∈ lw_tbl := List.mem_of_getElem? (i := 1117) (by decide +kernel)
theorem wm_1118 : Cond.selects yX9_goBack.cls yX9_goBack yX9_goBack ∈ lw_tbl := List.mem_of_getElem? (i := 1118) (by decide +kernel)
theorem wm_1119 : Cond.code YX9_goBack.1 YX9_goBack.2.1 YX9_goBack.2.2.1 YX9_goBack.2.2.2 ∈ lw_tbl := List.mem_of_getElem? (i := 1119) (by decide +kernel)
theorem cv_L_150 : CV RL 150 YX9_goBack 1 := ⟨wm_1116, wm_1117, wm_1118, wm_67, wm_1119, ⟨by decide +kernel, by decide +kernel, by decide +kernel⟩⟩
theorem wm_80 : Cond.methodLinkNest RX8 15 yX7_init "TurningWheel" ∈ lw_tbl := List.mem_of_getElem? (i := 80) (by decide +kernel)
theorem wm_81 : Cond.instanceMethod yX7_init ∈ lw_tbl := List.mem_of_getElem? (i := 81) (by decide +kernel)
theorem wm_82 : Cond.code YX7_init.1 YX7_init.2.1 YX7_init.2.2.1 YX7_init.2.2.2 ∈ lw_tbl := List.mem_of_getElem? (i := 82) (by decide +kernel)
theorem cv_X8_15 : CJ RX8 15 YX7_init 0 := ⟨wm_80, ⟨rfl, wm_81⟩, wm_59, wm_82, ⟨by decide +kernel, by decide +kernel, by decide +kernel⟩⟩
theorem wm_86 : Cond.methodLinkNest RX7 27 yX2_init "TurningWheel" ∈ lw_tbl := List.mem_of_getElem? (i := 86) (by decide +kernel)
theorem wm_87 : Cond.instanceMethod yX2_init ∈ lw_tbl := List.mem_of_getElem? (i := 87) (by decide +kernel)
theorem wm_88 : Cond.code YX2_init.1 YX2_init.2.1 YX2_init.2.2.1 YX2_init.2.2.2 ∈ lw_tbl := List.mem_of_getElem? (i := 88) (by decide +kernel)
theorem cv_X7_27 : CJ RX7 27 YX2_init 0 := ⟨wm_86, ⟨rfl, wm_87⟩, wm_60, wm_88, ⟨by decide +kernel, by decide +kernel, by decide +kernel⟩⟩
theorem wm_185 : Cond.methodLinkNest RX8 22 yX2_init "TurningWheel" ∈ lw_tbl := List.mem_of_getElem? (i := 185) (by decide +kernel)
theorem cv_X8_22 : CJ RX8 22 YX2_init 0 := ⟨wm_185, ⟨rfl, wm_87⟩, wm_60, wm_88, ⟨by decide +kernel, by decide +kernel, by decide +kernel⟩⟩
theorem wm_188 : Cond.methodLinkNest RX8 29 yX0_init "TurningWheel" ∈ lw_tbl := List.mem_of_getElem? (i := 188) (by decide +kernel)
theorem wm_189 : Cond.instanceMethod yX0_init ∈ lw_tbl := List.mem_of_getElem? (i := 189) (by decide +kernel)
theorem wm_190 : Cond.code YX0_init.1 YX0_init.2.1 YX0_init.2.2.1 YX0_init.2.2.2 ∈ lw_tbl := List.mem_of_getElem? (i := 190) (by decide +kernel)
theorem cv_X8_29 : CJ RX8 29 YX0_init 0 := ⟨wm_188, ⟨rfl, wm_189⟩, wm_61, wm_190, ⟨by decide +kernel, by decide +kernel, by decide +kernel⟩⟩
theorem wm_237 : Cond.methodLinkNest RX5 24 yX0_init "TurningWheel" ∈ lw_tbl := List.mem_of_getElem? (i := 237) (by decide +kernel)
theorem cv_X5_24 : CJ RX5 24 YX0_init 0 := ⟨wm_237, ⟨rfl, wm_189⟩, wm_61, wm_190, ⟨by decide +kernel, by decide +kernel, by decide +kernel⟩⟩
theorem wm_251 : Cond.methodLinkNest RX8 43 yX4_init "TurningWheel" ∈ lw_tbl := List.mem_of_getElem? (i := 251) (by decide +kernel)
theorem wm_252 : Cond.instanceMethod yX4_init ∈ lw_tbl := List.mem_of_getElem? (i := 252) (by decide +kernel)
theorem wm_253 : Cond.code YX4_init.1 YX4_init.2.1 YX4_init.2.2.1 YX4_init.2.2.2 ∈ lw_tbl := List.mem_of_getElem? (i := 253) (by decide +kernel)
theorem cv_X8_43 : CJ RX8 43 YX4_init 0 := ⟨wm_251, ⟨rfl, wm_252⟩, wm_63, wm_253, ⟨by decide +kernel, by decide +kernel, by decide +kernel⟩⟩
theorem wm_269 : Cond.methodLinkNest RX8 50 yX1_init "TurningWheel" ∈ lw_tbl := List.mem_of_getElem? (i := 269) (by decide +kernel)
theorem wm_270 : Cond.instanceMethod yX1_init ∈ lw_tbl := List.mem_of_getElem? (i := 270) (by decide +kernel)
theorem wm_271 : Cond.code YX1_init.1 YX1_init.2.1 YX1_init.2.2.1 YX1_init.2.2.2 ∈ lw_tbl := List.mem_of_getElem? (i := 271) (by decide +kernel)
theorem cv_X8_50 : CJ RX8 50 YX1_init 0 := ⟨wm_269, ⟨rfl, wm_270⟩, wm_64, wm_271, ⟨by decide +kernel, by decide +kernel, by decide +kernel⟩⟩
theorem wm_283 : Cond.methodLinkNest RX8 57 yX3_init "TurningWheel" ∈ lw_tbl := List.mem_of_getElem? (i := 283) (by decide +kernel)
theorem wm_284 : Cond.instanceMethod yX3_init ∈ lw_tbl := List.mem_of_getElem? (i := 284) (by decide +kernel)
theorem wm_285 : Cond.code YX3_init.1 YX3_init.2.1 YX3_init.2.2.1 YX3_init.2.2.2 ∈ lw_tbl := List.mem_of_getElem? (i := 285) (by decide +kernel)
theorem cv_X8_57 : CJ RX8 57 YX3_init 0 := ⟨wm_283, ⟨rfl, wm_284⟩, wm_65, wm_285, ⟨by decide +kernel, by decide +kernel, by decide +kernel⟩⟩
theorem wm_295 : Cond.methodLinkNest RX8 68 yX6_init "TurningWheel" ∈ lw_tbl := List.mem_of_getElem? (i := 295) (by decide +kernel)
theorem wm_296 : Cond.instanceMethod yX6_init ∈ lw_tbl := List.mem_of_getElem? (i := 296) (by decide +kernel)
theorem wm_66 : Cond.initialized RX6 ∈ lw_tbl := List.mem_of_getElem? (i := 66) (by decide +kernel)
theorem wm_297 : Cond.code YX6_init.1 YX6_init.2.1 YX6_init.2.2.1 YX6_init.2.2.2 ∈ lw_tbl := List.mem_of_getElem? (i := 297) (by decide +kernel)
theorem cv_X8_68 : CJ RX8 68 YX6_init 0 := ⟨wm_295, ⟨rfl, wm_296⟩, wm_66, wm_297, ⟨by decide +kernel, by decide +kernel, by decide +kernel⟩⟩
theorem wm_300 : Cond.methodLinkNest RX6 15 yX0_init "TurningWheel" ∈ lw_tbl := List.mem_of_getElem? (i := 300) (by decide +kernel)
theorem cv_X6_15 : CJ RX6 15 YX0_init 0 := ⟨wm_300, ⟨rfl, wm_189⟩, wm_61, wm_190, ⟨by decide +kernel, by decide +kernel, by decide +kernel⟩⟩
theorem wm_398 : Cond.methodLinkNest RX7 133 yX8_within "TurningWheel" ∈ lw_tbl := List.mem_of_getElem? (i := 398) (by decide +kernel)
theorem cv_X7_133 : CN RX7 133 YX8_within 3 := ⟨wm_398, wm_347, wm_58, wm_348, ⟨by decide +kernel, by decide +kernel, by decide +kernel⟩⟩
theorem wm_419 : Cond.methodLinkNest RX7 106 yX8_has "TurningWheel" ∈ lw_tbl := List.mem_of_getElem? (i := 419) (by decide +kernel)
theorem cv_X7_106 : CN RX7 106 YX8_has 2 := ⟨wm_419, wm_420, wm_58, wm_421, ⟨by decide +kernel, by decide +kernel, by decide +kernel⟩⟩
theorem wm_466 : Cond.methodLinkNest RX2 54 yX8_has "TurningWheel" ∈ lw_tbl := List.mem_of_getElem? (i := 466) (by decide +kernel)
theorem cv_X2_54 : CN RX2 54 YX8_has 2 := ⟨wm_466, wm_420, wm_58, wm_421, ⟨by decide +kernel, by decide +kernel, by decide +kernel⟩⟩
theorem wm_491 : Cond.methodLinkNest RX2 46 yX8_within "TurningWheel" ∈ lw_tbl := List.mem_of_getElem? (i := 491) (by decide +kernel)
theorem cv_X2_46 : CN RX2 46 YX8_within 3 := ⟨wm_491, wm_347, wm_58, wm_348, ⟨by decide +kernel, by decide +kernel, by decide +kernel⟩⟩
theorem wm_533 : Cond.methodLinkNest RX0 51 yX8_has "TurningWheel" ∈ lw_tbl := List.mem_of_getElem? (i := 533) (by decide +kernel)
theorem cv_X0_51 : CN RX0 51 YX8_has 2 := ⟨wm_533, wm_420, wm_58, wm_421, ⟨by decide +kernel, by decide +kernel, by decide +kernel⟩⟩
theorem wm_538 : Cond.methodLinkNest RX0 72 yX8_within "TurningWheel" ∈ lw_tbl := List.mem_of_getElem? (i := 538) (by decide +kernel)
theorem cv_X0_72 : CN RX0 72 YX8_within 3 := ⟨wm_538, wm_347, wm_58, wm_348, ⟨by decide +kernel, by decide +kernel, by decide +kernel⟩⟩
theorem wm_711 : Cond.methodLinkNest RX4 44 yX8_has "TurningWheel" ∈ lw_tbl := List.mem_of_getElem? (i := 711) (by decide +kernel)
theorem cv_X4_44 : CN RX4 44 YX8_has 2 := ⟨wm_711, wm_420, wm_58, wm_421, ⟨by decide +kernel, by decide +kernel, by decide +kernel⟩⟩
theorem wm_71 : Cond.instantiable RX8 9 ∈ lw_tbl := List.mem_of_getElem? (i := 71) (by decide +kernel)
theorem ck_L_7 : CK RL 7 8 := ⟨RX8, TX8, 9, rfl, List.mem_of_getElem? (i := 70) (by decide +kernel), wm_71, wm_58⟩
theorem wm_79 : Cond.instantiable RX7 10 ∈ lw_tbl := List.mem_of_getElem? (i := 79) (by decide +kernel)
theorem ck_X8_13 : CK RX8 13 7 := ⟨RX7, TX7, 10, rfl, List.mem_of_getElem? (i := 78) (by decide +kernel), wm_79, wm_59⟩
theorem wm_85 : Cond.instantiable RX2 11 ∈ lw_tbl := List.mem_of_getElem? (i := 85) (by decide +kernel)
theorem ck_X7_25 : CK RX7 25 2 := ⟨RX2, TX2, 11, rfl, List.mem_of_getElem? (i := 84) (by decide +kernel), wm_85, wm_60⟩
theorem ck_X8_20 : CK RX8 20 2 := ⟨RX2, TX2, 11, rfl, List.mem_of_getElem? (i := 184) (by decide +kernel), wm_85, wm_60⟩
theorem wm_187 : Cond.instantiable RX0 9 ∈ lw_tbl := List.mem_of_getElem? (i := 187) (by decide +kernel)
theorem ck_X8_27 : CK RX8 27 0 := ⟨RX0, TX0, 9, rfl, List.mem_of_getElem? (i := 186) (by decide +kernel), wm_187, wm_61⟩
theorem wm_230 : Cond.instantiable RX5 3 ∈ lw_tbl := List.mem_of_getElem? (i := 230) (by decide +kernel)
theorem ck_X8_34 : CK RX8 34 5 := ⟨RX5, TX5, 3, rfl, List.mem_of_getElem? (i := 229) (by decide +kernel), wm_230, wm_62⟩
theorem ck_X5_9 : CK RX5 9 0 := ⟨RX0, TX0, 9, rfl, List.mem_of_getElem? (i := 235) (by decide +kernel), wm_187, wm_61⟩
theorem wm_250 : Cond.instantiable RX4 3 ∈ lw_tbl := List.mem_of_getElem? (i := 250) (by decide +kernel)
theorem ck_X8_41 : CK RX8 41 4 := ⟨RX4, TX4, 3, rfl, List.mem_of_getElem? (i := 249) (by decide +kernel), wm_250, wm_63⟩
theorem wm_268 : Cond.instantiable RX1 2 ∈ lw_tbl := List.mem_of_getElem? (i := 268) (by decide +kernel)
theorem ck_X8_48 : CK RX8 48 1 := ⟨RX1, TX1, 2, rfl, List.mem_of_getElem? (i := 267) (by decide +kernel), wm_268, wm_64⟩
theorem wm_282 : Cond.instantiable RX3 1 ∈ lw_tbl := List.mem_of_getElem? (i := 282) (by decide +kernel)
theorem ck_X8_55 : CK RX8 55 3 := ⟨RX3, TX3, 1, rfl, List.mem_of_getElem? (i := 281) (by decide +kernel), wm_282, wm_65⟩
theorem wm_294 : Cond.instantiable RX6 3 ∈ lw_tbl := List.mem_of_getElem? (i := 294) (by decide +kernel)
theorem ck_X8_62 : CK RX8 62 6 := ⟨RX6, TX6, 3, rfl, List.mem_of_getElem? (i := 292) (by decide +kernel), wm_294, wm_66⟩
theorem ck_X6_13 : CK RX6 13 0 := ⟨RX0, TX0, 9, rfl, List.mem_of_getElem? (i := 299) (by decide +kernel), wm_187, wm_61⟩
theorem wm_747 : Cond.instantiable RX9 24 ∈ lw_tbl := List.mem_of_getElem? (i := 747) (by decide +kernel)
theorem ck_L_10 : CK RL 10 9 := ⟨RX9, TX9, 24, rfl, List.mem_of_getElem? (i := 746) (by decide +kernel), wm_747, wm_67⟩
theorem kn_X8_73 : Cond.constant RX8 73 (-1000000002) ∈ lw_tbl := List.mem_of_getElem? (i := 349) (by decide +kernel)
theorem kn_X8_81 : Cond.constant RX8 81 (-1000000004) ∈ lw_tbl := List.mem_of_getElem? (i := 354) (by decide +kernel)
theorem kn_X8_289 : Cond.constant RX8 289 (999999) ∈ lw_tbl := List.mem_of_getElem? (i := 479) (by decide +kernel)
theorem kn_X8_150 : Cond.constant RX8 150 (-1000000001) ∈ lw_tbl := List.mem_of_getElem? (i := 492) (by decide +kernel)
theorem kn_X8_197 : Cond.constant RX8 197 (-1000000003) ∈ lw_tbl := List.mem_of_getElem? (i := 519) (by decide +kernel)
theorem kn_X0_76 : Cond.constant RX0 76 (999999) ∈ lw_tbl := List.mem_of_getElem? (i := 539) (by decide +kernel)
theorem kn_X3_19 : Cond.constant RX3 19 (65536) ∈ lw_tbl := List.mem_of_getElem? (i := 587) (by decide +kernel)
theorem kn_J6_265 : Cond.constant RJ6 265 (1431655765) ∈ lw_tbl := List.mem_of_getElem? (i := 629) (by decide +kernel)
theorem kn_J6_266 : Cond.constant RJ6 266 (858993459) ∈ lw_tbl := List.mem_of_getElem? (i := 630) (by decide +kernel)
theorem kn_J6_267 : Cond.constant RJ6 267 (252645135) ∈ lw_tbl := List.mem_of_getElem? (i := 631) (by decide +kernel)
theorem kn_X8_247 : Cond.constant RX8 247 (100000) ∈ lw_tbl := List.mem_of_getElem? (i := 669) (by decide +kernel)
theorem kn_X8_248 : Cond.constant RX8 248 (1000000) ∈ lw_tbl := List.mem_of_getElem? (i := 674) (by decide +kernel)
theorem kn_X9_67 : Cond.constant RX9 67 (-1000000002) ∈ lw_tbl := List.mem_of_getElem? (i := 832) (by decide +kernel)
theorem kn_X9_71 : Cond.constant RX9 71 (-1000000004) ∈ lw_tbl := List.mem_of_getElem? (i := 833) (by decide +kernel)
theorem kn_X9_139 : Cond.constant RX9 139 (999999) ∈ lw_tbl := List.mem_of_getElem? (i := 915) (by decide +kernel)
theorem kn_X9_153 : Cond.constant RX9 153 (-1000000001) ∈ lw_tbl := List.mem_of_getElem? (i := 924) (by decide +kernel)
theorem kn_X9_168 : Cond.constant RX9 168 (-1000000003) ∈ lw_tbl := List.mem_of_getElem? (i := 953) (by decide +kernel)
theorem kn_X9_197 : Cond.constant RX9 197 (65536) ∈ lw_tbl := List.mem_of_getElem? (i := 1009) (by decide +kernel)
theorem kn_X9_222 : Cond.constant RX9 222 (100000) ∈ lw_tbl := List.mem_of_getElem? (i := 1070) (by decide +kernel)
theorem kn_X9_223 : Cond.constant RX9 223 (1000000) ∈ lw_tbl := List.mem_of_getElem? (i := 1075) (by decide +kernel)
theorem kn_X3_13 : Cond.constantLong RX3 13 (1103515245) ∈ lw_tbl := List.mem_of_getElem? (i := 584) (by decide +kernel)
theorem kn_X3_15 : Cond.constantLong RX3 15 (12345) ∈ lw_tbl := List.mem_of_getElem? (i := 585) (by decide +kernel)
theorem kn_X3_17 : Cond.constantLong RX3 17 (2147483648) ∈ lw_tbl := List.mem_of_getElem? (i := 586) (by decide +kernel)
theorem kn_X2_66 : Cond.constantLong RX2 66 (1000000) ∈ lw_tbl := List.mem_of_getElem? (i := 609) (by decide +kernel)
theorem kn_X8_298 : Cond.constantLong RX8 298 (1000000) ∈ lw_tbl := List.mem_of_getElem? (i := 657) (by decide +kernel)
theorem kn_X9_191 : Cond.constantLong RX9 191 (1103515245) ∈ lw_tbl := List.mem_of_getElem? (i := 1006) (by decide +kernel)
theorem kn_X9_193 : Cond.constantLong RX9 193 (12345) ∈ lw_tbl := List.mem_of_getElem? (i := 1007) (by decide +kernel)
theorem kn_X9_195 : Cond.constantLong RX9 195 (2147483647) ∈ lw_tbl := List.mem_of_getElem? (i := 1008) (by decide +kernel)
theorem kn_X9_201 : Cond.constantLong RX9 201 (1000000) ∈ lw_tbl := List.mem_of_getElem? (i := 1022) (by decide +kernel)
theorem ac_int : Cond.arrayClass .int ∈ lw_tbl := List.mem_of_getElem? (i := 150) (by decide +kernel)
theorem ac_boolean : Cond.arrayClass .boolean ∈ lw_tbl := List.mem_of_getElem? (i := 266) (by decide +kernel)
theorem ao_0 : Cond.arrayOver (.object RX0) ∈ lw_tbl := List.mem_of_getElem? (i := 236) (by decide +kernel)
theorem ao_6 : Cond.arrayOver (.object RX6) ∈ lw_tbl := List.mem_of_getElem? (i := 293) (by decide +kernel)
theorem oi_in : Cond.instanceMethod Lib.objectInit ∈ lw_tbl := List.mem_of_getElem? (i := 76) (by decide +kernel)
theorem oi_co : Cond.code Lib.objectInit ⟨#[0xb1]⟩ 1 none ∈ lw_tbl := List.mem_of_getElem? (i := 77) (by decide +kernel)
theorem oi_X8 : Cond.methodLink RX8 1 Lib.objectInit ∈ lw_tbl := List.mem_of_getElem? (i := 75) (by decide +kernel)
theorem oi_X7 : Cond.methodLink RX7 3 Lib.objectInit ∈ lw_tbl := List.mem_of_getElem? (i := 83) (by decide +kernel)
theorem oi_X2 : Cond.methodLink RX2 3 Lib.objectInit ∈ lw_tbl := List.mem_of_getElem? (i := 89) (by decide +kernel)
theorem oi_X0 : Cond.methodLink RX0 3 Lib.objectInit ∈ lw_tbl := List.mem_of_getElem? (i := 191) (by decide +kernel)
theorem oi_X5 : Cond.methodLink RX5 3 Lib.objectInit ∈ lw_tbl := List.mem_of_getElem? (i := 234) (by decide +kernel)
theorem oi_X4 : Cond.methodLink RX4 3 Lib.objectInit ∈ lw_tbl := List.mem_of_getElem? (i := 254) (by decide +kernel)
theorem oi_X1 : Cond.methodLink RX1 3 Lib.objectInit ∈ lw_tbl := List.mem_of_getElem? (i := 272) (by decide +kernel)
theorem oi_X3 : Cond.methodLink RX3 1 Lib.objectInit ∈ lw_tbl := List.mem_of_getElem? (i := 286) (by decide +kernel)
theorem oi_X6 : Cond.methodLink RX6 1 Lib.objectInit ∈ lw_tbl := List.mem_of_getElem? (i := 298) (by decide +kernel)
theorem oi_X9 : Cond.methodLink RX9 1 Lib.objectInit ∈ lw_tbl := List.mem_of_getElem? (i := 751) (by decide +kernel)
