def FL (own : String) (idx ci j : Nat) (ty : FieldType) (fin : Bool) : Prop := ∃ (C : String) (T : u_T) (N : Nat), vwCl[ci]? = some (C, T, N) ∧ j < N ∧ Cond.fieldLink own idx C (T j).2.1 (T j).2.2.1 ∈ lw_tbl ∧ (T j).1 = C ∧ (T j).2.2.2 = fin ∧ parseFieldDescriptor (T j).2.2.1 = some ty
def CV (own : String) (idx : Nat) (Y : Card) (k : Nat) : Prop := Cond.methodLink own idx Y.1 ∈ lw_tbl ∧ Cond.instanceMethod Y.1 ∈ lw_tbl ∧ Cond.selects Y.1.cls Y.1 Y.1 ∈ lw_tbl ∧ Cond.initialized Y.1.cls ∈ lw_tbl ∧ Cond.code Y.1 Y.2.1 Y.2.2.1 Y.2.2.2 ∈ lw_tbl ∧ (Y.1.cls ≠ "java/lang/invoke/MethodHandle" ∧ Y.1.cls ≠ "java/lang/invoke/VarHandle" ∧ (parseMethodDescriptor Y.1.desc).map (fun d => d.parameters.length) = some k)
def CS (own : String) (idx : Nat) (Y : Card) (k : Nat) : Prop := Cond.methodLink own idx Y.1 ∈ lw_tbl ∧ Cond.static Y.1 ∈ lw_tbl ∧ Cond.initialized Y.1.cls ∈ lw_tbl ∧ Cond.code Y.1 Y.2.1 Y.2.2.1 Y.2.2.2 ∈ lw_tbl ∧ (Y.1.cls ≠ "java/lang/invoke/MethodHandle" ∧ Y.1.cls ≠ "java/lang/invoke/VarHandle" ∧ (parseMethodDescriptor Y.1.desc).map (fun d => d.parameters.length) = some k)
def CN (own : String) (idx : Nat) (Y : Card) (k : Nat) : Prop := Cond.methodLinkNest own idx Y.1 "TurningWheel" ∈ lw_tbl ∧ Cond.static Y.1 ∈ lw_tbl ∧ Cond.initialized Y.1.cls ∈ lw_tbl ∧ Cond.code Y.1 Y.2.1 Y.2.2.1 Y.2.2.2 ∈ lw_tbl ∧ (Y.1.cls ≠ "java/lang/invoke/MethodHandle" ∧ Y.1.cls ≠ "java/lang/invoke/VarHandle" ∧ (parseMethodDescriptor Y.1.desc).map (fun d => d.parameters.length) = some k)
def CI (own : String) (idx : Nat) (Y : Card) (k : Nat) : Prop := Cond.methodLink own idx Y.1 ∈ lw_tbl ∧ (Y.1.name = "<init>" ∧ Cond.instanceMethod Y.1 ∈ lw_tbl) ∧ Cond.initialized Y.1.cls ∈ lw_tbl ∧ Cond.code Y.1 Y.2.1 Y.2.2.1 Y.2.2.2 ∈ lw_tbl ∧ (Y.1.cls ≠ "java/lang/invoke/MethodHandle" ∧ Y.1.cls ≠ "java/lang/invoke/VarHandle" ∧ (parseMethodDescriptor Y.1.desc).map (fun d => d.parameters.length) = some k)
def CJ (own : String) (idx : Nat) (Y : Card) (k : Nat) : Prop := Cond.methodLinkNest own idx Y.1 "TurningWheel" ∈ lw_tbl ∧ (Y.1.name = "<init>" ∧ Cond.instanceMethod Y.1 ∈ lw_tbl) ∧ Cond.initialized Y.1.cls ∈ lw_tbl ∧ Cond.code Y.1 Y.2.1 Y.2.2.1 Y.2.2.2 ∈ lw_tbl ∧ (Y.1.cls ≠ "java/lang/invoke/MethodHandle" ∧ Y.1.cls ≠ "java/lang/invoke/VarHandle" ∧ (parseMethodDescriptor Y.1.desc).map (fun d => d.parameters.length) = some k)
def CK (own : String) (idx ci : Nat) : Prop := ∃ (C : String) (T : u_T) (N : Nat), vwCl[ci]? = some (C, T, N) ∧ Cond.classLink own idx C ∈ lw_tbl ∧ Cond.instantiable C N ∈ lw_tbl ∧ Cond.initialized C ∈ lw_tbl
theorem kin_0 : ∀ w ∈ u_ws RX0 TX0 9, w ∈ lw_tbl := by decide +kernel
theorem kin_1 : ∀ w ∈ u_ws RX1 TX1 2, w ∈ lw_tbl := by decide +kernel
theorem kin_2 : ∀ w ∈ u_ws RX2 TX2 11, w ∈ lw_tbl := by decide +kernel
theorem kin_3 : ∀ w ∈ u_ws RX3 TX3 1, w ∈ lw_tbl := by decide +kernel
theorem kin_4 : ∀ w ∈ u_ws RX4 TX4 3, w ∈ lw_tbl := by decide +kernel
theorem kin_5 : ∀ w ∈ u_ws RX5 TX5 3, w ∈ lw_tbl := by decide +kernel
theorem kin_6 : ∀ w ∈ u_ws RX6 TX6 3, w ∈ lw_tbl := by decide +kernel
theorem kin_7 : ∀ w ∈ u_ws RX7 TX7 9, w ∈ lw_tbl := by decide +kernel
theorem kin_8 : ∀ w ∈ u_ws RX8 TX8 11, w ∈ lw_tbl := by decide +kernel
theorem kin_9 : ∀ w ∈ u_ws RX9 TX9 24, w ∈ lw_tbl := by decide +kernel
theorem fl_X2_9 : FL RX2 9 2 0 .int false := ⟨RX2, TX2, 11, rfl, by decide, List.mem_of_getElem? (i := 90) (by decide +kernel), rfl, rfl, by decide +kernel⟩
theorem fl_X8_98 : FL RX8 98 2 0 .int false := ⟨RX2, TX2, 11, rfl, by decide, List.mem_of_getElem? (i := 91) (by decide +kernel), rfl, rfl, by decide +kernel⟩
theorem fl_X7_81 : FL RX7 81 2 0 .int false := ⟨RX2, TX2, 11, rfl, by decide, List.mem_of_getElem? (i := 92) (by decide +kernel), rfl, rfl, by decide +kernel⟩
theorem fl_X2_15 : FL RX2 15 2 1 (.array .int) true := ⟨RX2, TX2, 11, rfl, by decide, List.mem_of_getElem? (i := 93) (by decide +kernel), rfl, rfl, by decide +kernel⟩
theorem fl_X7_91 : FL RX7 91 2 1 (.array .int) true := ⟨RX2, TX2, 11, rfl, by decide, List.mem_of_getElem? (i := 94) (by decide +kernel), rfl, rfl, by decide +kernel⟩
theorem fl_X8_151 : FL RX8 151 2 1 (.array .int) true := ⟨RX2, TX2, 11, rfl, by decide, List.mem_of_getElem? (i := 95) (by decide +kernel), rfl, rfl, by decide +kernel⟩
theorem fl_X2_19 : FL RX2 19 2 2 .int false := ⟨RX2, TX2, 11, rfl, by decide, List.mem_of_getElem? (i := 96) (by decide +kernel), rfl, rfl, by decide +kernel⟩
theorem fl_X8_101 : FL RX8 101 2 2 .int false := ⟨RX2, TX2, 11, rfl, by decide, List.mem_of_getElem? (i := 97) (by decide +kernel), rfl, rfl, by decide +kernel⟩
theorem fl_X7_103 : FL RX7 103 2 2 .int false := ⟨RX2, TX2, 11, rfl, by decide, List.mem_of_getElem? (i := 98) (by decide +kernel), rfl, rfl, by decide +kernel⟩
theorem fl_X2_22 : FL RX2 22 2 3 (.array .int) true := ⟨RX2, TX2, 11, rfl, by decide, List.mem_of_getElem? (i := 99) (by decide +kernel), rfl, rfl, by decide +kernel⟩
theorem fl_X8_158 : FL RX8 158 2 3 (.array .int) true := ⟨RX2, TX2, 11, rfl, by decide, List.mem_of_getElem? (i := 100) (by decide +kernel), rfl, rfl, by decide +kernel⟩
theorem fl_X7_112 : FL RX7 112 2 3 (.array .int) true := ⟨RX2, TX2, 11, rfl, by decide, List.mem_of_getElem? (i := 101) (by decide +kernel), rfl, rfl, by decide +kernel⟩
theorem fl_X2_25 : FL RX2 25 2 4 (.array .int) true := ⟨RX2, TX2, 11, rfl, by decide, List.mem_of_getElem? (i := 102) (by decide +kernel), rfl, rfl, by decide +kernel⟩
theorem fl_X0_69 : FL RX0 69 2 4 (.array .int) true := ⟨RX2, TX2, 11, rfl, by decide, List.mem_of_getElem? (i := 103) (by decide +kernel), rfl, rfl, by decide +kernel⟩
theorem fl_X8_161 : FL RX8 161 2 4 (.array .int) true := ⟨RX2, TX2, 11, rfl, by decide, List.mem_of_getElem? (i := 104) (by decide +kernel), rfl, rfl, by decide +kernel⟩
theorem fl_X7_115 : FL RX7 115 2 4 (.array .int) true := ⟨RX2, TX2, 11, rfl, by decide, List.mem_of_getElem? (i := 105) (by decide +kernel), rfl, rfl, by decide +kernel⟩
theorem fl_X2_28 : FL RX2 28 2 5 (.array .int) true := ⟨RX2, TX2, 11, rfl, by decide, List.mem_of_getElem? (i := 106) (by decide +kernel), rfl, rfl, by decide +kernel⟩
theorem fl_X8_164 : FL RX8 164 2 5 (.array .int) true := ⟨RX2, TX2, 11, rfl, by decide, List.mem_of_getElem? (i := 107) (by decide +kernel), rfl, rfl, by decide +kernel⟩
theorem fl_X7_118 : FL RX7 118 2 5 (.array .int) true := ⟨RX2, TX2, 11, rfl, by decide, List.mem_of_getElem? (i := 108) (by decide +kernel), rfl, rfl, by decide +kernel⟩
theorem fl_X2_31 : FL RX2 31 2 6 .int false := ⟨RX2, TX2, 11, rfl, by decide, List.mem_of_getElem? (i := 109) (by decide +kernel), rfl, rfl, by decide +kernel⟩
theorem fl_X0_48 : FL RX0 48 2 6 .int false := ⟨RX2, TX2, 11, rfl, by decide, List.mem_of_getElem? (i := 110) (by decide +kernel), rfl, rfl, by decide +kernel⟩
theorem fl_X8_104 : FL RX8 104 2 6 .int false := ⟨RX2, TX2, 11, rfl, by decide, List.mem_of_getElem? (i := 111) (by decide +kernel), rfl, rfl, by decide +kernel⟩
theorem fl_X7_121 : FL RX7 121 2 6 .int false := ⟨RX2, TX2, 11, rfl, by decide, List.mem_of_getElem? (i := 112) (by decide +kernel), rfl, rfl, by decide +kernel⟩
theorem fl_X2_34 : FL RX2 34 2 7 (.array .int) true := ⟨RX2, TX2, 11, rfl, by decide, List.mem_of_getElem? (i := 113) (by decide +kernel), rfl, rfl, by decide +kernel⟩
theorem fl_X0_47 : FL RX0 47 2 7 (.array .int) true := ⟨RX2, TX2, 11, rfl, by decide, List.mem_of_getElem? (i := 114) (by decide +kernel), rfl, rfl, by decide +kernel⟩
theorem fl_X7_124 : FL RX7 124 2 7 (.array .int) true := ⟨RX2, TX2, 11, rfl, by decide, List.mem_of_getElem? (i := 115) (by decide +kernel), rfl, rfl, by decide +kernel⟩
theorem fl_X2_37 : FL RX2 37 2 8 (.array .int) true := ⟨RX2, TX2, 11, rfl, by decide, List.mem_of_getElem? (i := 116) (by decide +kernel), rfl, rfl, by decide +kernel⟩
theorem fl_X8_177 : FL RX8 177 2 8 (.array .int) true := ⟨RX2, TX2, 11, rfl, by decide, List.mem_of_getElem? (i := 117) (by decide +kernel), rfl, rfl, by decide +kernel⟩
theorem fl_X7_127 : FL RX7 127 2 8 (.array .int) true := ⟨RX2, TX2, 11, rfl, by decide, List.mem_of_getElem? (i := 118) (by decide +kernel), rfl, rfl, by decide +kernel⟩
theorem fl_X2_40 : FL RX2 40 2 9 .int false := ⟨RX2, TX2, 11, rfl, by decide, List.mem_of_getElem? (i := 119) (by decide +kernel), rfl, rfl, by decide +kernel⟩
theorem fl_X7_57 : FL RX7 57 2 9 .int false := ⟨RX2, TX2, 11, rfl, by decide, List.mem_of_getElem? (i := 120) (by decide +kernel), rfl, rfl, by decide +kernel⟩
theorem fl_X0_58 : FL RX0 58 2 9 .int false := ⟨RX2, TX2, 11, rfl, by decide, List.mem_of_getElem? (i := 121) (by decide +kernel), rfl, rfl, by decide +kernel⟩
theorem fl_X8_107 : FL RX8 107 2 9 .int false := ⟨RX2, TX2, 11, rfl, by decide, List.mem_of_getElem? (i := 122) (by decide +kernel), rfl, rfl, by decide +kernel⟩
theorem fl_X2_43 : FL RX2 43 2 10 .int false := ⟨RX2, TX2, 11, rfl, by decide, List.mem_of_getElem? (i := 123) (by decide +kernel), rfl, rfl, by decide +kernel⟩
theorem fl_X7_60 : FL RX7 60 2 10 .int false := ⟨RX2, TX2, 11, rfl, by decide, List.mem_of_getElem? (i := 124) (by decide +kernel), rfl, rfl, by decide +kernel⟩
theorem fl_X0_55 : FL RX0 55 2 10 .int false := ⟨RX2, TX2, 11, rfl, by decide, List.mem_of_getElem? (i := 125) (by decide +kernel), rfl, rfl, by decide +kernel⟩
theorem fl_X8_110 : FL RX8 110 2 10 .int false := ⟨RX2, TX2, 11, rfl, by decide, List.mem_of_getElem? (i := 126) (by decide +kernel), rfl, rfl, by decide +kernel⟩
theorem fl_X7_41 : FL RX7 41 7 0 (.array .int) true := ⟨RX7, TX7, 9, rfl, by decide, List.mem_of_getElem? (i := 151) (by decide +kernel), rfl, rfl, by decide +kernel⟩
theorem fl_X7_9 : FL RX7 9 7 1 .int false := ⟨RX7, TX7, 9, rfl, by decide, List.mem_of_getElem? (i := 152) (by decide +kernel), rfl, rfl, by decide +kernel⟩
theorem fl_X7_15 : FL RX7 15 7 2 .int false := ⟨RX7, TX7, 9, rfl, by decide, List.mem_of_getElem? (i := 153) (by decide +kernel), rfl, rfl, by decide +kernel⟩
theorem fl_X7_21 : FL RX7 21 7 3 (.object "TurningWheel$Castle") false := ⟨RX7, TX7, 9, rfl, by decide, List.mem_of_getElem? (i := 154) (by decide +kernel), rfl, rfl, by decide +kernel⟩
theorem fl_X7_25 : FL RX7 25 7 4 .boolean false := ⟨RX7, TX7, 9, rfl, by decide, List.mem_of_getElem? (i := 155) (by decide +kernel), rfl, rfl, by decide +kernel⟩
theorem fl_X7_29 : FL RX7 29 7 5 .int false := ⟨RX7, TX7, 9, rfl, by decide, List.mem_of_getElem? (i := 156) (by decide +kernel), rfl, rfl, by decide +kernel⟩
theorem fl_X7_32 : FL RX7 32 7 6 .int false := ⟨RX7, TX7, 9, rfl, by decide, List.mem_of_getElem? (i := 157) (by decide +kernel), rfl, rfl, by decide +kernel⟩
theorem fl_X7_35 : FL RX7 35 7 7 .int false := ⟨RX7, TX7, 9, rfl, by decide, List.mem_of_getElem? (i := 158) (by decide +kernel), rfl, rfl, by decide +kernel⟩
theorem fl_X7_38 : FL RX7 38 7 8 .int false := ⟨RX7, TX7, 9, rfl, by decide, List.mem_of_getElem? (i := 159) (by decide +kernel), rfl, rfl, by decide +kernel⟩
theorem fl_X8_88 : FL RX8 88 7 8 .int false := ⟨RX7, TX7, 9, rfl, by decide, List.mem_of_getElem? (i := 160) (by decide +kernel), rfl, rfl, by decide +kernel⟩
theorem fl_X0_9 : FL RX0 9 0 0 .int false := ⟨RX0, TX0, 9, rfl, by decide, List.mem_of_getElem? (i := 188) (by decide +kernel), rfl, rfl, by decide +kernel⟩
theorem fl_X8_113 : FL RX8 113 0 0 .int false := ⟨RX0, TX0, 9, rfl, by decide, List.mem_of_getElem? (i := 189) (by decide +kernel), rfl, rfl, by decide +kernel⟩
theorem fl_X0_15 : FL RX0 15 0 1 .int false := ⟨RX0, TX0, 9, rfl, by decide, List.mem_of_getElem? (i := 190) (by decide +kernel), rfl, rfl, by decide +kernel⟩
theorem fl_X8_116 : FL RX8 116 0 1 .int false := ⟨RX0, TX0, 9, rfl, by decide, List.mem_of_getElem? (i := 191) (by decide +kernel), rfl, rfl, by decide +kernel⟩
theorem fl_X0_18 : FL RX0 18 0 2 .boolean false := ⟨RX0, TX0, 9, rfl, by decide, List.mem_of_getElem? (i := 192) (by decide +kernel), rfl, rfl, by decide +kernel⟩
theorem fl_X8_119 : FL RX8 119 0 2 .boolean false := ⟨RX0, TX0, 9, rfl, by decide, List.mem_of_getElem? (i := 193) (by decide +kernel), rfl, rfl, by decide +kernel⟩
theorem fl_X0_22 : FL RX0 22 0 3 .boolean false := ⟨RX0, TX0, 9, rfl, by decide, List.mem_of_getElem? (i := 194) (by decide +kernel), rfl, rfl, by decide +kernel⟩
theorem fl_X8_123 : FL RX8 123 0 3 .boolean false := ⟨RX0, TX0, 9, rfl, by decide, List.mem_of_getElem? (i := 195) (by decide +kernel), rfl, rfl, by decide +kernel⟩
theorem fl_X0_25 : FL RX0 25 0 4 .int false := ⟨RX0, TX0, 9, rfl, by decide, List.mem_of_getElem? (i := 196) (by decide +kernel), rfl, rfl, by decide +kernel⟩
theorem fl_X8_126 : FL RX8 126 0 4 .int false := ⟨RX0, TX0, 9, rfl, by decide, List.mem_of_getElem? (i := 197) (by decide +kernel), rfl, rfl, by decide +kernel⟩
theorem fl_X0_28 : FL RX0 28 0 5 .int false := ⟨RX0, TX0, 9, rfl, by decide, List.mem_of_getElem? (i := 198) (by decide +kernel), rfl, rfl, by decide +kernel⟩
theorem fl_X8_136 : FL RX8 136 0 5 .int false := ⟨RX0, TX0, 9, rfl, by decide, List.mem_of_getElem? (i := 199) (by decide +kernel), rfl, rfl, by decide +kernel⟩
theorem fl_X0_31 : FL RX0 31 0 6 (.array .int) true := ⟨RX0, TX0, 9, rfl, by decide, List.mem_of_getElem? (i := 200) (by decide +kernel), rfl, rfl, by decide +kernel⟩
theorem fl_X8_174 : FL RX8 174 0 6 (.array .int) true := ⟨RX0, TX0, 9, rfl, by decide, List.mem_of_getElem? (i := 201) (by decide +kernel), rfl, rfl, by decide +kernel⟩
theorem fl_X0_35 : FL RX0 35 0 7 (.array .int) true := ⟨RX0, TX0, 9, rfl, by decide, List.mem_of_getElem? (i := 202) (by decide +kernel), rfl, rfl, by decide +kernel⟩
theorem fl_X8_180 : FL RX8 180 0 7 (.array .int) true := ⟨RX0, TX0, 9, rfl, by decide, List.mem_of_getElem? (i := 203) (by decide +kernel), rfl, rfl, by decide +kernel⟩
theorem fl_X0_38 : FL RX0 38 0 8 (.array .int) true := ⟨RX0, TX0, 9, rfl, by decide, List.mem_of_getElem? (i := 204) (by decide +kernel), rfl, rfl, by decide +kernel⟩
theorem fl_X8_183 : FL RX8 183 0 8 (.array .int) true := ⟨RX0, TX0, 9, rfl, by decide, List.mem_of_getElem? (i := 205) (by decide +kernel), rfl, rfl, by decide +kernel⟩
theorem fl_X5_11 : FL RX5 11 5 0 (.array (.object "TurningWheel$Affairs")) true := ⟨RX5, TX5, 3, rfl, by decide, List.mem_of_getElem? (i := 234) (by decide +kernel), rfl, rfl, by decide +kernel⟩
theorem fl_X5_17 : FL RX5 17 5 1 .int false := ⟨RX5, TX5, 3, rfl, by decide, List.mem_of_getElem? (i := 235) (by decide +kernel), rfl, rfl, by decide +kernel⟩
theorem fl_X5_21 : FL RX5 21 5 2 .int false := ⟨RX5, TX5, 3, rfl, by decide, List.mem_of_getElem? (i := 236) (by decide +kernel), rfl, rfl, by decide +kernel⟩
theorem fl_X8_146 : FL RX8 146 5 2 .int false := ⟨RX5, TX5, 3, rfl, by decide, List.mem_of_getElem? (i := 237) (by decide +kernel), rfl, rfl, by decide +kernel⟩
theorem fl_X4_9 : FL RX4 9 4 0 (.array .int) true := ⟨RX4, TX4, 3, rfl, by decide, List.mem_of_getElem? (i := 251) (by decide +kernel), rfl, rfl, by decide +kernel⟩
theorem fl_X4_15 : FL RX4 15 4 1 (.array .boolean) true := ⟨RX4, TX4, 3, rfl, by decide, List.mem_of_getElem? (i := 252) (by decide +kernel), rfl, rfl, by decide +kernel⟩
theorem fl_X4_19 : FL RX4 19 4 2 .int false := ⟨RX4, TX4, 3, rfl, by decide, List.mem_of_getElem? (i := 253) (by decide +kernel), rfl, rfl, by decide +kernel⟩
theorem fl_X8_142 : FL RX8 142 4 2 .int false := ⟨RX4, TX4, 3, rfl, by decide, List.mem_of_getElem? (i := 254) (by decide +kernel), rfl, rfl, by decide +kernel⟩
theorem fl_X1_9 : FL RX1 9 1 0 (.array .int) true := ⟨RX1, TX1, 2, rfl, by decide, List.mem_of_getElem? (i := 269) (by decide +kernel), rfl, rfl, by decide +kernel⟩
theorem fl_X1_15 : FL RX1 15 1 1 .int false := ⟨RX1, TX1, 2, rfl, by decide, List.mem_of_getElem? (i := 270) (by decide +kernel), rfl, rfl, by decide +kernel⟩
theorem fl_X8_145 : FL RX8 145 1 1 .int false := ⟨RX1, TX1, 2, rfl, by decide, List.mem_of_getElem? (i := 271) (by decide +kernel), rfl, rfl, by decide +kernel⟩
theorem fl_X3_7 : FL RX3 7 3 0 .int false := ⟨RX3, TX3, 1, rfl, by decide, List.mem_of_getElem? (i := 283) (by decide +kernel), rfl, rfl, by decide +kernel⟩
theorem fl_X8_268 : FL RX8 268 3 0 .int false := ⟨RX3, TX3, 1, rfl, by decide, List.mem_of_getElem? (i := 284) (by decide +kernel), rfl, rfl, by decide +kernel⟩
theorem fl_X6_7 : FL RX6 7 6 0 .boolean false := ⟨RX6, TX6, 3, rfl, by decide, List.mem_of_getElem? (i := 297) (by decide +kernel), rfl, rfl, by decide +kernel⟩
theorem fl_X8_271 : FL RX8 271 6 0 .boolean false := ⟨RX6, TX6, 3, rfl, by decide, List.mem_of_getElem? (i := 298) (by decide +kernel), rfl, rfl, by decide +kernel⟩
theorem fl_X6_16 : FL RX6 16 6 1 (.object "TurningWheel$Affairs") true := ⟨RX6, TX6, 3, rfl, by decide, List.mem_of_getElem? (i := 299) (by decide +kernel), rfl, rfl, by decide +kernel⟩
theorem fl_X8_274 : FL RX8 274 6 1 (.object "TurningWheel$Affairs") true := ⟨RX6, TX6, 3, rfl, by decide, List.mem_of_getElem? (i := 300) (by decide +kernel), rfl, rfl, by decide +kernel⟩
theorem fl_X6_20 : FL RX6 20 6 2 .int false := ⟨RX6, TX6, 3, rfl, by decide, List.mem_of_getElem? (i := 301) (by decide +kernel), rfl, rfl, by decide +kernel⟩
theorem fl_X8_280 : FL RX8 280 6 2 .int false := ⟨RX6, TX6, 3, rfl, by decide, List.mem_of_getElem? (i := 302) (by decide +kernel), rfl, rfl, by decide +kernel⟩
theorem fl_X8_9 : FL RX8 9 8 0 (.array .int) true := ⟨RX8, TX8, 11, rfl, by decide, List.mem_of_getElem? (i := 310) (by decide +kernel), rfl, rfl, by decide +kernel⟩
theorem fl_X8_13 : FL RX8 13 8 1 .int false := ⟨RX8, TX8, 11, rfl, by decide, List.mem_of_getElem? (i := 311) (by decide +kernel), rfl, rfl, by decide +kernel⟩
theorem fl_X8_17 : FL RX8 17 8 2 .int false := ⟨RX8, TX8, 11, rfl, by decide, List.mem_of_getElem? (i := 312) (by decide +kernel), rfl, rfl, by decide +kernel⟩
theorem fl_X8_25 : FL RX8 25 8 3 (.object "TurningWheel$Reader") true := ⟨RX8, TX8, 11, rfl, by decide, List.mem_of_getElem? (i := 313) (by decide +kernel), rfl, rfl, by decide +kernel⟩
theorem fl_X8_32 : FL RX8 32 8 4 (.object "TurningWheel$Castle") false := ⟨RX8, TX8, 11, rfl, by decide, List.mem_of_getElem? (i := 314) (by decide +kernel), rfl, rfl, by decide +kernel⟩
theorem fl_X8_39 : FL RX8 39 8 5 (.object "TurningWheel$Affairs") true := ⟨RX8, TX8, 11, rfl, by decide, List.mem_of_getElem? (i := 315) (by decide +kernel), rfl, rfl, by decide +kernel⟩
theorem fl_X8_46 : FL RX8 46 8 6 (.object "TurningWheel$History") true := ⟨RX8, TX8, 11, rfl, by decide, List.mem_of_getElem? (i := 316) (by decide +kernel), rfl, rfl, by decide +kernel⟩
theorem fl_X8_53 : FL RX8 53 8 7 (.object "TurningWheel$Hearsay") true := ⟨RX8, TX8, 11, rfl, by decide, List.mem_of_getElem? (i := 317) (by decide +kernel), rfl, rfl, by decide +kernel⟩
theorem fl_X8_60 : FL RX8 60 8 8 (.object "TurningWheel$Book") true := ⟨RX8, TX8, 11, rfl, by decide, List.mem_of_getElem? (i := 318) (by decide +kernel), rfl, rfl, by decide +kernel⟩
theorem fl_X8_67 : FL RX8 67 8 9 (.object "TurningWheel$Draws") true := ⟨RX8, TX8, 11, rfl, by decide, List.mem_of_getElem? (i := 319) (by decide +kernel), rfl, rfl, by decide +kernel⟩
theorem fl_X8_73 : FL RX8 73 8 10 (.array (.object "TurningWheel$Image")) true := ⟨RX8, TX8, 11, rfl, by decide, List.mem_of_getElem? (i := 320) (by decide +kernel), rfl, rfl, by decide +kernel⟩
theorem fl_X9_7 : FL RX9 7 9 0 (.array .int) true := ⟨RX9, TX9, 24, rfl, by decide, List.mem_of_getElem? (i := 751) (by decide +kernel), rfl, rfl, by decide +kernel⟩
theorem fl_X9_68 : FL RX9 68 9 1 .int false := ⟨RX9, TX9, 24, rfl, by decide, List.mem_of_getElem? (i := 752) (by decide +kernel), rfl, rfl, by decide +kernel⟩
theorem fl_X9_13 : FL RX9 13 9 2 .int false := ⟨RX9, TX9, 24, rfl, by decide, List.mem_of_getElem? (i := 753) (by decide +kernel), rfl, rfl, by decide +kernel⟩
theorem fl_X9_17 : FL RX9 17 9 3 (.array .int) true := ⟨RX9, TX9, 24, rfl, by decide, List.mem_of_getElem? (i := 754) (by decide +kernel), rfl, rfl, by decide +kernel⟩
theorem fl_X9_20 : FL RX9 20 9 4 (.array .int) true := ⟨RX9, TX9, 24, rfl, by decide, List.mem_of_getElem? (i := 755) (by decide +kernel), rfl, rfl, by decide +kernel⟩
theorem fl_X9_23 : FL RX9 23 9 5 (.array .int) true := ⟨RX9, TX9, 24, rfl, by decide, List.mem_of_getElem? (i := 756) (by decide +kernel), rfl, rfl, by decide +kernel⟩
theorem fl_X9_26 : FL RX9 26 9 6 (.array .int) true := ⟨RX9, TX9, 24, rfl, by decide, List.mem_of_getElem? (i := 757) (by decide +kernel), rfl, rfl, by decide +kernel⟩
theorem fl_X9_29 : FL RX9 29 9 7 (.array .int) true := ⟨RX9, TX9, 24, rfl, by decide, List.mem_of_getElem? (i := 758) (by decide +kernel), rfl, rfl, by decide +kernel⟩
theorem fl_X9_32 : FL RX9 32 9 8 (.array .int) true := ⟨RX9, TX9, 24, rfl, by decide, List.mem_of_getElem? (i := 759) (by decide +kernel), rfl, rfl, by decide +kernel⟩
theorem fl_X9_35 : FL RX9 35 9 9 (.array .int) true := ⟨RX9, TX9, 24, rfl, by decide, List.mem_of_getElem? (i := 760) (by decide +kernel), rfl, rfl, by decide +kernel⟩
theorem fl_X9_38 : FL RX9 38 9 10 (.array .int) true := ⟨RX9, TX9, 24, rfl, by decide, List.mem_of_getElem? (i := 761) (by decide +kernel), rfl, rfl, by decide +kernel⟩
theorem fl_X9_41 : FL RX9 41 9 11 (.array .int) true := ⟨RX9, TX9, 24, rfl, by decide, List.mem_of_getElem? (i := 762) (by decide +kernel), rfl, rfl, by decide +kernel⟩
theorem fl_X9_44 : FL RX9 44 9 12 (.array .int) true := ⟨RX9, TX9, 24, rfl, by decide, List.mem_of_getElem? (i := 763) (by decide +kernel), rfl, rfl, by decide +kernel⟩
theorem fl_X9_126 : FL RX9 126 9 13 .int false := ⟨RX9, TX9, 24, rfl, by decide, List.mem_of_getElem? (i := 764) (by decide +kernel), rfl, rfl, by decide +kernel⟩
theorem fl_X9_47 : FL RX9 47 9 14 (.array .int) true := ⟨RX9, TX9, 24, rfl, by decide, List.mem_of_getElem? (i := 765) (by decide +kernel), rfl, rfl, by decide +kernel⟩
theorem fl_X9_50 : FL RX9 50 9 15 (.array .int) true := ⟨RX9, TX9, 24, rfl, by decide, List.mem_of_getElem? (i := 766) (by decide +kernel), rfl, rfl, by decide +kernel⟩
theorem fl_X9_53 : FL RX9 53 9 16 (.array .boolean) true := ⟨RX9, TX9, 24, rfl, by decide, List.mem_of_getElem? (i := 767) (by decide +kernel), rfl, rfl, by decide +kernel⟩
theorem fl_X9_188 : FL RX9 188 9 17 .int false := ⟨RX9, TX9, 24, rfl, by decide, List.mem_of_getElem? (i := 768) (by decide +kernel), rfl, rfl, by decide +kernel⟩
theorem fl_X9_57 : FL RX9 57 9 18 (.array .int) true := ⟨RX9, TX9, 24, rfl, by decide, List.mem_of_getElem? (i := 769) (by decide +kernel), rfl, rfl, by decide +kernel⟩
theorem fl_X9_129 : FL RX9 129 9 19 .int false := ⟨RX9, TX9, 24, rfl, by decide, List.mem_of_getElem? (i := 770) (by decide +kernel), rfl, rfl, by decide +kernel⟩
theorem fl_X9_60 : FL RX9 60 9 20 (.array .int) true := ⟨RX9, TX9, 24, rfl, by decide, List.mem_of_getElem? (i := 771) (by decide +kernel), rfl, rfl, by decide +kernel⟩
theorem fl_X9_132 : FL RX9 132 9 21 .int false := ⟨RX9, TX9, 24, rfl, by decide, List.mem_of_getElem? (i := 772) (by decide +kernel), rfl, rfl, by decide +kernel⟩
theorem fl_X9_72 : FL RX9 72 9 22 .int false := ⟨RX9, TX9, 24, rfl, by decide, List.mem_of_getElem? (i := 773) (by decide +kernel), rfl, rfl, by decide +kernel⟩
theorem fl_X9_75 : FL RX9 75 9 23 .int false := ⟨RX9, TX9, 24, rfl, by decide, List.mem_of_getElem? (i := 774) (by decide +kernel), rfl, rfl, by decide +kernel⟩
theorem wm_72 : Cond.methodLink RL 9 yX8_init ∈ lw_tbl := List.mem_of_getElem? (i := 72) (by decide +kernel)
theorem wm_73 : Cond.instanceMethod yX8_init ∈ lw_tbl := List.mem_of_getElem? (i := 73) (by decide +kernel)
theorem wm_58 : Cond.initialized RX8 ∈ lw_tbl := List.mem_of_getElem? (i := 58) (by decide +kernel)
theorem wm_74 : Cond.code YX8_init.1 YX8_init.2.1 YX8_init.2.2.1 YX8_init.2.2.2 ∈ lw_tbl := List.mem_of_getElem? (i := 74) (by decide +kernel)
theorem cv_L_9 : CI RL 9 YX8_init 0 := ⟨wm_72, ⟨rfl, wm_73⟩, wm_58, wm_74, ⟨by decide +kernel, by decide +kernel, by decide +kernel⟩⟩
theorem wm_80 : Cond.methodLink RX8 22 yX7_init ∈ lw_tbl := List.mem_of_getElem? (i := 80) (by decide +kernel)
theorem wm_81 : Cond.instanceMethod yX7_init ∈ lw_tbl := List.mem_of_getElem? (i := 81) (by decide +kernel)
theorem wm_59 : Cond.initialized RX7 ∈ lw_tbl := List.mem_of_getElem? (i := 59) (by decide +kernel)
theorem wm_82 : Cond.code YX7_init.1 YX7_init.2.1 YX7_init.2.2.1 YX7_init.2.2.2 ∈ lw_tbl := List.mem_of_getElem? (i := 82) (by decide +kernel)
theorem cv_X8_22 : CI RX8 22 YX7_init 1 := ⟨wm_80, ⟨rfl, wm_81⟩, wm_59, wm_82, ⟨by decide +kernel, by decide +kernel, by decide +kernel⟩⟩
theorem wm_227 : Cond.methodLink RX8 45 yX5_init ∈ lw_tbl := List.mem_of_getElem? (i := 227) (by decide +kernel)
theorem wm_228 : Cond.instanceMethod yX5_init ∈ lw_tbl := List.mem_of_getElem? (i := 228) (by decide +kernel)
theorem wm_62 : Cond.initialized RX5 ∈ lw_tbl := List.mem_of_getElem? (i := 62) (by decide +kernel)
theorem wm_229 : Cond.code YX5_init.1 YX5_init.2.1 YX5_init.2.2.1 YX5_init.2.2.2 ∈ lw_tbl := List.mem_of_getElem? (i := 229) (by decide +kernel)
theorem cv_X8_45 : CI RX8 45 YX5_init 0 := ⟨wm_227, ⟨rfl, wm_228⟩, wm_62, wm_229, ⟨by decide +kernel, by decide +kernel, by decide +kernel⟩⟩
theorem wm_344 : Cond.methodLink RL 13 yX8_feed ∈ lw_tbl := List.mem_of_getElem? (i := 344) (by decide +kernel)
theorem wm_345 : Cond.instanceMethod yX8_feed ∈ lw_tbl := List.mem_of_getElem? (i := 345) (by decide +kernel)
theorem wm_346 : Cond.selects yX8_feed.cls yX8_feed yX8_feed ∈ lw_tbl := List.mem_of_getElem? (i := 346) (by decide +kernel)
theorem wm_347 : Cond.code YX8_feed.1 YX8_feed.2.1 YX8_feed.2.2.1 YX8_feed.2.2.2 ∈ lw_tbl := List.mem_of_getElem? (i := 347) (by decide +kernel)
theorem cv_L_13 : CV RL 13 YX8_feed 1 := ⟨wm_344, wm_345, wm_346, wm_58, wm_347, ⟨by decide +kernel, by decide +kernel, by decide +kernel⟩⟩
theorem wm_348 : Cond.methodLink RX8 78 yX8_within ∈ lw_tbl := List.mem_of_getElem? (i := 348) (by decide +kernel)
theorem wm_349 : Cond.static yX8_within ∈ lw_tbl := List.mem_of_getElem? (i := 349) (by decide +kernel)
theorem wm_350 : Cond.code YX8_within.1 YX8_within.2.1 YX8_within.2.2.1 YX8_within.2.2.2 ∈ lw_tbl := List.mem_of_getElem? (i := 350) (by decide +kernel)
theorem cv_X8_78 : CS RX8 78 YX8_within 3 := ⟨wm_348, wm_349, wm_58, wm_350, ⟨by decide +kernel, by decide +kernel, by decide +kernel⟩⟩
theorem wm_353 : Cond.methodLink RL 18 yX8_castle ∈ lw_tbl := List.mem_of_getElem? (i := 353) (by decide +kernel)
theorem wm_354 : Cond.instanceMethod yX8_castle ∈ lw_tbl := List.mem_of_getElem? (i := 354) (by decide +kernel)
theorem wm_355 : Cond.selects yX8_castle.cls yX8_castle yX8_castle ∈ lw_tbl := List.mem_of_getElem? (i := 355) (by decide +kernel)
theorem wm_356 : Cond.code YX8_castle.1 YX8_castle.2.1 YX8_castle.2.2.1 YX8_castle.2.2.2 ∈ lw_tbl := List.mem_of_getElem? (i := 356) (by decide +kernel)
theorem cv_L_18 : CV RL 18 YX8_castle 0 := ⟨wm_353, wm_354, wm_355, wm_58, wm_356, ⟨by decide +kernel, by decide +kernel, by decide +kernel⟩⟩
theorem wm_357 : Cond.methodLink RX8 84 yX7_readText ∈ lw_tbl := List.mem_of_getElem? (i := 357) (by decide +kernel)
theorem wm_358 : Cond.instanceMethod yX7_readText ∈ lw_tbl := List.mem_of_getElem? (i := 358) (by decide +kernel)
theorem wm_359 : Cond.selects yX7_readText.cls yX7_readText yX7_readText ∈ lw_tbl := List.mem_of_getElem? (i := 359) (by decide +kernel)
theorem wm_360 : Cond.code YX7_readText.1 YX7_readText.2.1 YX7_readText.2.2.1 YX7_readText.2.2.2 ∈ lw_tbl := List.mem_of_getElem? (i := 360) (by decide +kernel)
theorem cv_X8_84 : CV RX8 84 YX7_readText 1 := ⟨wm_357, wm_358, wm_359, wm_59, wm_360, ⟨by decide +kernel, by decide +kernel, by decide +kernel⟩⟩
theorem wm_361 : Cond.methodLink RX7 45 yJ9_min_7cf53 ∈ lw_tbl := List.mem_of_getElem? (i := 361) (by decide +kernel)
theorem wm_362 : Cond.static yJ9_min_7cf53 ∈ lw_tbl := List.mem_of_getElem? (i := 362) (by decide +kernel)
theorem wm_68 : Cond.initialized RJ9 ∈ lw_tbl := List.mem_of_getElem? (i := 68) (by decide +kernel)
theorem wm_363 : Cond.code YJ9_min_7cf53.1 YJ9_min_7cf53.2.1 YJ9_min_7cf53.2.2.1 YJ9_min_7cf53.2.2.2 ∈ lw_tbl := List.mem_of_getElem? (i := 363) (by decide +kernel)
theorem cv_X7_45 : CS RX7 45 YJ9_min_7cf53 2 := ⟨wm_361, wm_362, wm_68, wm_363, ⟨by decide +kernel, by decide +kernel, by decide +kernel⟩⟩
theorem wm_364 : Cond.methodLink RX7 51 yX2_clear ∈ lw_tbl := List.mem_of_getElem? (i := 364) (by decide +kernel)
theorem wm_365 : Cond.instanceMethod yX2_clear ∈ lw_tbl := List.mem_of_getElem? (i := 365) (by decide +kernel)
theorem wm_366 : Cond.selects yX2_clear.cls yX2_clear yX2_clear ∈ lw_tbl := List.mem_of_getElem? (i := 366) (by decide +kernel)
theorem wm_60 : Cond.initialized RX2 ∈ lw_tbl := List.mem_of_getElem? (i := 60) (by decide +kernel)
theorem wm_367 : Cond.code YX2_clear.1 YX2_clear.2.1 YX2_clear.2.2.1 YX2_clear.2.2.2 ∈ lw_tbl := List.mem_of_getElem? (i := 367) (by decide +kernel)
theorem cv_X7_51 : CV RX7 51 YX2_clear 0 := ⟨wm_364, wm_365, wm_366, wm_60, wm_367, ⟨by decide +kernel, by decide +kernel, by decide +kernel⟩⟩
theorem wm_368 : Cond.methodLink RX7 54 yX7_skipBlanks ∈ lw_tbl := List.mem_of_getElem? (i := 368) (by decide +kernel)
theorem wm_370 : Cond.instanceMethod yX7_skipBlanks ∈ lw_tbl := List.mem_of_getElem? (i := 370) (by decide +kernel)
theorem wm_0 : Cond.selects yX7_skipBlanks.cls yX7_skipBlanks yX7_skipBlanks ∈ lw_tbl := List.mem_of_getElem? (i := 0) (by decide +kernel)
theorem wm_371 : Cond.code YX7_skipBlanks.1 YX7_skipBlanks.2.1 YX7_skipBlanks.2.2.1 YX7_skipBlanks.2.2.2 ∈ lw_tbl := List.mem_of_getElem? (i := 371) (by decide +kernel)
theorem cv_X7_54 : CV RX7 54 YX7_skipBlanks 0 := ⟨wm_368, wm_370, wm_0, wm_59, wm_371, ⟨by decide +kernel, by decide +kernel, by decide +kernel⟩⟩
theorem wm_372 : Cond.methodLink RX7 63 yX7_readWays ∈ lw_tbl := List.mem_of_getElem? (i := 372) (by decide +kernel)
theorem wm_374 : Cond.instanceMethod yX7_readWays ∈ lw_tbl := List.mem_of_getElem? (i := 374) (by decide +kernel)
theorem wm_1 : Cond.selects yX7_readWays.cls yX7_readWays yX7_readWays ∈ lw_tbl := List.mem_of_getElem? (i := 1) (by decide +kernel)
theorem wm_375 : Cond.code YX7_readWays.1 YX7_readWays.2.1 YX7_readWays.2.2.1 YX7_readWays.2.2.2 ∈ lw_tbl := List.mem_of_getElem? (i := 375) (by decide +kernel)
theorem cv_X7_63 : CV RX7 63 YX7_readWays 0 := ⟨wm_372, wm_374, wm_1, wm_59, wm_375, ⟨by decide +kernel, by decide +kernel, by decide +kernel⟩⟩
theorem wm_376 : Cond.methodLink RX7 70 yX7_take ∈ lw_tbl := List.mem_of_getElem? (i := 376) (by decide +kernel)
theorem wm_378 : Cond.instanceMethod yX7_take ∈ lw_tbl := List.mem_of_getElem? (i := 378) (by decide +kernel)
theorem wm_2 : Cond.selects yX7_take.cls yX7_take yX7_take ∈ lw_tbl := List.mem_of_getElem? (i := 2) (by decide +kernel)
theorem wm_379 : Cond.code YX7_take.1 YX7_take.2.1 YX7_take.2.2.1 YX7_take.2.2.2 ∈ lw_tbl := List.mem_of_getElem? (i := 379) (by decide +kernel)
theorem cv_X7_70 : CV RX7 70 YX7_take 1 := ⟨wm_376, wm_378, wm_2, wm_59, wm_379, ⟨by decide +kernel, by decide +kernel, by decide +kernel⟩⟩
theorem wm_380 : Cond.methodLink RX7 77 yX7_letter ∈ lw_tbl := List.mem_of_getElem? (i := 380) (by decide +kernel)
theorem wm_382 : Cond.instanceMethod yX7_letter ∈ lw_tbl := List.mem_of_getElem? (i := 382) (by decide +kernel)
theorem wm_3 : Cond.selects yX7_letter.cls yX7_letter yX7_letter ∈ lw_tbl := List.mem_of_getElem? (i := 3) (by decide +kernel)
theorem wm_383 : Cond.code YX7_letter.1 YX7_letter.2.1 YX7_letter.2.2.1 YX7_letter.2.2.2 ∈ lw_tbl := List.mem_of_getElem? (i := 383) (by decide +kernel)
theorem cv_X7_77 : CV RX7 77 YX7_letter 0 := ⟨wm_380, wm_382, wm_3, wm_59, wm_383, ⟨by decide +kernel, by decide +kernel, by decide +kernel⟩⟩
theorem wm_384 : Cond.methodLink RX7 84 yX7_refuse ∈ lw_tbl := List.mem_of_getElem? (i := 384) (by decide +kernel)
theorem wm_386 : Cond.instanceMethod yX7_refuse ∈ lw_tbl := List.mem_of_getElem? (i := 386) (by decide +kernel)
theorem wm_4 : Cond.selects yX7_refuse.cls yX7_refuse yX7_refuse ∈ lw_tbl := List.mem_of_getElem? (i := 4) (by decide +kernel)
theorem wm_387 : Cond.code YX7_refuse.1 YX7_refuse.2.1 YX7_refuse.2.2.1 YX7_refuse.2.2.2 ∈ lw_tbl := List.mem_of_getElem? (i := 387) (by decide +kernel)
theorem cv_X7_84 : CV RX7 84 YX7_refuse 2 := ⟨wm_384, wm_386, wm_4, wm_59, wm_387, ⟨by decide +kernel, by decide +kernel, by decide +kernel⟩⟩
theorem wm_388 : Cond.methodLink RX7 74 yX7_readWay ∈ lw_tbl := List.mem_of_getElem? (i := 388) (by decide +kernel)
theorem wm_390 : Cond.instanceMethod yX7_readWay ∈ lw_tbl := List.mem_of_getElem? (i := 390) (by decide +kernel)
theorem wm_5 : Cond.selects yX7_readWay.cls yX7_readWay yX7_readWay ∈ lw_tbl := List.mem_of_getElem? (i := 5) (by decide +kernel)
theorem wm_391 : Cond.code YX7_readWay.1 YX7_readWay.2.1 YX7_readWay.2.2.1 YX7_readWay.2.2.2 ∈ lw_tbl := List.mem_of_getElem? (i := 391) (by decide +kernel)
theorem cv_X7_74 : CV RX7 74 YX7_readWay 0 := ⟨wm_388, wm_390, wm_5, wm_59, wm_391, ⟨by decide +kernel, by decide +kernel, by decide +kernel⟩⟩
theorem wm_392 : Cond.methodLink RX7 88 yX7_readNumber ∈ lw_tbl := List.mem_of_getElem? (i := 392) (by decide +kernel)
theorem wm_394 : Cond.instanceMethod yX7_readNumber ∈ lw_tbl := List.mem_of_getElem? (i := 394) (by decide +kernel)
theorem wm_6 : Cond.selects yX7_readNumber.cls yX7_readNumber yX7_readNumber ∈ lw_tbl := List.mem_of_getElem? (i := 6) (by decide +kernel)
theorem wm_395 : Cond.code YX7_readNumber.1 YX7_readNumber.2.1 YX7_readNumber.2.2.1 YX7_readNumber.2.2.2 ∈ lw_tbl := List.mem_of_getElem? (i := 395) (by decide +kernel)
theorem cv_X7_88 : CV RX7 88 YX7_readNumber 2 := ⟨wm_392, wm_394, wm_6, wm_59, wm_395, ⟨by decide +kernel, by decide +kernel, by decide +kernel⟩⟩
theorem wm_396 : Cond.methodLink RX7 133 yX7_isFigure ∈ lw_tbl := List.mem_of_getElem? (i := 396) (by decide +kernel)
theorem wm_397 : Cond.static yX7_isFigure ∈ lw_tbl := List.mem_of_getElem? (i := 397) (by decide +kernel)
theorem wm_398 : Cond.code YX7_isFigure.1 YX7_isFigure.2.1 YX7_isFigure.2.2.1 YX7_isFigure.2.2.2 ∈ lw_tbl := List.mem_of_getElem? (i := 398) (by decide +kernel)
theorem cv_X7_133 : CS RX7 133 YX7_isFigure 1 := ⟨wm_396, wm_397, wm_59, wm_398, ⟨by decide +kernel, by decide +kernel, by decide +kernel⟩⟩
theorem wm_400 : Cond.methodLink RX7 67 yX7_readClause ∈ lw_tbl := List.mem_of_getElem? (i := 400) (by decide +kernel)
theorem wm_402 : Cond.instanceMethod yX7_readClause ∈ lw_tbl := List.mem_of_getElem? (i := 402) (by decide +kernel)
theorem wm_7 : Cond.selects yX7_readClause.cls yX7_readClause yX7_readClause ∈ lw_tbl := List.mem_of_getElem? (i := 7) (by decide +kernel)
theorem wm_403 : Cond.code YX7_readClause.1 YX7_readClause.2.1 YX7_readClause.2.2.1 YX7_readClause.2.2.2 ∈ lw_tbl := List.mem_of_getElem? (i := 403) (by decide +kernel)
theorem cv_X7_67 : CV RX7 67 YX7_readClause 0 := ⟨wm_400, wm_402, wm_7, wm_59, wm_403, ⟨by decide +kernel, by decide +kernel, by decide +kernel⟩⟩
theorem wm_404 : Cond.methodLink RX7 94 yX7_readTest ∈ lw_tbl := List.mem_of_getElem? (i := 404) (by decide +kernel)
theorem wm_406 : Cond.instanceMethod yX7_readTest ∈ lw_tbl := List.mem_of_getElem? (i := 406) (by decide +kernel)
theorem wm_8 : Cond.selects yX7_readTest.cls yX7_readTest yX7_readTest ∈ lw_tbl := List.mem_of_getElem? (i := 8) (by decide +kernel)
theorem wm_407 : Cond.code YX7_readTest.1 YX7_readTest.2.1 YX7_readTest.2.2.1 YX7_readTest.2.2.2 ∈ lw_tbl := List.mem_of_getElem? (i := 407) (by decide +kernel)
theorem cv_X7_94 : CV RX7 94 YX7_readTest 0 := ⟨wm_404, wm_406, wm_8, wm_59, wm_407, ⟨by decide +kernel, by decide +kernel, by decide +kernel⟩⟩
theorem wm_408 : Cond.methodLink RX7 106 yX7_readWaySet ∈ lw_tbl := List.mem_of_getElem? (i := 408) (by decide +kernel)
theorem wm_410 : Cond.instanceMethod yX7_readWaySet ∈ lw_tbl := List.mem_of_getElem? (i := 410) (by decide +kernel)
theorem wm_9 : Cond.selects yX7_readWaySet.cls yX7_readWaySet yX7_readWaySet ∈ lw_tbl := List.mem_of_getElem? (i := 9) (by decide +kernel)
theorem wm_411 : Cond.code YX7_readWaySet.1 YX7_readWaySet.2.1 YX7_readWaySet.2.2.1 YX7_readWaySet.2.2.2 ∈ lw_tbl := List.mem_of_getElem? (i := 411) (by decide +kernel)
theorem cv_X7_106 : CV RX7 106 YX7_readWaySet 1 := ⟨wm_408, wm_410, wm_9, wm_59, wm_411, ⟨by decide +kernel, by decide +kernel, by decide +kernel⟩⟩
theorem wm_412 : Cond.methodLink RX7 130 yX2_hasWays ∈ lw_tbl := List.mem_of_getElem? (i := 412) (by decide +kernel)
theorem wm_413 : Cond.instanceMethod yX2_hasWays ∈ lw_tbl := List.mem_of_getElem? (i := 413) (by decide +kernel)
theorem wm_414 : Cond.selects yX2_hasWays.cls yX2_hasWays yX2_hasWays ∈ lw_tbl := List.mem_of_getElem? (i := 414) (by decide +kernel)
theorem wm_415 : Cond.code YX2_hasWays.1 YX2_hasWays.2.1 YX2_hasWays.2.2.1 YX2_hasWays.2.2.2 ∈ lw_tbl := List.mem_of_getElem? (i := 415) (by decide +kernel)
theorem cv_X7_130 : CV RX7 130 YX2_hasWays 1 := ⟨wm_412, wm_413, wm_414, wm_60, wm_415, ⟨by decide +kernel, by decide +kernel, by decide +kernel⟩⟩
theorem wm_416 : Cond.methodLink RX2 50 yX2_allWays ∈ lw_tbl := List.mem_of_getElem? (i := 416) (by decide +kernel)
theorem wm_417 : Cond.instanceMethod yX2_allWays ∈ lw_tbl := List.mem_of_getElem? (i := 417) (by decide +kernel)
theorem wm_418 : Cond.selects yX2_allWays.cls yX2_allWays yX2_allWays ∈ lw_tbl := List.mem_of_getElem? (i := 418) (by decide +kernel)
theorem wm_419 : Cond.code YX2_allWays.1 YX2_allWays.2.1 YX2_allWays.2.2.1 YX2_allWays.2.2.2 ∈ lw_tbl := List.mem_of_getElem? (i := 419) (by decide +kernel)
theorem cv_X2_50 : CV RX2 50 YX2_allWays 0 := ⟨wm_416, wm_417, wm_418, wm_60, wm_419, ⟨by decide +kernel, by decide +kernel, by decide +kernel⟩⟩
theorem wm_423 : Cond.methodLink RX7 97 yX7_readServant ∈ lw_tbl := List.mem_of_getElem? (i := 423) (by decide +kernel)
theorem wm_425 : Cond.instanceMethod yX7_readServant ∈ lw_tbl := List.mem_of_getElem? (i := 425) (by decide +kernel)
theorem wm_10 : Cond.selects yX7_readServant.cls yX7_readServant yX7_readServant ∈ lw_tbl := List.mem_of_getElem? (i := 10) (by decide +kernel)
theorem wm_426 : Cond.code YX7_readServant.1 YX7_readServant.2.1 YX7_readServant.2.2.1 YX7_readServant.2.2.2 ∈ lw_tbl := List.mem_of_getElem? (i := 426) (by decide +kernel)
theorem cv_X7_97 : CV RX7 97 YX7_readServant 0 := ⟨wm_423, wm_425, wm_10, wm_59, wm_426, ⟨by decide +kernel, by decide +kernel, by decide +kernel⟩⟩
theorem wm_427 : Cond.methodLink RX7 100 yX7_readPay ∈ lw_tbl := List.mem_of_getElem? (i := 427) (by decide +kernel)
theorem wm_429 : Cond.instanceMethod yX7_readPay ∈ lw_tbl := List.mem_of_getElem? (i := 429) (by decide +kernel)
theorem wm_11 : Cond.selects yX7_readPay.cls yX7_readPay yX7_readPay ∈ lw_tbl := List.mem_of_getElem? (i := 11) (by decide +kernel)
theorem wm_430 : Cond.code YX7_readPay.1 YX7_readPay.2.1 YX7_readPay.2.2.1 YX7_readPay.2.2.2 ∈ lw_tbl := List.mem_of_getElem? (i := 430) (by decide +kernel)
theorem cv_X7_100 : CV RX7 100 YX7_readPay 0 := ⟨wm_427, wm_429, wm_11, wm_59, wm_430, ⟨by decide +kernel, by decide +kernel, by decide +kernel⟩⟩
theorem wm_431 : Cond.methodLink RX8 91 yX7_exchange ∈ lw_tbl := List.mem_of_getElem? (i := 431) (by decide +kernel)
theorem wm_432 : Cond.instanceMethod yX7_exchange ∈ lw_tbl := List.mem_of_getElem? (i := 432) (by decide +kernel)
theorem wm_433 : Cond.selects yX7_exchange.cls yX7_exchange yX7_exchange ∈ lw_tbl := List.mem_of_getElem? (i := 433) (by decide +kernel)
theorem wm_434 : Cond.code YX7_exchange.1 YX7_exchange.2.1 YX7_exchange.2.2.1 YX7_exchange.2.2.2 ∈ lw_tbl := List.mem_of_getElem? (i := 434) (by decide +kernel)
theorem cv_X8_91 : CV RX8 91 YX7_exchange 1 := ⟨wm_431, wm_432, wm_433, wm_59, wm_434, ⟨by decide +kernel, by decide +kernel, by decide +kernel⟩⟩
theorem wm_435 : Cond.methodLink RX8 95 yX8_beginAnew ∈ lw_tbl := List.mem_of_getElem? (i := 435) (by decide +kernel)
theorem wm_437 : Cond.instanceMethod yX8_beginAnew ∈ lw_tbl := List.mem_of_getElem? (i := 437) (by decide +kernel)
theorem wm_12 : Cond.selects yX8_beginAnew.cls yX8_beginAnew yX8_beginAnew ∈ lw_tbl := List.mem_of_getElem? (i := 12) (by decide +kernel)
theorem wm_438 : Cond.code YX8_beginAnew.1 YX8_beginAnew.2.1 YX8_beginAnew.2.2.1 YX8_beginAnew.2.2.2 ∈ lw_tbl := List.mem_of_getElem? (i := 438) (by decide +kernel)
theorem cv_X8_95 : CV RX8 95 YX8_beginAnew 0 := ⟨wm_435, wm_437, wm_12, wm_58, wm_438, ⟨by decide +kernel, by decide +kernel, by decide +kernel⟩⟩
theorem wm_439 : Cond.methodLink RX8 286 yX0_begin ∈ lw_tbl := List.mem_of_getElem? (i := 439) (by decide +kernel)
theorem wm_440 : Cond.instanceMethod yX0_begin ∈ lw_tbl := List.mem_of_getElem? (i := 440) (by decide +kernel)
theorem wm_441 : Cond.selects yX0_begin.cls yX0_begin yX0_begin ∈ lw_tbl := List.mem_of_getElem? (i := 441) (by decide +kernel)
theorem wm_61 : Cond.initialized RX0 ∈ lw_tbl := List.mem_of_getElem? (i := 61) (by decide +kernel)
theorem wm_442 : Cond.code YX0_begin.1 YX0_begin.2.1 YX0_begin.2.2.1 YX0_begin.2.2.2 ∈ lw_tbl := List.mem_of_getElem? (i := 442) (by decide +kernel)
theorem cv_X8_286 : CV RX8 286 YX0_begin 1 := ⟨wm_439, wm_440, wm_441, wm_61, wm_442, ⟨by decide +kernel, by decide +kernel, by decide +kernel⟩⟩
theorem wm_443 : Cond.methodLink RX0 41 yX2_stands ∈ lw_tbl := List.mem_of_getElem? (i := 443) (by decide +kernel)
theorem wm_444 : Cond.instanceMethod yX2_stands ∈ lw_tbl := List.mem_of_getElem? (i := 444) (by decide +kernel)
theorem wm_445 : Cond.selects yX2_stands.cls yX2_stands yX2_stands ∈ lw_tbl := List.mem_of_getElem? (i := 445) (by decide +kernel)
theorem wm_446 : Cond.code YX2_stands.1 YX2_stands.2.1 YX2_stands.2.2.1 YX2_stands.2.2.2 ∈ lw_tbl := List.mem_of_getElem? (i := 446) (by decide +kernel)
theorem cv_X0_41 : CV RX0 41 YX2_stands 0 := ⟨wm_443, wm_444, wm_445, wm_60, wm_446, ⟨by decide +kernel, by decide +kernel, by decide +kernel⟩⟩
theorem wm_447 : Cond.methodLink RX8 283 yX5_forget ∈ lw_tbl := List.mem_of_getElem? (i := 447) (by decide +kernel)
theorem wm_448 : Cond.instanceMethod yX5_forget ∈ lw_tbl := List.mem_of_getElem? (i := 448) (by decide +kernel)
theorem wm_449 : Cond.selects yX5_forget.cls yX5_forget yX5_forget ∈ lw_tbl := List.mem_of_getElem? (i := 449) (by decide +kernel)
theorem wm_450 : Cond.code YX5_forget.1 YX5_forget.2.1 YX5_forget.2.2.1 YX5_forget.2.2.2 ∈ lw_tbl := List.mem_of_getElem? (i := 450) (by decide +kernel)
theorem cv_X8_283 : CV RX8 283 YX5_forget 0 := ⟨wm_447, wm_448, wm_449, wm_62, wm_450, ⟨by decide +kernel, by decide +kernel, by decide +kernel⟩⟩
theorem wm_451 : Cond.methodLink RL 23 yX8_fault ∈ lw_tbl := List.mem_of_getElem? (i := 451) (by decide +kernel)
theorem wm_452 : Cond.instanceMethod yX8_fault ∈ lw_tbl := List.mem_of_getElem? (i := 452) (by decide +kernel)
theorem wm_453 : Cond.selects yX8_fault.cls yX8_fault yX8_fault ∈ lw_tbl := List.mem_of_getElem? (i := 453) (by decide +kernel)
theorem wm_454 : Cond.code YX8_fault.1 YX8_fault.2.1 YX8_fault.2.2.1 YX8_fault.2.2.2 ∈ lw_tbl := List.mem_of_getElem? (i := 454) (by decide +kernel)
theorem cv_L_23 : CV RL 23 YX8_fault 0 := ⟨wm_451, wm_452, wm_453, wm_58, wm_454, ⟨by decide +kernel, by decide +kernel, by decide +kernel⟩⟩
theorem wm_455 : Cond.methodLink RL 27 yX8_told ∈ lw_tbl := List.mem_of_getElem? (i := 455) (by decide +kernel)
theorem wm_456 : Cond.instanceMethod yX8_told ∈ lw_tbl := List.mem_of_getElem? (i := 456) (by decide +kernel)
theorem wm_457 : Cond.selects yX8_told.cls yX8_told yX8_told ∈ lw_tbl := List.mem_of_getElem? (i := 457) (by decide +kernel)
theorem wm_458 : Cond.code YX8_told.1 YX8_told.2.1 YX8_told.2.2.1 YX8_told.2.2.2 ∈ lw_tbl := List.mem_of_getElem? (i := 458) (by decide +kernel)
theorem cv_L_27 : CV RL 27 YX8_told 1 := ⟨wm_455, wm_456, wm_457, wm_58, wm_458, ⟨by decide +kernel, by decide +kernel, by decide +kernel⟩⟩
theorem wm_459 : Cond.methodLink RX8 129 yX8_waysLeft ∈ lw_tbl := List.mem_of_getElem? (i := 459) (by decide +kernel)
theorem wm_461 : Cond.instanceMethod yX8_waysLeft ∈ lw_tbl := List.mem_of_getElem? (i := 461) (by decide +kernel)
theorem wm_13 : Cond.selects yX8_waysLeft.cls yX8_waysLeft yX8_waysLeft ∈ lw_tbl := List.mem_of_getElem? (i := 13) (by decide +kernel)
theorem wm_462 : Cond.code YX8_waysLeft.1 YX8_waysLeft.2.1 YX8_waysLeft.2.2.1 YX8_waysLeft.2.2.2 ∈ lw_tbl := List.mem_of_getElem? (i := 462) (by decide +kernel)
theorem cv_X8_129 : CV RX8 129 YX8_waysLeft 0 := ⟨wm_459, wm_461, wm_13, wm_58, wm_462, ⟨by decide +kernel, by decide +kernel, by decide +kernel⟩⟩
theorem wm_463 : Cond.methodLink RX8 289 yX2_leftBy ∈ lw_tbl := List.mem_of_getElem? (i := 463) (by decide +kernel)
theorem wm_464 : Cond.instanceMethod yX2_leftBy ∈ lw_tbl := List.mem_of_getElem? (i := 464) (by decide +kernel)
theorem wm_465 : Cond.selects yX2_leftBy.cls yX2_leftBy yX2_leftBy ∈ lw_tbl := List.mem_of_getElem? (i := 465) (by decide +kernel)
theorem wm_466 : Cond.code YX2_leftBy.1 YX2_leftBy.2.1 YX2_leftBy.2.2.1 YX2_leftBy.2.2.2 ∈ lw_tbl := List.mem_of_getElem? (i := 466) (by decide +kernel)
theorem cv_X8_289 : CV RX8 289 YX2_leftBy 1 := ⟨wm_463, wm_464, wm_465, wm_60, wm_466, ⟨by decide +kernel, by decide +kernel, by decide +kernel⟩⟩
theorem wm_468 : Cond.methodLink RX8 133 yX2_secretsOf ∈ lw_tbl := List.mem_of_getElem? (i := 468) (by decide +kernel)
theorem wm_469 : Cond.instanceMethod yX2_secretsOf ∈ lw_tbl := List.mem_of_getElem? (i := 469) (by decide +kernel)
theorem wm_470 : Cond.selects yX2_secretsOf.cls yX2_secretsOf yX2_secretsOf ∈ lw_tbl := List.mem_of_getElem? (i := 470) (by decide +kernel)
theorem wm_471 : Cond.code YX2_secretsOf.1 YX2_secretsOf.2.1 YX2_secretsOf.2.2.1 YX2_secretsOf.2.2.2 ∈ lw_tbl := List.mem_of_getElem? (i := 471) (by decide +kernel)
theorem cv_X8_133 : CV RX8 133 YX2_secretsOf 1 := ⟨wm_468, wm_469, wm_470, wm_60, wm_471, ⟨by decide +kernel, by decide +kernel, by decide +kernel⟩⟩
theorem wm_472 : Cond.methodLink RX8 139 yX8_spent ∈ lw_tbl := List.mem_of_getElem? (i := 472) (by decide +kernel)
theorem wm_474 : Cond.instanceMethod yX8_spent ∈ lw_tbl := List.mem_of_getElem? (i := 474) (by decide +kernel)
theorem wm_14 : Cond.selects yX8_spent.cls yX8_spent yX8_spent ∈ lw_tbl := List.mem_of_getElem? (i := 14) (by decide +kernel)
theorem wm_475 : Cond.code YX8_spent.1 YX8_spent.2.1 YX8_spent.2.2.1 YX8_spent.2.2.2 ∈ lw_tbl := List.mem_of_getElem? (i := 475) (by decide +kernel)
theorem cv_X8_139 : CV RX8 139 YX8_spent 0 := ⟨wm_472, wm_474, wm_14, wm_58, wm_475, ⟨by decide +kernel, by decide +kernel, by decide +kernel⟩⟩
theorem wm_476 : Cond.methodLink RX8 292 yX2_costOf ∈ lw_tbl := List.mem_of_getElem? (i := 476) (by decide +kernel)
theorem wm_477 : Cond.instanceMethod yX2_costOf ∈ lw_tbl := List.mem_of_getElem? (i := 477) (by decide +kernel)
theorem wm_478 : Cond.selects yX2_costOf.cls yX2_costOf yX2_costOf ∈ lw_tbl := List.mem_of_getElem? (i := 478) (by decide +kernel)
theorem wm_479 : Cond.code YX2_costOf.1 YX2_costOf.2.1 YX2_costOf.2.2.1 YX2_costOf.2.2.2 ∈ lw_tbl := List.mem_of_getElem? (i := 479) (by decide +kernel)
theorem cv_X8_292 : CV RX8 292 YX2_costOf 1 := ⟨wm_476, wm_477, wm_478, wm_60, wm_479, ⟨by decide +kernel, by decide +kernel, by decide +kernel⟩⟩
theorem wm_481 : Cond.methodLink RX8 296 yJ9_min_7cf53 ∈ lw_tbl := List.mem_of_getElem? (i := 481) (by decide +kernel)
theorem cv_X8_296 : CS RX8 296 YJ9_min_7cf53 2 := ⟨wm_481, wm_362, wm_68, wm_363, ⟨by decide +kernel, by decide +kernel, by decide +kernel⟩⟩
theorem wm_482 : Cond.methodLink RL 31 yX8_likely ∈ lw_tbl := List.mem_of_getElem? (i := 482) (by decide +kernel)
theorem wm_483 : Cond.instanceMethod yX8_likely ∈ lw_tbl := List.mem_of_getElem? (i := 483) (by decide +kernel)
theorem wm_484 : Cond.selects yX8_likely.cls yX8_likely yX8_likely ∈ lw_tbl := List.mem_of_getElem? (i := 484) (by decide +kernel)
theorem wm_485 : Cond.code YX8_likely.1 YX8_likely.2.1 YX8_likely.2.2.1 YX8_likely.2.2.2 ∈ lw_tbl := List.mem_of_getElem? (i := 485) (by decide +kernel)
theorem cv_L_31 : CV RL 31 YX8_likely 1 := ⟨wm_482, wm_483, wm_484, wm_58, wm_485, ⟨by decide +kernel, by decide +kernel, by decide +kernel⟩⟩
theorem wm_486 : Cond.methodLink RX8 147 yX2_hasWay ∈ lw_tbl := List.mem_of_getElem? (i := 486) (by decide +kernel)
theorem wm_487 : Cond.instanceMethod yX2_hasWay ∈ lw_tbl := List.mem_of_getElem? (i := 487) (by decide +kernel)
theorem wm_488 : Cond.selects yX2_hasWay.cls yX2_hasWay yX2_hasWay ∈ lw_tbl := List.mem_of_getElem? (i := 488) (by decide +kernel)
theorem wm_489 : Cond.code YX2_hasWay.1 YX2_hasWay.2.1 YX2_hasWay.2.2.1 YX2_hasWay.2.2.2 ∈ lw_tbl := List.mem_of_getElem? (i := 489) (by decide +kernel)
theorem cv_X8_147 : CV RX8 147 YX2_hasWay 1 := ⟨wm_486, wm_487, wm_488, wm_60, wm_489, ⟨by decide +kernel, by decide +kernel, by decide +kernel⟩⟩
theorem wm_492 : Cond.methodLink RL 35 yX8_test ∈ lw_tbl := List.mem_of_getElem? (i := 492) (by decide +kernel)
theorem wm_493 : Cond.instanceMethod yX8_test ∈ lw_tbl := List.mem_of_getElem? (i := 493) (by decide +kernel)
theorem wm_494 : Cond.selects yX8_test.cls yX8_test yX8_test ∈ lw_tbl := List.mem_of_getElem? (i := 494) (by decide +kernel)
theorem wm_495 : Cond.code YX8_test.1 YX8_test.2.1 YX8_test.2.2.1 YX8_test.2.2.2 ∈ lw_tbl := List.mem_of_getElem? (i := 495) (by decide +kernel)
theorem cv_L_35 : CV RL 35 YX8_test 2 := ⟨wm_492, wm_493, wm_494, wm_58, wm_495, ⟨by decide +kernel, by decide +kernel, by decide +kernel⟩⟩
theorem wm_496 : Cond.methodLink RX8 155 yX2_hasTest ∈ lw_tbl := List.mem_of_getElem? (i := 496) (by decide +kernel)
theorem wm_497 : Cond.instanceMethod yX2_hasTest ∈ lw_tbl := List.mem_of_getElem? (i := 497) (by decide +kernel)
theorem wm_498 : Cond.selects yX2_hasTest.cls yX2_hasTest yX2_hasTest ∈ lw_tbl := List.mem_of_getElem? (i := 498) (by decide +kernel)
theorem wm_499 : Cond.code YX2_hasTest.1 YX2_hasTest.2.1 YX2_hasTest.2.2.1 YX2_hasTest.2.2.2 ∈ lw_tbl := List.mem_of_getElem? (i := 499) (by decide +kernel)
theorem cv_X8_155 : CV RX8 155 YX2_hasTest 1 := ⟨wm_496, wm_497, wm_498, wm_60, wm_499, ⟨by decide +kernel, by decide +kernel, by decide +kernel⟩⟩
theorem wm_500 : Cond.methodLink RX8 167 yX8_has ∈ lw_tbl := List.mem_of_getElem? (i := 500) (by decide +kernel)
theorem wm_421 : Cond.static yX8_has ∈ lw_tbl := List.mem_of_getElem? (i := 421) (by decide +kernel)
theorem wm_422 : Cond.code YX8_has.1 YX8_has.2.1 YX8_has.2.2.1 YX8_has.2.2.2 ∈ lw_tbl := List.mem_of_getElem? (i := 422) (by decide +kernel)
theorem cv_X8_167 : CS RX8 167 YX8_has 2 := ⟨wm_500, wm_421, wm_58, wm_422, ⟨by decide +kernel, by decide +kernel, by decide +kernel⟩⟩
theorem wm_501 : Cond.methodLink RL 40 yX8_servant ∈ lw_tbl := List.mem_of_getElem? (i := 501) (by decide +kernel)
theorem wm_502 : Cond.instanceMethod yX8_servant ∈ lw_tbl := List.mem_of_getElem? (i := 502) (by decide +kernel)
theorem wm_503 : Cond.selects yX8_servant.cls yX8_servant yX8_servant ∈ lw_tbl := List.mem_of_getElem? (i := 503) (by decide +kernel)
theorem wm_504 : Cond.code YX8_servant.1 YX8_servant.2.1 YX8_servant.2.2.1 YX8_servant.2.2.2 ∈ lw_tbl := List.mem_of_getElem? (i := 504) (by decide +kernel)
theorem cv_L_40 : CV RL 40 YX8_servant 2 := ⟨wm_501, wm_502, wm_503, wm_58, wm_504, ⟨by decide +kernel, by decide +kernel, by decide +kernel⟩⟩
theorem wm_505 : Cond.methodLink RX8 171 yX2_hasServant ∈ lw_tbl := List.mem_of_getElem? (i := 505) (by decide +kernel)
theorem wm_506 : Cond.instanceMethod yX2_hasServant ∈ lw_tbl := List.mem_of_getElem? (i := 506) (by decide +kernel)
theorem wm_507 : Cond.selects yX2_hasServant.cls yX2_hasServant yX2_hasServant ∈ lw_tbl := List.mem_of_getElem? (i := 507) (by decide +kernel)
theorem wm_508 : Cond.code YX2_hasServant.1 YX2_hasServant.2.1 YX2_hasServant.2.2.1 YX2_hasServant.2.2.2 ∈ lw_tbl := List.mem_of_getElem? (i := 508) (by decide +kernel)
theorem cv_X8_171 : CV RX8 171 YX2_hasServant 1 := ⟨wm_505, wm_506, wm_507, wm_60, wm_508, ⟨by decide +kernel, by decide +kernel, by decide +kernel⟩⟩
theorem wm_509 : Cond.methodLink RL 44 yX8_day ∈ lw_tbl := List.mem_of_getElem? (i := 509) (by decide +kernel)
theorem wm_510 : Cond.instanceMethod yX8_day ∈ lw_tbl := List.mem_of_getElem? (i := 510) (by decide +kernel)
theorem wm_511 : Cond.selects yX8_day.cls yX8_day yX8_day ∈ lw_tbl := List.mem_of_getElem? (i := 511) (by decide +kernel)
theorem wm_512 : Cond.code YX8_day.1 YX8_day.2.1 YX8_day.2.2.1 YX8_day.2.2.2 ∈ lw_tbl := List.mem_of_getElem? (i := 512) (by decide +kernel)
theorem cv_L_44 : CV RL 44 YX8_day 1 := ⟨wm_509, wm_510, wm_511, wm_58, wm_512, ⟨by decide +kernel, by decide +kernel, by decide +kernel⟩⟩
theorem wm_513 : Cond.methodLink RX8 186 yX8_refusalOfDays ∈ lw_tbl := List.mem_of_getElem? (i := 513) (by decide +kernel)
theorem wm_515 : Cond.instanceMethod yX8_refusalOfDays ∈ lw_tbl := List.mem_of_getElem? (i := 515) (by decide +kernel)
theorem wm_15 : Cond.selects yX8_refusalOfDays.cls yX8_refusalOfDays yX8_refusalOfDays ∈ lw_tbl := List.mem_of_getElem? (i := 15) (by decide +kernel)
theorem wm_516 : Cond.code YX8_refusalOfDays.1 YX8_refusalOfDays.2.1 YX8_refusalOfDays.2.2.1 YX8_refusalOfDays.2.2.2 ∈ lw_tbl := List.mem_of_getElem? (i := 516) (by decide +kernel)
theorem cv_X8_186 : CV RX8 186 YX8_refusalOfDays 1 := ⟨wm_513, wm_515, wm_15, wm_58, wm_516, ⟨by decide +kernel, by decide +kernel, by decide +kernel⟩⟩
theorem wm_517 : Cond.methodLink RX8 202 yX2_stands ∈ lw_tbl := List.mem_of_getElem? (i := 517) (by decide +kernel)
theorem cv_X8_202 : CV RX8 202 YX2_stands 0 := ⟨wm_517, wm_444, wm_445, wm_60, wm_446, ⟨by decide +kernel, by decide +kernel, by decide +kernel⟩⟩
theorem wm_519 : Cond.methodLink RX8 189 yX5_remember ∈ lw_tbl := List.mem_of_getElem? (i := 519) (by decide +kernel)
theorem wm_520 : Cond.instanceMethod yX5_remember ∈ lw_tbl := List.mem_of_getElem? (i := 520) (by decide +kernel)
theorem wm_521 : Cond.selects yX5_remember.cls yX5_remember yX5_remember ∈ lw_tbl := List.mem_of_getElem? (i := 521) (by decide +kernel)
theorem wm_522 : Cond.code YX5_remember.1 YX5_remember.2.1 YX5_remember.2.2.1 YX5_remember.2.2.2 ∈ lw_tbl := List.mem_of_getElem? (i := 522) (by decide +kernel)
theorem cv_X8_189 : CV RX8 189 YX5_remember 1 := ⟨wm_519, wm_520, wm_521, wm_62, wm_522, ⟨by decide +kernel, by decide +kernel, by decide +kernel⟩⟩
theorem wm_523 : Cond.methodLink RX5 25 yX0_copyFrom ∈ lw_tbl := List.mem_of_getElem? (i := 523) (by decide +kernel)
theorem wm_524 : Cond.instanceMethod yX0_copyFrom ∈ lw_tbl := List.mem_of_getElem? (i := 524) (by decide +kernel)
theorem wm_525 : Cond.selects yX0_copyFrom.cls yX0_copyFrom yX0_copyFrom ∈ lw_tbl := List.mem_of_getElem? (i := 525) (by decide +kernel)
theorem wm_526 : Cond.code YX0_copyFrom.1 YX0_copyFrom.2.1 YX0_copyFrom.2.2.1 YX0_copyFrom.2.2.2 ∈ lw_tbl := List.mem_of_getElem? (i := 526) (by decide +kernel)
theorem cv_X5_25 : CV RX5 25 YX0_copyFrom 1 := ⟨wm_523, wm_524, wm_525, wm_61, wm_526, ⟨by decide +kernel, by decide +kernel, by decide +kernel⟩⟩
theorem wm_527 : Cond.methodLink RX5 29 yJ9_min_7cf53 ∈ lw_tbl := List.mem_of_getElem? (i := 527) (by decide +kernel)
theorem cv_X5_29 : CS RX5 29 YJ9_min_7cf53 2 := ⟨wm_527, wm_362, wm_68, wm_363, ⟨by decide +kernel, by decide +kernel, by decide +kernel⟩⟩
theorem wm_528 : Cond.methodLink RX8 193 yX0_passDay ∈ lw_tbl := List.mem_of_getElem? (i := 528) (by decide +kernel)
theorem wm_529 : Cond.instanceMethod yX0_passDay ∈ lw_tbl := List.mem_of_getElem? (i := 529) (by decide +kernel)
theorem wm_530 : Cond.selects yX0_passDay.cls yX0_passDay yX0_passDay ∈ lw_tbl := List.mem_of_getElem? (i := 530) (by decide +kernel)
theorem wm_531 : Cond.code YX0_passDay.1 YX0_passDay.2.1 YX0_passDay.2.2.1 YX0_passDay.2.2.2 ∈ lw_tbl := List.mem_of_getElem? (i := 531) (by decide +kernel)
theorem cv_X8_193 : CV RX8 193 YX0_passDay 1 := ⟨wm_528, wm_529, wm_530, wm_61, wm_531, ⟨by decide +kernel, by decide +kernel, by decide +kernel⟩⟩
theorem wm_533 : Cond.methodLink RX0 61 yX0_give ∈ lw_tbl := List.mem_of_getElem? (i := 533) (by decide +kernel)
theorem wm_534 : Cond.instanceMethod yX0_give ∈ lw_tbl := List.mem_of_getElem? (i := 534) (by decide +kernel)
theorem wm_535 : Cond.selects yX0_give.cls yX0_give yX0_give ∈ lw_tbl := List.mem_of_getElem? (i := 535) (by decide +kernel)
theorem wm_536 : Cond.code YX0_give.1 YX0_give.2.1 YX0_give.2.2.1 YX0_give.2.2.2 ∈ lw_tbl := List.mem_of_getElem? (i := 536) (by decide +kernel)
theorem cv_X0_61 : CV RX0 61 YX0_give 2 := ⟨wm_533, wm_534, wm_535, wm_61, wm_536, ⟨by decide +kernel, by decide +kernel, by decide +kernel⟩⟩
theorem wm_539 : Cond.methodLink RX0 77 yJ9_min_7cf53 ∈ lw_tbl := List.mem_of_getElem? (i := 539) (by decide +kernel)
theorem cv_X0_77 : CS RX0 77 YJ9_min_7cf53 2 := ⟨wm_539, wm_362, wm_68, wm_363, ⟨by decide +kernel, by decide +kernel, by decide +kernel⟩⟩
theorem wm_540 : Cond.methodLink RL 48 yX8_make ∈ lw_tbl := List.mem_of_getElem? (i := 540) (by decide +kernel)
theorem wm_541 : Cond.instanceMethod yX8_make ∈ lw_tbl := List.mem_of_getElem? (i := 541) (by decide +kernel)
theorem wm_542 : Cond.selects yX8_make.cls yX8_make yX8_make ∈ lw_tbl := List.mem_of_getElem? (i := 542) (by decide +kernel)
theorem wm_543 : Cond.code YX8_make.1 YX8_make.2.1 YX8_make.2.2.1 YX8_make.2.2.2 ∈ lw_tbl := List.mem_of_getElem? (i := 543) (by decide +kernel)
theorem cv_L_48 : CV RL 48 YX8_make 1 := ⟨wm_540, wm_541, wm_542, wm_58, wm_543, ⟨by decide +kernel, by decide +kernel, by decide +kernel⟩⟩
theorem wm_544 : Cond.methodLink RX8 197 yX0_canMake ∈ lw_tbl := List.mem_of_getElem? (i := 544) (by decide +kernel)
theorem wm_545 : Cond.instanceMethod yX0_canMake ∈ lw_tbl := List.mem_of_getElem? (i := 545) (by decide +kernel)
theorem wm_546 : Cond.selects yX0_canMake.cls yX0_canMake yX0_canMake ∈ lw_tbl := List.mem_of_getElem? (i := 546) (by decide +kernel)
theorem wm_547 : Cond.code YX0_canMake.1 YX0_canMake.2.1 YX0_canMake.2.2.1 YX0_canMake.2.2.2 ∈ lw_tbl := List.mem_of_getElem? (i := 547) (by decide +kernel)
theorem cv_X8_197 : CV RX8 197 YX0_canMake 2 := ⟨wm_544, wm_545, wm_546, wm_61, wm_547, ⟨by decide +kernel, by decide +kernel, by decide +kernel⟩⟩
theorem wm_548 : Cond.methodLink RX0 65 yX2_hasTest ∈ lw_tbl := List.mem_of_getElem? (i := 548) (by decide +kernel)
theorem cv_X0_65 : CV RX0 65 YX2_hasTest 1 := ⟨wm_548, wm_497, wm_498, wm_60, wm_499, ⟨by decide +kernel, by decide +kernel, by decide +kernel⟩⟩
theorem wm_549 : Cond.methodLink RL 52 yX8_seal ∈ lw_tbl := List.mem_of_getElem? (i := 549) (by decide +kernel)
theorem wm_550 : Cond.instanceMethod yX8_seal ∈ lw_tbl := List.mem_of_getElem? (i := 550) (by decide +kernel)
theorem wm_551 : Cond.selects yX8_seal.cls yX8_seal yX8_seal ∈ lw_tbl := List.mem_of_getElem? (i := 551) (by decide +kernel)
theorem wm_552 : Cond.code YX8_seal.1 YX8_seal.2.1 YX8_seal.2.2.1 YX8_seal.2.2.2 ∈ lw_tbl := List.mem_of_getElem? (i := 552) (by decide +kernel)
theorem cv_L_52 : CV RL 52 YX8_seal 1 := ⟨wm_549, wm_550, wm_551, wm_58, wm_552, ⟨by decide +kernel, by decide +kernel, by decide +kernel⟩⟩
theorem wm_553 : Cond.methodLink RL 57 yX8_smash ∈ lw_tbl := List.mem_of_getElem? (i := 553) (by decide +kernel)
theorem wm_554 : Cond.instanceMethod yX8_smash ∈ lw_tbl := List.mem_of_getElem? (i := 554) (by decide +kernel)
theorem wm_555 : Cond.selects yX8_smash.cls yX8_smash yX8_smash ∈ lw_tbl := List.mem_of_getElem? (i := 555) (by decide +kernel)
theorem wm_556 : Cond.code YX8_smash.1 YX8_smash.2.1 YX8_smash.2.2.1 YX8_smash.2.2.2 ∈ lw_tbl := List.mem_of_getElem? (i := 556) (by decide +kernel)
theorem cv_L_57 : CV RL 57 YX8_smash 0 := ⟨wm_553, wm_554, wm_555, wm_58, wm_556, ⟨by decide +kernel, by decide +kernel, by decide +kernel⟩⟩
theorem wm_557 : Cond.methodLink RL 61 yX8_hire ∈ lw_tbl := List.mem_of_getElem? (i := 557) (by decide +kernel)
theorem wm_558 : Cond.instanceMethod yX8_hire ∈ lw_tbl := List.mem_of_getElem? (i := 558) (by decide +kernel)
theorem wm_559 : Cond.selects yX8_hire.cls yX8_hire yX8_hire ∈ lw_tbl := List.mem_of_getElem? (i := 559) (by decide +kernel)
theorem wm_560 : Cond.code YX8_hire.1 YX8_hire.2.1 YX8_hire.2.2.1 YX8_hire.2.2.2 ∈ lw_tbl := List.mem_of_getElem? (i := 560) (by decide +kernel)
theorem cv_L_61 : CV RL 61 YX8_hire 2 := ⟨wm_557, wm_558, wm_559, wm_58, wm_560, ⟨by decide +kernel, by decide +kernel, by decide +kernel⟩⟩
theorem wm_561 : Cond.methodLink RX8 206 yX0_setHired ∈ lw_tbl := List.mem_of_getElem? (i := 561) (by decide +kernel)
theorem wm_562 : Cond.instanceMethod yX0_setHired ∈ lw_tbl := List.mem_of_getElem? (i := 562) (by decide +kernel)
theorem wm_563 : Cond.selects yX0_setHired.cls yX0_setHired yX0_setHired ∈ lw_tbl := List.mem_of_getElem? (i := 563) (by decide +kernel)
theorem wm_564 : Cond.code YX0_setHired.1 YX0_setHired.2.1 YX0_setHired.2.2.1 YX0_setHired.2.2.2 ∈ lw_tbl := List.mem_of_getElem? (i := 564) (by decide +kernel)
theorem cv_X8_206 : CV RX8 206 YX0_setHired 2 := ⟨wm_561, wm_562, wm_563, wm_61, wm_564, ⟨by decide +kernel, by decide +kernel, by decide +kernel⟩⟩
theorem wm_565 : Cond.methodLink RL 66 yX8_buy ∈ lw_tbl := List.mem_of_getElem? (i := 565) (by decide +kernel)
theorem wm_566 : Cond.instanceMethod yX8_buy ∈ lw_tbl := List.mem_of_getElem? (i := 566) (by decide +kernel)
theorem wm_567 : Cond.selects yX8_buy.cls yX8_buy yX8_buy ∈ lw_tbl := List.mem_of_getElem? (i := 567) (by decide +kernel)
theorem wm_568 : Cond.code YX8_buy.1 YX8_buy.2.1 YX8_buy.2.2.1 YX8_buy.2.2.2 ∈ lw_tbl := List.mem_of_getElem? (i := 568) (by decide +kernel)
theorem cv_L_66 : CV RL 66 YX8_buy 3 := ⟨wm_565, wm_566, wm_567, wm_58, wm_568, ⟨by decide +kernel, by decide +kernel, by decide +kernel⟩⟩
theorem wm_569 : Cond.methodLink RX8 210 yX2_hasWays ∈ lw_tbl := List.mem_of_getElem? (i := 569) (by decide +kernel)
theorem cv_X8_210 : CV RX8 210 YX2_hasWays 1 := ⟨wm_569, wm_413, wm_414, wm_60, wm_415, ⟨by decide +kernel, by decide +kernel, by decide +kernel⟩⟩
theorem wm_570 : Cond.methodLink RX8 213 yX0_give ∈ lw_tbl := List.mem_of_getElem? (i := 570) (by decide +kernel)
theorem cv_X8_213 : CV RX8 213 YX0_give 2 := ⟨wm_570, wm_534, wm_535, wm_61, wm_536, ⟨by decide +kernel, by decide +kernel, by decide +kernel⟩⟩
theorem wm_571 : Cond.methodLink RL 71 yX8_drift ∈ lw_tbl := List.mem_of_getElem? (i := 571) (by decide +kernel)
theorem wm_572 : Cond.instanceMethod yX8_drift ∈ lw_tbl := List.mem_of_getElem? (i := 572) (by decide +kernel)
theorem wm_573 : Cond.selects yX8_drift.cls yX8_drift yX8_drift ∈ lw_tbl := List.mem_of_getElem? (i := 573) (by decide +kernel)
theorem wm_574 : Cond.code YX8_drift.1 YX8_drift.2.1 YX8_drift.2.2.1 YX8_drift.2.2.2 ∈ lw_tbl := List.mem_of_getElem? (i := 574) (by decide +kernel)
theorem cv_L_71 : CV RL 71 YX8_drift 1 := ⟨wm_571, wm_572, wm_573, wm_58, wm_574, ⟨by decide +kernel, by decide +kernel, by decide +kernel⟩⟩
theorem wm_575 : Cond.methodLink RX8 217 yX8_doByDraw ∈ lw_tbl := List.mem_of_getElem? (i := 575) (by decide +kernel)
theorem wm_577 : Cond.instanceMethod yX8_doByDraw ∈ lw_tbl := List.mem_of_getElem? (i := 577) (by decide +kernel)
theorem wm_16 : Cond.selects yX8_doByDraw.cls yX8_doByDraw yX8_doByDraw ∈ lw_tbl := List.mem_of_getElem? (i := 16) (by decide +kernel)
theorem wm_578 : Cond.code YX8_doByDraw.1 YX8_doByDraw.2.1 YX8_doByDraw.2.2.1 YX8_doByDraw.2.2.2 ∈ lw_tbl := List.mem_of_getElem? (i := 578) (by decide +kernel)
theorem cv_X8_217 : CV RX8 217 YX8_doByDraw 0 := ⟨wm_575, wm_577, wm_16, wm_58, wm_578, ⟨by decide +kernel, by decide +kernel, by decide +kernel⟩⟩
theorem wm_579 : Cond.methodLink RX8 301 yX3_draw ∈ lw_tbl := List.mem_of_getElem? (i := 579) (by decide +kernel)
theorem wm_580 : Cond.instanceMethod yX3_draw ∈ lw_tbl := List.mem_of_getElem? (i := 580) (by decide +kernel)
theorem wm_581 : Cond.selects yX3_draw.cls yX3_draw yX3_draw ∈ lw_tbl := List.mem_of_getElem? (i := 581) (by decide +kernel)
theorem wm_65 : Cond.initialized RX3 ∈ lw_tbl := List.mem_of_getElem? (i := 65) (by decide +kernel)
theorem wm_582 : Cond.code YX3_draw.1 YX3_draw.2.1 YX3_draw.2.2.1 YX3_draw.2.2.2 ∈ lw_tbl := List.mem_of_getElem? (i := 582) (by decide +kernel)
theorem cv_X8_301 : CV RX8 301 YX3_draw 1 := ⟨wm_579, wm_580, wm_581, wm_65, wm_582, ⟨by decide +kernel, by decide +kernel, by decide +kernel⟩⟩
theorem wm_587 : Cond.methodLink RL 75 yX8_undo ∈ lw_tbl := List.mem_of_getElem? (i := 587) (by decide +kernel)
theorem wm_588 : Cond.instanceMethod yX8_undo ∈ lw_tbl := List.mem_of_getElem? (i := 588) (by decide +kernel)
theorem wm_589 : Cond.selects yX8_undo.cls yX8_undo yX8_undo ∈ lw_tbl := List.mem_of_getElem? (i := 589) (by decide +kernel)
theorem wm_590 : Cond.code YX8_undo.1 YX8_undo.2.1 YX8_undo.2.2.1 YX8_undo.2.2.2 ∈ lw_tbl := List.mem_of_getElem? (i := 590) (by decide +kernel)
theorem cv_L_75 : CV RL 75 YX8_undo 0 := ⟨wm_587, wm_588, wm_589, wm_58, wm_590, ⟨by decide +kernel, by decide +kernel, by decide +kernel⟩⟩
theorem wm_591 : Cond.methodLink RX8 220 yX5_recall ∈ lw_tbl := List.mem_of_getElem? (i := 591) (by decide +kernel)
theorem wm_592 : Cond.instanceMethod yX5_recall ∈ lw_tbl := List.mem_of_getElem? (i := 592) (by decide +kernel)
theorem wm_593 : Cond.selects yX5_recall.cls yX5_recall yX5_recall ∈ lw_tbl := List.mem_of_getElem? (i := 593) (by decide +kernel)
theorem wm_594 : Cond.code YX5_recall.1 YX5_recall.2.1 YX5_recall.2.2.1 YX5_recall.2.2.2 ∈ lw_tbl := List.mem_of_getElem? (i := 594) (by decide +kernel)
theorem cv_X8_220 : CV RX8 220 YX5_recall 1 := ⟨wm_591, wm_592, wm_593, wm_62, wm_594, ⟨by decide +kernel, by decide +kernel, by decide +kernel⟩⟩
theorem wm_595 : Cond.methodLink RL 79 yX8_belief ∈ lw_tbl := List.mem_of_getElem? (i := 595) (by decide +kernel)
theorem wm_596 : Cond.instanceMethod yX8_belief ∈ lw_tbl := List.mem_of_getElem? (i := 596) (by decide +kernel)
theorem wm_597 : Cond.selects yX8_belief.cls yX8_belief yX8_belief ∈ lw_tbl := List.mem_of_getElem? (i := 597) (by decide +kernel)
theorem wm_598 : Cond.code YX8_belief.1 YX8_belief.2.1 YX8_belief.2.2.1 YX8_belief.2.2.2 ∈ lw_tbl := List.mem_of_getElem? (i := 598) (by decide +kernel)
theorem cv_L_79 : CV RL 79 YX8_belief 1 := ⟨wm_595, wm_596, wm_597, wm_58, wm_598, ⟨by decide +kernel, by decide +kernel, by decide +kernel⟩⟩
theorem wm_599 : Cond.methodLink RX8 223 yX2_beliefIn ∈ lw_tbl := List.mem_of_getElem? (i := 599) (by decide +kernel)
theorem wm_600 : Cond.instanceMethod yX2_beliefIn ∈ lw_tbl := List.mem_of_getElem? (i := 600) (by decide +kernel)
theorem wm_601 : Cond.selects yX2_beliefIn.cls yX2_beliefIn yX2_beliefIn ∈ lw_tbl := List.mem_of_getElem? (i := 601) (by decide +kernel)
theorem wm_602 : Cond.code YX2_beliefIn.1 YX2_beliefIn.2.1 YX2_beliefIn.2.2.1 YX2_beliefIn.2.2.2 ∈ lw_tbl := List.mem_of_getElem? (i := 602) (by decide +kernel)
theorem cv_X8_223 : CV RX8 223 YX2_beliefIn 2 := ⟨wm_599, wm_600, wm_601, wm_60, wm_602, ⟨by decide +kernel, by decide +kernel, by decide +kernel⟩⟩
theorem wm_603 : Cond.methodLink RX2 58 yX2_likelyOf ∈ lw_tbl := List.mem_of_getElem? (i := 603) (by decide +kernel)
theorem wm_604 : Cond.instanceMethod yX2_likelyOf ∈ lw_tbl := List.mem_of_getElem? (i := 604) (by decide +kernel)
theorem wm_605 : Cond.selects yX2_likelyOf.cls yX2_likelyOf yX2_likelyOf ∈ lw_tbl := List.mem_of_getElem? (i := 605) (by decide +kernel)
theorem wm_606 : Cond.code YX2_likelyOf.1 YX2_likelyOf.2.1 YX2_likelyOf.2.2.1 YX2_likelyOf.2.2.2 ∈ lw_tbl := List.mem_of_getElem? (i := 606) (by decide +kernel)
theorem cv_X2_58 : CV RX2 58 YX2_likelyOf 1 := ⟨wm_603, wm_604, wm_605, wm_60, wm_606, ⟨by decide +kernel, by decide +kernel, by decide +kernel⟩⟩
theorem wm_607 : Cond.methodLink RX2 62 yX2_hasWay ∈ lw_tbl := List.mem_of_getElem? (i := 607) (by decide +kernel)
theorem cv_X2_62 : CV RX2 62 YX2_hasWay 1 := ⟨wm_607, wm_487, wm_488, wm_60, wm_489, ⟨by decide +kernel, by decide +kernel, by decide +kernel⟩⟩
theorem wm_609 : Cond.methodLink RL 83 yX8_liars ∈ lw_tbl := List.mem_of_getElem? (i := 609) (by decide +kernel)
theorem wm_610 : Cond.instanceMethod yX8_liars ∈ lw_tbl := List.mem_of_getElem? (i := 610) (by decide +kernel)
theorem wm_611 : Cond.selects yX8_liars.cls yX8_liars yX8_liars ∈ lw_tbl := List.mem_of_getElem? (i := 611) (by decide +kernel)
theorem wm_612 : Cond.code YX8_liars.1 YX8_liars.2.1 YX8_liars.2.2.1 YX8_liars.2.2.2 ∈ lw_tbl := List.mem_of_getElem? (i := 612) (by decide +kernel)
theorem cv_L_83 : CV RL 83 YX8_liars 1 := ⟨wm_609, wm_610, wm_611, wm_58, wm_612, ⟨by decide +kernel, by decide +kernel, by decide +kernel⟩⟩
theorem wm_613 : Cond.methodLink RX8 227 yX8_liarsBy ∈ lw_tbl := List.mem_of_getElem? (i := 613) (by decide +kernel)
theorem wm_615 : Cond.instanceMethod yX8_liarsBy ∈ lw_tbl := List.mem_of_getElem? (i := 615) (by decide +kernel)
theorem wm_17 : Cond.selects yX8_liarsBy.cls yX8_liarsBy yX8_liarsBy ∈ lw_tbl := List.mem_of_getElem? (i := 17) (by decide +kernel)
theorem wm_616 : Cond.code YX8_liarsBy.1 YX8_liarsBy.2.1 YX8_liarsBy.2.2.1 YX8_liarsBy.2.2.2 ∈ lw_tbl := List.mem_of_getElem? (i := 616) (by decide +kernel)
theorem cv_X8_227 : CV RX8 227 YX8_liarsBy 1 := ⟨wm_613, wm_615, wm_17, wm_58, wm_616, ⟨by decide +kernel, by decide +kernel, by decide +kernel⟩⟩
theorem wm_617 : Cond.methodLink RL 87 yX8_leastLiars ∈ lw_tbl := List.mem_of_getElem? (i := 617) (by decide +kernel)
theorem wm_618 : Cond.instanceMethod yX8_leastLiars ∈ lw_tbl := List.mem_of_getElem? (i := 618) (by decide +kernel)
theorem wm_619 : Cond.selects yX8_leastLiars.cls yX8_leastLiars yX8_leastLiars ∈ lw_tbl := List.mem_of_getElem? (i := 619) (by decide +kernel)
theorem wm_620 : Cond.code YX8_leastLiars.1 YX8_leastLiars.2.1 YX8_leastLiars.2.2.1 YX8_leastLiars.2.2.2 ∈ lw_tbl := List.mem_of_getElem? (i := 620) (by decide +kernel)
theorem cv_L_87 : CV RL 87 YX8_leastLiars 1 := ⟨wm_617, wm_618, wm_619, wm_58, wm_620, ⟨by decide +kernel, by decide +kernel, by decide +kernel⟩⟩
theorem wm_621 : Cond.methodLink RX8 230 yX8_wayOfFewestLiars ∈ lw_tbl := List.mem_of_getElem? (i := 621) (by decide +kernel)
theorem wm_623 : Cond.instanceMethod yX8_wayOfFewestLiars ∈ lw_tbl := List.mem_of_getElem? (i := 623) (by decide +kernel)
theorem wm_18 : Cond.selects yX8_wayOfFewestLiars.cls yX8_wayOfFewestLiars yX8_wayOfFewestLiars ∈ lw_tbl := List.mem_of_getElem? (i := 18) (by decide +kernel)
theorem wm_624 : Cond.code YX8_wayOfFewestLiars.1 YX8_wayOfFewestLiars.2.1 YX8_wayOfFewestLiars.2.2.1 YX8_wayOfFewestLiars.2.2.2 ∈ lw_tbl := List.mem_of_getElem? (i := 624) (by decide +kernel)
theorem cv_X8_230 : CV RX8 230 YX8_wayOfFewestLiars 0 := ⟨wm_621, wm_623, wm_18, wm_58, wm_624, ⟨by decide +kernel, by decide +kernel, by decide +kernel⟩⟩
theorem wm_625 : Cond.methodLink RX8 233 yJ6_bitCount_0f7a4 ∈ lw_tbl := List.mem_of_getElem? (i := 625) (by decide +kernel)
theorem wm_626 : Cond.static yJ6_bitCount_0f7a4 ∈ lw_tbl := List.mem_of_getElem? (i := 626) (by decide +kernel)
theorem wm_69 : Cond.initialized RJ6 ∈ lw_tbl := List.mem_of_getElem? (i := 69) (by decide +kernel)
theorem wm_627 : Cond.code YJ6_bitCount_0f7a4.1 YJ6_bitCount_0f7a4.2.1 YJ6_bitCount_0f7a4.2.2.1 YJ6_bitCount_0f7a4.2.2.2 ∈ lw_tbl := List.mem_of_getElem? (i := 627) (by decide +kernel)
theorem cv_X8_233 : CS RX8 233 YJ6_bitCount_0f7a4 1 := ⟨wm_625, wm_626, wm_69, wm_627, ⟨by decide +kernel, by decide +kernel, by decide +kernel⟩⟩
theorem wm_631 : Cond.methodLink RL 91 yX8_ruleOut ∈ lw_tbl := List.mem_of_getElem? (i := 631) (by decide +kernel)
theorem wm_632 : Cond.instanceMethod yX8_ruleOut ∈ lw_tbl := List.mem_of_getElem? (i := 632) (by decide +kernel)
theorem wm_633 : Cond.selects yX8_ruleOut.cls yX8_ruleOut yX8_ruleOut ∈ lw_tbl := List.mem_of_getElem? (i := 633) (by decide +kernel)
theorem wm_634 : Cond.code YX8_ruleOut.1 YX8_ruleOut.2.1 YX8_ruleOut.2.2.1 YX8_ruleOut.2.2.2 ∈ lw_tbl := List.mem_of_getElem? (i := 634) (by decide +kernel)
theorem cv_L_91 : CV RL 91 YX8_ruleOut 3 := ⟨wm_631, wm_632, wm_633, wm_58, wm_634, ⟨by decide +kernel, by decide +kernel, by decide +kernel⟩⟩
theorem wm_635 : Cond.methodLink RX8 238 yX8_cheapestTests ∈ lw_tbl := List.mem_of_getElem? (i := 635) (by decide +kernel)
theorem wm_637 : Cond.instanceMethod yX8_cheapestTests ∈ lw_tbl := List.mem_of_getElem? (i := 637) (by decide +kernel)
theorem wm_19 : Cond.selects yX8_cheapestTests.cls yX8_cheapestTests yX8_cheapestTests ∈ lw_tbl := List.mem_of_getElem? (i := 19) (by decide +kernel)
theorem wm_638 : Cond.code YX8_cheapestTests.1 YX8_cheapestTests.2.1 YX8_cheapestTests.2.2.1 YX8_cheapestTests.2.2.2 ∈ lw_tbl := List.mem_of_getElem? (i := 638) (by decide +kernel)
theorem cv_X8_238 : CV RX8 238 YX8_cheapestTests 2 := ⟨wm_635, wm_637, wm_19, wm_58, wm_638, ⟨by decide +kernel, by decide +kernel, by decide +kernel⟩⟩
theorem wm_639 : Cond.methodLink RX8 241 yX8_costYet ∈ lw_tbl := List.mem_of_getElem? (i := 639) (by decide +kernel)
theorem wm_641 : Cond.instanceMethod yX8_costYet ∈ lw_tbl := List.mem_of_getElem? (i := 641) (by decide +kernel)
theorem wm_20 : Cond.selects yX8_costYet.cls yX8_costYet yX8_costYet ∈ lw_tbl := List.mem_of_getElem? (i := 20) (by decide +kernel)
theorem wm_642 : Cond.code YX8_costYet.1 YX8_costYet.2.1 YX8_costYet.2.2.1 YX8_costYet.2.2.2 ∈ lw_tbl := List.mem_of_getElem? (i := 642) (by decide +kernel)
theorem cv_X8_241 : CV RX8 241 YX8_costYet 1 := ⟨wm_639, wm_641, wm_20, wm_58, wm_642, ⟨by decide +kernel, by decide +kernel, by decide +kernel⟩⟩
theorem wm_643 : Cond.methodLink RL 95 yX8_next ∈ lw_tbl := List.mem_of_getElem? (i := 643) (by decide +kernel)
theorem wm_644 : Cond.instanceMethod yX8_next ∈ lw_tbl := List.mem_of_getElem? (i := 644) (by decide +kernel)
theorem wm_645 : Cond.selects yX8_next.cls yX8_next yX8_next ∈ lw_tbl := List.mem_of_getElem? (i := 645) (by decide +kernel)
theorem wm_646 : Cond.code YX8_next.1 YX8_next.2.1 YX8_next.2.2.1 YX8_next.2.2.2 ∈ lw_tbl := List.mem_of_getElem? (i := 646) (by decide +kernel)
theorem cv_L_95 : CV RL 95 YX8_next 0 := ⟨wm_643, wm_644, wm_645, wm_58, wm_646, ⟨by decide +kernel, by decide +kernel, by decide +kernel⟩⟩
theorem wm_647 : Cond.methodLink RX8 244 yX2_likelyOf ∈ lw_tbl := List.mem_of_getElem? (i := 647) (by decide +kernel)
theorem cv_X8_244 : CV RX8 244 YX2_likelyOf 1 := ⟨wm_647, wm_604, wm_605, wm_60, wm_606, ⟨by decide +kernel, by decide +kernel, by decide +kernel⟩⟩
theorem wm_648 : Cond.methodLink RL 99 yX8_offer ∈ lw_tbl := List.mem_of_getElem? (i := 648) (by decide +kernel)
theorem wm_649 : Cond.instanceMethod yX8_offer ∈ lw_tbl := List.mem_of_getElem? (i := 649) (by decide +kernel)
theorem wm_650 : Cond.selects yX8_offer.cls yX8_offer yX8_offer ∈ lw_tbl := List.mem_of_getElem? (i := 650) (by decide +kernel)
theorem wm_651 : Cond.code YX8_offer.1 YX8_offer.2.1 YX8_offer.2.2.1 YX8_offer.2.2.2 ∈ lw_tbl := List.mem_of_getElem? (i := 651) (by decide +kernel)
theorem cv_L_99 : CV RL 99 YX8_offer 2 := ⟨wm_648, wm_649, wm_650, wm_58, wm_651, ⟨by decide +kernel, by decide +kernel, by decide +kernel⟩⟩
theorem wm_652 : Cond.methodLink RX8 247 yX8_offerFor ∈ lw_tbl := List.mem_of_getElem? (i := 652) (by decide +kernel)
theorem wm_654 : Cond.instanceMethod yX8_offerFor ∈ lw_tbl := List.mem_of_getElem? (i := 654) (by decide +kernel)
theorem wm_21 : Cond.selects yX8_offerFor.cls yX8_offerFor yX8_offerFor ∈ lw_tbl := List.mem_of_getElem? (i := 21) (by decide +kernel)
theorem wm_655 : Cond.code YX8_offerFor.1 YX8_offerFor.2.1 YX8_offerFor.2.2.1 YX8_offerFor.2.2.2 ∈ lw_tbl := List.mem_of_getElem? (i := 655) (by decide +kernel)
theorem cv_X8_247 : CV RX8 247 YX8_offerFor 3 := ⟨wm_652, wm_654, wm_21, wm_58, wm_655, ⟨by decide +kernel, by decide +kernel, by decide +kernel⟩⟩
theorem wm_657 : Cond.methodLink RX8 306 yJ9_max_7cf53 ∈ lw_tbl := List.mem_of_getElem? (i := 657) (by decide +kernel)
theorem wm_658 : Cond.static yJ9_max_7cf53 ∈ lw_tbl := List.mem_of_getElem? (i := 658) (by decide +kernel)
theorem wm_659 : Cond.code YJ9_max_7cf53.1 YJ9_max_7cf53.2.1 YJ9_max_7cf53.2.2.1 YJ9_max_7cf53.2.2.2 ∈ lw_tbl := List.mem_of_getElem? (i := 659) (by decide +kernel)
theorem cv_X8_306 : CS RX8 306 YJ9_max_7cf53 2 := ⟨wm_657, wm_658, wm_68, wm_659, ⟨by decide +kernel, by decide +kernel, by decide +kernel⟩⟩
theorem wm_660 : Cond.methodLink RL 103 yX8_both ∈ lw_tbl := List.mem_of_getElem? (i := 660) (by decide +kernel)
theorem wm_661 : Cond.instanceMethod yX8_both ∈ lw_tbl := List.mem_of_getElem? (i := 661) (by decide +kernel)
theorem wm_662 : Cond.selects yX8_both.cls yX8_both yX8_both ∈ lw_tbl := List.mem_of_getElem? (i := 662) (by decide +kernel)
theorem wm_663 : Cond.code YX8_both.1 YX8_both.2.1 YX8_both.2.2.1 YX8_both.2.2.2 ∈ lw_tbl := List.mem_of_getElem? (i := 663) (by decide +kernel)
theorem cv_L_103 : CV RL 103 YX8_both 3 := ⟨wm_660, wm_661, wm_662, wm_58, wm_663, ⟨by decide +kernel, by decide +kernel, by decide +kernel⟩⟩
theorem wm_664 : Cond.methodLink RL 107 yX8_worth ∈ lw_tbl := List.mem_of_getElem? (i := 664) (by decide +kernel)
theorem wm_665 : Cond.instanceMethod yX8_worth ∈ lw_tbl := List.mem_of_getElem? (i := 665) (by decide +kernel)
theorem wm_666 : Cond.selects yX8_worth.cls yX8_worth yX8_worth ∈ lw_tbl := List.mem_of_getElem? (i := 666) (by decide +kernel)
theorem wm_667 : Cond.code YX8_worth.1 YX8_worth.2.1 YX8_worth.2.2.1 YX8_worth.2.2.2 ∈ lw_tbl := List.mem_of_getElem? (i := 667) (by decide +kernel)
theorem cv_L_107 : CV RL 107 YX8_worth 2 := ⟨wm_664, wm_665, wm_666, wm_58, wm_667, ⟨by decide +kernel, by decide +kernel, by decide +kernel⟩⟩
theorem wm_669 : Cond.methodLink RL 111 yX8_secret ∈ lw_tbl := List.mem_of_getElem? (i := 669) (by decide +kernel)
theorem wm_670 : Cond.instanceMethod yX8_secret ∈ lw_tbl := List.mem_of_getElem? (i := 670) (by decide +kernel)
theorem wm_671 : Cond.selects yX8_secret.cls yX8_secret yX8_secret ∈ lw_tbl := List.mem_of_getElem? (i := 671) (by decide +kernel)
theorem wm_672 : Cond.code YX8_secret.1 YX8_secret.2.1 YX8_secret.2.2.1 YX8_secret.2.2.2 ∈ lw_tbl := List.mem_of_getElem? (i := 672) (by decide +kernel)
theorem cv_L_111 : CV RL 111 YX8_secret 2 := ⟨wm_669, wm_670, wm_671, wm_58, wm_672, ⟨by decide +kernel, by decide +kernel, by decide +kernel⟩⟩
theorem wm_674 : Cond.methodLink RL 115 yX8_hear ∈ lw_tbl := List.mem_of_getElem? (i := 674) (by decide +kernel)
theorem wm_675 : Cond.instanceMethod yX8_hear ∈ lw_tbl := List.mem_of_getElem? (i := 675) (by decide +kernel)
theorem wm_676 : Cond.selects yX8_hear.cls yX8_hear yX8_hear ∈ lw_tbl := List.mem_of_getElem? (i := 676) (by decide +kernel)
theorem wm_677 : Cond.code YX8_hear.1 YX8_hear.2.1 YX8_hear.2.2.1 YX8_hear.2.2.2 ∈ lw_tbl := List.mem_of_getElem? (i := 677) (by decide +kernel)
theorem cv_L_115 : CV RL 115 YX8_hear 2 := ⟨wm_674, wm_675, wm_676, wm_58, wm_677, ⟨by decide +kernel, by decide +kernel, by decide +kernel⟩⟩
theorem wm_678 : Cond.methodLink RX8 253 yX4_add ∈ lw_tbl := List.mem_of_getElem? (i := 678) (by decide +kernel)
theorem wm_679 : Cond.instanceMethod yX4_add ∈ lw_tbl := List.mem_of_getElem? (i := 679) (by decide +kernel)
theorem wm_680 : Cond.selects yX4_add.cls yX4_add yX4_add ∈ lw_tbl := List.mem_of_getElem? (i := 680) (by decide +kernel)
theorem wm_63 : Cond.initialized RX4 ∈ lw_tbl := List.mem_of_getElem? (i := 63) (by decide +kernel)
theorem wm_681 : Cond.code YX4_add.1 YX4_add.2.1 YX4_add.2.2.1 YX4_add.2.2.2 ∈ lw_tbl := List.mem_of_getElem? (i := 681) (by decide +kernel)
theorem cv_X8_253 : CV RX8 253 YX4_add 2 := ⟨wm_678, wm_679, wm_680, wm_63, wm_681, ⟨by decide +kernel, by decide +kernel, by decide +kernel⟩⟩
theorem wm_682 : Cond.methodLink RL 119 yX8_paid ∈ lw_tbl := List.mem_of_getElem? (i := 682) (by decide +kernel)
theorem wm_683 : Cond.instanceMethod yX8_paid ∈ lw_tbl := List.mem_of_getElem? (i := 683) (by decide +kernel)
theorem wm_684 : Cond.selects yX8_paid.cls yX8_paid yX8_paid ∈ lw_tbl := List.mem_of_getElem? (i := 684) (by decide +kernel)
theorem wm_685 : Cond.code YX8_paid.1 YX8_paid.2.1 YX8_paid.2.2.1 YX8_paid.2.2.2 ∈ lw_tbl := List.mem_of_getElem? (i := 685) (by decide +kernel)
theorem cv_L_119 : CV RL 119 YX8_paid 0 := ⟨wm_682, wm_683, wm_684, wm_58, wm_685, ⟨by decide +kernel, by decide +kernel, by decide +kernel⟩⟩
theorem wm_686 : Cond.methodLink RX8 257 yX4_fitting ∈ lw_tbl := List.mem_of_getElem? (i := 686) (by decide +kernel)
theorem wm_687 : Cond.instanceMethod yX4_fitting ∈ lw_tbl := List.mem_of_getElem? (i := 687) (by decide +kernel)
theorem wm_688 : Cond.selects yX4_fitting.cls yX4_fitting yX4_fitting ∈ lw_tbl := List.mem_of_getElem? (i := 688) (by decide +kernel)
theorem wm_689 : Cond.code YX4_fitting.1 YX4_fitting.2.1 YX4_fitting.2.2.1 YX4_fitting.2.2.2 ∈ lw_tbl := List.mem_of_getElem? (i := 689) (by decide +kernel)
theorem cv_X8_257 : CV RX8 257 YX4_fitting 1 := ⟨wm_686, wm_687, wm_688, wm_63, wm_689, ⟨by decide +kernel, by decide +kernel, by decide +kernel⟩⟩
theorem wm_690 : Cond.methodLink RX4 23 yX4_fits ∈ lw_tbl := List.mem_of_getElem? (i := 690) (by decide +kernel)
theorem wm_692 : Cond.instanceMethod yX4_fits ∈ lw_tbl := List.mem_of_getElem? (i := 692) (by decide +kernel)
theorem wm_22 : Cond.selects yX4_fits.cls yX4_fits yX4_fits ∈ lw_tbl := List.mem_of_getElem? (i := 22) (by decide +kernel)
theorem wm_693 : Cond.code YX4_fits.1 YX4_fits.2.1 YX4_fits.2.2.1 YX4_fits.2.2.2 ∈ lw_tbl := List.mem_of_getElem? (i := 693) (by decide +kernel)
theorem cv_X4_23 : CV RX4 23 YX4_fits 2 := ⟨wm_690, wm_692, wm_22, wm_63, wm_693, ⟨by decide +kernel, by decide +kernel, by decide +kernel⟩⟩
theorem wm_694 : Cond.methodLink RX4 27 yX4_gotMoney ∈ lw_tbl := List.mem_of_getElem? (i := 694) (by decide +kernel)
theorem wm_695 : Cond.static yX4_gotMoney ∈ lw_tbl := List.mem_of_getElem? (i := 695) (by decide +kernel)
theorem wm_696 : Cond.code YX4_gotMoney.1 YX4_gotMoney.2.1 YX4_gotMoney.2.2.1 YX4_gotMoney.2.2.2 ∈ lw_tbl := List.mem_of_getElem? (i := 696) (by decide +kernel)
theorem cv_X4_27 : CS RX4 27 YX4_gotMoney 3 := ⟨wm_694, wm_695, wm_63, wm_696, ⟨by decide +kernel, by decide +kernel, by decide +kernel⟩⟩
theorem wm_697 : Cond.methodLink RL 123 yX8_ask ∈ lw_tbl := List.mem_of_getElem? (i := 697) (by decide +kernel)
theorem wm_698 : Cond.instanceMethod yX8_ask ∈ lw_tbl := List.mem_of_getElem? (i := 698) (by decide +kernel)
theorem wm_699 : Cond.selects yX8_ask.cls yX8_ask yX8_ask ∈ lw_tbl := List.mem_of_getElem? (i := 699) (by decide +kernel)
theorem wm_700 : Cond.code YX8_ask.1 YX8_ask.2.1 YX8_ask.2.2.1 YX8_ask.2.2.2 ∈ lw_tbl := List.mem_of_getElem? (i := 700) (by decide +kernel)
theorem cv_L_123 : CV RL 123 YX8_ask 0 := ⟨wm_697, wm_698, wm_699, wm_58, wm_700, ⟨by decide +kernel, by decide +kernel, by decide +kernel⟩⟩
theorem wm_701 : Cond.methodLink RX8 260 yX4_bestQuestion ∈ lw_tbl := List.mem_of_getElem? (i := 701) (by decide +kernel)
theorem wm_702 : Cond.instanceMethod yX4_bestQuestion ∈ lw_tbl := List.mem_of_getElem? (i := 702) (by decide +kernel)
theorem wm_703 : Cond.selects yX4_bestQuestion.cls yX4_bestQuestion yX4_bestQuestion ∈ lw_tbl := List.mem_of_getElem? (i := 703) (by decide +kernel)
theorem wm_704 : Cond.code YX4_bestQuestion.1 YX4_bestQuestion.2.1 YX4_bestQuestion.2.2.1 YX4_bestQuestion.2.2.2 ∈ lw_tbl := List.mem_of_getElem? (i := 704) (by decide +kernel)
theorem cv_X8_260 : CV RX8 260 YX4_bestQuestion 1 := ⟨wm_701, wm_702, wm_703, wm_63, wm_704, ⟨by decide +kernel, by decide +kernel, by decide +kernel⟩⟩
theorem wm_705 : Cond.methodLink RX4 31 yX4_fitting ∈ lw_tbl := List.mem_of_getElem? (i := 705) (by decide +kernel)
theorem cv_X4_31 : CV RX4 31 YX4_fitting 1 := ⟨wm_705, wm_687, wm_688, wm_63, wm_689, ⟨by decide +kernel, by decide +kernel, by decide +kernel⟩⟩
theorem wm_706 : Cond.methodLink RX4 35 yJ6_bitCount_0f7a4 ∈ lw_tbl := List.mem_of_getElem? (i := 706) (by decide +kernel)
theorem cv_X4_35 : CS RX4 35 YJ6_bitCount_0f7a4 1 := ⟨wm_706, wm_626, wm_69, wm_627, ⟨by decide +kernel, by decide +kernel, by decide +kernel⟩⟩
theorem wm_707 : Cond.methodLink RX4 40 yX4_greaterPart ∈ lw_tbl := List.mem_of_getElem? (i := 707) (by decide +kernel)
theorem wm_708 : Cond.static yX4_greaterPart ∈ lw_tbl := List.mem_of_getElem? (i := 708) (by decide +kernel)
theorem wm_709 : Cond.code YX4_greaterPart.1 YX4_greaterPart.2.1 YX4_greaterPart.2.2.1 YX4_greaterPart.2.2.2 ∈ lw_tbl := List.mem_of_getElem? (i := 709) (by decide +kernel)
theorem cv_X4_40 : CS RX4 40 YX4_greaterPart 3 := ⟨wm_707, wm_708, wm_63, wm_709, ⟨by decide +kernel, by decide +kernel, by decide +kernel⟩⟩
theorem wm_711 : Cond.methodLink RX4 47 yJ9_max_7cf53 ∈ lw_tbl := List.mem_of_getElem? (i := 711) (by decide +kernel)
theorem cv_X4_47 : CS RX4 47 YJ9_max_7cf53 2 := ⟨wm_711, wm_658, wm_68, wm_659, ⟨by decide +kernel, by decide +kernel, by decide +kernel⟩⟩
theorem wm_712 : Cond.methodLink RL 127 yX8_write ∈ lw_tbl := List.mem_of_getElem? (i := 712) (by decide +kernel)
theorem wm_713 : Cond.instanceMethod yX8_write ∈ lw_tbl := List.mem_of_getElem? (i := 713) (by decide +kernel)
theorem wm_714 : Cond.selects yX8_write.cls yX8_write yX8_write ∈ lw_tbl := List.mem_of_getElem? (i := 714) (by decide +kernel)
theorem wm_715 : Cond.code YX8_write.1 YX8_write.2.1 YX8_write.2.2.1 YX8_write.2.2.2 ∈ lw_tbl := List.mem_of_getElem? (i := 715) (by decide +kernel)
theorem cv_L_127 : CV RL 127 YX8_write 1 := ⟨wm_712, wm_713, wm_714, wm_58, wm_715, ⟨by decide +kernel, by decide +kernel, by decide +kernel⟩⟩
theorem wm_716 : Cond.methodLink RX8 263 yX1_add ∈ lw_tbl := List.mem_of_getElem? (i := 716) (by decide +kernel)
theorem wm_717 : Cond.instanceMethod yX1_add ∈ lw_tbl := List.mem_of_getElem? (i := 717) (by decide +kernel)
theorem wm_718 : Cond.selects yX1_add.cls yX1_add yX1_add ∈ lw_tbl := List.mem_of_getElem? (i := 718) (by decide +kernel)
theorem wm_64 : Cond.initialized RX1 ∈ lw_tbl := List.mem_of_getElem? (i := 64) (by decide +kernel)
theorem wm_719 : Cond.code YX1_add.1 YX1_add.2.1 YX1_add.2.2.1 YX1_add.2.2.2 ∈ lw_tbl := List.mem_of_getElem? (i := 719) (by decide +kernel)
theorem cv_X8_263 : CV RX8 263 YX1_add 1 := ⟨wm_716, wm_717, wm_718, wm_64, wm_719, ⟨by decide +kernel, by decide +kernel, by decide +kernel⟩⟩
theorem wm_720 : Cond.methodLink RL 131 yX8_tear ∈ lw_tbl := List.mem_of_getElem? (i := 720) (by decide +kernel)
theorem wm_721 : Cond.instanceMethod yX8_tear ∈ lw_tbl := List.mem_of_getElem? (i := 721) (by decide +kernel)
theorem wm_722 : Cond.selects yX8_tear.cls yX8_tear yX8_tear ∈ lw_tbl := List.mem_of_getElem? (i := 722) (by decide +kernel)
theorem wm_723 : Cond.code YX8_tear.1 YX8_tear.2.1 YX8_tear.2.2.1 YX8_tear.2.2.2 ∈ lw_tbl := List.mem_of_getElem? (i := 723) (by decide +kernel)
theorem cv_L_131 : CV RL 131 YX8_tear 0 := ⟨wm_720, wm_721, wm_722, wm_58, wm_723, ⟨by decide +kernel, by decide +kernel, by decide +kernel⟩⟩
theorem wm_724 : Cond.methodLink RL 135 yX8_judge ∈ lw_tbl := List.mem_of_getElem? (i := 724) (by decide +kernel)
theorem wm_725 : Cond.instanceMethod yX8_judge ∈ lw_tbl := List.mem_of_getElem? (i := 725) (by decide +kernel)
theorem wm_726 : Cond.selects yX8_judge.cls yX8_judge yX8_judge ∈ lw_tbl := List.mem_of_getElem? (i := 726) (by decide +kernel)
theorem wm_727 : Cond.code YX8_judge.1 YX8_judge.2.1 YX8_judge.2.2.1 YX8_judge.2.2.2 ∈ lw_tbl := List.mem_of_getElem? (i := 727) (by decide +kernel)
theorem cv_L_135 : CV RL 135 YX8_judge 0 := ⟨wm_724, wm_725, wm_726, wm_58, wm_727, ⟨by decide +kernel, by decide +kernel, by decide +kernel⟩⟩
theorem wm_728 : Cond.methodLink RX8 265 yX1_firstOtherThan ∈ lw_tbl := List.mem_of_getElem? (i := 728) (by decide +kernel)
theorem wm_729 : Cond.instanceMethod yX1_firstOtherThan ∈ lw_tbl := List.mem_of_getElem? (i := 729) (by decide +kernel)
theorem wm_730 : Cond.selects yX1_firstOtherThan.cls yX1_firstOtherThan yX1_firstOtherThan ∈ lw_tbl := List.mem_of_getElem? (i := 730) (by decide +kernel)
theorem wm_731 : Cond.code YX1_firstOtherThan.1 YX1_firstOtherThan.2.1 YX1_firstOtherThan.2.2.1 YX1_firstOtherThan.2.2.2 ∈ lw_tbl := List.mem_of_getElem? (i := 731) (by decide +kernel)
theorem cv_X8_265 : CV RX8 265 YX1_firstOtherThan 1 := ⟨wm_728, wm_729, wm_730, wm_64, wm_731, ⟨by decide +kernel, by decide +kernel, by decide +kernel⟩⟩
theorem wm_732 : Cond.methodLink RL 139 yX8_seed ∈ lw_tbl := List.mem_of_getElem? (i := 732) (by decide +kernel)
theorem wm_733 : Cond.instanceMethod yX8_seed ∈ lw_tbl := List.mem_of_getElem? (i := 733) (by decide +kernel)
theorem wm_734 : Cond.selects yX8_seed.cls yX8_seed yX8_seed ∈ lw_tbl := List.mem_of_getElem? (i := 734) (by decide +kernel)
theorem wm_735 : Cond.code YX8_seed.1 YX8_seed.2.1 YX8_seed.2.2.1 YX8_seed.2.2.2 ∈ lw_tbl := List.mem_of_getElem? (i := 735) (by decide +kernel)
theorem cv_L_139 : CV RL 139 YX8_seed 1 := ⟨wm_732, wm_733, wm_734, wm_58, wm_735, ⟨by decide +kernel, by decide +kernel, by decide +kernel⟩⟩
theorem wm_736 : Cond.methodLink RL 143 yX8_keep ∈ lw_tbl := List.mem_of_getElem? (i := 736) (by decide +kernel)
theorem wm_737 : Cond.instanceMethod yX8_keep ∈ lw_tbl := List.mem_of_getElem? (i := 737) (by decide +kernel)
theorem wm_738 : Cond.selects yX8_keep.cls yX8_keep yX8_keep ∈ lw_tbl := List.mem_of_getElem? (i := 738) (by decide +kernel)
theorem wm_739 : Cond.code YX8_keep.1 YX8_keep.2.1 YX8_keep.2.2.1 YX8_keep.2.2.2 ∈ lw_tbl := List.mem_of_getElem? (i := 739) (by decide +kernel)
theorem cv_L_143 : CV RL 143 YX8_keep 1 := ⟨wm_736, wm_737, wm_738, wm_58, wm_739, ⟨by decide +kernel, by decide +kernel, by decide +kernel⟩⟩
theorem wm_740 : Cond.methodLink RX8 277 yX0_copyFrom ∈ lw_tbl := List.mem_of_getElem? (i := 740) (by decide +kernel)
theorem cv_X8_277 : CV RX8 277 YX0_copyFrom 1 := ⟨wm_740, wm_524, wm_525, wm_61, wm_526, ⟨by decide +kernel, by decide +kernel, by decide +kernel⟩⟩
theorem wm_741 : Cond.methodLink RL 147 yX8_goBack ∈ lw_tbl := List.mem_of_getElem? (i := 741) (by decide +kernel)
theorem wm_742 : Cond.instanceMethod yX8_goBack ∈ lw_tbl := List.mem_of_getElem? (i := 742) (by decide +kernel)
theorem wm_743 : Cond.selects yX8_goBack.cls yX8_goBack yX8_goBack ∈ lw_tbl := List.mem_of_getElem? (i := 743) (by decide +kernel)
theorem wm_744 : Cond.code YX8_goBack.1 YX8_goBack.2.1 YX8_goBack.2.2.1 YX8_goBack.2.2.2 ∈ lw_tbl := List.mem_of_getElem? (i := 744) (by decide +kernel)
theorem cv_L_147 : CV RL 147 YX8_goBack 1 := ⟨wm_741, wm_742, wm_743, wm_58, wm_744, ⟨by decide +kernel, by decide +kernel, by decide +kernel⟩⟩
theorem wm_747 : Cond.methodLink RL 12 yX9_init ∈ lw_tbl := List.mem_of_getElem? (i := 747) (by decide +kernel)
theorem wm_748 : Cond.instanceMethod yX9_init ∈ lw_tbl := List.mem_of_getElem? (i := 748) (by decide +kernel)
theorem wm_67 : Cond.initialized RX9 ∈ lw_tbl := List.mem_of_getElem? (i := 67) (by decide +kernel)
theorem wm_749 : Cond.code YX9_init.1 YX9_init.2.1 YX9_init.2.2.1 YX9_init.2.2.2 ∈ lw_tbl := List.mem_of_getElem? (i := 749) (by decide +kernel)
theorem cv_L_12 : CI RL 12 YX9_init 0 := ⟨wm_747, ⟨rfl, wm_748⟩, wm_67, wm_749, ⟨by decide +kernel, by decide +kernel, by decide +kernel⟩⟩
theorem wm_824 : Cond.methodLink RL 17 yX9_feed ∈ lw_tbl := List.mem_of_getElem? (i := 824) (by decide +kernel)
theorem wm_825 : Cond.instanceMethod yX9_feed ∈ lw_tbl := List.mem_of_getElem? (i := 825) (by decide +kernel)
theorem wm_826 : Cond.selects yX9_feed.cls yX9_feed yX9_feed ∈ lw_tbl := List.mem_of_getElem? (i := 826) (by decide +kernel)
theorem wm_827 : Cond.code YX9_feed.1 YX9_feed.2.1 YX9_feed.2.2.1 YX9_feed.2.2.2 ∈ lw_tbl := List.mem_of_getElem? (i := 827) (by decide +kernel)
theorem cv_L_17 : CV RL 17 YX9_feed 1 := ⟨wm_824, wm_825, wm_826, wm_67, wm_827, ⟨by decide +kernel, by decide +kernel, by decide +kernel⟩⟩
theorem wm_828 : Cond.methodLink RX9 63 yX9_in ∈ lw_tbl := List.mem_of_getElem? (i := 828) (by decide +kernel)
theorem wm_829 : Cond.static yX9_in ∈ lw_tbl := List.mem_of_getElem? (i := 829) (by decide +kernel)
theorem wm_830 : Cond.code YX9_in.1 YX9_in.2.1 YX9_in.2.2.1 YX9_in.2.2.2 ∈ lw_tbl := List.mem_of_getElem? (i := 830) (by decide +kernel)
theorem cv_X9_63 : CS RX9 63 YX9_in 3 := ⟨wm_828, wm_829, wm_67, wm_830, ⟨by decide +kernel, by decide +kernel, by decide +kernel⟩⟩
theorem wm_833 : Cond.methodLink RL 22 yX9_castle ∈ lw_tbl := List.mem_of_getElem? (i := 833) (by decide +kernel)
theorem wm_834 : Cond.instanceMethod yX9_castle ∈ lw_tbl := List.mem_of_getElem? (i := 834) (by decide +kernel)
theorem wm_835 : Cond.selects yX9_castle.cls yX9_castle yX9_castle ∈ lw_tbl := List.mem_of_getElem? (i := 835) (by decide +kernel)
theorem wm_836 : Cond.code YX9_castle.1 YX9_castle.2.1 YX9_castle.2.2.1 YX9_castle.2.2.2 ∈ lw_tbl := List.mem_of_getElem? (i := 836) (by decide +kernel)
theorem cv_L_22 : CV RL 22 YX9_castle 0 := ⟨wm_833, wm_834, wm_835, wm_67, wm_836, ⟨by decide +kernel, by decide +kernel, by decide +kernel⟩⟩
theorem wm_837 : Cond.methodLink RX9 82 yX9_skips ∈ lw_tbl := List.mem_of_getElem? (i := 837) (by decide +kernel)
theorem wm_839 : Cond.instanceMethod yX9_skips ∈ lw_tbl := List.mem_of_getElem? (i := 839) (by decide +kernel)
theorem wm_23 : Cond.selects yX9_skips.cls yX9_skips yX9_skips ∈ lw_tbl := List.mem_of_getElem? (i := 23) (by decide +kernel)
theorem wm_840 : Cond.code YX9_skips.1 YX9_skips.2.1 YX9_skips.2.2.1 YX9_skips.2.2.2 ∈ lw_tbl := List.mem_of_getElem? (i := 840) (by decide +kernel)
theorem cv_X9_82 : CV RX9 82 YX9_skips 0 := ⟨wm_837, wm_839, wm_23, wm_67, wm_840, ⟨by decide +kernel, by decide +kernel, by decide +kernel⟩⟩
theorem wm_841 : Cond.methodLink RX9 78 yX9_look ∈ lw_tbl := List.mem_of_getElem? (i := 841) (by decide +kernel)
theorem wm_843 : Cond.instanceMethod yX9_look ∈ lw_tbl := List.mem_of_getElem? (i := 843) (by decide +kernel)
theorem wm_24 : Cond.selects yX9_look.cls yX9_look yX9_look ∈ lw_tbl := List.mem_of_getElem? (i := 24) (by decide +kernel)
theorem wm_844 : Cond.code YX9_look.1 YX9_look.2.1 YX9_look.2.2.1 YX9_look.2.2.2 ∈ lw_tbl := List.mem_of_getElem? (i := 844) (by decide +kernel)
theorem cv_X9_78 : CV RX9 78 YX9_look 0 := ⟨wm_841, wm_843, wm_24, wm_67, wm_844, ⟨by decide +kernel, by decide +kernel, by decide +kernel⟩⟩
theorem wm_845 : Cond.methodLink RX9 119 yX9_reads ∈ lw_tbl := List.mem_of_getElem? (i := 845) (by decide +kernel)
theorem wm_847 : Cond.instanceMethod yX9_reads ∈ lw_tbl := List.mem_of_getElem? (i := 847) (by decide +kernel)
theorem wm_25 : Cond.selects yX9_reads.cls yX9_reads yX9_reads ∈ lw_tbl := List.mem_of_getElem? (i := 25) (by decide +kernel)
theorem wm_848 : Cond.code YX9_reads.1 YX9_reads.2.1 YX9_reads.2.2.1 YX9_reads.2.2.2 ∈ lw_tbl := List.mem_of_getElem? (i := 848) (by decide +kernel)
theorem cv_X9_119 : CV RX9 119 YX9_reads 0 := ⟨wm_845, wm_847, wm_25, wm_67, wm_848, ⟨by decide +kernel, by decide +kernel, by decide +kernel⟩⟩
theorem wm_849 : Cond.methodLink RX9 107 yX9_readsWays ∈ lw_tbl := List.mem_of_getElem? (i := 849) (by decide +kernel)
theorem wm_851 : Cond.instanceMethod yX9_readsWays ∈ lw_tbl := List.mem_of_getElem? (i := 851) (by decide +kernel)
theorem wm_26 : Cond.selects yX9_readsWays.cls yX9_readsWays yX9_readsWays ∈ lw_tbl := List.mem_of_getElem? (i := 26) (by decide +kernel)
theorem wm_852 : Cond.code YX9_readsWays.1 YX9_readsWays.2.1 YX9_readsWays.2.2.1 YX9_readsWays.2.2.2 ∈ lw_tbl := List.mem_of_getElem? (i := 852) (by decide +kernel)
theorem cv_X9_107 : CV RX9 107 YX9_readsWays 0 := ⟨wm_849, wm_851, wm_26, wm_67, wm_852, ⟨by decide +kernel, by decide +kernel, by decide +kernel⟩⟩
theorem wm_853 : Cond.methodLink RX9 89 yX9_opens ∈ lw_tbl := List.mem_of_getElem? (i := 853) (by decide +kernel)
theorem wm_855 : Cond.instanceMethod yX9_opens ∈ lw_tbl := List.mem_of_getElem? (i := 855) (by decide +kernel)
theorem wm_27 : Cond.selects yX9_opens.cls yX9_opens yX9_opens ∈ lw_tbl := List.mem_of_getElem? (i := 27) (by decide +kernel)
theorem wm_856 : Cond.code YX9_opens.1 YX9_opens.2.1 YX9_opens.2.2.1 YX9_opens.2.2.2 ∈ lw_tbl := List.mem_of_getElem? (i := 856) (by decide +kernel)
theorem cv_X9_89 : CV RX9 89 YX9_opens 1 := ⟨wm_853, wm_855, wm_27, wm_67, wm_856, ⟨by decide +kernel, by decide +kernel, by decide +kernel⟩⟩
theorem wm_857 : Cond.methodLink RX9 85 yX9_fails ∈ lw_tbl := List.mem_of_getElem? (i := 857) (by decide +kernel)
theorem wm_859 : Cond.instanceMethod yX9_fails ∈ lw_tbl := List.mem_of_getElem? (i := 859) (by decide +kernel)
theorem wm_28 : Cond.selects yX9_fails.cls yX9_fails yX9_fails ∈ lw_tbl := List.mem_of_getElem? (i := 28) (by decide +kernel)
theorem wm_860 : Cond.code YX9_fails.1 YX9_fails.2.1 YX9_fails.2.2.1 YX9_fails.2.2.2 ∈ lw_tbl := List.mem_of_getElem? (i := 860) (by decide +kernel)
theorem cv_X9_85 : CV RX9 85 YX9_fails 1 := ⟨wm_857, wm_859, wm_28, wm_67, wm_860, ⟨by decide +kernel, by decide +kernel, by decide +kernel⟩⟩
theorem wm_861 : Cond.methodLink RX9 93 yX9_number ∈ lw_tbl := List.mem_of_getElem? (i := 861) (by decide +kernel)
theorem wm_863 : Cond.instanceMethod yX9_number ∈ lw_tbl := List.mem_of_getElem? (i := 863) (by decide +kernel)
theorem wm_29 : Cond.selects yX9_number.cls yX9_number yX9_number ∈ lw_tbl := List.mem_of_getElem? (i := 29) (by decide +kernel)
theorem wm_864 : Cond.code YX9_number.1 YX9_number.2.1 YX9_number.2.2.1 YX9_number.2.2.2 ∈ lw_tbl := List.mem_of_getElem? (i := 864) (by decide +kernel)
theorem cv_X9_93 : CV RX9 93 YX9_number 2 := ⟨wm_861, wm_863, wm_29, wm_67, wm_864, ⟨by decide +kernel, by decide +kernel, by decide +kernel⟩⟩
theorem wm_865 : Cond.methodLink RX9 97 yX9_word ∈ lw_tbl := List.mem_of_getElem? (i := 865) (by decide +kernel)
theorem wm_867 : Cond.instanceMethod yX9_word ∈ lw_tbl := List.mem_of_getElem? (i := 867) (by decide +kernel)
theorem wm_30 : Cond.selects yX9_word.cls yX9_word yX9_word ∈ lw_tbl := List.mem_of_getElem? (i := 30) (by decide +kernel)
theorem wm_868 : Cond.code YX9_word.1 YX9_word.2.1 YX9_word.2.2.1 YX9_word.2.2.2 ∈ lw_tbl := List.mem_of_getElem? (i := 868) (by decide +kernel)
theorem cv_X9_97 : CV RX9 97 YX9_word 1 := ⟨wm_865, wm_867, wm_30, wm_67, wm_868, ⟨by decide +kernel, by decide +kernel, by decide +kernel⟩⟩
theorem wm_869 : Cond.methodLink RX9 110 yX9_readsTest ∈ lw_tbl := List.mem_of_getElem? (i := 869) (by decide +kernel)
theorem wm_871 : Cond.instanceMethod yX9_readsTest ∈ lw_tbl := List.mem_of_getElem? (i := 871) (by decide +kernel)
theorem wm_31 : Cond.selects yX9_readsTest.cls yX9_readsTest yX9_readsTest ∈ lw_tbl := List.mem_of_getElem? (i := 31) (by decide +kernel)
theorem wm_872 : Cond.code YX9_readsTest.1 YX9_readsTest.2.1 YX9_readsTest.2.2.1 YX9_readsTest.2.2.2 ∈ lw_tbl := List.mem_of_getElem? (i := 872) (by decide +kernel)
theorem cv_X9_110 : CV RX9 110 YX9_readsTest 0 := ⟨wm_869, wm_871, wm_31, wm_67, wm_872, ⟨by decide +kernel, by decide +kernel, by decide +kernel⟩⟩
theorem wm_873 : Cond.methodLink RX9 100 yX9_allOf ∈ lw_tbl := List.mem_of_getElem? (i := 873) (by decide +kernel)
theorem wm_874 : Cond.static yX9_allOf ∈ lw_tbl := List.mem_of_getElem? (i := 874) (by decide +kernel)
theorem wm_875 : Cond.code YX9_allOf.1 YX9_allOf.2.1 YX9_allOf.2.2.1 YX9_allOf.2.2.2 ∈ lw_tbl := List.mem_of_getElem? (i := 875) (by decide +kernel)
theorem cv_X9_100 : CS RX9 100 YX9_allOf 1 := ⟨wm_873, wm_874, wm_67, wm_875, ⟨by decide +kernel, by decide +kernel, by decide +kernel⟩⟩
theorem wm_876 : Cond.methodLink RX9 104 yX9_waysOf ∈ lw_tbl := List.mem_of_getElem? (i := 876) (by decide +kernel)
theorem wm_878 : Cond.instanceMethod yX9_waysOf ∈ lw_tbl := List.mem_of_getElem? (i := 878) (by decide +kernel)
theorem wm_32 : Cond.selects yX9_waysOf.cls yX9_waysOf yX9_waysOf ∈ lw_tbl := List.mem_of_getElem? (i := 32) (by decide +kernel)
theorem wm_879 : Cond.code YX9_waysOf.1 YX9_waysOf.2.1 YX9_waysOf.2.2.1 YX9_waysOf.2.2.2 ∈ lw_tbl := List.mem_of_getElem? (i := 879) (by decide +kernel)
theorem cv_X9_104 : CV RX9 104 YX9_waysOf 2 := ⟨wm_876, wm_878, wm_32, wm_67, wm_879, ⟨by decide +kernel, by decide +kernel, by decide +kernel⟩⟩
theorem wm_880 : Cond.methodLink RX9 113 yX9_readsServant ∈ lw_tbl := List.mem_of_getElem? (i := 880) (by decide +kernel)
theorem wm_882 : Cond.instanceMethod yX9_readsServant ∈ lw_tbl := List.mem_of_getElem? (i := 882) (by decide +kernel)
theorem wm_33 : Cond.selects yX9_readsServant.cls yX9_readsServant yX9_readsServant ∈ lw_tbl := List.mem_of_getElem? (i := 33) (by decide +kernel)
theorem wm_883 : Cond.code YX9_readsServant.1 YX9_readsServant.2.1 YX9_readsServant.2.2.1 YX9_readsServant.2.2.2 ∈ lw_tbl := List.mem_of_getElem? (i := 883) (by decide +kernel)
theorem cv_X9_113 : CV RX9 113 YX9_readsServant 0 := ⟨wm_880, wm_882, wm_33, wm_67, wm_883, ⟨by decide +kernel, by decide +kernel, by decide +kernel⟩⟩
theorem wm_884 : Cond.methodLink RX9 116 yX9_readsPay ∈ lw_tbl := List.mem_of_getElem? (i := 884) (by decide +kernel)
theorem wm_886 : Cond.instanceMethod yX9_readsPay ∈ lw_tbl := List.mem_of_getElem? (i := 886) (by decide +kernel)
theorem wm_34 : Cond.selects yX9_readsPay.cls yX9_readsPay yX9_readsPay ∈ lw_tbl := List.mem_of_getElem? (i := 34) (by decide +kernel)
theorem wm_887 : Cond.code YX9_readsPay.1 YX9_readsPay.2.1 YX9_readsPay.2.2.1 YX9_readsPay.2.2.2 ∈ lw_tbl := List.mem_of_getElem? (i := 887) (by decide +kernel)
theorem cv_X9_116 : CV RX9 116 YX9_readsPay 0 := ⟨wm_884, wm_886, wm_34, wm_67, wm_887, ⟨by decide +kernel, by decide +kernel, by decide +kernel⟩⟩
theorem wm_888 : Cond.methodLink RX9 122 yX9_copies ∈ lw_tbl := List.mem_of_getElem? (i := 888) (by decide +kernel)
theorem wm_889 : Cond.static yX9_copies ∈ lw_tbl := List.mem_of_getElem? (i := 889) (by decide +kernel)
theorem wm_890 : Cond.code YX9_copies.1 YX9_copies.2.1 YX9_copies.2.2.1 YX9_copies.2.2.2 ∈ lw_tbl := List.mem_of_getElem? (i := 890) (by decide +kernel)
theorem cv_X9_122 : CS RX9 122 YX9_copies 5 := ⟨wm_888, wm_889, wm_67, wm_890, ⟨by decide +kernel, by decide +kernel, by decide +kernel⟩⟩
theorem wm_891 : Cond.methodLink RL 26 yX9_fault ∈ lw_tbl := List.mem_of_getElem? (i := 891) (by decide +kernel)
theorem wm_892 : Cond.instanceMethod yX9_fault ∈ lw_tbl := List.mem_of_getElem? (i := 892) (by decide +kernel)
theorem wm_893 : Cond.selects yX9_fault.cls yX9_fault yX9_fault ∈ lw_tbl := List.mem_of_getElem? (i := 893) (by decide +kernel)
theorem wm_894 : Cond.code YX9_fault.1 YX9_fault.2.1 YX9_fault.2.2.1 YX9_fault.2.2.2 ∈ lw_tbl := List.mem_of_getElem? (i := 894) (by decide +kernel)
theorem cv_L_26 : CV RL 26 YX9_fault 0 := ⟨wm_891, wm_892, wm_893, wm_67, wm_894, ⟨by decide +kernel, by decide +kernel, by decide +kernel⟩⟩
theorem wm_895 : Cond.methodLink RL 30 yX9_told ∈ lw_tbl := List.mem_of_getElem? (i := 895) (by decide +kernel)
theorem wm_896 : Cond.instanceMethod yX9_told ∈ lw_tbl := List.mem_of_getElem? (i := 896) (by decide +kernel)
theorem wm_897 : Cond.selects yX9_told.cls yX9_told yX9_told ∈ lw_tbl := List.mem_of_getElem? (i := 897) (by decide +kernel)
theorem wm_898 : Cond.code YX9_told.1 YX9_told.2.1 YX9_told.2.2.1 YX9_told.2.2.2 ∈ lw_tbl := List.mem_of_getElem? (i := 898) (by decide +kernel)
theorem cv_L_30 : CV RL 30 YX9_told 1 := ⟨wm_895, wm_896, wm_897, wm_67, wm_898, ⟨by decide +kernel, by decide +kernel, by decide +kernel⟩⟩
theorem wm_899 : Cond.methodLink RX9 140 yX9_leftBy ∈ lw_tbl := List.mem_of_getElem? (i := 899) (by decide +kernel)
theorem wm_901 : Cond.instanceMethod yX9_leftBy ∈ lw_tbl := List.mem_of_getElem? (i := 901) (by decide +kernel)
theorem wm_35 : Cond.selects yX9_leftBy.cls yX9_leftBy yX9_leftBy ∈ lw_tbl := List.mem_of_getElem? (i := 35) (by decide +kernel)
theorem wm_902 : Cond.code YX9_leftBy.1 YX9_leftBy.2.1 YX9_leftBy.2.2.1 YX9_leftBy.2.2.2 ∈ lw_tbl := List.mem_of_getElem? (i := 902) (by decide +kernel)
theorem cv_X9_140 : CV RX9 140 YX9_leftBy 1 := ⟨wm_899, wm_901, wm_35, wm_67, wm_902, ⟨by decide +kernel, by decide +kernel, by decide +kernel⟩⟩
theorem wm_903 : Cond.methodLink RX9 135 yX9_has ∈ lw_tbl := List.mem_of_getElem? (i := 903) (by decide +kernel)
theorem wm_904 : Cond.static yX9_has ∈ lw_tbl := List.mem_of_getElem? (i := 904) (by decide +kernel)
theorem wm_905 : Cond.code YX9_has.1 YX9_has.2.1 YX9_has.2.2.1 YX9_has.2.2.2 ∈ lw_tbl := List.mem_of_getElem? (i := 905) (by decide +kernel)
theorem cv_X9_135 : CS RX9 135 YX9_has 2 := ⟨wm_903, wm_904, wm_67, wm_905, ⟨by decide +kernel, by decide +kernel, by decide +kernel⟩⟩
theorem wm_906 : Cond.methodLink RX9 143 yX9_shownBy ∈ lw_tbl := List.mem_of_getElem? (i := 906) (by decide +kernel)
theorem wm_908 : Cond.instanceMethod yX9_shownBy ∈ lw_tbl := List.mem_of_getElem? (i := 908) (by decide +kernel)
theorem wm_36 : Cond.selects yX9_shownBy.cls yX9_shownBy yX9_shownBy ∈ lw_tbl := List.mem_of_getElem? (i := 36) (by decide +kernel)
theorem wm_909 : Cond.code YX9_shownBy.1 YX9_shownBy.2.1 YX9_shownBy.2.2.1 YX9_shownBy.2.2.2 ∈ lw_tbl := List.mem_of_getElem? (i := 909) (by decide +kernel)
theorem cv_X9_143 : CV RX9 143 YX9_shownBy 1 := ⟨wm_906, wm_908, wm_36, wm_67, wm_909, ⟨by decide +kernel, by decide +kernel, by decide +kernel⟩⟩
theorem wm_910 : Cond.methodLink RX9 146 yX9_spent ∈ lw_tbl := List.mem_of_getElem? (i := 910) (by decide +kernel)
theorem wm_912 : Cond.instanceMethod yX9_spent ∈ lw_tbl := List.mem_of_getElem? (i := 912) (by decide +kernel)
theorem wm_37 : Cond.selects yX9_spent.cls yX9_spent yX9_spent ∈ lw_tbl := List.mem_of_getElem? (i := 37) (by decide +kernel)
theorem wm_913 : Cond.code YX9_spent.1 YX9_spent.2.1 YX9_spent.2.2.1 YX9_spent.2.2.2 ∈ lw_tbl := List.mem_of_getElem? (i := 913) (by decide +kernel)
theorem cv_X9_146 : CV RX9 146 YX9_spent 0 := ⟨wm_910, wm_912, wm_37, wm_67, wm_913, ⟨by decide +kernel, by decide +kernel, by decide +kernel⟩⟩
theorem wm_915 : Cond.methodLink RL 34 yX9_likely ∈ lw_tbl := List.mem_of_getElem? (i := 915) (by decide +kernel)
theorem wm_916 : Cond.instanceMethod yX9_likely ∈ lw_tbl := List.mem_of_getElem? (i := 916) (by decide +kernel)
theorem wm_917 : Cond.selects yX9_likely.cls yX9_likely yX9_likely ∈ lw_tbl := List.mem_of_getElem? (i := 917) (by decide +kernel)
theorem wm_918 : Cond.code YX9_likely.1 YX9_likely.2.1 YX9_likely.2.2.1 YX9_likely.2.2.2 ∈ lw_tbl := List.mem_of_getElem? (i := 918) (by decide +kernel)
theorem cv_L_34 : CV RL 34 YX9_likely 1 := ⟨wm_915, wm_916, wm_917, wm_67, wm_918, ⟨by decide +kernel, by decide +kernel, by decide +kernel⟩⟩
theorem wm_919 : Cond.methodLink RX9 149 yX9_isWay ∈ lw_tbl := List.mem_of_getElem? (i := 919) (by decide +kernel)
theorem wm_921 : Cond.instanceMethod yX9_isWay ∈ lw_tbl := List.mem_of_getElem? (i := 921) (by decide +kernel)
theorem wm_38 : Cond.selects yX9_isWay.cls yX9_isWay yX9_isWay ∈ lw_tbl := List.mem_of_getElem? (i := 38) (by decide +kernel)
theorem wm_922 : Cond.code YX9_isWay.1 YX9_isWay.2.1 YX9_isWay.2.2.1 YX9_isWay.2.2.2 ∈ lw_tbl := List.mem_of_getElem? (i := 922) (by decide +kernel)
theorem cv_X9_149 : CV RX9 149 YX9_isWay 1 := ⟨wm_919, wm_921, wm_38, wm_67, wm_922, ⟨by decide +kernel, by decide +kernel, by decide +kernel⟩⟩
theorem wm_924 : Cond.methodLink RL 39 yX9_test ∈ lw_tbl := List.mem_of_getElem? (i := 924) (by decide +kernel)
theorem wm_925 : Cond.instanceMethod yX9_test ∈ lw_tbl := List.mem_of_getElem? (i := 925) (by decide +kernel)
theorem wm_926 : Cond.selects yX9_test.cls yX9_test yX9_test ∈ lw_tbl := List.mem_of_getElem? (i := 926) (by decide +kernel)
theorem wm_927 : Cond.code YX9_test.1 YX9_test.2.1 YX9_test.2.2.1 YX9_test.2.2.2 ∈ lw_tbl := List.mem_of_getElem? (i := 927) (by decide +kernel)
theorem cv_L_39 : CV RL 39 YX9_test 2 := ⟨wm_924, wm_925, wm_926, wm_67, wm_927, ⟨by decide +kernel, by decide +kernel, by decide +kernel⟩⟩
theorem wm_928 : Cond.methodLink RX9 154 yX9_isTest ∈ lw_tbl := List.mem_of_getElem? (i := 928) (by decide +kernel)
theorem wm_930 : Cond.instanceMethod yX9_isTest ∈ lw_tbl := List.mem_of_getElem? (i := 930) (by decide +kernel)
theorem wm_39 : Cond.selects yX9_isTest.cls yX9_isTest yX9_isTest ∈ lw_tbl := List.mem_of_getElem? (i := 39) (by decide +kernel)
theorem wm_931 : Cond.code YX9_isTest.1 YX9_isTest.2.1 YX9_isTest.2.2.1 YX9_isTest.2.2.2 ∈ lw_tbl := List.mem_of_getElem? (i := 931) (by decide +kernel)
theorem cv_X9_154 : CV RX9 154 YX9_isTest 1 := ⟨wm_928, wm_930, wm_39, wm_67, wm_931, ⟨by decide +kernel, by decide +kernel, by decide +kernel⟩⟩
theorem wm_932 : Cond.methodLink RL 43 yX9_servant ∈ lw_tbl := List.mem_of_getElem? (i := 932) (by decide +kernel)
theorem wm_933 : Cond.instanceMethod yX9_servant ∈ lw_tbl := List.mem_of_getElem? (i := 933) (by decide +kernel)
theorem wm_934 : Cond.selects yX9_servant.cls yX9_servant yX9_servant ∈ lw_tbl := List.mem_of_getElem? (i := 934) (by decide +kernel)
theorem wm_935 : Cond.code YX9_servant.1 YX9_servant.2.1 YX9_servant.2.2.1 YX9_servant.2.2.2 ∈ lw_tbl := List.mem_of_getElem? (i := 935) (by decide +kernel)
theorem cv_L_43 : CV RL 43 YX9_servant 2 := ⟨wm_932, wm_933, wm_934, wm_67, wm_935, ⟨by decide +kernel, by decide +kernel, by decide +kernel⟩⟩
theorem wm_936 : Cond.methodLink RX9 157 yX9_isServant ∈ lw_tbl := List.mem_of_getElem? (i := 936) (by decide +kernel)
theorem wm_938 : Cond.instanceMethod yX9_isServant ∈ lw_tbl := List.mem_of_getElem? (i := 938) (by decide +kernel)
theorem wm_40 : Cond.selects yX9_isServant.cls yX9_isServant yX9_isServant ∈ lw_tbl := List.mem_of_getElem? (i := 40) (by decide +kernel)
theorem wm_939 : Cond.code YX9_isServant.1 YX9_isServant.2.1 YX9_isServant.2.2.1 YX9_isServant.2.2.2 ∈ lw_tbl := List.mem_of_getElem? (i := 939) (by decide +kernel)
theorem cv_X9_157 : CV RX9 157 YX9_isServant 1 := ⟨wm_936, wm_938, wm_40, wm_67, wm_939, ⟨by decide +kernel, by decide +kernel, by decide +kernel⟩⟩
theorem wm_940 : Cond.methodLink RL 47 yX9_day ∈ lw_tbl := List.mem_of_getElem? (i := 940) (by decide +kernel)
theorem wm_941 : Cond.instanceMethod yX9_day ∈ lw_tbl := List.mem_of_getElem? (i := 941) (by decide +kernel)
theorem wm_942 : Cond.selects yX9_day.cls yX9_day yX9_day ∈ lw_tbl := List.mem_of_getElem? (i := 942) (by decide +kernel)
theorem wm_943 : Cond.code YX9_day.1 YX9_day.2.1 YX9_day.2.2.1 YX9_day.2.2.2 ∈ lw_tbl := List.mem_of_getElem? (i := 943) (by decide +kernel)
theorem cv_L_47 : CV RL 47 YX9_day 1 := ⟨wm_940, wm_941, wm_942, wm_67, wm_943, ⟨by decide +kernel, by decide +kernel, by decide +kernel⟩⟩
theorem wm_944 : Cond.methodLink RX9 169 yX9_barred ∈ lw_tbl := List.mem_of_getElem? (i := 944) (by decide +kernel)
theorem wm_946 : Cond.instanceMethod yX9_barred ∈ lw_tbl := List.mem_of_getElem? (i := 946) (by decide +kernel)
theorem wm_41 : Cond.selects yX9_barred.cls yX9_barred yX9_barred ∈ lw_tbl := List.mem_of_getElem? (i := 41) (by decide +kernel)
theorem wm_947 : Cond.code YX9_barred.1 YX9_barred.2.1 YX9_barred.2.2.1 YX9_barred.2.2.2 ∈ lw_tbl := List.mem_of_getElem? (i := 947) (by decide +kernel)
theorem cv_X9_169 : CV RX9 169 YX9_barred 1 := ⟨wm_944, wm_946, wm_41, wm_67, wm_947, ⟨by decide +kernel, by decide +kernel, by decide +kernel⟩⟩
theorem wm_948 : Cond.methodLink RX9 164 yX9_isCastle ∈ lw_tbl := List.mem_of_getElem? (i := 948) (by decide +kernel)
theorem wm_950 : Cond.instanceMethod yX9_isCastle ∈ lw_tbl := List.mem_of_getElem? (i := 950) (by decide +kernel)
theorem wm_42 : Cond.selects yX9_isCastle.cls yX9_isCastle yX9_isCastle ∈ lw_tbl := List.mem_of_getElem? (i := 42) (by decide +kernel)
theorem wm_951 : Cond.code YX9_isCastle.1 YX9_isCastle.2.1 YX9_isCastle.2.2.1 YX9_isCastle.2.2.2 ∈ lw_tbl := List.mem_of_getElem? (i := 951) (by decide +kernel)
theorem cv_X9_164 : CV RX9 164 YX9_isCastle 0 := ⟨wm_948, wm_950, wm_42, wm_67, wm_951, ⟨by decide +kernel, by decide +kernel, by decide +kernel⟩⟩
theorem wm_953 : Cond.methodLink RX9 172 yX9_notes ∈ lw_tbl := List.mem_of_getElem? (i := 953) (by decide +kernel)
theorem wm_955 : Cond.instanceMethod yX9_notes ∈ lw_tbl := List.mem_of_getElem? (i := 955) (by decide +kernel)
theorem wm_43 : Cond.selects yX9_notes.cls yX9_notes yX9_notes ∈ lw_tbl := List.mem_of_getElem? (i := 43) (by decide +kernel)
theorem wm_956 : Cond.code YX9_notes.1 YX9_notes.2.1 YX9_notes.2.2.1 YX9_notes.2.2.2 ∈ lw_tbl := List.mem_of_getElem? (i := 956) (by decide +kernel)
theorem cv_X9_172 : CV RX9 172 YX9_notes 0 := ⟨wm_953, wm_955, wm_43, wm_67, wm_956, ⟨by decide +kernel, by decide +kernel, by decide +kernel⟩⟩
theorem wm_957 : Cond.methodLink RX9 175 yX9_passes ∈ lw_tbl := List.mem_of_getElem? (i := 957) (by decide +kernel)
theorem wm_959 : Cond.instanceMethod yX9_passes ∈ lw_tbl := List.mem_of_getElem? (i := 959) (by decide +kernel)
theorem wm_44 : Cond.selects yX9_passes.cls yX9_passes yX9_passes ∈ lw_tbl := List.mem_of_getElem? (i := 44) (by decide +kernel)
theorem wm_960 : Cond.code YX9_passes.1 YX9_passes.2.1 YX9_passes.2.2.1 YX9_passes.2.2.2 ∈ lw_tbl := List.mem_of_getElem? (i := 960) (by decide +kernel)
theorem cv_X9_175 : CV RX9 175 YX9_passes 0 := ⟨wm_957, wm_959, wm_44, wm_67, wm_960, ⟨by decide +kernel, by decide +kernel, by decide +kernel⟩⟩
theorem wm_961 : Cond.methodLink RX9 160 yX9_gets ∈ lw_tbl := List.mem_of_getElem? (i := 961) (by decide +kernel)
theorem wm_963 : Cond.instanceMethod yX9_gets ∈ lw_tbl := List.mem_of_getElem? (i := 963) (by decide +kernel)
theorem wm_45 : Cond.selects yX9_gets.cls yX9_gets yX9_gets ∈ lw_tbl := List.mem_of_getElem? (i := 45) (by decide +kernel)
theorem wm_964 : Cond.code YX9_gets.1 YX9_gets.2.1 YX9_gets.2.2.1 YX9_gets.2.2.2 ∈ lw_tbl := List.mem_of_getElem? (i := 964) (by decide +kernel)
theorem cv_X9_160 : CV RX9 160 YX9_gets 2 := ⟨wm_961, wm_963, wm_45, wm_67, wm_964, ⟨by decide +kernel, by decide +kernel, by decide +kernel⟩⟩
theorem wm_965 : Cond.methodLink RL 51 yX9_make ∈ lw_tbl := List.mem_of_getElem? (i := 965) (by decide +kernel)
theorem wm_966 : Cond.instanceMethod yX9_make ∈ lw_tbl := List.mem_of_getElem? (i := 966) (by decide +kernel)
theorem wm_967 : Cond.selects yX9_make.cls yX9_make yX9_make ∈ lw_tbl := List.mem_of_getElem? (i := 967) (by decide +kernel)
theorem wm_968 : Cond.code YX9_make.1 YX9_make.2.1 YX9_make.2.2.1 YX9_make.2.2.2 ∈ lw_tbl := List.mem_of_getElem? (i := 968) (by decide +kernel)
theorem cv_L_51 : CV RL 51 YX9_make 1 := ⟨wm_965, wm_966, wm_967, wm_67, wm_968, ⟨by decide +kernel, by decide +kernel, by decide +kernel⟩⟩
theorem wm_969 : Cond.methodLink RX9 178 yX9_canBe ∈ lw_tbl := List.mem_of_getElem? (i := 969) (by decide +kernel)
theorem wm_971 : Cond.instanceMethod yX9_canBe ∈ lw_tbl := List.mem_of_getElem? (i := 971) (by decide +kernel)
theorem wm_46 : Cond.selects yX9_canBe.cls yX9_canBe yX9_canBe ∈ lw_tbl := List.mem_of_getElem? (i := 46) (by decide +kernel)
theorem wm_972 : Cond.code YX9_canBe.1 YX9_canBe.2.1 YX9_canBe.2.2.1 YX9_canBe.2.2.2 ∈ lw_tbl := List.mem_of_getElem? (i := 972) (by decide +kernel)
theorem cv_X9_178 : CV RX9 178 YX9_canBe 1 := ⟨wm_969, wm_971, wm_46, wm_67, wm_972, ⟨by decide +kernel, by decide +kernel, by decide +kernel⟩⟩
theorem wm_973 : Cond.methodLink RL 56 yX9_seal ∈ lw_tbl := List.mem_of_getElem? (i := 973) (by decide +kernel)
theorem wm_974 : Cond.instanceMethod yX9_seal ∈ lw_tbl := List.mem_of_getElem? (i := 974) (by decide +kernel)
theorem wm_975 : Cond.selects yX9_seal.cls yX9_seal yX9_seal ∈ lw_tbl := List.mem_of_getElem? (i := 975) (by decide +kernel)
theorem wm_976 : Cond.code YX9_seal.1 YX9_seal.2.1 YX9_seal.2.2.1 YX9_seal.2.2.2 ∈ lw_tbl := List.mem_of_getElem? (i := 976) (by decide +kernel)
theorem cv_L_56 : CV RL 56 YX9_seal 1 := ⟨wm_973, wm_974, wm_975, wm_67, wm_976, ⟨by decide +kernel, by decide +kernel, by decide +kernel⟩⟩
theorem wm_977 : Cond.methodLink RL 60 yX9_smash ∈ lw_tbl := List.mem_of_getElem? (i := 977) (by decide +kernel)
theorem wm_978 : Cond.instanceMethod yX9_smash ∈ lw_tbl := List.mem_of_getElem? (i := 978) (by decide +kernel)
theorem wm_979 : Cond.selects yX9_smash.cls yX9_smash yX9_smash ∈ lw_tbl := List.mem_of_getElem? (i := 979) (by decide +kernel)
theorem wm_980 : Cond.code YX9_smash.1 YX9_smash.2.1 YX9_smash.2.2.1 YX9_smash.2.2.2 ∈ lw_tbl := List.mem_of_getElem? (i := 980) (by decide +kernel)
theorem cv_L_60 : CV RL 60 YX9_smash 0 := ⟨wm_977, wm_978, wm_979, wm_67, wm_980, ⟨by decide +kernel, by decide +kernel, by decide +kernel⟩⟩
theorem wm_981 : Cond.methodLink RL 65 yX9_hire ∈ lw_tbl := List.mem_of_getElem? (i := 981) (by decide +kernel)
theorem wm_982 : Cond.instanceMethod yX9_hire ∈ lw_tbl := List.mem_of_getElem? (i := 982) (by decide +kernel)
theorem wm_983 : Cond.selects yX9_hire.cls yX9_hire yX9_hire ∈ lw_tbl := List.mem_of_getElem? (i := 983) (by decide +kernel)
theorem wm_984 : Cond.code YX9_hire.1 YX9_hire.2.1 YX9_hire.2.2.1 YX9_hire.2.2.2 ∈ lw_tbl := List.mem_of_getElem? (i := 984) (by decide +kernel)
theorem cv_L_65 : CV RL 65 YX9_hire 2 := ⟨wm_981, wm_982, wm_983, wm_67, wm_984, ⟨by decide +kernel, by decide +kernel, by decide +kernel⟩⟩
theorem wm_985 : Cond.methodLink RX9 181 yX9_hires ∈ lw_tbl := List.mem_of_getElem? (i := 985) (by decide +kernel)
theorem wm_987 : Cond.instanceMethod yX9_hires ∈ lw_tbl := List.mem_of_getElem? (i := 987) (by decide +kernel)
theorem wm_47 : Cond.selects yX9_hires.cls yX9_hires yX9_hires ∈ lw_tbl := List.mem_of_getElem? (i := 47) (by decide +kernel)
theorem wm_988 : Cond.code YX9_hires.1 YX9_hires.2.1 YX9_hires.2.2.1 YX9_hires.2.2.2 ∈ lw_tbl := List.mem_of_getElem? (i := 988) (by decide +kernel)
theorem cv_X9_181 : CV RX9 181 YX9_hires 2 := ⟨wm_985, wm_987, wm_47, wm_67, wm_988, ⟨by decide +kernel, by decide +kernel, by decide +kernel⟩⟩
theorem wm_989 : Cond.methodLink RL 70 yX9_buy ∈ lw_tbl := List.mem_of_getElem? (i := 989) (by decide +kernel)
theorem wm_990 : Cond.instanceMethod yX9_buy ∈ lw_tbl := List.mem_of_getElem? (i := 990) (by decide +kernel)
theorem wm_991 : Cond.selects yX9_buy.cls yX9_buy yX9_buy ∈ lw_tbl := List.mem_of_getElem? (i := 991) (by decide +kernel)
theorem wm_992 : Cond.code YX9_buy.1 YX9_buy.2.1 YX9_buy.2.2.1 YX9_buy.2.2.2 ∈ lw_tbl := List.mem_of_getElem? (i := 992) (by decide +kernel)
theorem cv_L_70 : CV RL 70 YX9_buy 3 := ⟨wm_989, wm_990, wm_991, wm_67, wm_992, ⟨by decide +kernel, by decide +kernel, by decide +kernel⟩⟩
theorem wm_993 : Cond.methodLink RX9 185 yX9_areWays ∈ lw_tbl := List.mem_of_getElem? (i := 993) (by decide +kernel)
theorem wm_995 : Cond.instanceMethod yX9_areWays ∈ lw_tbl := List.mem_of_getElem? (i := 995) (by decide +kernel)
theorem wm_48 : Cond.selects yX9_areWays.cls yX9_areWays yX9_areWays ∈ lw_tbl := List.mem_of_getElem? (i := 48) (by decide +kernel)
theorem wm_996 : Cond.code YX9_areWays.1 YX9_areWays.2.1 YX9_areWays.2.2.1 YX9_areWays.2.2.2 ∈ lw_tbl := List.mem_of_getElem? (i := 996) (by decide +kernel)
theorem cv_X9_185 : CV RX9 185 YX9_areWays 1 := ⟨wm_993, wm_995, wm_48, wm_67, wm_996, ⟨by decide +kernel, by decide +kernel, by decide +kernel⟩⟩
theorem wm_997 : Cond.methodLink RL 74 yX9_drift ∈ lw_tbl := List.mem_of_getElem? (i := 997) (by decide +kernel)
theorem wm_998 : Cond.instanceMethod yX9_drift ∈ lw_tbl := List.mem_of_getElem? (i := 998) (by decide +kernel)
theorem wm_999 : Cond.selects yX9_drift.cls yX9_drift yX9_drift ∈ lw_tbl := List.mem_of_getElem? (i := 999) (by decide +kernel)
theorem wm_1000 : Cond.code YX9_drift.1 YX9_drift.2.1 YX9_drift.2.2.1 YX9_drift.2.2.2 ∈ lw_tbl := List.mem_of_getElem? (i := 1000) (by decide +kernel)
theorem cv_L_74 : CV RL 74 YX9_drift 1 := ⟨wm_997, wm_998, wm_999, wm_67, wm_1000, ⟨by decide +kernel, by decide +kernel, by decide +kernel⟩⟩
theorem wm_1001 : Cond.methodLink RX9 198 yX9_draw ∈ lw_tbl := List.mem_of_getElem? (i := 1001) (by decide +kernel)
theorem wm_1003 : Cond.instanceMethod yX9_draw ∈ lw_tbl := List.mem_of_getElem? (i := 1003) (by decide +kernel)
theorem wm_49 : Cond.selects yX9_draw.cls yX9_draw yX9_draw ∈ lw_tbl := List.mem_of_getElem? (i := 49) (by decide +kernel)
theorem wm_1004 : Cond.code YX9_draw.1 YX9_draw.2.1 YX9_draw.2.2.1 YX9_draw.2.2.2 ∈ lw_tbl := List.mem_of_getElem? (i := 1004) (by decide +kernel)
theorem cv_X9_198 : CV RX9 198 YX9_draw 1 := ⟨wm_1001, wm_1003, wm_49, wm_67, wm_1004, ⟨by decide +kernel, by decide +kernel, by decide +kernel⟩⟩
theorem wm_1009 : Cond.methodLink RL 78 yX9_undo ∈ lw_tbl := List.mem_of_getElem? (i := 1009) (by decide +kernel)
theorem wm_1010 : Cond.instanceMethod yX9_undo ∈ lw_tbl := List.mem_of_getElem? (i := 1010) (by decide +kernel)
theorem wm_1011 : Cond.selects yX9_undo.cls yX9_undo yX9_undo ∈ lw_tbl := List.mem_of_getElem? (i := 1011) (by decide +kernel)
theorem wm_1012 : Cond.code YX9_undo.1 YX9_undo.2.1 YX9_undo.2.2.1 YX9_undo.2.2.2 ∈ lw_tbl := List.mem_of_getElem? (i := 1012) (by decide +kernel)
theorem cv_L_78 : CV RL 78 YX9_undo 0 := ⟨wm_1009, wm_1010, wm_1011, wm_67, wm_1012, ⟨by decide +kernel, by decide +kernel, by decide +kernel⟩⟩
theorem wm_1013 : Cond.methodLink RL 82 yX9_belief ∈ lw_tbl := List.mem_of_getElem? (i := 1013) (by decide +kernel)
theorem wm_1014 : Cond.instanceMethod yX9_belief ∈ lw_tbl := List.mem_of_getElem? (i := 1014) (by decide +kernel)
theorem wm_1015 : Cond.selects yX9_belief.cls yX9_belief yX9_belief ∈ lw_tbl := List.mem_of_getElem? (i := 1015) (by decide +kernel)
theorem wm_1016 : Cond.code YX9_belief.1 YX9_belief.2.1 YX9_belief.2.2.1 YX9_belief.2.2.2 ∈ lw_tbl := List.mem_of_getElem? (i := 1016) (by decide +kernel)
theorem cv_L_82 : CV RL 82 YX9_belief 1 := ⟨wm_1013, wm_1014, wm_1015, wm_67, wm_1016, ⟨by decide +kernel, by decide +kernel, by decide +kernel⟩⟩
theorem wm_1017 : Cond.methodLink RX9 206 yX9_beliefBy ∈ lw_tbl := List.mem_of_getElem? (i := 1017) (by decide +kernel)
theorem wm_1019 : Cond.instanceMethod yX9_beliefBy ∈ lw_tbl := List.mem_of_getElem? (i := 1019) (by decide +kernel)
theorem wm_50 : Cond.selects yX9_beliefBy.cls yX9_beliefBy yX9_beliefBy ∈ lw_tbl := List.mem_of_getElem? (i := 50) (by decide +kernel)
theorem wm_1020 : Cond.code YX9_beliefBy.1 YX9_beliefBy.2.1 YX9_beliefBy.2.2.1 YX9_beliefBy.2.2.2 ∈ lw_tbl := List.mem_of_getElem? (i := 1020) (by decide +kernel)
theorem cv_X9_206 : CV RX9 206 YX9_beliefBy 2 := ⟨wm_1017, wm_1019, wm_50, wm_67, wm_1020, ⟨by decide +kernel, by decide +kernel, by decide +kernel⟩⟩
theorem wm_1022 : Cond.methodLink RX9 203 yX9_likelyIn ∈ lw_tbl := List.mem_of_getElem? (i := 1022) (by decide +kernel)
theorem wm_1024 : Cond.instanceMethod yX9_likelyIn ∈ lw_tbl := List.mem_of_getElem? (i := 1024) (by decide +kernel)
theorem wm_51 : Cond.selects yX9_likelyIn.cls yX9_likelyIn yX9_likelyIn ∈ lw_tbl := List.mem_of_getElem? (i := 51) (by decide +kernel)
theorem wm_1025 : Cond.code YX9_likelyIn.1 YX9_likelyIn.2.1 YX9_likelyIn.2.2.1 YX9_likelyIn.2.2.2 ∈ lw_tbl := List.mem_of_getElem? (i := 1025) (by decide +kernel)
theorem cv_X9_203 : CV RX9 203 YX9_likelyIn 1 := ⟨wm_1022, wm_1024, wm_51, wm_67, wm_1025, ⟨by decide +kernel, by decide +kernel, by decide +kernel⟩⟩
theorem wm_1026 : Cond.methodLink RL 86 yX9_liars ∈ lw_tbl := List.mem_of_getElem? (i := 1026) (by decide +kernel)
theorem wm_1027 : Cond.instanceMethod yX9_liars ∈ lw_tbl := List.mem_of_getElem? (i := 1027) (by decide +kernel)
theorem wm_1028 : Cond.selects yX9_liars.cls yX9_liars yX9_liars ∈ lw_tbl := List.mem_of_getElem? (i := 1028) (by decide +kernel)
theorem wm_1029 : Cond.code YX9_liars.1 YX9_liars.2.1 YX9_liars.2.2.1 YX9_liars.2.2.2 ∈ lw_tbl := List.mem_of_getElem? (i := 1029) (by decide +kernel)
theorem cv_L_86 : CV RL 86 YX9_liars 1 := ⟨wm_1026, wm_1027, wm_1028, wm_67, wm_1029, ⟨by decide +kernel, by decide +kernel, by decide +kernel⟩⟩
theorem wm_1030 : Cond.methodLink RX9 209 yX9_liarsBy ∈ lw_tbl := List.mem_of_getElem? (i := 1030) (by decide +kernel)
theorem wm_1032 : Cond.instanceMethod yX9_liarsBy ∈ lw_tbl := List.mem_of_getElem? (i := 1032) (by decide +kernel)
theorem wm_52 : Cond.selects yX9_liarsBy.cls yX9_liarsBy yX9_liarsBy ∈ lw_tbl := List.mem_of_getElem? (i := 52) (by decide +kernel)
theorem wm_1033 : Cond.code YX9_liarsBy.1 YX9_liarsBy.2.1 YX9_liarsBy.2.2.1 YX9_liarsBy.2.2.2 ∈ lw_tbl := List.mem_of_getElem? (i := 1033) (by decide +kernel)
theorem cv_X9_209 : CV RX9 209 YX9_liarsBy 1 := ⟨wm_1030, wm_1032, wm_52, wm_67, wm_1033, ⟨by decide +kernel, by decide +kernel, by decide +kernel⟩⟩
theorem wm_1034 : Cond.methodLink RL 90 yX9_leastLiars ∈ lw_tbl := List.mem_of_getElem? (i := 1034) (by decide +kernel)
theorem wm_1035 : Cond.instanceMethod yX9_leastLiars ∈ lw_tbl := List.mem_of_getElem? (i := 1035) (by decide +kernel)
theorem wm_1036 : Cond.selects yX9_leastLiars.cls yX9_leastLiars yX9_leastLiars ∈ lw_tbl := List.mem_of_getElem? (i := 1036) (by decide +kernel)
theorem wm_1037 : Cond.code YX9_leastLiars.1 YX9_leastLiars.2.1 YX9_leastLiars.2.2.1 YX9_leastLiars.2.2.2 ∈ lw_tbl := List.mem_of_getElem? (i := 1037) (by decide +kernel)
theorem cv_L_90 : CV RL 90 YX9_leastLiars 1 := ⟨wm_1034, wm_1035, wm_1036, wm_67, wm_1037, ⟨by decide +kernel, by decide +kernel, by decide +kernel⟩⟩
theorem wm_1038 : Cond.methodLink RX9 212 yX9_ones ∈ lw_tbl := List.mem_of_getElem? (i := 1038) (by decide +kernel)
theorem wm_1039 : Cond.static yX9_ones ∈ lw_tbl := List.mem_of_getElem? (i := 1039) (by decide +kernel)
theorem wm_1040 : Cond.code YX9_ones.1 YX9_ones.2.1 YX9_ones.2.2.1 YX9_ones.2.2.2 ∈ lw_tbl := List.mem_of_getElem? (i := 1040) (by decide +kernel)
theorem cv_X9_212 : CS RX9 212 YX9_ones 1 := ⟨wm_1038, wm_1039, wm_67, wm_1040, ⟨by decide +kernel, by decide +kernel, by decide +kernel⟩⟩
theorem wm_1041 : Cond.methodLink RL 94 yX9_ruleOut ∈ lw_tbl := List.mem_of_getElem? (i := 1041) (by decide +kernel)
theorem wm_1042 : Cond.instanceMethod yX9_ruleOut ∈ lw_tbl := List.mem_of_getElem? (i := 1042) (by decide +kernel)
theorem wm_1043 : Cond.selects yX9_ruleOut.cls yX9_ruleOut yX9_ruleOut ∈ lw_tbl := List.mem_of_getElem? (i := 1043) (by decide +kernel)
theorem wm_1044 : Cond.code YX9_ruleOut.1 YX9_ruleOut.2.1 YX9_ruleOut.2.2.1 YX9_ruleOut.2.2.2 ∈ lw_tbl := List.mem_of_getElem? (i := 1044) (by decide +kernel)
theorem cv_L_94 : CV RL 94 YX9_ruleOut 3 := ⟨wm_1041, wm_1042, wm_1043, wm_67, wm_1044, ⟨by decide +kernel, by decide +kernel, by decide +kernel⟩⟩
theorem wm_1045 : Cond.methodLink RX9 215 yX9_costOf ∈ lw_tbl := List.mem_of_getElem? (i := 1045) (by decide +kernel)
theorem wm_1047 : Cond.instanceMethod yX9_costOf ∈ lw_tbl := List.mem_of_getElem? (i := 1047) (by decide +kernel)
theorem wm_53 : Cond.selects yX9_costOf.cls yX9_costOf yX9_costOf ∈ lw_tbl := List.mem_of_getElem? (i := 53) (by decide +kernel)
theorem wm_1048 : Cond.code YX9_costOf.1 YX9_costOf.2.1 YX9_costOf.2.2.1 YX9_costOf.2.2.2 ∈ lw_tbl := List.mem_of_getElem? (i := 1048) (by decide +kernel)
theorem cv_X9_215 : CV RX9 215 YX9_costOf 1 := ⟨wm_1045, wm_1047, wm_53, wm_67, wm_1048, ⟨by decide +kernel, by decide +kernel, by decide +kernel⟩⟩
theorem wm_1049 : Cond.methodLink RL 98 yX9_next ∈ lw_tbl := List.mem_of_getElem? (i := 1049) (by decide +kernel)
theorem wm_1050 : Cond.instanceMethod yX9_next ∈ lw_tbl := List.mem_of_getElem? (i := 1050) (by decide +kernel)
theorem wm_1051 : Cond.selects yX9_next.cls yX9_next yX9_next ∈ lw_tbl := List.mem_of_getElem? (i := 1051) (by decide +kernel)
theorem wm_1052 : Cond.code YX9_next.1 YX9_next.2.1 YX9_next.2.2.1 YX9_next.2.2.2 ∈ lw_tbl := List.mem_of_getElem? (i := 1052) (by decide +kernel)
theorem cv_L_98 : CV RL 98 YX9_next 0 := ⟨wm_1049, wm_1050, wm_1051, wm_67, wm_1052, ⟨by decide +kernel, by decide +kernel, by decide +kernel⟩⟩
theorem wm_1053 : Cond.methodLink RL 102 yX9_offer ∈ lw_tbl := List.mem_of_getElem? (i := 1053) (by decide +kernel)
theorem wm_1054 : Cond.instanceMethod yX9_offer ∈ lw_tbl := List.mem_of_getElem? (i := 1054) (by decide +kernel)
theorem wm_1055 : Cond.selects yX9_offer.cls yX9_offer yX9_offer ∈ lw_tbl := List.mem_of_getElem? (i := 1055) (by decide +kernel)
theorem wm_1056 : Cond.code YX9_offer.1 YX9_offer.2.1 YX9_offer.2.2.1 YX9_offer.2.2.2 ∈ lw_tbl := List.mem_of_getElem? (i := 1056) (by decide +kernel)
theorem cv_L_102 : CV RL 102 YX9_offer 2 := ⟨wm_1053, wm_1054, wm_1055, wm_67, wm_1056, ⟨by decide +kernel, by decide +kernel, by decide +kernel⟩⟩
theorem wm_1057 : Cond.methodLink RX9 218 yX9_offerBy ∈ lw_tbl := List.mem_of_getElem? (i := 1057) (by decide +kernel)
theorem wm_1059 : Cond.instanceMethod yX9_offerBy ∈ lw_tbl := List.mem_of_getElem? (i := 1059) (by decide +kernel)
theorem wm_54 : Cond.selects yX9_offerBy.cls yX9_offerBy yX9_offerBy ∈ lw_tbl := List.mem_of_getElem? (i := 54) (by decide +kernel)
theorem wm_1060 : Cond.code YX9_offerBy.1 YX9_offerBy.2.1 YX9_offerBy.2.2.1 YX9_offerBy.2.2.2 ∈ lw_tbl := List.mem_of_getElem? (i := 1060) (by decide +kernel)
theorem cv_X9_218 : CV RX9 218 YX9_offerBy 3 := ⟨wm_1057, wm_1059, wm_54, wm_67, wm_1060, ⟨by decide +kernel, by decide +kernel, by decide +kernel⟩⟩
theorem wm_1061 : Cond.methodLink RL 106 yX9_both ∈ lw_tbl := List.mem_of_getElem? (i := 1061) (by decide +kernel)
theorem wm_1062 : Cond.instanceMethod yX9_both ∈ lw_tbl := List.mem_of_getElem? (i := 1062) (by decide +kernel)
theorem wm_1063 : Cond.selects yX9_both.cls yX9_both yX9_both ∈ lw_tbl := List.mem_of_getElem? (i := 1063) (by decide +kernel)
theorem wm_1064 : Cond.code YX9_both.1 YX9_both.2.1 YX9_both.2.2.1 YX9_both.2.2.2 ∈ lw_tbl := List.mem_of_getElem? (i := 1064) (by decide +kernel)
theorem cv_L_106 : CV RL 106 YX9_both 3 := ⟨wm_1061, wm_1062, wm_1063, wm_67, wm_1064, ⟨by decide +kernel, by decide +kernel, by decide +kernel⟩⟩
theorem wm_1065 : Cond.methodLink RL 110 yX9_worth ∈ lw_tbl := List.mem_of_getElem? (i := 1065) (by decide +kernel)
theorem wm_1066 : Cond.instanceMethod yX9_worth ∈ lw_tbl := List.mem_of_getElem? (i := 1066) (by decide +kernel)
theorem wm_1067 : Cond.selects yX9_worth.cls yX9_worth yX9_worth ∈ lw_tbl := List.mem_of_getElem? (i := 1067) (by decide +kernel)
theorem wm_1068 : Cond.code YX9_worth.1 YX9_worth.2.1 YX9_worth.2.2.1 YX9_worth.2.2.2 ∈ lw_tbl := List.mem_of_getElem? (i := 1068) (by decide +kernel)
theorem cv_L_110 : CV RL 110 YX9_worth 2 := ⟨wm_1065, wm_1066, wm_1067, wm_67, wm_1068, ⟨by decide +kernel, by decide +kernel, by decide +kernel⟩⟩
theorem wm_1070 : Cond.methodLink RL 114 yX9_secret ∈ lw_tbl := List.mem_of_getElem? (i := 1070) (by decide +kernel)
theorem wm_1071 : Cond.instanceMethod yX9_secret ∈ lw_tbl := List.mem_of_getElem? (i := 1071) (by decide +kernel)
theorem wm_1072 : Cond.selects yX9_secret.cls yX9_secret yX9_secret ∈ lw_tbl := List.mem_of_getElem? (i := 1072) (by decide +kernel)
theorem wm_1073 : Cond.code YX9_secret.1 YX9_secret.2.1 YX9_secret.2.2.1 YX9_secret.2.2.2 ∈ lw_tbl := List.mem_of_getElem? (i := 1073) (by decide +kernel)
theorem cv_L_114 : CV RL 114 YX9_secret 2 := ⟨wm_1070, wm_1071, wm_1072, wm_67, wm_1073, ⟨by decide +kernel, by decide +kernel, by decide +kernel⟩⟩
theorem wm_1075 : Cond.methodLink RL 118 yX9_hear ∈ lw_tbl := List.mem_of_getElem? (i := 1075) (by decide +kernel)
theorem wm_1076 : Cond.instanceMethod yX9_hear ∈ lw_tbl := List.mem_of_getElem? (i := 1076) (by decide +kernel)
theorem wm_1077 : Cond.selects yX9_hear.cls yX9_hear yX9_hear ∈ lw_tbl := List.mem_of_getElem? (i := 1077) (by decide +kernel)
theorem wm_1078 : Cond.code YX9_hear.1 YX9_hear.2.1 YX9_hear.2.2.1 YX9_hear.2.2.2 ∈ lw_tbl := List.mem_of_getElem? (i := 1078) (by decide +kernel)
theorem cv_L_118 : CV RL 118 YX9_hear 2 := ⟨wm_1075, wm_1076, wm_1077, wm_67, wm_1078, ⟨by decide +kernel, by decide +kernel, by decide +kernel⟩⟩
theorem wm_1079 : Cond.methodLink RL 122 yX9_paid ∈ lw_tbl := List.mem_of_getElem? (i := 1079) (by decide +kernel)
theorem wm_1080 : Cond.instanceMethod yX9_paid ∈ lw_tbl := List.mem_of_getElem? (i := 1080) (by decide +kernel)
theorem wm_1081 : Cond.selects yX9_paid.cls yX9_paid yX9_paid ∈ lw_tbl := List.mem_of_getElem? (i := 1081) (by decide +kernel)
theorem wm_1082 : Cond.code YX9_paid.1 YX9_paid.2.1 YX9_paid.2.2.1 YX9_paid.2.2.2 ∈ lw_tbl := List.mem_of_getElem? (i := 1082) (by decide +kernel)
theorem cv_L_122 : CV RL 122 YX9_paid 0 := ⟨wm_1079, wm_1080, wm_1081, wm_67, wm_1082, ⟨by decide +kernel, by decide +kernel, by decide +kernel⟩⟩
theorem wm_1083 : Cond.methodLink RX9 227 yX9_paidSet ∈ lw_tbl := List.mem_of_getElem? (i := 1083) (by decide +kernel)
theorem wm_1085 : Cond.instanceMethod yX9_paidSet ∈ lw_tbl := List.mem_of_getElem? (i := 1085) (by decide +kernel)
theorem wm_55 : Cond.selects yX9_paidSet.cls yX9_paidSet yX9_paidSet ∈ lw_tbl := List.mem_of_getElem? (i := 55) (by decide +kernel)
theorem wm_1086 : Cond.code YX9_paidSet.1 YX9_paidSet.2.1 YX9_paidSet.2.2.1 YX9_paidSet.2.2.2 ∈ lw_tbl := List.mem_of_getElem? (i := 1086) (by decide +kernel)
theorem cv_X9_227 : CV RX9 227 YX9_paidSet 0 := ⟨wm_1083, wm_1085, wm_55, wm_67, wm_1086, ⟨by decide +kernel, by decide +kernel, by decide +kernel⟩⟩
theorem wm_1087 : Cond.methodLink RX9 224 yX9_gotBy ∈ lw_tbl := List.mem_of_getElem? (i := 1087) (by decide +kernel)
theorem wm_1089 : Cond.instanceMethod yX9_gotBy ∈ lw_tbl := List.mem_of_getElem? (i := 1089) (by decide +kernel)
theorem wm_56 : Cond.selects yX9_gotBy.cls yX9_gotBy yX9_gotBy ∈ lw_tbl := List.mem_of_getElem? (i := 56) (by decide +kernel)
theorem wm_1090 : Cond.code YX9_gotBy.1 YX9_gotBy.2.1 YX9_gotBy.2.2.1 YX9_gotBy.2.2.2 ∈ lw_tbl := List.mem_of_getElem? (i := 1090) (by decide +kernel)
theorem cv_X9_224 : CV RX9 224 YX9_gotBy 2 := ⟨wm_1087, wm_1089, wm_56, wm_67, wm_1090, ⟨by decide +kernel, by decide +kernel, by decide +kernel⟩⟩
theorem wm_1091 : Cond.methodLink RL 126 yX9_ask ∈ lw_tbl := List.mem_of_getElem? (i := 1091) (by decide +kernel)
theorem wm_1092 : Cond.instanceMethod yX9_ask ∈ lw_tbl := List.mem_of_getElem? (i := 1092) (by decide +kernel)
theorem wm_1093 : Cond.selects yX9_ask.cls yX9_ask yX9_ask ∈ lw_tbl := List.mem_of_getElem? (i := 1093) (by decide +kernel)
theorem wm_1094 : Cond.code YX9_ask.1 YX9_ask.2.1 YX9_ask.2.2.1 YX9_ask.2.2.2 ∈ lw_tbl := List.mem_of_getElem? (i := 1094) (by decide +kernel)
theorem cv_L_126 : CV RL 126 YX9_ask 0 := ⟨wm_1091, wm_1092, wm_1093, wm_67, wm_1094, ⟨by decide +kernel, by decide +kernel, by decide +kernel⟩⟩
theorem wm_1095 : Cond.methodLink RL 130 yX9_write ∈ lw_tbl := List.mem_of_getElem? (i := 1095) (by decide +kernel)
theorem wm_1096 : Cond.instanceMethod yX9_write ∈ lw_tbl := List.mem_of_getElem? (i := 1096) (by decide +kernel)
theorem wm_1097 : Cond.selects yX9_write.cls yX9_write yX9_write ∈ lw_tbl := List.mem_of_getElem? (i := 1097) (by decide +kernel)
theorem wm_1098 : Cond.code YX9_write.1 YX9_write.2.1 YX9_write.2.2.1 YX9_write.2.2.2 ∈ lw_tbl := List.mem_of_getElem? (i := 1098) (by decide +kernel)
theorem cv_L_130 : CV RL 130 YX9_write 1 := ⟨wm_1095, wm_1096, wm_1097, wm_67, wm_1098, ⟨by decide +kernel, by decide +kernel, by decide +kernel⟩⟩
theorem wm_1099 : Cond.methodLink RL 134 yX9_tear ∈ lw_tbl := List.mem_of_getElem? (i := 1099) (by decide +kernel)
theorem wm_1100 : Cond.instanceMethod yX9_tear ∈ lw_tbl := List.mem_of_getElem? (i := 1100) (by decide +kernel)
theorem wm_1101 : Cond.selects yX9_tear.cls yX9_tear yX9_tear ∈ lw_tbl := List.mem_of_getElem? (i := 1101) (by decide +kernel)
theorem wm_1102 : Cond.code YX9_tear.1 YX9_tear.2.1 YX9_tear.2.2.1 YX9_tear.2.2.2 ∈ lw_tbl := List.mem_of_getElem? (i := 1102) (by decide +kernel)
theorem cv_L_134 : CV RL 134 YX9_tear 0 := ⟨wm_1099, wm_1100, wm_1101, wm_67, wm_1102, ⟨by decide +kernel, by decide +kernel, by decide +kernel⟩⟩
theorem wm_1103 : Cond.methodLink RL 138 yX9_judge ∈ lw_tbl := List.mem_of_getElem? (i := 1103) (by decide +kernel)
theorem wm_1104 : Cond.instanceMethod yX9_judge ∈ lw_tbl := List.mem_of_getElem? (i := 1104) (by decide +kernel)
theorem wm_1105 : Cond.selects yX9_judge.cls yX9_judge yX9_judge ∈ lw_tbl := List.mem_of_getElem? (i := 1105) (by decide +kernel)
theorem wm_1106 : Cond.code YX9_judge.1 YX9_judge.2.1 YX9_judge.2.2.1 YX9_judge.2.2.2 ∈ lw_tbl := List.mem_of_getElem? (i := 1106) (by decide +kernel)
theorem cv_L_138 : CV RL 138 YX9_judge 0 := ⟨wm_1103, wm_1104, wm_1105, wm_67, wm_1106, ⟨by decide +kernel, by decide +kernel, by decide +kernel⟩⟩
theorem wm_1107 : Cond.methodLink RL 142 yX9_seed ∈ lw_tbl := List.mem_of_getElem? (i := 1107) (by decide +kernel)
theorem wm_1108 : Cond.instanceMethod yX9_seed ∈ lw_tbl := List.mem_of_getElem? (i := 1108) (by decide +kernel)
theorem wm_1109 : Cond.selects yX9_seed.cls yX9_seed yX9_seed ∈ lw_tbl := List.mem_of_getElem? (i := 1109) (by decide +kernel)
theorem wm_1110 : Cond.code YX9_seed.1 YX9_seed.2.1 YX9_seed.2.2.1 YX9_seed.2.2.2 ∈ lw_tbl := List.mem_of_getElem? (i := 1110) (by decide +kernel)
theorem cv_L_142 : CV RL 142 YX9_seed 1 := ⟨wm_1107, wm_1108, wm_1109, wm_67, wm_1110, ⟨by decide +kernel, by decide +kernel, by decide +kernel⟩⟩
theorem wm_1111 : Cond.methodLink RL 146 yX9_keep ∈ lw_tbl := List.mem_of_getElem? (i := 1111) (by decide +kernel)
theorem wm_1112 : Cond.instanceMethod yX9_keep ∈ lw_tbl := List.mem_of_getElem? (i := 1112) (by decide +kernel)
theorem wm_1113 : Cond.selects yX9_keep.cls yX9_keep yX9_keep ∈ lw_tbl := List.mem_of_getElem? (i := 1113) (by decide +kernel)
theorem wm_1114 : Cond.code YX9_keep.1 YX9_keep.2.1 YX9_keep.2.2.1 YX9_keep.2.2.2 ∈ lw_tbl := List.mem_of_getElem? (i := 1114) (by decide +kernel)
theorem cv_L_146 : CV RL 146 YX9_keep 1 := ⟨wm_1111, wm_1112, wm_1113, wm_67, wm_1114, ⟨by decide +kernel, by decide +kernel, by decide +kernel⟩⟩
theorem wm_1115 : Cond.methodLink RL 150 yX9_goBack ∈ lw_tbl := List.mem_of_getElem? (i := 1115) (by decide +kernel)
theorem wm_1116 : Cond.instanceMethod yX9_goBack ∈ lw_tbl := List.mem_of_getElem? (i := 1116) (by decide +kernel)
theorem wm_1117 : Cond.selects yX9_goBack.cls yX9_goBack yX9_goBack ∈ lw_tbl := List.mem_of_getElem? (i := 1117) (by decide +kernel)
theorem wm_1118 : Cond.code YX9_goBack.1 YX9_goBack.2.1 YX9_goBack.2.2.1 YX9_goBack.2.2.2 ∈ lw_tbl := List.mem_of_getElem? (i := 1118) (by decide +kernel)
theorem cv_L_150 : CV RL 150 YX9_goBack 1 := ⟨wm_1115, wm_1116, wm_1117, wm_67, wm_1118, ⟨by decide +kernel, by decide +kernel, by decide +kernel⟩⟩
theorem wm_86 : Cond.methodLinkNest RX7 20 yX2_init "TurningWheel" ∈ lw_tbl := List.mem_of_getElem? (i := 86) (by decide +kernel)
theorem wm_87 : Cond.instanceMethod yX2_init ∈ lw_tbl := List.mem_of_getElem? (i := 87) (by decide +kernel)
theorem wm_88 : Cond.code YX2_init.1 YX2_init.2.1 YX2_init.2.2.1 YX2_init.2.2.2 ∈ lw_tbl := List.mem_of_getElem? (i := 88) (by decide +kernel)
theorem cv_X7_20 : CJ RX7 20 YX2_init 0 := ⟨wm_86, ⟨rfl, wm_87⟩, wm_60, wm_88, ⟨by decide +kernel, by decide +kernel, by decide +kernel⟩⟩
theorem wm_181 : Cond.methodLinkNest RX8 31 yX2_init "TurningWheel" ∈ lw_tbl := List.mem_of_getElem? (i := 181) (by decide +kernel)
theorem cv_X8_31 : CJ RX8 31 YX2_init 0 := ⟨wm_181, ⟨rfl, wm_87⟩, wm_60, wm_88, ⟨by decide +kernel, by decide +kernel, by decide +kernel⟩⟩
theorem wm_184 : Cond.methodLinkNest RX8 38 yX0_init "TurningWheel" ∈ lw_tbl := List.mem_of_getElem? (i := 184) (by decide +kernel)
theorem wm_185 : Cond.instanceMethod yX0_init ∈ lw_tbl := List.mem_of_getElem? (i := 185) (by decide +kernel)
theorem wm_186 : Cond.code YX0_init.1 YX0_init.2.1 YX0_init.2.2.1 YX0_init.2.2.2 ∈ lw_tbl := List.mem_of_getElem? (i := 186) (by decide +kernel)
theorem cv_X8_38 : CJ RX8 38 YX0_init 0 := ⟨wm_184, ⟨rfl, wm_185⟩, wm_61, wm_186, ⟨by decide +kernel, by decide +kernel, by decide +kernel⟩⟩
theorem wm_233 : Cond.methodLinkNest RX5 24 yX0_init "TurningWheel" ∈ lw_tbl := List.mem_of_getElem? (i := 233) (by decide +kernel)
theorem cv_X5_24 : CJ RX5 24 YX0_init 0 := ⟨wm_233, ⟨rfl, wm_185⟩, wm_61, wm_186, ⟨by decide +kernel, by decide +kernel, by decide +kernel⟩⟩
theorem wm_247 : Cond.methodLinkNest RX8 52 yX4_init "TurningWheel" ∈ lw_tbl := List.mem_of_getElem? (i := 247) (by decide +kernel)
theorem wm_248 : Cond.instanceMethod yX4_init ∈ lw_tbl := List.mem_of_getElem? (i := 248) (by decide +kernel)
theorem wm_249 : Cond.code YX4_init.1 YX4_init.2.1 YX4_init.2.2.1 YX4_init.2.2.2 ∈ lw_tbl := List.mem_of_getElem? (i := 249) (by decide +kernel)
theorem cv_X8_52 : CJ RX8 52 YX4_init 0 := ⟨wm_247, ⟨rfl, wm_248⟩, wm_63, wm_249, ⟨by decide +kernel, by decide +kernel, by decide +kernel⟩⟩
theorem wm_265 : Cond.methodLinkNest RX8 59 yX1_init "TurningWheel" ∈ lw_tbl := List.mem_of_getElem? (i := 265) (by decide +kernel)
theorem wm_266 : Cond.instanceMethod yX1_init ∈ lw_tbl := List.mem_of_getElem? (i := 266) (by decide +kernel)
theorem wm_267 : Cond.code YX1_init.1 YX1_init.2.1 YX1_init.2.2.1 YX1_init.2.2.2 ∈ lw_tbl := List.mem_of_getElem? (i := 267) (by decide +kernel)
theorem cv_X8_59 : CJ RX8 59 YX1_init 0 := ⟨wm_265, ⟨rfl, wm_266⟩, wm_64, wm_267, ⟨by decide +kernel, by decide +kernel, by decide +kernel⟩⟩
theorem wm_279 : Cond.methodLinkNest RX8 66 yX3_init "TurningWheel" ∈ lw_tbl := List.mem_of_getElem? (i := 279) (by decide +kernel)
theorem wm_280 : Cond.instanceMethod yX3_init ∈ lw_tbl := List.mem_of_getElem? (i := 280) (by decide +kernel)
theorem wm_281 : Cond.code YX3_init.1 YX3_init.2.1 YX3_init.2.2.1 YX3_init.2.2.2 ∈ lw_tbl := List.mem_of_getElem? (i := 281) (by decide +kernel)
theorem cv_X8_66 : CJ RX8 66 YX3_init 0 := ⟨wm_279, ⟨rfl, wm_280⟩, wm_65, wm_281, ⟨by decide +kernel, by decide +kernel, by decide +kernel⟩⟩
theorem wm_291 : Cond.methodLinkNest RX8 77 yX6_init "TurningWheel" ∈ lw_tbl := List.mem_of_getElem? (i := 291) (by decide +kernel)
theorem wm_292 : Cond.instanceMethod yX6_init ∈ lw_tbl := List.mem_of_getElem? (i := 292) (by decide +kernel)
theorem wm_66 : Cond.initialized RX6 ∈ lw_tbl := List.mem_of_getElem? (i := 66) (by decide +kernel)
theorem wm_293 : Cond.code YX6_init.1 YX6_init.2.1 YX6_init.2.2.1 YX6_init.2.2.2 ∈ lw_tbl := List.mem_of_getElem? (i := 293) (by decide +kernel)
theorem cv_X8_77 : CJ RX8 77 YX6_init 0 := ⟨wm_291, ⟨rfl, wm_292⟩, wm_66, wm_293, ⟨by decide +kernel, by decide +kernel, by decide +kernel⟩⟩
theorem wm_296 : Cond.methodLinkNest RX6 15 yX0_init "TurningWheel" ∈ lw_tbl := List.mem_of_getElem? (i := 296) (by decide +kernel)
theorem cv_X6_15 : CJ RX6 15 YX0_init 0 := ⟨wm_296, ⟨rfl, wm_185⟩, wm_61, wm_186, ⟨by decide +kernel, by decide +kernel, by decide +kernel⟩⟩
theorem wm_399 : Cond.methodLinkNest RX7 136 yX8_within "TurningWheel" ∈ lw_tbl := List.mem_of_getElem? (i := 399) (by decide +kernel)
theorem cv_X7_136 : CN RX7 136 YX8_within 3 := ⟨wm_399, wm_349, wm_58, wm_350, ⟨by decide +kernel, by decide +kernel, by decide +kernel⟩⟩
theorem wm_420 : Cond.methodLinkNest RX7 109 yX8_has "TurningWheel" ∈ lw_tbl := List.mem_of_getElem? (i := 420) (by decide +kernel)
theorem cv_X7_109 : CN RX7 109 YX8_has 2 := ⟨wm_420, wm_421, wm_58, wm_422, ⟨by decide +kernel, by decide +kernel, by decide +kernel⟩⟩
theorem wm_467 : Cond.methodLinkNest RX2 54 yX8_has "TurningWheel" ∈ lw_tbl := List.mem_of_getElem? (i := 467) (by decide +kernel)
theorem cv_X2_54 : CN RX2 54 YX8_has 2 := ⟨wm_467, wm_421, wm_58, wm_422, ⟨by decide +kernel, by decide +kernel, by decide +kernel⟩⟩
theorem wm_490 : Cond.methodLinkNest RX2 46 yX8_within "TurningWheel" ∈ lw_tbl := List.mem_of_getElem? (i := 490) (by decide +kernel)
theorem cv_X2_46 : CN RX2 46 YX8_within 3 := ⟨wm_490, wm_349, wm_58, wm_350, ⟨by decide +kernel, by decide +kernel, by decide +kernel⟩⟩
theorem wm_532 : Cond.methodLinkNest RX0 51 yX8_has "TurningWheel" ∈ lw_tbl := List.mem_of_getElem? (i := 532) (by decide +kernel)
theorem cv_X0_51 : CN RX0 51 YX8_has 2 := ⟨wm_532, wm_421, wm_58, wm_422, ⟨by decide +kernel, by decide +kernel, by decide +kernel⟩⟩
theorem wm_537 : Cond.methodLinkNest RX0 72 yX8_within "TurningWheel" ∈ lw_tbl := List.mem_of_getElem? (i := 537) (by decide +kernel)
theorem cv_X0_72 : CN RX0 72 YX8_within 3 := ⟨wm_537, wm_349, wm_58, wm_350, ⟨by decide +kernel, by decide +kernel, by decide +kernel⟩⟩
theorem wm_710 : Cond.methodLinkNest RX4 44 yX8_has "TurningWheel" ∈ lw_tbl := List.mem_of_getElem? (i := 710) (by decide +kernel)
theorem cv_X4_44 : CN RX4 44 YX8_has 2 := ⟨wm_710, wm_421, wm_58, wm_422, ⟨by decide +kernel, by decide +kernel, by decide +kernel⟩⟩
theorem wm_71 : Cond.instantiable RX8 11 ∈ lw_tbl := List.mem_of_getElem? (i := 71) (by decide +kernel)
theorem ck_L_7 : CK RL 7 8 := ⟨RX8, TX8, 11, rfl, List.mem_of_getElem? (i := 70) (by decide +kernel), wm_71, wm_58⟩
theorem wm_79 : Cond.instantiable RX7 9 ∈ lw_tbl := List.mem_of_getElem? (i := 79) (by decide +kernel)
theorem ck_X8_20 : CK RX8 20 7 := ⟨RX7, TX7, 9, rfl, List.mem_of_getElem? (i := 78) (by decide +kernel), wm_79, wm_59⟩
theorem wm_85 : Cond.instantiable RX2 11 ∈ lw_tbl := List.mem_of_getElem? (i := 85) (by decide +kernel)
theorem ck_X7_18 : CK RX7 18 2 := ⟨RX2, TX2, 11, rfl, List.mem_of_getElem? (i := 84) (by decide +kernel), wm_85, wm_60⟩
theorem ck_X8_29 : CK RX8 29 2 := ⟨RX2, TX2, 11, rfl, List.mem_of_getElem? (i := 180) (by decide +kernel), wm_85, wm_60⟩
theorem wm_183 : Cond.instantiable RX0 9 ∈ lw_tbl := List.mem_of_getElem? (i := 183) (by decide +kernel)
theorem ck_X8_36 : CK RX8 36 0 := ⟨RX0, TX0, 9, rfl, List.mem_of_getElem? (i := 182) (by decide +kernel), wm_183, wm_61⟩
theorem wm_226 : Cond.instantiable RX5 3 ∈ lw_tbl := List.mem_of_getElem? (i := 226) (by decide +kernel)
theorem ck_X8_43 : CK RX8 43 5 := ⟨RX5, TX5, 3, rfl, List.mem_of_getElem? (i := 225) (by decide +kernel), wm_226, wm_62⟩
theorem ck_X5_9 : CK RX5 9 0 := ⟨RX0, TX0, 9, rfl, List.mem_of_getElem? (i := 231) (by decide +kernel), wm_183, wm_61⟩
theorem wm_246 : Cond.instantiable RX4 3 ∈ lw_tbl := List.mem_of_getElem? (i := 246) (by decide +kernel)
theorem ck_X8_50 : CK RX8 50 4 := ⟨RX4, TX4, 3, rfl, List.mem_of_getElem? (i := 245) (by decide +kernel), wm_246, wm_63⟩
theorem wm_264 : Cond.instantiable RX1 2 ∈ lw_tbl := List.mem_of_getElem? (i := 264) (by decide +kernel)
theorem ck_X8_57 : CK RX8 57 1 := ⟨RX1, TX1, 2, rfl, List.mem_of_getElem? (i := 263) (by decide +kernel), wm_264, wm_64⟩
theorem wm_278 : Cond.instantiable RX3 1 ∈ lw_tbl := List.mem_of_getElem? (i := 278) (by decide +kernel)
theorem ck_X8_64 : CK RX8 64 3 := ⟨RX3, TX3, 1, rfl, List.mem_of_getElem? (i := 277) (by decide +kernel), wm_278, wm_65⟩
theorem wm_290 : Cond.instantiable RX6 3 ∈ lw_tbl := List.mem_of_getElem? (i := 290) (by decide +kernel)
theorem ck_X8_71 : CK RX8 71 6 := ⟨RX6, TX6, 3, rfl, List.mem_of_getElem? (i := 288) (by decide +kernel), wm_290, wm_66⟩
theorem ck_X6_13 : CK RX6 13 0 := ⟨RX0, TX0, 9, rfl, List.mem_of_getElem? (i := 295) (by decide +kernel), wm_183, wm_61⟩
theorem wm_746 : Cond.instantiable RX9 24 ∈ lw_tbl := List.mem_of_getElem? (i := 746) (by decide +kernel)
theorem ck_L_10 : CK RL 10 9 := ⟨RX9, TX9, 24, rfl, List.mem_of_getElem? (i := 745) (by decide +kernel), wm_746, wm_67⟩
theorem kn_X8_82 : Cond.constant RX8 82 (-1000000002) ∈ lw_tbl := List.mem_of_getElem? (i := 351) (by decide +kernel)
theorem kn_X8_83 : Cond.constant RX8 83 (-1000000004) ∈ lw_tbl := List.mem_of_getElem? (i := 352) (by decide +kernel)
theorem kn_X8_295 : Cond.constant RX8 295 (999999) ∈ lw_tbl := List.mem_of_getElem? (i := 480) (by decide +kernel)
theorem kn_X8_154 : Cond.constant RX8 154 (-1000000001) ∈ lw_tbl := List.mem_of_getElem? (i := 491) (by decide +kernel)
theorem kn_X8_201 : Cond.constant RX8 201 (-1000000003) ∈ lw_tbl := List.mem_of_getElem? (i := 518) (by decide +kernel)
theorem kn_X0_76 : Cond.constant RX0 76 (999999) ∈ lw_tbl := List.mem_of_getElem? (i := 538) (by decide +kernel)
theorem kn_X3_19 : Cond.constant RX3 19 (65536) ∈ lw_tbl := List.mem_of_getElem? (i := 586) (by decide +kernel)
theorem kn_J6_265 : Cond.constant RJ6 265 (1431655765) ∈ lw_tbl := List.mem_of_getElem? (i := 628) (by decide +kernel)
theorem kn_J6_266 : Cond.constant RJ6 266 (858993459) ∈ lw_tbl := List.mem_of_getElem? (i := 629) (by decide +kernel)
theorem kn_J6_267 : Cond.constant RJ6 267 (252645135) ∈ lw_tbl := List.mem_of_getElem? (i := 630) (by decide +kernel)
theorem kn_X8_251 : Cond.constant RX8 251 (100000) ∈ lw_tbl := List.mem_of_getElem? (i := 668) (by decide +kernel)
theorem kn_X8_252 : Cond.constant RX8 252 (1000000) ∈ lw_tbl := List.mem_of_getElem? (i := 673) (by decide +kernel)
theorem kn_X9_67 : Cond.constant RX9 67 (-1000000002) ∈ lw_tbl := List.mem_of_getElem? (i := 831) (by decide +kernel)
theorem kn_X9_71 : Cond.constant RX9 71 (-1000000004) ∈ lw_tbl := List.mem_of_getElem? (i := 832) (by decide +kernel)
theorem kn_X9_139 : Cond.constant RX9 139 (999999) ∈ lw_tbl := List.mem_of_getElem? (i := 914) (by decide +kernel)
theorem kn_X9_153 : Cond.constant RX9 153 (-1000000001) ∈ lw_tbl := List.mem_of_getElem? (i := 923) (by decide +kernel)
theorem kn_X9_168 : Cond.constant RX9 168 (-1000000003) ∈ lw_tbl := List.mem_of_getElem? (i := 952) (by decide +kernel)
theorem kn_X9_197 : Cond.constant RX9 197 (65536) ∈ lw_tbl := List.mem_of_getElem? (i := 1008) (by decide +kernel)
theorem kn_X9_222 : Cond.constant RX9 222 (100000) ∈ lw_tbl := List.mem_of_getElem? (i := 1069) (by decide +kernel)
theorem kn_X9_223 : Cond.constant RX9 223 (1000000) ∈ lw_tbl := List.mem_of_getElem? (i := 1074) (by decide +kernel)
theorem kn_X3_13 : Cond.constantLong RX3 13 (1103515245) ∈ lw_tbl := List.mem_of_getElem? (i := 583) (by decide +kernel)
theorem kn_X3_15 : Cond.constantLong RX3 15 (12345) ∈ lw_tbl := List.mem_of_getElem? (i := 584) (by decide +kernel)
theorem kn_X3_17 : Cond.constantLong RX3 17 (2147483648) ∈ lw_tbl := List.mem_of_getElem? (i := 585) (by decide +kernel)
theorem kn_X2_66 : Cond.constantLong RX2 66 (1000000) ∈ lw_tbl := List.mem_of_getElem? (i := 608) (by decide +kernel)
theorem kn_X8_304 : Cond.constantLong RX8 304 (1000000) ∈ lw_tbl := List.mem_of_getElem? (i := 656) (by decide +kernel)
theorem kn_X9_191 : Cond.constantLong RX9 191 (1103515245) ∈ lw_tbl := List.mem_of_getElem? (i := 1005) (by decide +kernel)
theorem kn_X9_193 : Cond.constantLong RX9 193 (12345) ∈ lw_tbl := List.mem_of_getElem? (i := 1006) (by decide +kernel)
theorem kn_X9_195 : Cond.constantLong RX9 195 (2147483647) ∈ lw_tbl := List.mem_of_getElem? (i := 1007) (by decide +kernel)
theorem kn_X9_201 : Cond.constantLong RX9 201 (1000000) ∈ lw_tbl := List.mem_of_getElem? (i := 1021) (by decide +kernel)
theorem ac_int : Cond.arrayClass .int ∈ lw_tbl := List.mem_of_getElem? (i := 150) (by decide +kernel)
theorem ac_boolean : Cond.arrayClass .boolean ∈ lw_tbl := List.mem_of_getElem? (i := 262) (by decide +kernel)
theorem ao_0 : Cond.arrayOver (.object RX0) ∈ lw_tbl := List.mem_of_getElem? (i := 232) (by decide +kernel)
theorem ao_6 : Cond.arrayOver (.object RX6) ∈ lw_tbl := List.mem_of_getElem? (i := 289) (by decide +kernel)
theorem oi_in : Cond.instanceMethod Lib.objectInit ∈ lw_tbl := List.mem_of_getElem? (i := 76) (by decide +kernel)
theorem oi_co : Cond.code Lib.objectInit ⟨#[0xb1]⟩ 1 none ∈ lw_tbl := List.mem_of_getElem? (i := 77) (by decide +kernel)
theorem oi_X8 : Cond.methodLink RX8 1 Lib.objectInit ∈ lw_tbl := List.mem_of_getElem? (i := 75) (by decide +kernel)
theorem oi_X7 : Cond.methodLink RX7 3 Lib.objectInit ∈ lw_tbl := List.mem_of_getElem? (i := 83) (by decide +kernel)
theorem oi_X2 : Cond.methodLink RX2 3 Lib.objectInit ∈ lw_tbl := List.mem_of_getElem? (i := 89) (by decide +kernel)
theorem oi_X0 : Cond.methodLink RX0 3 Lib.objectInit ∈ lw_tbl := List.mem_of_getElem? (i := 187) (by decide +kernel)
theorem oi_X5 : Cond.methodLink RX5 3 Lib.objectInit ∈ lw_tbl := List.mem_of_getElem? (i := 230) (by decide +kernel)
theorem oi_X4 : Cond.methodLink RX4 3 Lib.objectInit ∈ lw_tbl := List.mem_of_getElem? (i := 250) (by decide +kernel)
theorem oi_X1 : Cond.methodLink RX1 3 Lib.objectInit ∈ lw_tbl := List.mem_of_getElem? (i := 268) (by decide +kernel)
theorem oi_X3 : Cond.methodLink RX3 1 Lib.objectInit ∈ lw_tbl := List.mem_of_getElem? (i := 282) (by decide +kernel)
theorem oi_X6 : Cond.methodLink RX6 1 Lib.objectInit ∈ lw_tbl := List.mem_of_getElem? (i := 294) (by decide +kernel)
theorem oi_X9 : Cond.methodLink RX9 1 Lib.objectInit ∈ lw_tbl := List.mem_of_getElem? (i := 750) (by decide +kernel)
