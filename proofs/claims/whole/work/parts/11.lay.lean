theorem kd_0 : kd 0 = (0, 8) := rfl
theorem ln_0 : 0 < 137 := by decide
theorem kd_1 : kd 1 = (0, 7) := rfl
theorem ln_1 : 1 < 137 := by decide
theorem kd_2 : kd 2 = (1, 240) := rfl
theorem ln_2 : 2 < 137 := by decide
theorem kd_3 : kd 3 = (0, 2) := rfl
theorem ln_3 : 3 < 137 := by decide
theorem kd_4 : kd 4 = (1, 8) := rfl
theorem ln_4 : 4 < 137 := by decide
theorem kd_5 : kd 5 = (1, 6) := rfl
theorem ln_5 : 5 < 137 := by decide
theorem kd_6 : kd 6 = (1, 6) := rfl
theorem ln_6 : 6 < 137 := by decide
theorem kd_7 : kd 7 = (1, 6) := rfl
theorem ln_7 : 7 < 137 := by decide
theorem kd_8 : kd 8 = (1, 5) := rfl
theorem ln_8 : 8 < 137 := by decide
theorem kd_9 : kd 9 = (1, 5) := rfl
theorem ln_9 : 9 < 137 := by decide
theorem kd_10 : kd 10 = (0, 2) := rfl
theorem ln_10 : 10 < 137 := by decide
theorem kd_11 : kd 11 = (1, 8) := rfl
theorem ln_11 : 11 < 137 := by decide
theorem kd_12 : kd 12 = (1, 6) := rfl
theorem ln_12 : 12 < 137 := by decide
theorem kd_13 : kd 13 = (1, 6) := rfl
theorem ln_13 : 13 < 137 := by decide
theorem kd_14 : kd 14 = (1, 6) := rfl
theorem ln_14 : 14 < 137 := by decide
theorem kd_15 : kd 15 = (1, 5) := rfl
theorem ln_15 : 15 < 137 := by decide
theorem kd_16 : kd 16 = (1, 5) := rfl
theorem ln_16 : 16 < 137 := by decide
theorem kd_17 : kd 17 = (0, 0) := rfl
theorem ln_17 : 17 < 137 := by decide
theorem kd_18 : kd 18 = (1, 5) := rfl
theorem ln_18 : 18 < 137 := by decide
theorem kd_19 : kd 19 = (1, 5) := rfl
theorem ln_19 : 19 < 137 := by decide
theorem kd_20 : kd 20 = (1, 5) := rfl
theorem ln_20 : 20 < 137 := by decide
theorem kd_21 : kd 21 = (0, 5) := rfl
theorem ln_21 : 21 < 137 := by decide
theorem kd_22 : kd 22 = (3, 20) := rfl
theorem ln_22 : 22 < 137 := by decide
theorem kd_23 : kd 23 = (0, 0) := rfl
theorem ln_23 : 23 < 137 := by decide
theorem kd_24 : kd 24 = (1, 5) := rfl
theorem ln_24 : 24 < 137 := by decide
theorem kd_25 : kd 25 = (1, 5) := rfl
theorem ln_25 : 25 < 137 := by decide
theorem kd_26 : kd 26 = (1, 5) := rfl
theorem ln_26 : 26 < 137 := by decide
theorem kd_27 : kd 27 = (0, 0) := rfl
theorem ln_27 : 27 < 137 := by decide
theorem kd_28 : kd 28 = (1, 5) := rfl
theorem ln_28 : 28 < 137 := by decide
theorem kd_29 : kd 29 = (1, 5) := rfl
theorem ln_29 : 29 < 137 := by decide
theorem kd_30 : kd 30 = (1, 5) := rfl
theorem ln_30 : 30 < 137 := by decide
theorem kd_31 : kd 31 = (0, 0) := rfl
theorem ln_31 : 31 < 137 := by decide
theorem kd_32 : kd 32 = (1, 5) := rfl
theorem ln_32 : 32 < 137 := by decide
theorem kd_33 : kd 33 = (1, 5) := rfl
theorem ln_33 : 33 < 137 := by decide
theorem kd_34 : kd 34 = (1, 5) := rfl
theorem ln_34 : 34 < 137 := by decide
theorem kd_35 : kd 35 = (0, 0) := rfl
theorem ln_35 : 35 < 137 := by decide
theorem kd_36 : kd 36 = (1, 5) := rfl
theorem ln_36 : 36 < 137 := by decide
theorem kd_37 : kd 37 = (1, 5) := rfl
theorem ln_37 : 37 < 137 := by decide
theorem kd_38 : kd 38 = (1, 5) := rfl
theorem ln_38 : 38 < 137 := by decide
theorem kd_39 : kd 39 = (0, 0) := rfl
theorem ln_39 : 39 < 137 := by decide
theorem kd_40 : kd 40 = (1, 5) := rfl
theorem ln_40 : 40 < 137 := by decide
theorem kd_41 : kd 41 = (1, 5) := rfl
theorem ln_41 : 41 < 137 := by decide
theorem kd_42 : kd 42 = (1, 5) := rfl
theorem ln_42 : 42 < 137 := by decide
theorem kd_43 : kd 43 = (0, 0) := rfl
theorem ln_43 : 43 < 137 := by decide
theorem kd_44 : kd 44 = (1, 5) := rfl
theorem ln_44 : 44 < 137 := by decide
theorem kd_45 : kd 45 = (1, 5) := rfl
theorem ln_45 : 45 < 137 := by decide
theorem kd_46 : kd 46 = (1, 5) := rfl
theorem ln_46 : 46 < 137 := by decide
theorem kd_47 : kd 47 = (0, 0) := rfl
theorem ln_47 : 47 < 137 := by decide
theorem kd_48 : kd 48 = (1, 5) := rfl
theorem ln_48 : 48 < 137 := by decide
theorem kd_49 : kd 49 = (1, 5) := rfl
theorem ln_49 : 49 < 137 := by decide
theorem kd_50 : kd 50 = (1, 5) := rfl
theorem ln_50 : 50 < 137 := by decide
theorem kd_51 : kd 51 = (0, 0) := rfl
theorem ln_51 : 51 < 137 := by decide
theorem kd_52 : kd 52 = (1, 5) := rfl
theorem ln_52 : 52 < 137 := by decide
theorem kd_53 : kd 53 = (1, 5) := rfl
theorem ln_53 : 53 < 137 := by decide
theorem kd_54 : kd 54 = (1, 5) := rfl
theorem ln_54 : 54 < 137 := by decide
theorem kd_55 : kd 55 = (0, 0) := rfl
theorem ln_55 : 55 < 137 := by decide
theorem kd_56 : kd 56 = (1, 5) := rfl
theorem ln_56 : 56 < 137 := by decide
theorem kd_57 : kd 57 = (1, 5) := rfl
theorem ln_57 : 57 < 137 := by decide
theorem kd_58 : kd 58 = (1, 5) := rfl
theorem ln_58 : 58 < 137 := by decide
theorem kd_59 : kd 59 = (0, 0) := rfl
theorem ln_59 : 59 < 137 := by decide
theorem kd_60 : kd 60 = (1, 5) := rfl
theorem ln_60 : 60 < 137 := by decide
theorem kd_61 : kd 61 = (1, 5) := rfl
theorem ln_61 : 61 < 137 := by decide
theorem kd_62 : kd 62 = (1, 5) := rfl
theorem ln_62 : 62 < 137 := by decide
theorem kd_63 : kd 63 = (0, 0) := rfl
theorem ln_63 : 63 < 137 := by decide
theorem kd_64 : kd 64 = (1, 5) := rfl
theorem ln_64 : 64 < 137 := by decide
theorem kd_65 : kd 65 = (1, 5) := rfl
theorem ln_65 : 65 < 137 := by decide
theorem kd_66 : kd 66 = (1, 5) := rfl
theorem ln_66 : 66 < 137 := by decide
theorem kd_67 : kd 67 = (0, 0) := rfl
theorem ln_67 : 67 < 137 := by decide
theorem kd_68 : kd 68 = (1, 5) := rfl
theorem ln_68 : 68 < 137 := by decide
theorem kd_69 : kd 69 = (1, 5) := rfl
theorem ln_69 : 69 < 137 := by decide
theorem kd_70 : kd 70 = (1, 5) := rfl
theorem ln_70 : 70 < 137 := by decide
theorem kd_71 : kd 71 = (0, 0) := rfl
theorem ln_71 : 71 < 137 := by decide
theorem kd_72 : kd 72 = (1, 5) := rfl
theorem ln_72 : 72 < 137 := by decide
theorem kd_73 : kd 73 = (1, 5) := rfl
theorem ln_73 : 73 < 137 := by decide
theorem kd_74 : kd 74 = (1, 5) := rfl
theorem ln_74 : 74 < 137 := by decide
theorem kd_75 : kd 75 = (0, 0) := rfl
theorem ln_75 : 75 < 137 := by decide
theorem kd_76 : kd 76 = (1, 5) := rfl
theorem ln_76 : 76 < 137 := by decide
theorem kd_77 : kd 77 = (1, 5) := rfl
theorem ln_77 : 77 < 137 := by decide
theorem kd_78 : kd 78 = (1, 5) := rfl
theorem ln_78 : 78 < 137 := by decide
theorem kd_79 : kd 79 = (0, 0) := rfl
theorem ln_79 : 79 < 137 := by decide
theorem kd_80 : kd 80 = (1, 5) := rfl
theorem ln_80 : 80 < 137 := by decide
theorem kd_81 : kd 81 = (1, 5) := rfl
theorem ln_81 : 81 < 137 := by decide
theorem kd_82 : kd 82 = (1, 5) := rfl
theorem ln_82 : 82 < 137 := by decide
theorem kd_83 : kd 83 = (0, 0) := rfl
theorem ln_83 : 83 < 137 := by decide
theorem kd_84 : kd 84 = (1, 5) := rfl
theorem ln_84 : 84 < 137 := by decide
theorem kd_85 : kd 85 = (1, 5) := rfl
theorem ln_85 : 85 < 137 := by decide
theorem kd_86 : kd 86 = (1, 5) := rfl
theorem ln_86 : 86 < 137 := by decide
theorem kd_87 : kd 87 = (0, 0) := rfl
theorem ln_87 : 87 < 137 := by decide
theorem kd_88 : kd 88 = (1, 5) := rfl
theorem ln_88 : 88 < 137 := by decide
theorem kd_89 : kd 89 = (1, 5) := rfl
theorem ln_89 : 89 < 137 := by decide
theorem kd_90 : kd 90 = (1, 5) := rfl
theorem ln_90 : 90 < 137 := by decide
theorem kd_91 : kd 91 = (0, 0) := rfl
theorem ln_91 : 91 < 137 := by decide
theorem kd_92 : kd 92 = (1, 5) := rfl
theorem ln_92 : 92 < 137 := by decide
theorem kd_93 : kd 93 = (1, 5) := rfl
theorem ln_93 : 93 < 137 := by decide
theorem kd_94 : kd 94 = (1, 5) := rfl
theorem ln_94 : 94 < 137 := by decide
theorem kd_95 : kd 95 = (0, 0) := rfl
theorem ln_95 : 95 < 137 := by decide
theorem kd_96 : kd 96 = (1, 5) := rfl
theorem ln_96 : 96 < 137 := by decide
theorem kd_97 : kd 97 = (1, 5) := rfl
theorem ln_97 : 97 < 137 := by decide
theorem kd_98 : kd 98 = (1, 5) := rfl
theorem ln_98 : 98 < 137 := by decide
theorem kd_99 : kd 99 = (0, 0) := rfl
theorem ln_99 : 99 < 137 := by decide
theorem kd_100 : kd 100 = (1, 5) := rfl
theorem ln_100 : 100 < 137 := by decide
theorem kd_101 : kd 101 = (1, 5) := rfl
theorem ln_101 : 101 < 137 := by decide
theorem kd_102 : kd 102 = (1, 5) := rfl
theorem ln_102 : 102 < 137 := by decide
theorem kd_103 : kd 103 = (0, 4) := rfl
theorem ln_103 : 103 < 137 := by decide
theorem kd_104 : kd 104 = (1, 6) := rfl
theorem ln_104 : 104 < 137 := by decide
theorem kd_105 : kd 105 = (2, 6) := rfl
theorem ln_105 : 105 < 137 := by decide
theorem kd_106 : kd 106 = (0, 1) := rfl
theorem ln_106 : 106 < 137 := by decide
theorem kd_107 : kd 107 = (1, 15) := rfl
theorem ln_107 : 107 < 137 := by decide
theorem kd_108 : kd 108 = (0, 3) := rfl
theorem ln_108 : 108 < 137 := by decide
theorem kd_109 : kd 109 = (4, 2) := rfl
theorem ln_109 : 109 < 137 := by decide
theorem kd_110 : kd 110 = (0, 6) := rfl
theorem ln_110 : 110 < 137 := by decide
theorem kd_111 : kd 111 = (0, 0) := rfl
theorem ln_111 : 111 < 137 := by decide
theorem kd_112 : kd 112 = (1, 5) := rfl
theorem ln_112 : 112 < 137 := by decide
theorem kd_113 : kd 113 = (1, 5) := rfl
theorem ln_113 : 113 < 137 := by decide
theorem kd_114 : kd 114 = (1, 5) := rfl
theorem ln_114 : 114 < 137 := by decide
theorem kd_115 : kd 115 = (0, 6) := rfl
theorem ln_115 : 115 < 137 := by decide
theorem kd_116 : kd 116 = (0, 0) := rfl
theorem ln_116 : 116 < 137 := by decide
theorem kd_117 : kd 117 = (1, 5) := rfl
theorem ln_117 : 117 < 137 := by decide
theorem kd_118 : kd 118 = (1, 5) := rfl
theorem ln_118 : 118 < 137 := by decide
theorem kd_119 : kd 119 = (1, 5) := rfl
theorem ln_119 : 119 < 137 := by decide
theorem kd_120 : kd 120 = (0, 9) := rfl
theorem ln_120 : 120 < 137 := by decide
theorem kd_121 : kd 121 = (1, 240) := rfl
theorem ln_121 : 121 < 137 := by decide
theorem kd_122 : kd 122 = (1, 5) := rfl
theorem ln_122 : 122 < 137 := by decide
theorem kd_123 : kd 123 = (1, 8) := rfl
theorem ln_123 : 123 < 137 := by decide
theorem kd_124 : kd 124 = (1, 18) := rfl
theorem ln_124 : 124 < 137 := by decide
theorem kd_125 : kd 125 = (1, 10) := rfl
theorem ln_125 : 125 < 137 := by decide
theorem kd_126 : kd 126 = (1, 5) := rfl
theorem ln_126 : 126 < 137 := by decide
theorem kd_127 : kd 127 = (1, 8) := rfl
theorem ln_127 : 127 < 137 := by decide
theorem kd_128 : kd 128 = (1, 18) := rfl
theorem ln_128 : 128 < 137 := by decide
theorem kd_129 : kd 129 = (1, 10) := rfl
theorem ln_129 : 129 < 137 := by decide
theorem kd_130 : kd 130 = (1, 21) := rfl
theorem ln_130 : 130 < 137 := by decide
theorem kd_131 : kd 131 = (1, 420) := rfl
theorem ln_131 : 131 < 137 := by decide
theorem kd_132 : kd 132 = (1, 42) := rfl
theorem ln_132 : 132 < 137 := by decide
theorem kd_133 : kd 133 = (1, 2) := rfl
theorem ln_133 : 133 < 137 := by decide
theorem kd_134 : kd 134 = (2, 2) := rfl
theorem ln_134 : 134 < 137 := by decide
theorem kd_135 : kd 135 = (1, 12) := rfl
theorem ln_135 : 135 < 137 := by decide
theorem kd_136 : kd 136 = (1, 15) := rfl
theorem ln_136 : 136 < 137 := by decide
theorem cl_0 : ∀ r : vw_C, vwCl[0]? = some r → r.1 = RX0 := fun r h => by cases h; rfl
theorem cl_1 : ∀ r : vw_C, vwCl[1]? = some r → r.1 = RX1 := fun r h => by cases h; rfl
theorem cl_2 : ∀ r : vw_C, vwCl[2]? = some r → r.1 = RX2 := fun r h => by cases h; rfl
theorem cl_3 : ∀ r : vw_C, vwCl[3]? = some r → r.1 = RX3 := fun r h => by cases h; rfl
theorem cl_4 : ∀ r : vw_C, vwCl[4]? = some r → r.1 = RX4 := fun r h => by cases h; rfl
theorem cl_5 : ∀ r : vw_C, vwCl[5]? = some r → r.1 = RX5 := fun r h => by cases h; rfl
theorem cl_6 : ∀ r : vw_C, vwCl[6]? = some r → r.1 = RX6 := fun r h => by cases h; rfl
theorem cl_7 : ∀ r : vw_C, vwCl[7]? = some r → r.1 = RX7 := fun r h => by cases h; rfl
theorem cl_8 : ∀ r : vw_C, vwCl[8]? = some r → r.1 = RX8 := fun r h => by cases h; rfl
theorem cl_9 : ∀ r : vw_C, vwCl[9]? = some r → r.1 = RX9 := fun r h => by cases h; rfl
def RR (pl it : Nat) : RM := fun k j =>
  if k = 0 then ([none, some 1, some pl, some 17, some 21, some 103, some 106, some 108, some 109] : List (Option Nat)).getD j none
  else if k = 1 then ([some 2, none, none, none, some it] : List (Option Nat)).getD j none
  else if kd k = (0, 2) then ([none, some (k + 1), none, some (k + 2), some (k + 3), some (k + 4), none, some (k + 5), some (k + 6)] : List (Option Nat)).getD j none
  else if kd k = (0, 0) then ([none, none, none, none, none, none, some (k + 1), some (k + 2), some (k + 3)] : List (Option Nat)).getD j none
  else if k = 21 then ([some 22] : List (Option Nat)).getD j none
  else if k = 22 then if j < 20 then some (23 + 4 * j) else none
  else if k = 103 then ([some 104, some 105] : List (Option Nat)).getD j none
  else if k = 106 then ([some 107] : List (Option Nat)).getD j none
  else if k = 109 then if j < 2 then some (110 + 5 * j) else none
  else if kd k = (0, 6) then ([none, some (k + 1)] : List (Option Nat)).getD j none
  else if k = 120 then ([some 121, none, none, some 122, some 123, some 124, some 125, some 126, some 127, some 128, some 129, some 130, some 131, none, some 132, some 133, some 134, none, some 135, none, some 136] : List (Option Nat)).getD j none
  else none
def isC (k : Nat) : Prop := k = 3 ∨ k = 10
def affL : List Nat := [17, 23, 27, 31, 35, 39, 43, 47, 51, 55, 59, 63, 67, 71, 75, 79, 83, 87, 91, 95, 99, 111, 116]
def isA (k : Nat) : Prop := k ∈ affL
theorem isC_3 : isC 3 := Or.inl rfl
theorem isC_10 : isC 10 := Or.inr rfl
theorem isA_17 : isA 17 := by show 17 ∈ affL; decide +kernel
theorem affAll {P : Nat → Prop} [DecidablePred P] (h : (affL.all fun k => decide (P k)) = true) {k : Nat} (hk : isA k) : P k := by
  have h1 := List.all_eq_true.mp h k hk
  exact of_decide_eq_true h1
theorem kC0 {k : Nat} (h : isC k) : kd (k) = (0, 2) := by rcases h with rfl | rfl <;> rfl
theorem lC0 {k : Nat} (h : isC k) : k < 137 := by rcases h with rfl | rfl <;> decide
theorem kC1 {k : Nat} (h : isC k) : kd (k + 1) = (1, 8) := by rcases h with rfl | rfl <;> rfl
theorem lC1 {k : Nat} (h : isC k) : k + 1 < 137 := by rcases h with rfl | rfl <;> decide
theorem kC2 {k : Nat} (h : isC k) : kd (k + 2) = (1, 6) := by rcases h with rfl | rfl <;> rfl
theorem lC2 {k : Nat} (h : isC k) : k + 2 < 137 := by rcases h with rfl | rfl <;> decide
theorem kC3 {k : Nat} (h : isC k) : kd (k + 3) = (1, 6) := by rcases h with rfl | rfl <;> rfl
theorem lC3 {k : Nat} (h : isC k) : k + 3 < 137 := by rcases h with rfl | rfl <;> decide
theorem kC4 {k : Nat} (h : isC k) : kd (k + 4) = (1, 6) := by rcases h with rfl | rfl <;> rfl
theorem lC4 {k : Nat} (h : isC k) : k + 4 < 137 := by rcases h with rfl | rfl <;> decide
theorem kC5 {k : Nat} (h : isC k) : kd (k + 5) = (1, 5) := by rcases h with rfl | rfl <;> rfl
theorem lC5 {k : Nat} (h : isC k) : k + 5 < 137 := by rcases h with rfl | rfl <;> decide
theorem kC6 {k : Nat} (h : isC k) : kd (k + 6) = (1, 5) := by rcases h with rfl | rfl <;> rfl
theorem lC6 {k : Nat} (h : isC k) : k + 6 < 137 := by rcases h with rfl | rfl <;> decide
theorem kA0 {k : Nat} (h : isA k) : kd (k) = (0, 0) := affAll (P := fun k => kd (k) = (0, 0)) (by decide +kernel) h
theorem lA0 {k : Nat} (h : isA k) : k < 137 := affAll (P := fun k => k < 137) (by decide +kernel) h
theorem kA1 {k : Nat} (h : isA k) : kd (k + 1) = (1, 5) := affAll (P := fun k => kd (k + 1) = (1, 5)) (by decide +kernel) h
theorem lA1 {k : Nat} (h : isA k) : k + 1 < 137 := affAll (P := fun k => k + 1 < 137) (by decide +kernel) h
theorem kA2 {k : Nat} (h : isA k) : kd (k + 2) = (1, 5) := affAll (P := fun k => kd (k + 2) = (1, 5)) (by decide +kernel) h
theorem lA2 {k : Nat} (h : isA k) : k + 2 < 137 := affAll (P := fun k => k + 2 < 137) (by decide +kernel) h
theorem kA3 {k : Nat} (h : isA k) : kd (k + 3) = (1, 5) := affAll (P := fun k => kd (k + 3) = (1, 5)) (by decide +kernel) h
theorem lA3 {k : Nat} (h : isA k) : k + 3 < 137 := affAll (P := fun k => k + 3 < 137) (by decide +kernel) h
theorem rrC1 {k pl it : Nat} (h : isC k) : RR pl it k 1 = some (k + 1) := by rcases h with rfl | rfl <;> rfl
theorem rrC3 {k pl it : Nat} (h : isC k) : RR pl it k 3 = some (k + 2) := by rcases h with rfl | rfl <;> rfl
theorem rrC4 {k pl it : Nat} (h : isC k) : RR pl it k 4 = some (k + 3) := by rcases h with rfl | rfl <;> rfl
theorem rrC5 {k pl it : Nat} (h : isC k) : RR pl it k 5 = some (k + 4) := by rcases h with rfl | rfl <;> rfl
theorem rrC7 {k pl it : Nat} (h : isC k) : RR pl it k 7 = some (k + 5) := by rcases h with rfl | rfl <;> rfl
theorem rrC8 {k pl it : Nat} (h : isC k) : RR pl it k 8 = some (k + 6) := by rcases h with rfl | rfl <;> rfl
theorem isA_ne {k : Nat} (h : isA k) : k ≠ 0 ∧ k ≠ 1 ∧ kd k ≠ (0, 2) := affAll (P := fun k => k ≠ 0 ∧ k ≠ 1 ∧ kd k ≠ (0, 2)) (by decide +kernel) h
theorem rrA6 {k pl it : Nat} (h : isA k) : RR pl it k 6 = some (k + 1) := by
  obtain ⟨h1, h2, h3⟩ := isA_ne h
  unfold RR
  rw [if_neg h1, if_neg h2, if_neg h3, if_pos (kA0 h)]
  rfl
theorem rrA7 {k pl it : Nat} (h : isA k) : RR pl it k 7 = some (k + 2) := by
  obtain ⟨h1, h2, h3⟩ := isA_ne h
  unfold RR
  rw [if_neg h1, if_neg h2, if_neg h3, if_pos (kA0 h)]
  rfl
theorem rrA8 {k pl it : Nat} (h : isA k) : RR pl it k 8 = some (k + 3) := by
  obtain ⟨h1, h2, h3⟩ := isA_ne h
  unfold RR
  rw [if_neg h1, if_neg h2, if_neg h3, if_pos (kA0 h)]
  rfl
theorem isA_past {i : Nat} (h : i < 20) : isA (23 + 4 * i) := by
  have h1 : ∀ i, i < 20 → 23 + 4 * i ∈ affL := by decide +kernel
  exact h1 i h
theorem rr_past {pl it i : Nat} (h : i < 20) : RR pl it 22 i = some (23 + 4 * i) := by
  unfold RR
  rw [if_neg (by decide), if_neg (by decide), if_neg (by decide), if_neg (by decide), if_neg (by decide), if_pos rfl, if_pos h]
theorem ix_le {x y : Int32} {a b : Nat} (hx : x = nI a) (hy : y = nI b) (h : a ≤ b) (hb : b < 2147483648) : x ≤ y := by rw [hx, hy]; exact nI_le h hb
theorem ix_nle {x y : Int32} {a b : Nat} (hx : x = nI a) (hy : y = nI b) (h : b < a) (ha : a < 2147483648) : ¬ x ≤ y := by rw [hx, hy]; exact nI_ge h ha
theorem ix_lt {x y : Int32} {a b : Nat} (hx : x = nI a) (hy : y = nI b) (h : a < b) (hb : b < 2147483648) : x < y := by rw [hx, hy]; exact nI_lt h hb
theorem ix_nlt {x y : Int32} {a b : Nat} (hx : x = nI a) (hy : y = nI b) (h : b ≤ a) (ha : a < 2147483648) : ¬ x < y := by rw [hx, hy]; exact nI_nlt h ha
theorem ix_eq {x y : Int32} {a b : Nat} (hx : x = nI a) (hy : y = nI b) (h : a = b) : x = y := by rw [hx, hy, h]
theorem ix_ne {x y : Int32} {a b : Nat} (hx : x = nI a) (hy : y = nI b) (h : a ≠ b) (ha : a < 2147483648) (hb : b < 2147483648) : ¬ x = y := by rw [hx, hy]; exact fun q => h ((nI_eq ha hb).mp q)
section ARITY
variable {Y Z : Card} {d mc ms : Nat} {R : Rs} {kc ks pc : Nat} {lv : LV} {sk : List Value} {n : Nat} {im : IM} {rm : RM} {d1 idx : Nat} {n1 : Nat} {im1 : IM} {rm1 : RM} {rv : Value}
theorem r_V0s {o ci : Nat} (hc : CV Y.1.cls idx Z 0) (hd : decode Y.2.1 pc = .ok (.invokevirtual idx, 3)) (hM : MT Z d1 0 0 (.ref o :: []) n im rm (some rv, n1, im1, rm1)) (hdp : d1 + 1 ≤ d ∧ 8 + (Z.2.2.1 + 11) + 37 * d1 ≤ 37 * d) (ho : kd o = (0, ci)) (hon : o < n) (hcl : ∀ r : vw_C, vwCl[ci]? = some r → r.1 = Z.1.cls) (hw : (sk.map fun v => v.category).sum ≤ 8) (hm : kc ≤ mc ∧ ks ≤ ms)
    (kk : WW Y d mc ms R kc ks (pc + 3) lv (rv :: sk) n1 im1 rm1) : WW Y d mc ms R kc ks pc lv (.ref o :: sk) n im rm :=
  r_callV (As := []) hc hd hM hdp rfl ho hon hcl hw hm kk
theorem r_V0n {o ci : Nat} (hc : CV Y.1.cls idx Z 0) (hd : decode Y.2.1 pc = .ok (.invokevirtual idx, 3)) (hM : MT Z d1 0 0 (.ref o :: []) n im rm (none, n1, im1, rm1)) (hdp : d1 + 1 ≤ d ∧ 8 + (Z.2.2.1 + 11) + 37 * d1 ≤ 37 * d) (ho : kd o = (0, ci)) (hon : o < n) (hcl : ∀ r : vw_C, vwCl[ci]? = some r → r.1 = Z.1.cls) (hw : (sk.map fun v => v.category).sum ≤ 8) (hm : kc ≤ mc ∧ ks ≤ ms)
    (kk : WW Y d mc ms R kc ks (pc + 3) lv sk n1 im1 rm1) : WW Y d mc ms R kc ks pc lv (.ref o :: sk) n im rm :=
  r_callV (As := []) hc hd hM hdp rfl ho hon hcl hw hm kk
theorem r_V1s {a1 : Value} {o ci : Nat} (hc : CV Y.1.cls idx Z 1) (hd : decode Y.2.1 pc = .ok (.invokevirtual idx, 3)) (hM : MT Z d1 0 0 (.ref o :: [a1]) n im rm (some rv, n1, im1, rm1)) (hdp : d1 + 1 ≤ d ∧ 8 + (Z.2.2.1 + 11) + 37 * d1 ≤ 37 * d) (ho : kd o = (0, ci)) (hon : o < n) (hcl : ∀ r : vw_C, vwCl[ci]? = some r → r.1 = Z.1.cls) (hw : (sk.map fun v => v.category).sum ≤ 8) (hm : kc ≤ mc ∧ ks ≤ ms)
    (kk : WW Y d mc ms R kc ks (pc + 3) lv (rv :: sk) n1 im1 rm1) : WW Y d mc ms R kc ks pc lv (a1 :: .ref o :: sk) n im rm :=
  r_callV (As := [a1]) hc hd hM hdp rfl ho hon hcl hw hm kk
theorem r_V1n {a1 : Value} {o ci : Nat} (hc : CV Y.1.cls idx Z 1) (hd : decode Y.2.1 pc = .ok (.invokevirtual idx, 3)) (hM : MT Z d1 0 0 (.ref o :: [a1]) n im rm (none, n1, im1, rm1)) (hdp : d1 + 1 ≤ d ∧ 8 + (Z.2.2.1 + 11) + 37 * d1 ≤ 37 * d) (ho : kd o = (0, ci)) (hon : o < n) (hcl : ∀ r : vw_C, vwCl[ci]? = some r → r.1 = Z.1.cls) (hw : (sk.map fun v => v.category).sum ≤ 8) (hm : kc ≤ mc ∧ ks ≤ ms)
    (kk : WW Y d mc ms R kc ks (pc + 3) lv sk n1 im1 rm1) : WW Y d mc ms R kc ks pc lv (a1 :: .ref o :: sk) n im rm :=
  r_callV (As := [a1]) hc hd hM hdp rfl ho hon hcl hw hm kk
theorem r_S1s {a1 : Value} (hc : CS Y.1.cls idx Z 1) (hd : decode Y.2.1 pc = .ok (.invokestatic idx, 3)) (hM : MT Z d1 0 0 [a1] n im rm (some rv, n1, im1, rm1)) (hdp : d1 + 1 ≤ d ∧ 8 + (Z.2.2.1 + 11) + 37 * d1 ≤ 37 * d) (hw : (sk.map fun v => v.category).sum ≤ 8) (hm : kc ≤ mc ∧ ks ≤ ms)
    (kk : WW Y d mc ms R kc ks (pc + 3) lv (rv :: sk) n1 im1 rm1) : WW Y d mc ms R kc ks pc lv (a1 :: sk) n im rm :=
  r_callS (As := [a1]) hc hd hM hdp rfl hw hm kk
theorem r_S1n {a1 : Value} (hc : CS Y.1.cls idx Z 1) (hd : decode Y.2.1 pc = .ok (.invokestatic idx, 3)) (hM : MT Z d1 0 0 [a1] n im rm (none, n1, im1, rm1)) (hdp : d1 + 1 ≤ d ∧ 8 + (Z.2.2.1 + 11) + 37 * d1 ≤ 37 * d) (hw : (sk.map fun v => v.category).sum ≤ 8) (hm : kc ≤ mc ∧ ks ≤ ms)
    (kk : WW Y d mc ms R kc ks (pc + 3) lv sk n1 im1 rm1) : WW Y d mc ms R kc ks pc lv (a1 :: sk) n im rm :=
  r_callS (As := [a1]) hc hd hM hdp rfl hw hm kk
theorem r_N1s {a1 : Value} (hc : CN Y.1.cls idx Z 1) (hd : decode Y.2.1 pc = .ok (.invokestatic idx, 3)) (hM : MT Z d1 0 0 [a1] n im rm (some rv, n1, im1, rm1)) (hdp : d1 + 1 ≤ d ∧ 8 + (Z.2.2.1 + 11) + 37 * d1 ≤ 37 * d) (hw : (sk.map fun v => v.category).sum ≤ 8) (hm : kc ≤ mc ∧ ks ≤ ms)
    (kk : WW Y d mc ms R kc ks (pc + 3) lv (rv :: sk) n1 im1 rm1) : WW Y d mc ms R kc ks pc lv (a1 :: sk) n im rm :=
  r_callN (As := [a1]) hc hd hM hdp rfl hw hm kk
theorem r_N1n {a1 : Value} (hc : CN Y.1.cls idx Z 1) (hd : decode Y.2.1 pc = .ok (.invokestatic idx, 3)) (hM : MT Z d1 0 0 [a1] n im rm (none, n1, im1, rm1)) (hdp : d1 + 1 ≤ d ∧ 8 + (Z.2.2.1 + 11) + 37 * d1 ≤ 37 * d) (hw : (sk.map fun v => v.category).sum ≤ 8) (hm : kc ≤ mc ∧ ks ≤ ms)
    (kk : WW Y d mc ms R kc ks (pc + 3) lv sk n1 im1 rm1) : WW Y d mc ms R kc ks pc lv (a1 :: sk) n im rm :=
  r_callN (As := [a1]) hc hd hM hdp rfl hw hm kk
theorem r_V2s {a1 a2 : Value} {o ci : Nat} (hc : CV Y.1.cls idx Z 2) (hd : decode Y.2.1 pc = .ok (.invokevirtual idx, 3)) (hM : MT Z d1 0 0 (.ref o :: [a1, a2]) n im rm (some rv, n1, im1, rm1)) (hdp : d1 + 1 ≤ d ∧ 8 + (Z.2.2.1 + 11) + 37 * d1 ≤ 37 * d) (ho : kd o = (0, ci)) (hon : o < n) (hcl : ∀ r : vw_C, vwCl[ci]? = some r → r.1 = Z.1.cls) (hw : (sk.map fun v => v.category).sum ≤ 8) (hm : kc ≤ mc ∧ ks ≤ ms)
    (kk : WW Y d mc ms R kc ks (pc + 3) lv (rv :: sk) n1 im1 rm1) : WW Y d mc ms R kc ks pc lv (a2 :: a1 :: .ref o :: sk) n im rm :=
  r_callV (As := [a1, a2]) hc hd hM hdp rfl ho hon hcl hw hm kk
theorem r_V2n {a1 a2 : Value} {o ci : Nat} (hc : CV Y.1.cls idx Z 2) (hd : decode Y.2.1 pc = .ok (.invokevirtual idx, 3)) (hM : MT Z d1 0 0 (.ref o :: [a1, a2]) n im rm (none, n1, im1, rm1)) (hdp : d1 + 1 ≤ d ∧ 8 + (Z.2.2.1 + 11) + 37 * d1 ≤ 37 * d) (ho : kd o = (0, ci)) (hon : o < n) (hcl : ∀ r : vw_C, vwCl[ci]? = some r → r.1 = Z.1.cls) (hw : (sk.map fun v => v.category).sum ≤ 8) (hm : kc ≤ mc ∧ ks ≤ ms)
    (kk : WW Y d mc ms R kc ks (pc + 3) lv sk n1 im1 rm1) : WW Y d mc ms R kc ks pc lv (a2 :: a1 :: .ref o :: sk) n im rm :=
  r_callV (As := [a1, a2]) hc hd hM hdp rfl ho hon hcl hw hm kk
theorem r_S2s {a1 a2 : Value} (hc : CS Y.1.cls idx Z 2) (hd : decode Y.2.1 pc = .ok (.invokestatic idx, 3)) (hM : MT Z d1 0 0 [a1, a2] n im rm (some rv, n1, im1, rm1)) (hdp : d1 + 1 ≤ d ∧ 8 + (Z.2.2.1 + 11) + 37 * d1 ≤ 37 * d) (hw : (sk.map fun v => v.category).sum ≤ 8) (hm : kc ≤ mc ∧ ks ≤ ms)
    (kk : WW Y d mc ms R kc ks (pc + 3) lv (rv :: sk) n1 im1 rm1) : WW Y d mc ms R kc ks pc lv (a2 :: a1 :: sk) n im rm :=
  r_callS (As := [a1, a2]) hc hd hM hdp rfl hw hm kk
theorem r_S2n {a1 a2 : Value} (hc : CS Y.1.cls idx Z 2) (hd : decode Y.2.1 pc = .ok (.invokestatic idx, 3)) (hM : MT Z d1 0 0 [a1, a2] n im rm (none, n1, im1, rm1)) (hdp : d1 + 1 ≤ d ∧ 8 + (Z.2.2.1 + 11) + 37 * d1 ≤ 37 * d) (hw : (sk.map fun v => v.category).sum ≤ 8) (hm : kc ≤ mc ∧ ks ≤ ms)
    (kk : WW Y d mc ms R kc ks (pc + 3) lv sk n1 im1 rm1) : WW Y d mc ms R kc ks pc lv (a2 :: a1 :: sk) n im rm :=
  r_callS (As := [a1, a2]) hc hd hM hdp rfl hw hm kk
theorem r_N2s {a1 a2 : Value} (hc : CN Y.1.cls idx Z 2) (hd : decode Y.2.1 pc = .ok (.invokestatic idx, 3)) (hM : MT Z d1 0 0 [a1, a2] n im rm (some rv, n1, im1, rm1)) (hdp : d1 + 1 ≤ d ∧ 8 + (Z.2.2.1 + 11) + 37 * d1 ≤ 37 * d) (hw : (sk.map fun v => v.category).sum ≤ 8) (hm : kc ≤ mc ∧ ks ≤ ms)
    (kk : WW Y d mc ms R kc ks (pc + 3) lv (rv :: sk) n1 im1 rm1) : WW Y d mc ms R kc ks pc lv (a2 :: a1 :: sk) n im rm :=
  r_callN (As := [a1, a2]) hc hd hM hdp rfl hw hm kk
theorem r_N2n {a1 a2 : Value} (hc : CN Y.1.cls idx Z 2) (hd : decode Y.2.1 pc = .ok (.invokestatic idx, 3)) (hM : MT Z d1 0 0 [a1, a2] n im rm (none, n1, im1, rm1)) (hdp : d1 + 1 ≤ d ∧ 8 + (Z.2.2.1 + 11) + 37 * d1 ≤ 37 * d) (hw : (sk.map fun v => v.category).sum ≤ 8) (hm : kc ≤ mc ∧ ks ≤ ms)
    (kk : WW Y d mc ms R kc ks (pc + 3) lv sk n1 im1 rm1) : WW Y d mc ms R kc ks pc lv (a2 :: a1 :: sk) n im rm :=
  r_callN (As := [a1, a2]) hc hd hM hdp rfl hw hm kk
theorem r_V3s {a1 a2 a3 : Value} {o ci : Nat} (hc : CV Y.1.cls idx Z 3) (hd : decode Y.2.1 pc = .ok (.invokevirtual idx, 3)) (hM : MT Z d1 0 0 (.ref o :: [a1, a2, a3]) n im rm (some rv, n1, im1, rm1)) (hdp : d1 + 1 ≤ d ∧ 8 + (Z.2.2.1 + 11) + 37 * d1 ≤ 37 * d) (ho : kd o = (0, ci)) (hon : o < n) (hcl : ∀ r : vw_C, vwCl[ci]? = some r → r.1 = Z.1.cls) (hw : (sk.map fun v => v.category).sum ≤ 8) (hm : kc ≤ mc ∧ ks ≤ ms)
    (kk : WW Y d mc ms R kc ks (pc + 3) lv (rv :: sk) n1 im1 rm1) : WW Y d mc ms R kc ks pc lv (a3 :: a2 :: a1 :: .ref o :: sk) n im rm :=
  r_callV (As := [a1, a2, a3]) hc hd hM hdp rfl ho hon hcl hw hm kk
theorem r_V3n {a1 a2 a3 : Value} {o ci : Nat} (hc : CV Y.1.cls idx Z 3) (hd : decode Y.2.1 pc = .ok (.invokevirtual idx, 3)) (hM : MT Z d1 0 0 (.ref o :: [a1, a2, a3]) n im rm (none, n1, im1, rm1)) (hdp : d1 + 1 ≤ d ∧ 8 + (Z.2.2.1 + 11) + 37 * d1 ≤ 37 * d) (ho : kd o = (0, ci)) (hon : o < n) (hcl : ∀ r : vw_C, vwCl[ci]? = some r → r.1 = Z.1.cls) (hw : (sk.map fun v => v.category).sum ≤ 8) (hm : kc ≤ mc ∧ ks ≤ ms)
    (kk : WW Y d mc ms R kc ks (pc + 3) lv sk n1 im1 rm1) : WW Y d mc ms R kc ks pc lv (a3 :: a2 :: a1 :: .ref o :: sk) n im rm :=
  r_callV (As := [a1, a2, a3]) hc hd hM hdp rfl ho hon hcl hw hm kk
theorem r_S3s {a1 a2 a3 : Value} (hc : CS Y.1.cls idx Z 3) (hd : decode Y.2.1 pc = .ok (.invokestatic idx, 3)) (hM : MT Z d1 0 0 [a1, a2, a3] n im rm (some rv, n1, im1, rm1)) (hdp : d1 + 1 ≤ d ∧ 8 + (Z.2.2.1 + 11) + 37 * d1 ≤ 37 * d) (hw : (sk.map fun v => v.category).sum ≤ 8) (hm : kc ≤ mc ∧ ks ≤ ms)
    (kk : WW Y d mc ms R kc ks (pc + 3) lv (rv :: sk) n1 im1 rm1) : WW Y d mc ms R kc ks pc lv (a3 :: a2 :: a1 :: sk) n im rm :=
  r_callS (As := [a1, a2, a3]) hc hd hM hdp rfl hw hm kk
theorem r_S3n {a1 a2 a3 : Value} (hc : CS Y.1.cls idx Z 3) (hd : decode Y.2.1 pc = .ok (.invokestatic idx, 3)) (hM : MT Z d1 0 0 [a1, a2, a3] n im rm (none, n1, im1, rm1)) (hdp : d1 + 1 ≤ d ∧ 8 + (Z.2.2.1 + 11) + 37 * d1 ≤ 37 * d) (hw : (sk.map fun v => v.category).sum ≤ 8) (hm : kc ≤ mc ∧ ks ≤ ms)
    (kk : WW Y d mc ms R kc ks (pc + 3) lv sk n1 im1 rm1) : WW Y d mc ms R kc ks pc lv (a3 :: a2 :: a1 :: sk) n im rm :=
  r_callS (As := [a1, a2, a3]) hc hd hM hdp rfl hw hm kk
theorem r_N3s {a1 a2 a3 : Value} (hc : CN Y.1.cls idx Z 3) (hd : decode Y.2.1 pc = .ok (.invokestatic idx, 3)) (hM : MT Z d1 0 0 [a1, a2, a3] n im rm (some rv, n1, im1, rm1)) (hdp : d1 + 1 ≤ d ∧ 8 + (Z.2.2.1 + 11) + 37 * d1 ≤ 37 * d) (hw : (sk.map fun v => v.category).sum ≤ 8) (hm : kc ≤ mc ∧ ks ≤ ms)
    (kk : WW Y d mc ms R kc ks (pc + 3) lv (rv :: sk) n1 im1 rm1) : WW Y d mc ms R kc ks pc lv (a3 :: a2 :: a1 :: sk) n im rm :=
  r_callN (As := [a1, a2, a3]) hc hd hM hdp rfl hw hm kk
theorem r_N3n {a1 a2 a3 : Value} (hc : CN Y.1.cls idx Z 3) (hd : decode Y.2.1 pc = .ok (.invokestatic idx, 3)) (hM : MT Z d1 0 0 [a1, a2, a3] n im rm (none, n1, im1, rm1)) (hdp : d1 + 1 ≤ d ∧ 8 + (Z.2.2.1 + 11) + 37 * d1 ≤ 37 * d) (hw : (sk.map fun v => v.category).sum ≤ 8) (hm : kc ≤ mc ∧ ks ≤ ms)
    (kk : WW Y d mc ms R kc ks (pc + 3) lv sk n1 im1 rm1) : WW Y d mc ms R kc ks pc lv (a3 :: a2 :: a1 :: sk) n im rm :=
  r_callN (As := [a1, a2, a3]) hc hd hM hdp rfl hw hm kk
theorem r_S4s {a1 a2 a3 a4 : Value} (hc : CS Y.1.cls idx Z 4) (hd : decode Y.2.1 pc = .ok (.invokestatic idx, 3)) (hM : MT Z d1 0 0 [a1, a2, a3, a4] n im rm (some rv, n1, im1, rm1)) (hdp : d1 + 1 ≤ d ∧ 8 + (Z.2.2.1 + 11) + 37 * d1 ≤ 37 * d) (hw : (sk.map fun v => v.category).sum ≤ 8) (hm : kc ≤ mc ∧ ks ≤ ms)
    (kk : WW Y d mc ms R kc ks (pc + 3) lv (rv :: sk) n1 im1 rm1) : WW Y d mc ms R kc ks pc lv (a4 :: a3 :: a2 :: a1 :: sk) n im rm :=
  r_callS (As := [a1, a2, a3, a4]) hc hd hM hdp rfl hw hm kk
theorem r_S4n {a1 a2 a3 a4 : Value} (hc : CS Y.1.cls idx Z 4) (hd : decode Y.2.1 pc = .ok (.invokestatic idx, 3)) (hM : MT Z d1 0 0 [a1, a2, a3, a4] n im rm (none, n1, im1, rm1)) (hdp : d1 + 1 ≤ d ∧ 8 + (Z.2.2.1 + 11) + 37 * d1 ≤ 37 * d) (hw : (sk.map fun v => v.category).sum ≤ 8) (hm : kc ≤ mc ∧ ks ≤ ms)
    (kk : WW Y d mc ms R kc ks (pc + 3) lv sk n1 im1 rm1) : WW Y d mc ms R kc ks pc lv (a4 :: a3 :: a2 :: a1 :: sk) n im rm :=
  r_callS (As := [a1, a2, a3, a4]) hc hd hM hdp rfl hw hm kk
theorem r_N4s {a1 a2 a3 a4 : Value} (hc : CN Y.1.cls idx Z 4) (hd : decode Y.2.1 pc = .ok (.invokestatic idx, 3)) (hM : MT Z d1 0 0 [a1, a2, a3, a4] n im rm (some rv, n1, im1, rm1)) (hdp : d1 + 1 ≤ d ∧ 8 + (Z.2.2.1 + 11) + 37 * d1 ≤ 37 * d) (hw : (sk.map fun v => v.category).sum ≤ 8) (hm : kc ≤ mc ∧ ks ≤ ms)
    (kk : WW Y d mc ms R kc ks (pc + 3) lv (rv :: sk) n1 im1 rm1) : WW Y d mc ms R kc ks pc lv (a4 :: a3 :: a2 :: a1 :: sk) n im rm :=
  r_callN (As := [a1, a2, a3, a4]) hc hd hM hdp rfl hw hm kk
theorem r_N4n {a1 a2 a3 a4 : Value} (hc : CN Y.1.cls idx Z 4) (hd : decode Y.2.1 pc = .ok (.invokestatic idx, 3)) (hM : MT Z d1 0 0 [a1, a2, a3, a4] n im rm (none, n1, im1, rm1)) (hdp : d1 + 1 ≤ d ∧ 8 + (Z.2.2.1 + 11) + 37 * d1 ≤ 37 * d) (hw : (sk.map fun v => v.category).sum ≤ 8) (hm : kc ≤ mc ∧ ks ≤ ms)
    (kk : WW Y d mc ms R kc ks (pc + 3) lv sk n1 im1 rm1) : WW Y d mc ms R kc ks pc lv (a4 :: a3 :: a2 :: a1 :: sk) n im rm :=
  r_callN (As := [a1, a2, a3, a4]) hc hd hM hdp rfl hw hm kk
theorem r_S5s {a1 a2 a3 a4 a5 : Value} (hc : CS Y.1.cls idx Z 5) (hd : decode Y.2.1 pc = .ok (.invokestatic idx, 3)) (hM : MT Z d1 0 0 [a1, a2, a3, a4, a5] n im rm (some rv, n1, im1, rm1)) (hdp : d1 + 1 ≤ d ∧ 8 + (Z.2.2.1 + 11) + 37 * d1 ≤ 37 * d) (hw : (sk.map fun v => v.category).sum ≤ 8) (hm : kc ≤ mc ∧ ks ≤ ms)
    (kk : WW Y d mc ms R kc ks (pc + 3) lv (rv :: sk) n1 im1 rm1) : WW Y d mc ms R kc ks pc lv (a5 :: a4 :: a3 :: a2 :: a1 :: sk) n im rm :=
  r_callS (As := [a1, a2, a3, a4, a5]) hc hd hM hdp rfl hw hm kk
theorem r_S5n {a1 a2 a3 a4 a5 : Value} (hc : CS Y.1.cls idx Z 5) (hd : decode Y.2.1 pc = .ok (.invokestatic idx, 3)) (hM : MT Z d1 0 0 [a1, a2, a3, a4, a5] n im rm (none, n1, im1, rm1)) (hdp : d1 + 1 ≤ d ∧ 8 + (Z.2.2.1 + 11) + 37 * d1 ≤ 37 * d) (hw : (sk.map fun v => v.category).sum ≤ 8) (hm : kc ≤ mc ∧ ks ≤ ms)
    (kk : WW Y d mc ms R kc ks (pc + 3) lv sk n1 im1 rm1) : WW Y d mc ms R kc ks pc lv (a5 :: a4 :: a3 :: a2 :: a1 :: sk) n im rm :=
  r_callS (As := [a1, a2, a3, a4, a5]) hc hd hM hdp rfl hw hm kk
theorem r_N5s {a1 a2 a3 a4 a5 : Value} (hc : CN Y.1.cls idx Z 5) (hd : decode Y.2.1 pc = .ok (.invokestatic idx, 3)) (hM : MT Z d1 0 0 [a1, a2, a3, a4, a5] n im rm (some rv, n1, im1, rm1)) (hdp : d1 + 1 ≤ d ∧ 8 + (Z.2.2.1 + 11) + 37 * d1 ≤ 37 * d) (hw : (sk.map fun v => v.category).sum ≤ 8) (hm : kc ≤ mc ∧ ks ≤ ms)
    (kk : WW Y d mc ms R kc ks (pc + 3) lv (rv :: sk) n1 im1 rm1) : WW Y d mc ms R kc ks pc lv (a5 :: a4 :: a3 :: a2 :: a1 :: sk) n im rm :=
  r_callN (As := [a1, a2, a3, a4, a5]) hc hd hM hdp rfl hw hm kk
theorem r_N5n {a1 a2 a3 a4 a5 : Value} (hc : CN Y.1.cls idx Z 5) (hd : decode Y.2.1 pc = .ok (.invokestatic idx, 3)) (hM : MT Z d1 0 0 [a1, a2, a3, a4, a5] n im rm (none, n1, im1, rm1)) (hdp : d1 + 1 ≤ d ∧ 8 + (Z.2.2.1 + 11) + 37 * d1 ≤ 37 * d) (hw : (sk.map fun v => v.category).sum ≤ 8) (hm : kc ≤ mc ∧ ks ≤ ms)
    (kk : WW Y d mc ms R kc ks (pc + 3) lv sk n1 im1 rm1) : WW Y d mc ms R kc ks pc lv (a5 :: a4 :: a3 :: a2 :: a1 :: sk) n im rm :=
  r_callN (As := [a1, a2, a3, a4, a5]) hc hd hM hdp rfl hw hm kk
theorem r_if_eq_t {x : Int32} {off : Int} {tgt : Nat} (hd : decode Y.2.1 pc = .ok (.ifCond .eq off, 3)) (ht : (pc : Int) + off = (tgt : Int)) (h : x = 0) (kt : WW Y d mc ms R kc ks tgt lv sk n im rm) : WW Y d mc ms R kc ks pc lv (.int x :: sk) n im rm := r_if_eq hd ht (fun _ => kt) (fun q => absurd h q)
theorem r_if_eq_f {x : Int32} {off : Int} {tgt : Nat} (hd : decode Y.2.1 pc = .ok (.ifCond .eq off, 3)) (ht : (pc : Int) + off = (tgt : Int)) (h : ¬ x = 0) (kf : WW Y d mc ms R kc ks (pc + 3) lv sk n im rm) : WW Y d mc ms R kc ks pc lv (.int x :: sk) n im rm := r_if_eq hd ht (fun q => absurd q h) (fun _ => kf)
theorem r_icmp_eq_t {x y : Int32} {off : Int} {tgt : Nat} (hd : decode Y.2.1 pc = .ok (.if_icmp .eq off, 3)) (ht : (pc : Int) + off = (tgt : Int)) (h : x = y) (kt : WW Y d mc ms R kc ks tgt lv sk n im rm) : WW Y d mc ms R kc ks pc lv (.int y :: .int x :: sk) n im rm := r_icmp_eq hd ht (fun _ => kt) (fun q => absurd h q)
theorem r_icmp_eq_f {x y : Int32} {off : Int} {tgt : Nat} (hd : decode Y.2.1 pc = .ok (.if_icmp .eq off, 3)) (ht : (pc : Int) + off = (tgt : Int)) (h : ¬ x = y) (kf : WW Y d mc ms R kc ks (pc + 3) lv sk n im rm) : WW Y d mc ms R kc ks pc lv (.int y :: .int x :: sk) n im rm := r_icmp_eq hd ht (fun q => absurd q h) (fun _ => kf)
theorem r_if_ne_t {x : Int32} {off : Int} {tgt : Nat} (hd : decode Y.2.1 pc = .ok (.ifCond .ne off, 3)) (ht : (pc : Int) + off = (tgt : Int)) (h : ¬ x = 0) (kt : WW Y d mc ms R kc ks tgt lv sk n im rm) : WW Y d mc ms R kc ks pc lv (.int x :: sk) n im rm := r_if_ne hd ht (fun _ => kt) (fun q => absurd q h)
theorem r_if_ne_f {x : Int32} {off : Int} {tgt : Nat} (hd : decode Y.2.1 pc = .ok (.ifCond .ne off, 3)) (ht : (pc : Int) + off = (tgt : Int)) (h : x = 0) (kf : WW Y d mc ms R kc ks (pc + 3) lv sk n im rm) : WW Y d mc ms R kc ks pc lv (.int x :: sk) n im rm := r_if_ne hd ht (fun q => absurd h q) (fun _ => kf)
theorem r_icmp_ne_t {x y : Int32} {off : Int} {tgt : Nat} (hd : decode Y.2.1 pc = .ok (.if_icmp .ne off, 3)) (ht : (pc : Int) + off = (tgt : Int)) (h : ¬ x = y) (kt : WW Y d mc ms R kc ks tgt lv sk n im rm) : WW Y d mc ms R kc ks pc lv (.int y :: .int x :: sk) n im rm := r_icmp_ne hd ht (fun _ => kt) (fun q => absurd q h)
theorem r_icmp_ne_f {x y : Int32} {off : Int} {tgt : Nat} (hd : decode Y.2.1 pc = .ok (.if_icmp .ne off, 3)) (ht : (pc : Int) + off = (tgt : Int)) (h : x = y) (kf : WW Y d mc ms R kc ks (pc + 3) lv sk n im rm) : WW Y d mc ms R kc ks pc lv (.int y :: .int x :: sk) n im rm := r_icmp_ne hd ht (fun q => absurd h q) (fun _ => kf)
theorem r_if_lt_t {x : Int32} {off : Int} {tgt : Nat} (hd : decode Y.2.1 pc = .ok (.ifCond .lt off, 3)) (ht : (pc : Int) + off = (tgt : Int)) (h : x < 0) (kt : WW Y d mc ms R kc ks tgt lv sk n im rm) : WW Y d mc ms R kc ks pc lv (.int x :: sk) n im rm := r_if_lt hd ht (fun _ => kt) (fun q => absurd h q)
theorem r_if_lt_f {x : Int32} {off : Int} {tgt : Nat} (hd : decode Y.2.1 pc = .ok (.ifCond .lt off, 3)) (ht : (pc : Int) + off = (tgt : Int)) (h : ¬ x < 0) (kf : WW Y d mc ms R kc ks (pc + 3) lv sk n im rm) : WW Y d mc ms R kc ks pc lv (.int x :: sk) n im rm := r_if_lt hd ht (fun q => absurd q h) (fun _ => kf)
theorem r_icmp_lt_t {x y : Int32} {off : Int} {tgt : Nat} (hd : decode Y.2.1 pc = .ok (.if_icmp .lt off, 3)) (ht : (pc : Int) + off = (tgt : Int)) (h : x < y) (kt : WW Y d mc ms R kc ks tgt lv sk n im rm) : WW Y d mc ms R kc ks pc lv (.int y :: .int x :: sk) n im rm := r_icmp_lt hd ht (fun _ => kt) (fun q => absurd h q)
theorem r_icmp_lt_f {x y : Int32} {off : Int} {tgt : Nat} (hd : decode Y.2.1 pc = .ok (.if_icmp .lt off, 3)) (ht : (pc : Int) + off = (tgt : Int)) (h : ¬ x < y) (kf : WW Y d mc ms R kc ks (pc + 3) lv sk n im rm) : WW Y d mc ms R kc ks pc lv (.int y :: .int x :: sk) n im rm := r_icmp_lt hd ht (fun q => absurd q h) (fun _ => kf)
theorem r_if_ge_t {x : Int32} {off : Int} {tgt : Nat} (hd : decode Y.2.1 pc = .ok (.ifCond .ge off, 3)) (ht : (pc : Int) + off = (tgt : Int)) (h : 0 ≤ x) (kt : WW Y d mc ms R kc ks tgt lv sk n im rm) : WW Y d mc ms R kc ks pc lv (.int x :: sk) n im rm := r_if_ge hd ht (fun _ => kt) (fun q => absurd h q)
theorem r_if_ge_f {x : Int32} {off : Int} {tgt : Nat} (hd : decode Y.2.1 pc = .ok (.ifCond .ge off, 3)) (ht : (pc : Int) + off = (tgt : Int)) (h : ¬ 0 ≤ x) (kf : WW Y d mc ms R kc ks (pc + 3) lv sk n im rm) : WW Y d mc ms R kc ks pc lv (.int x :: sk) n im rm := r_if_ge hd ht (fun q => absurd q h) (fun _ => kf)
theorem r_icmp_ge_t {x y : Int32} {off : Int} {tgt : Nat} (hd : decode Y.2.1 pc = .ok (.if_icmp .ge off, 3)) (ht : (pc : Int) + off = (tgt : Int)) (h : y ≤ x) (kt : WW Y d mc ms R kc ks tgt lv sk n im rm) : WW Y d mc ms R kc ks pc lv (.int y :: .int x :: sk) n im rm := r_icmp_ge hd ht (fun _ => kt) (fun q => absurd h q)
theorem r_icmp_ge_f {x y : Int32} {off : Int} {tgt : Nat} (hd : decode Y.2.1 pc = .ok (.if_icmp .ge off, 3)) (ht : (pc : Int) + off = (tgt : Int)) (h : ¬ y ≤ x) (kf : WW Y d mc ms R kc ks (pc + 3) lv sk n im rm) : WW Y d mc ms R kc ks pc lv (.int y :: .int x :: sk) n im rm := r_icmp_ge hd ht (fun q => absurd q h) (fun _ => kf)
theorem r_if_gt_t {x : Int32} {off : Int} {tgt : Nat} (hd : decode Y.2.1 pc = .ok (.ifCond .gt off, 3)) (ht : (pc : Int) + off = (tgt : Int)) (h : 0 < x) (kt : WW Y d mc ms R kc ks tgt lv sk n im rm) : WW Y d mc ms R kc ks pc lv (.int x :: sk) n im rm := r_if_gt hd ht (fun _ => kt) (fun q => absurd h q)
theorem r_if_gt_f {x : Int32} {off : Int} {tgt : Nat} (hd : decode Y.2.1 pc = .ok (.ifCond .gt off, 3)) (ht : (pc : Int) + off = (tgt : Int)) (h : ¬ 0 < x) (kf : WW Y d mc ms R kc ks (pc + 3) lv sk n im rm) : WW Y d mc ms R kc ks pc lv (.int x :: sk) n im rm := r_if_gt hd ht (fun q => absurd q h) (fun _ => kf)
theorem r_icmp_gt_t {x y : Int32} {off : Int} {tgt : Nat} (hd : decode Y.2.1 pc = .ok (.if_icmp .gt off, 3)) (ht : (pc : Int) + off = (tgt : Int)) (h : y < x) (kt : WW Y d mc ms R kc ks tgt lv sk n im rm) : WW Y d mc ms R kc ks pc lv (.int y :: .int x :: sk) n im rm := r_icmp_gt hd ht (fun _ => kt) (fun q => absurd h q)
theorem r_icmp_gt_f {x y : Int32} {off : Int} {tgt : Nat} (hd : decode Y.2.1 pc = .ok (.if_icmp .gt off, 3)) (ht : (pc : Int) + off = (tgt : Int)) (h : ¬ y < x) (kf : WW Y d mc ms R kc ks (pc + 3) lv sk n im rm) : WW Y d mc ms R kc ks pc lv (.int y :: .int x :: sk) n im rm := r_icmp_gt hd ht (fun q => absurd q h) (fun _ => kf)
theorem r_if_le_t {x : Int32} {off : Int} {tgt : Nat} (hd : decode Y.2.1 pc = .ok (.ifCond .le off, 3)) (ht : (pc : Int) + off = (tgt : Int)) (h : x ≤ 0) (kt : WW Y d mc ms R kc ks tgt lv sk n im rm) : WW Y d mc ms R kc ks pc lv (.int x :: sk) n im rm := r_if_le hd ht (fun _ => kt) (fun q => absurd h q)
theorem r_if_le_f {x : Int32} {off : Int} {tgt : Nat} (hd : decode Y.2.1 pc = .ok (.ifCond .le off, 3)) (ht : (pc : Int) + off = (tgt : Int)) (h : ¬ x ≤ 0) (kf : WW Y d mc ms R kc ks (pc + 3) lv sk n im rm) : WW Y d mc ms R kc ks pc lv (.int x :: sk) n im rm := r_if_le hd ht (fun q => absurd q h) (fun _ => kf)
theorem r_icmp_le_t {x y : Int32} {off : Int} {tgt : Nat} (hd : decode Y.2.1 pc = .ok (.if_icmp .le off, 3)) (ht : (pc : Int) + off = (tgt : Int)) (h : x ≤ y) (kt : WW Y d mc ms R kc ks tgt lv sk n im rm) : WW Y d mc ms R kc ks pc lv (.int y :: .int x :: sk) n im rm := r_icmp_le hd ht (fun _ => kt) (fun q => absurd h q)
theorem r_icmp_le_f {x y : Int32} {off : Int} {tgt : Nat} (hd : decode Y.2.1 pc = .ok (.if_icmp .le off, 3)) (ht : (pc : Int) + off = (tgt : Int)) (h : ¬ x ≤ y) (kf : WW Y d mc ms R kc ks (pc + 3) lv sk n im rm) : WW Y d mc ms R kc ks pc lv (.int y :: .int x :: sk) n im rm := r_icmp_le hd ht (fun q => absurd q h) (fun _ => kf)
theorem r_pi {k ci j idx : Nat} {x : Int32} (hF : FL Y.1.cls idx ci j .int false) (hd : decode Y.2.1 pc = .ok (.putfield idx, 3)) (hk : kd k = (0, ci)) (hn : k < n) (hi : rft ci j = false)
    (kk : WW Y d mc ms R kc ks (pc + 3) lv sk n (st im k j x) rm) : WW Y d mc ms R kc ks pc lv (.int x :: .ref k :: sk) n im rm := r_puti hF hd hk hn hi kk
theorem r_pz {k ci j idx : Nat} {x : Int32} (hF : FL Y.1.cls idx ci j .boolean false) (hd : decode Y.2.1 pc = .ok (.putfield idx, 3)) (hk : kd k = (0, ci)) (hn : k < n) (hi : rft ci j = false) (hx : narrow .boolean (.int x) = .int x ∧ fits .boolean (.int x) = true)
    (kk : WW Y d mc ms R kc ks (pc + 3) lv sk n (st im k j x) rm) : WW Y d mc ms R kc ks pc lv (.int x :: .ref k :: sk) n im rm := r_putz hF hd hk hn hi hx kk
theorem r_as {k len j : Nat} {i x : Int32} (hd : decode Y.2.1 pc = .ok (.iastore, 1)) (hk : kd k = (1, len)) (hn : k < n) (hi : i = nI j) (hj : j < len) (hlen : len < 2147483648)
    (kk : WW Y d mc ms R kc ks (pc + 1) lv sk n (st im k j x) rm) : WW Y d mc ms R kc ks pc lv (.int x :: .int i :: .ref k :: sk) n im rm := r_iast hd hk hn hi hj hlen kk
theorem r_zs {k len j : Nat} {i x : Int32} (hd : decode Y.2.1 pc = .ok (.bastore, 1)) (hk : kd k = (2, len)) (hn : k < n) (hi : i = nI j) (hj : j < len) (hlen : len < 2147483648) (hx : narrow .boolean (.int x) = .int x)
    (kk : WW Y d mc ms R kc ks (pc + 1) lv sk n (st im k j x) rm) : WW Y d mc ms R kc ks pc lv (.int x :: .int i :: .ref k :: sk) n im rm := r_zast hd hk hn hi hj hlen hx kk
end ARITY
theorem sw_split {x : Int32} {lo n : Nat} (h : lo + n < 2147483648) (h0 : 0 < n) : (x.toInt < (lo : Int) ∨ ((lo + n - 1 : Nat) : Int) < x.toInt) ∨ ∃ j : Nat, j < n ∧ x = nI (lo + j) := by
  by_cases h1 : x.toInt < (lo : Int)
  · exact Or.inl (Or.inl h1)
  · by_cases h2 : ((lo + n - 1 : Nat) : Int) < x.toInt
    · exact Or.inl (Or.inr h2)
    · refine Or.inr ⟨x.toInt.toNat - lo, by omega, ?_⟩
      have h3 : lo + (x.toInt.toNat - lo) = x.toInt.toNat := by omega
      rw [h3]
      have h4 : x.toInt.toNat < 2 ^ 31 := by omega
      apply Int32.toInt_inj.mp
      rw [nI_toInt h4]
      omega
theorem sw_out {x : Int32} {lo n : Nat} {a b : Int} (h : x.toInt < (lo : Int) ∨ ((lo + n - 1 : Nat) : Int) < x.toInt) (ha : (lo : Int) = a := by rfl) (hb : ((lo + n - 1 : Nat) : Int) = b := by rfl) : x.toInt < a ∨ b < x.toInt := by rw [← ha, ← hb]; exact h
theorem sw_a {x : Int32} {c : Nat} {a : Int} (h : x = nI c) (hc : c < 2147483648) (ha : a ≤ (c : Int)) : ¬ x.toInt < a := by rw [h, nI_toInt hc]; omega
theorem sw_b {x : Int32} {c : Nat} {a : Int} (h : x = nI c) (hc : c < 2147483648) (ha : (c : Int) ≤ a) : ¬ a < x.toInt := by rw [h, nI_toInt hc]; omega
theorem sw_c {x : Int32} {c : Nat} {lo : Int} {offs : Array Int} {off : Int} (h : x = nI c) (hc : c < 2147483648) (ho : offs[((c : Int) - lo).toNat]? = some off) : offs[(x.toInt - lo).toNat]? = some off := by rw [h, nI_toInt hc]; exact ho
