theorem dX9_init_0 : decode cX9_init 0 = .ok (.aload_n 0, 1) := by decide +kernel
theorem dX9_init_1 : decode cX9_init 1 = .ok (.invokespecial 1, 3) := by decide +kernel
theorem dX9_init_4 : decode cX9_init 4 = .ok (.aload_n 0, 1) := by decide +kernel
theorem dX9_init_5 : decode cX9_init 5 = .ok (.sipush 240, 3) := by decide +kernel
theorem dX9_init_8 : decode cX9_init 8 = .ok (.newarray .int, 2) := by decide +kernel
theorem dX9_init_10 : decode cX9_init 10 = .ok (.putfield 7, 3) := by decide +kernel
theorem dX9_init_13 : decode cX9_init 13 = .ok (.aload_n 0, 1) := by decide +kernel
theorem dX9_init_14 : decode cX9_init 14 = .ok (.iconst (-1), 1) := by decide +kernel
theorem dX9_init_15 : decode cX9_init 15 = .ok (.putfield 13, 3) := by decide +kernel
theorem dX9_init_18 : decode cX9_init 18 = .ok (.aload_n 0, 1) := by decide +kernel
theorem dX9_init_19 : decode cX9_init 19 = .ok (.iconst 5, 1) := by decide +kernel
theorem dX9_init_20 : decode cX9_init 20 = .ok (.newarray .int, 2) := by decide +kernel
theorem dX9_init_22 : decode cX9_init 22 = .ok (.putfield 17, 3) := by decide +kernel
theorem dX9_init_25 : decode cX9_init 25 = .ok (.aload_n 0, 1) := by decide +kernel
theorem dX9_init_26 : decode cX9_init 26 = .ok (.bipush 8, 2) := by decide +kernel
theorem dX9_init_28 : decode cX9_init 28 = .ok (.newarray .int, 2) := by decide +kernel
theorem dX9_init_30 : decode cX9_init 30 = .ok (.putfield 20, 3) := by decide +kernel
theorem dX9_init_33 : decode cX9_init 33 = .ok (.aload_n 0, 1) := by decide +kernel
theorem dX9_init_34 : decode cX9_init 34 = .ok (.bipush 18, 2) := by decide +kernel
theorem dX9_init_36 : decode cX9_init 36 = .ok (.newarray .int, 2) := by decide +kernel
theorem dX9_init_38 : decode cX9_init 38 = .ok (.putfield 23, 3) := by decide +kernel
theorem dX9_init_41 : decode cX9_init 41 = .ok (.aload_n 0, 1) := by decide +kernel
theorem dX9_init_42 : decode cX9_init 42 = .ok (.bipush 10, 2) := by decide +kernel
theorem dX9_init_44 : decode cX9_init 44 = .ok (.newarray .int, 2) := by decide +kernel
theorem dX9_init_46 : decode cX9_init 46 = .ok (.putfield 26, 3) := by decide +kernel
theorem dX9_init_49 : decode cX9_init 49 = .ok (.aload_n 0, 1) := by decide +kernel
theorem dX9_init_50 : decode cX9_init 50 = .ok (.iconst 5, 1) := by decide +kernel
theorem dX9_init_51 : decode cX9_init 51 = .ok (.newarray .int, 2) := by decide +kernel
theorem dX9_init_53 : decode cX9_init 53 = .ok (.putfield 29, 3) := by decide +kernel
theorem dX9_init_56 : decode cX9_init 56 = .ok (.aload_n 0, 1) := by decide +kernel
theorem dX9_init_57 : decode cX9_init 57 = .ok (.bipush 8, 2) := by decide +kernel
theorem dX9_init_59 : decode cX9_init 59 = .ok (.newarray .int, 2) := by decide +kernel
theorem dX9_init_61 : decode cX9_init 61 = .ok (.putfield 32, 3) := by decide +kernel
theorem dX9_init_64 : decode cX9_init 64 = .ok (.aload_n 0, 1) := by decide +kernel
theorem dX9_init_65 : decode cX9_init 65 = .ok (.bipush 18, 2) := by decide +kernel
theorem dX9_init_67 : decode cX9_init 67 = .ok (.newarray .int, 2) := by decide +kernel
theorem dX9_init_69 : decode cX9_init 69 = .ok (.putfield 35, 3) := by decide +kernel
theorem dX9_init_72 : decode cX9_init 72 = .ok (.aload_n 0, 1) := by decide +kernel
theorem dX9_init_73 : decode cX9_init 73 = .ok (.bipush 10, 2) := by decide +kernel
theorem dX9_init_75 : decode cX9_init 75 = .ok (.newarray .int, 2) := by decide +kernel
theorem dX9_init_77 : decode cX9_init 77 = .ok (.putfield 38, 3) := by decide +kernel
theorem dX9_init_80 : decode cX9_init 80 = .ok (.aload_n 0, 1) := by decide +kernel
theorem dX9_init_81 : decode cX9_init 81 = .ok (.bipush 21, 2) := by decide +kernel
theorem dX9_init_83 : decode cX9_init 83 = .ok (.newarray .int, 2) := by decide +kernel
theorem dX9_init_85 : decode cX9_init 85 = .ok (.putfield 41, 3) := by decide +kernel
theorem dX9_init_88 : decode cX9_init 88 = .ok (.aload_n 0, 1) := by decide +kernel
theorem dX9_init_89 : decode cX9_init 89 = .ok (.sipush 420, 3) := by decide +kernel
theorem dX9_init_92 : decode cX9_init 92 = .ok (.newarray .int, 2) := by decide +kernel
theorem dX9_init_94 : decode cX9_init 94 = .ok (.putfield 44, 3) := by decide +kernel
theorem dX9_init_97 : decode cX9_init 97 = .ok (.aload_n 0, 1) := by decide +kernel
theorem dX9_init_98 : decode cX9_init 98 = .ok (.bipush 42, 2) := by decide +kernel
theorem dX9_init_100 : decode cX9_init 100 = .ok (.newarray .int, 2) := by decide +kernel
theorem dX9_init_102 : decode cX9_init 102 = .ok (.putfield 47, 3) := by decide +kernel
theorem dX9_init_105 : decode cX9_init 105 = .ok (.aload_n 0, 1) := by decide +kernel
theorem dX9_init_106 : decode cX9_init 106 = .ok (.iconst 2, 1) := by decide +kernel
theorem dX9_init_107 : decode cX9_init 107 = .ok (.newarray .int, 2) := by decide +kernel
theorem dX9_init_109 : decode cX9_init 109 = .ok (.putfield 50, 3) := by decide +kernel
theorem dX9_init_112 : decode cX9_init 112 = .ok (.aload_n 0, 1) := by decide +kernel
theorem dX9_init_113 : decode cX9_init 113 = .ok (.iconst 2, 1) := by decide +kernel
theorem dX9_init_114 : decode cX9_init 114 = .ok (.newarray .boolean, 2) := by decide +kernel
theorem dX9_init_116 : decode cX9_init 116 = .ok (.putfield 53, 3) := by decide +kernel
theorem dX9_init_119 : decode cX9_init 119 = .ok (.aload_n 0, 1) := by decide +kernel
theorem dX9_init_120 : decode cX9_init 120 = .ok (.bipush 12, 2) := by decide +kernel
theorem dX9_init_122 : decode cX9_init 122 = .ok (.newarray .int, 2) := by decide +kernel
theorem dX9_init_124 : decode cX9_init 124 = .ok (.putfield 57, 3) := by decide +kernel
theorem dX9_init_127 : decode cX9_init 127 = .ok (.aload_n 0, 1) := by decide +kernel
theorem dX9_init_128 : decode cX9_init 128 = .ok (.bipush 15, 2) := by decide +kernel
theorem dX9_init_130 : decode cX9_init 130 = .ok (.newarray .int, 2) := by decide +kernel
theorem dX9_init_132 : decode cX9_init 132 = .ok (.putfield 60, 3) := by decide +kernel
theorem dX9_init_135 : decode cX9_init 135 = .ok (.return_, 1) := by decide +kernel
theorem dX9_in_0 : decode cX9_in 0 = .ok (.iload_n 0, 1) := by decide +kernel
theorem dX9_in_1 : decode cX9_in 1 = .ok (.iload_n 1, 1) := by decide +kernel
theorem dX9_in_2 : decode cX9_in 2 = .ok (.if_icmp .lt 12, 3) := by decide +kernel
theorem dX9_in_5 : decode cX9_in 5 = .ok (.iload_n 0, 1) := by decide +kernel
theorem dX9_in_6 : decode cX9_in 6 = .ok (.iload_n 2, 1) := by decide +kernel
theorem dX9_in_7 : decode cX9_in 7 = .ok (.if_icmp .gt 7, 3) := by decide +kernel
theorem dX9_in_10 : decode cX9_in 10 = .ok (.iconst 1, 1) := by decide +kernel
theorem dX9_in_11 : decode cX9_in 11 = .ok (.goto 4, 3) := by decide +kernel
theorem dX9_in_14 : decode cX9_in 14 = .ok (.iconst 0, 1) := by decide +kernel
theorem dX9_in_15 : decode cX9_in 15 = .ok (.ireturn, 1) := by decide +kernel
theorem dX9_has_0 : decode cX9_has 0 = .ok (.iload_n 0, 1) := by decide +kernel
theorem dX9_has_1 : decode cX9_has 1 = .ok (.iload_n 1, 1) := by decide +kernel
theorem dX9_has_2 : decode cX9_has 2 = .ok (.ishr, 1) := by decide +kernel
theorem dX9_has_3 : decode cX9_has 3 = .ok (.iconst 1, 1) := by decide +kernel
theorem dX9_has_4 : decode cX9_has 4 = .ok (.iand, 1) := by decide +kernel
theorem dX9_has_5 : decode cX9_has 5 = .ok (.iconst 1, 1) := by decide +kernel
theorem dX9_has_6 : decode cX9_has 6 = .ok (.if_icmp .ne 7, 3) := by decide +kernel
theorem dX9_has_9 : decode cX9_has 9 = .ok (.iconst 1, 1) := by decide +kernel
theorem dX9_has_10 : decode cX9_has 10 = .ok (.goto 4, 3) := by decide +kernel
theorem dX9_has_13 : decode cX9_has 13 = .ok (.iconst 0, 1) := by decide +kernel
theorem dX9_has_14 : decode cX9_has 14 = .ok (.ireturn, 1) := by decide +kernel
theorem dX9_ones_0 : decode cX9_ones 0 = .ok (.iconst 0, 1) := by decide +kernel
theorem dX9_ones_1 : decode cX9_ones 1 = .ok (.istore_n 1, 1) := by decide +kernel
theorem dX9_ones_2 : decode cX9_ones 2 = .ok (.iconst 0, 1) := by decide +kernel
theorem dX9_ones_3 : decode cX9_ones 3 = .ok (.istore_n 2, 1) := by decide +kernel
theorem dX9_ones_4 : decode cX9_ones 4 = .ok (.iload_n 2, 1) := by decide +kernel
theorem dX9_ones_5 : decode cX9_ones 5 = .ok (.bipush 30, 2) := by decide +kernel
theorem dX9_ones_7 : decode cX9_ones 7 = .ok (.if_icmp .ge 17, 3) := by decide +kernel
theorem dX9_ones_10 : decode cX9_ones 10 = .ok (.iload_n 1, 1) := by decide +kernel
theorem dX9_ones_11 : decode cX9_ones 11 = .ok (.iload_n 0, 1) := by decide +kernel
theorem dX9_ones_12 : decode cX9_ones 12 = .ok (.iload_n 2, 1) := by decide +kernel
theorem dX9_ones_13 : decode cX9_ones 13 = .ok (.ishr, 1) := by decide +kernel
theorem dX9_ones_14 : decode cX9_ones 14 = .ok (.iconst 1, 1) := by decide +kernel
theorem dX9_ones_15 : decode cX9_ones 15 = .ok (.iand, 1) := by decide +kernel
theorem dX9_ones_16 : decode cX9_ones 16 = .ok (.iadd, 1) := by decide +kernel
theorem dX9_ones_17 : decode cX9_ones 17 = .ok (.istore_n 1, 1) := by decide +kernel
theorem dX9_ones_18 : decode cX9_ones 18 = .ok (.iinc 2 1, 3) := by decide +kernel
theorem dX9_ones_21 : decode cX9_ones 21 = .ok (.goto (-17), 3) := by decide +kernel
theorem dX9_ones_24 : decode cX9_ones 24 = .ok (.iload_n 1, 1) := by decide +kernel
theorem dX9_ones_25 : decode cX9_ones 25 = .ok (.ireturn, 1) := by decide +kernel
theorem dX9_feed_0 : decode cX9_feed 0 = .ok (.iload_n 1, 1) := by decide +kernel
theorem dX9_feed_1 : decode cX9_feed 1 = .ok (.iconst 0, 1) := by decide +kernel
theorem dX9_feed_2 : decode cX9_feed 2 = .ok (.sipush 255, 3) := by decide +kernel
theorem dX9_feed_5 : decode cX9_feed 5 = .ok (.invokestatic 63, 3) := by decide +kernel
theorem dX9_feed_8 : decode cX9_feed 8 = .ok (.ifCond .ne 6, 3) := by decide +kernel
theorem dX9_feed_11 : decode cX9_feed 11 = .ok (.ldc 67, 2) := by decide +kernel
theorem dX9_feed_13 : decode cX9_feed 13 = .ok (.ireturn, 1) := by decide +kernel
theorem dX9_feed_14 : decode cX9_feed 14 = .ok (.aload_n 0, 1) := by decide +kernel
theorem dX9_feed_15 : decode cX9_feed 15 = .ok (.getfield 68, 3) := by decide +kernel
theorem dX9_feed_18 : decode cX9_feed 18 = .ok (.sipush 240, 3) := by decide +kernel
theorem dX9_feed_21 : decode cX9_feed 21 = .ok (.if_icmp .ne 6, 3) := by decide +kernel
theorem dX9_feed_24 : decode cX9_feed 24 = .ok (.ldc 71, 2) := by decide +kernel
theorem dX9_feed_26 : decode cX9_feed 26 = .ok (.ireturn, 1) := by decide +kernel
theorem dX9_feed_27 : decode cX9_feed 27 = .ok (.aload_n 0, 1) := by decide +kernel
theorem dX9_feed_28 : decode cX9_feed 28 = .ok (.getfield 7, 3) := by decide +kernel
theorem dX9_feed_31 : decode cX9_feed 31 = .ok (.aload_n 0, 1) := by decide +kernel
theorem dX9_feed_32 : decode cX9_feed 32 = .ok (.getfield 68, 3) := by decide +kernel
theorem dX9_feed_35 : decode cX9_feed 35 = .ok (.iload_n 1, 1) := by decide +kernel
theorem dX9_feed_36 : decode cX9_feed 36 = .ok (.iastore, 1) := by decide +kernel
theorem dX9_feed_37 : decode cX9_feed 37 = .ok (.aload_n 0, 1) := by decide +kernel
theorem dX9_feed_38 : decode cX9_feed 38 = .ok (.dup, 1) := by decide +kernel
theorem dX9_feed_39 : decode cX9_feed 39 = .ok (.getfield 68, 3) := by decide +kernel
theorem dX9_feed_42 : decode cX9_feed 42 = .ok (.iconst 1, 1) := by decide +kernel
theorem dX9_feed_43 : decode cX9_feed 43 = .ok (.iadd, 1) := by decide +kernel
theorem dX9_feed_44 : decode cX9_feed 44 = .ok (.putfield 68, 3) := by decide +kernel
theorem dX9_feed_47 : decode cX9_feed 47 = .ok (.aload_n 0, 1) := by decide +kernel
theorem dX9_feed_48 : decode cX9_feed 48 = .ok (.getfield 68, 3) := by decide +kernel
theorem dX9_feed_51 : decode cX9_feed 51 = .ok (.ireturn, 1) := by decide +kernel
theorem dX9_look_0 : decode cX9_look 0 = .ok (.aload_n 0, 1) := by decide +kernel
theorem dX9_look_1 : decode cX9_look 1 = .ok (.getfield 72, 3) := by decide +kernel
theorem dX9_look_4 : decode cX9_look 4 = .ok (.aload_n 0, 1) := by decide +kernel
theorem dX9_look_5 : decode cX9_look 5 = .ok (.getfield 68, 3) := by decide +kernel
theorem dX9_look_8 : decode cX9_look 8 = .ok (.if_icmp .ge 15, 3) := by decide +kernel
theorem dX9_look_11 : decode cX9_look 11 = .ok (.aload_n 0, 1) := by decide +kernel
theorem dX9_look_12 : decode cX9_look 12 = .ok (.getfield 7, 3) := by decide +kernel
theorem dX9_look_15 : decode cX9_look 15 = .ok (.aload_n 0, 1) := by decide +kernel
theorem dX9_look_16 : decode cX9_look 16 = .ok (.getfield 72, 3) := by decide +kernel
theorem dX9_look_19 : decode cX9_look 19 = .ok (.iaload, 1) := by decide +kernel
theorem dX9_look_20 : decode cX9_look 20 = .ok (.goto 4, 3) := by decide +kernel
theorem dX9_look_23 : decode cX9_look 23 = .ok (.iconst (-1), 1) := by decide +kernel
theorem dX9_look_24 : decode cX9_look 24 = .ok (.ireturn, 1) := by decide +kernel
theorem dX9_skips_0 : decode cX9_skips 0 = .ok (.aload_n 0, 1) := by decide +kernel
theorem dX9_skips_1 : decode cX9_skips 1 = .ok (.getfield 75, 3) := by decide +kernel
theorem dX9_skips_4 : decode cX9_skips 4 = .ok (.ifCond .ne 25, 3) := by decide +kernel
theorem dX9_skips_7 : decode cX9_skips 7 = .ok (.aload_n 0, 1) := by decide +kernel
theorem dX9_skips_8 : decode cX9_skips 8 = .ok (.invokevirtual 78, 3) := by decide +kernel
theorem dX9_skips_11 : decode cX9_skips 11 = .ok (.bipush 32, 2) := by decide +kernel
theorem dX9_skips_13 : decode cX9_skips 13 = .ok (.if_icmp .ne 16, 3) := by decide +kernel
theorem dX9_skips_16 : decode cX9_skips 16 = .ok (.aload_n 0, 1) := by decide +kernel
theorem dX9_skips_17 : decode cX9_skips 17 = .ok (.dup, 1) := by decide +kernel
theorem dX9_skips_18 : decode cX9_skips 18 = .ok (.getfield 72, 3) := by decide +kernel
theorem dX9_skips_21 : decode cX9_skips 21 = .ok (.iconst 1, 1) := by decide +kernel
theorem dX9_skips_22 : decode cX9_skips 22 = .ok (.iadd, 1) := by decide +kernel
theorem dX9_skips_23 : decode cX9_skips 23 = .ok (.putfield 72, 3) := by decide +kernel
theorem dX9_skips_26 : decode cX9_skips 26 = .ok (.goto (-26), 3) := by decide +kernel
theorem dX9_skips_29 : decode cX9_skips 29 = .ok (.return_, 1) := by decide +kernel
theorem dX9_fails_0 : decode cX9_fails 0 = .ok (.aload_n 0, 1) := by decide +kernel
theorem dX9_fails_1 : decode cX9_fails 1 = .ok (.aload_n 0, 1) := by decide +kernel
theorem dX9_fails_2 : decode cX9_fails 2 = .ok (.getfield 75, 3) := by decide +kernel
theorem dX9_fails_5 : decode cX9_fails 5 = .ok (.ifCond .ne 7, 3) := by decide +kernel
theorem dX9_fails_8 : decode cX9_fails 8 = .ok (.iload_n 1, 1) := by decide +kernel
theorem dX9_fails_9 : decode cX9_fails 9 = .ok (.goto 7, 3) := by decide +kernel
theorem dX9_fails_12 : decode cX9_fails 12 = .ok (.aload_n 0, 1) := by decide +kernel
theorem dX9_fails_13 : decode cX9_fails 13 = .ok (.getfield 75, 3) := by decide +kernel
theorem dX9_fails_16 : decode cX9_fails 16 = .ok (.putfield 75, 3) := by decide +kernel
theorem dX9_fails_19 : decode cX9_fails 19 = .ok (.return_, 1) := by decide +kernel
theorem dX9_word_0 : decode cX9_word 0 = .ok (.aload_n 0, 1) := by decide +kernel
theorem dX9_word_1 : decode cX9_word 1 = .ok (.invokevirtual 82, 3) := by decide +kernel
theorem dX9_word_4 : decode cX9_word 4 = .ok (.aload_n 0, 1) := by decide +kernel
theorem dX9_word_5 : decode cX9_word 5 = .ok (.getfield 75, 3) := by decide +kernel
theorem dX9_word_8 : decode cX9_word 8 = .ok (.ifCond .ne 29, 3) := by decide +kernel
theorem dX9_word_11 : decode cX9_word 11 = .ok (.aload_n 0, 1) := by decide +kernel
theorem dX9_word_12 : decode cX9_word 12 = .ok (.invokevirtual 78, 3) := by decide +kernel
theorem dX9_word_15 : decode cX9_word 15 = .ok (.iload_n 1, 1) := by decide +kernel
theorem dX9_word_16 : decode cX9_word 16 = .ok (.if_icmp .ne 16, 3) := by decide +kernel
theorem dX9_word_19 : decode cX9_word 19 = .ok (.aload_n 0, 1) := by decide +kernel
theorem dX9_word_20 : decode cX9_word 20 = .ok (.dup, 1) := by decide +kernel
theorem dX9_word_21 : decode cX9_word 21 = .ok (.getfield 72, 3) := by decide +kernel
theorem dX9_word_24 : decode cX9_word 24 = .ok (.iconst 1, 1) := by decide +kernel
theorem dX9_word_25 : decode cX9_word 25 = .ok (.iadd, 1) := by decide +kernel
theorem dX9_word_26 : decode cX9_word 26 = .ok (.putfield 72, 3) := by decide +kernel
theorem dX9_word_29 : decode cX9_word 29 = .ok (.goto 8, 3) := by decide +kernel
theorem dX9_word_32 : decode cX9_word 32 = .ok (.aload_n 0, 1) := by decide +kernel
theorem dX9_word_33 : decode cX9_word 33 = .ok (.iconst 1, 1) := by decide +kernel
theorem dX9_word_34 : decode cX9_word 34 = .ok (.invokevirtual 85, 3) := by decide +kernel
theorem dX9_word_37 : decode cX9_word 37 = .ok (.return_, 1) := by decide +kernel
theorem dX9_number_0 : decode cX9_number 0 = .ok (.aload_n 0, 1) := by decide +kernel
theorem dX9_number_1 : decode cX9_number 1 = .ok (.invokevirtual 82, 3) := by decide +kernel
theorem dX9_number_4 : decode cX9_number 4 = .ok (.aload_n 0, 1) := by decide +kernel
theorem dX9_number_5 : decode cX9_number 5 = .ok (.getfield 75, 3) := by decide +kernel
theorem dX9_number_8 : decode cX9_number 8 = .ok (.ifCond .eq 5, 3) := by decide +kernel
theorem dX9_number_11 : decode cX9_number 11 = .ok (.iconst 0, 1) := by decide +kernel
theorem dX9_number_12 : decode cX9_number 12 = .ok (.ireturn, 1) := by decide +kernel
theorem dX9_number_13 : decode cX9_number 13 = .ok (.aload_n 0, 1) := by decide +kernel
theorem dX9_number_14 : decode cX9_number 14 = .ok (.invokevirtual 78, 3) := by decide +kernel
theorem dX9_number_17 : decode cX9_number 17 = .ok (.bipush 48, 2) := by decide +kernel
theorem dX9_number_19 : decode cX9_number 19 = .ok (.bipush 57, 2) := by decide +kernel
theorem dX9_number_21 : decode cX9_number 21 = .ok (.invokestatic 63, 3) := by decide +kernel
theorem dX9_number_24 : decode cX9_number 24 = .ok (.ifCond .ne 10, 3) := by decide +kernel
theorem dX9_number_27 : decode cX9_number 27 = .ok (.aload_n 0, 1) := by decide +kernel
theorem dX9_number_28 : decode cX9_number 28 = .ok (.iconst 1, 1) := by decide +kernel
theorem dX9_number_29 : decode cX9_number 29 = .ok (.invokevirtual 85, 3) := by decide +kernel
theorem dX9_number_32 : decode cX9_number 32 = .ok (.iconst 0, 1) := by decide +kernel
theorem dX9_number_33 : decode cX9_number 33 = .ok (.ireturn, 1) := by decide +kernel
theorem dX9_number_34 : decode cX9_number 34 = .ok (.aload_n 0, 1) := by decide +kernel
theorem dX9_number_35 : decode cX9_number 35 = .ok (.getfield 72, 3) := by decide +kernel
theorem dX9_number_38 : decode cX9_number 38 = .ok (.istore_n 3, 1) := by decide +kernel
theorem dX9_number_39 : decode cX9_number 39 = .ok (.iconst 0, 1) := by decide +kernel
theorem dX9_number_40 : decode cX9_number 40 = .ok (.istore 4, 2) := by decide +kernel
theorem dX9_number_42 : decode cX9_number 42 = .ok (.aload_n 0, 1) := by decide +kernel
theorem dX9_number_43 : decode cX9_number 43 = .ok (.invokevirtual 78, 3) := by decide +kernel
theorem dX9_number_46 : decode cX9_number 46 = .ok (.bipush 48, 2) := by decide +kernel
theorem dX9_number_48 : decode cX9_number 48 = .ok (.bipush 57, 2) := by decide +kernel
theorem dX9_number_50 : decode cX9_number 50 = .ok (.invokestatic 63, 3) := by decide +kernel
theorem dX9_number_53 : decode cX9_number 53 = .ok (.ifCond .eq 46, 3) := by decide +kernel
theorem dX9_number_56 : decode cX9_number 56 = .ok (.aload_n 0, 1) := by decide +kernel
theorem dX9_number_57 : decode cX9_number 57 = .ok (.getfield 72, 3) := by decide +kernel
theorem dX9_number_60 : decode cX9_number 60 = .ok (.iload_n 3, 1) := by decide +kernel
theorem dX9_number_61 : decode cX9_number 61 = .ok (.isub, 1) := by decide +kernel
theorem dX9_number_62 : decode cX9_number 62 = .ok (.iconst 3, 1) := by decide +kernel
theorem dX9_number_63 : decode cX9_number 63 = .ok (.if_icmp .ge 19, 3) := by decide +kernel
theorem dX9_number_66 : decode cX9_number 66 = .ok (.bipush 10, 2) := by decide +kernel
theorem dX9_number_68 : decode cX9_number 68 = .ok (.iload 4, 2) := by decide +kernel
theorem dX9_number_70 : decode cX9_number 70 = .ok (.imul, 1) := by decide +kernel
theorem dX9_number_71 : decode cX9_number 71 = .ok (.aload_n 0, 1) := by decide +kernel
theorem dX9_number_72 : decode cX9_number 72 = .ok (.invokevirtual 78, 3) := by decide +kernel
theorem dX9_number_75 : decode cX9_number 75 = .ok (.iadd, 1) := by decide +kernel
theorem dX9_number_76 : decode cX9_number 76 = .ok (.bipush 48, 2) := by decide +kernel
theorem dX9_number_78 : decode cX9_number 78 = .ok (.isub, 1) := by decide +kernel
theorem dX9_number_79 : decode cX9_number 79 = .ok (.goto 5, 3) := by decide +kernel
theorem dX9_number_82 : decode cX9_number 82 = .ok (.iload 4, 2) := by decide +kernel
theorem dX9_number_84 : decode cX9_number 84 = .ok (.istore 4, 2) := by decide +kernel
theorem dX9_number_86 : decode cX9_number 86 = .ok (.aload_n 0, 1) := by decide +kernel
theorem dX9_number_87 : decode cX9_number 87 = .ok (.dup, 1) := by decide +kernel
theorem dX9_number_88 : decode cX9_number 88 = .ok (.getfield 72, 3) := by decide +kernel
theorem dX9_number_91 : decode cX9_number 91 = .ok (.iconst 1, 1) := by decide +kernel
theorem dX9_number_92 : decode cX9_number 92 = .ok (.iadd, 1) := by decide +kernel
theorem dX9_number_93 : decode cX9_number 93 = .ok (.putfield 72, 3) := by decide +kernel
theorem dX9_number_96 : decode cX9_number 96 = .ok (.goto (-54), 3) := by decide +kernel
theorem dX9_number_99 : decode cX9_number 99 = .ok (.aload_n 0, 1) := by decide +kernel
theorem dX9_number_100 : decode cX9_number 100 = .ok (.getfield 72, 3) := by decide +kernel
theorem dX9_number_103 : decode cX9_number 103 = .ok (.iload_n 3, 1) := by decide +kernel
theorem dX9_number_104 : decode cX9_number 104 = .ok (.isub, 1) := by decide +kernel
theorem dX9_number_105 : decode cX9_number 105 = .ok (.iconst 3, 1) := by decide +kernel
theorem dX9_number_106 : decode cX9_number 106 = .ok (.if_icmp .gt 13, 3) := by decide +kernel
theorem dX9_number_109 : decode cX9_number 109 = .ok (.iload 4, 2) := by decide +kernel
theorem dX9_number_111 : decode cX9_number 111 = .ok (.iload_n 1, 1) := by decide +kernel
theorem dX9_number_112 : decode cX9_number 112 = .ok (.iload_n 2, 1) := by decide +kernel
theorem dX9_number_113 : decode cX9_number 113 = .ok (.invokestatic 63, 3) := by decide +kernel
theorem dX9_number_116 : decode cX9_number 116 = .ok (.ifCond .ne 13, 3) := by decide +kernel
theorem dX9_number_119 : decode cX9_number 119 = .ok (.aload_n 0, 1) := by decide +kernel
theorem dX9_number_120 : decode cX9_number 120 = .ok (.iload_n 3, 1) := by decide +kernel
theorem dX9_number_121 : decode cX9_number 121 = .ok (.putfield 72, 3) := by decide +kernel
theorem dX9_number_124 : decode cX9_number 124 = .ok (.aload_n 0, 1) := by decide +kernel
theorem dX9_number_125 : decode cX9_number 125 = .ok (.iconst 2, 1) := by decide +kernel
theorem dX9_number_126 : decode cX9_number 126 = .ok (.invokevirtual 85, 3) := by decide +kernel
theorem dX9_number_129 : decode cX9_number 129 = .ok (.iload 4, 2) := by decide +kernel
theorem dX9_number_131 : decode cX9_number 131 = .ok (.ireturn, 1) := by decide +kernel
theorem dX9_opens_0 : decode cX9_opens 0 = .ok (.iload_n 1, 1) := by decide +kernel
theorem dX9_opens_1 : decode cX9_opens 1 = .ok (.ifCond .eq 8, 3) := by decide +kernel
theorem dX9_opens_4 : decode cX9_opens 4 = .ok (.aload_n 0, 1) := by decide +kernel
theorem dX9_opens_5 : decode cX9_opens 5 = .ok (.iconst 3, 1) := by decide +kernel
theorem dX9_opens_6 : decode cX9_opens 6 = .ok (.invokevirtual 85, 3) := by decide +kernel
theorem dX9_opens_9 : decode cX9_opens 9 = .ok (.aload_n 0, 1) := by decide +kernel
theorem dX9_opens_10 : decode cX9_opens 10 = .ok (.dup, 1) := by decide +kernel
theorem dX9_opens_11 : decode cX9_opens 11 = .ok (.getfield 72, 3) := by decide +kernel
theorem dX9_opens_14 : decode cX9_opens 14 = .ok (.iload_n 1, 1) := by decide +kernel
theorem dX9_opens_15 : decode cX9_opens 15 = .ok (.ifCond .eq 7, 3) := by decide +kernel
theorem dX9_opens_18 : decode cX9_opens 18 = .ok (.iconst 0, 1) := by decide +kernel
theorem dX9_opens_19 : decode cX9_opens 19 = .ok (.goto 4, 3) := by decide +kernel
theorem dX9_opens_22 : decode cX9_opens 22 = .ok (.iconst 1, 1) := by decide +kernel
theorem dX9_opens_23 : decode cX9_opens 23 = .ok (.iadd, 1) := by decide +kernel
theorem dX9_opens_24 : decode cX9_opens 24 = .ok (.putfield 72, 3) := by decide +kernel
theorem dX9_opens_27 : decode cX9_opens 27 = .ok (.iload_n 1, 1) := by decide +kernel
theorem dX9_opens_28 : decode cX9_opens 28 = .ok (.ifCond .ne 7, 3) := by decide +kernel
theorem dX9_opens_31 : decode cX9_opens 31 = .ok (.iconst 1, 1) := by decide +kernel
theorem dX9_opens_32 : decode cX9_opens 32 = .ok (.goto 4, 3) := by decide +kernel
theorem dX9_opens_35 : decode cX9_opens 35 = .ok (.iconst 0, 1) := by decide +kernel
theorem dX9_opens_36 : decode cX9_opens 36 = .ok (.ireturn, 1) := by decide +kernel
theorem dX9_readsWays_0 : decode cX9_readsWays 0 = .ok (.aload_n 0, 1) := by decide +kernel
theorem dX9_readsWays_1 : decode cX9_readsWays 1 = .ok (.aload_n 0, 1) := by decide +kernel
theorem dX9_readsWays_2 : decode cX9_readsWays 2 = .ok (.getfield 29, 3) := by decide +kernel
theorem dX9_readsWays_5 : decode cX9_readsWays 5 = .ok (.iconst 0, 1) := by decide +kernel
theorem dX9_readsWays_6 : decode cX9_readsWays 6 = .ok (.iaload, 1) := by decide +kernel
theorem dX9_readsWays_7 : decode cX9_readsWays 7 = .ok (.ifCond .le 7, 3) := by decide +kernel
theorem dX9_readsWays_10 : decode cX9_readsWays 10 = .ok (.iconst 1, 1) := by decide +kernel
theorem dX9_readsWays_11 : decode cX9_readsWays 11 = .ok (.goto 4, 3) := by decide +kernel
theorem dX9_readsWays_14 : decode cX9_readsWays 14 = .ok (.iconst 0, 1) := by decide +kernel
theorem dX9_readsWays_15 : decode cX9_readsWays 15 = .ok (.invokevirtual 89, 3) := by decide +kernel
theorem dX9_readsWays_18 : decode cX9_readsWays 18 = .ok (.ifCond .eq 134, 3) := by decide +kernel
theorem dX9_readsWays_21 : decode cX9_readsWays 21 = .ok (.aload_n 0, 1) := by decide +kernel
theorem dX9_readsWays_22 : decode cX9_readsWays 22 = .ok (.getfield 32, 3) := by decide +kernel
theorem dX9_readsWays_25 : decode cX9_readsWays 25 = .ok (.iconst 0, 1) := by decide +kernel
theorem dX9_readsWays_26 : decode cX9_readsWays 26 = .ok (.aload_n 0, 1) := by decide +kernel
theorem dX9_readsWays_27 : decode cX9_readsWays 27 = .ok (.iconst 1, 1) := by decide +kernel
theorem dX9_readsWays_28 : decode cX9_readsWays 28 = .ok (.sipush 999, 3) := by decide +kernel
theorem dX9_readsWays_31 : decode cX9_readsWays 31 = .ok (.invokevirtual 93, 3) := by decide +kernel
theorem dX9_readsWays_34 : decode cX9_readsWays 34 = .ok (.iastore, 1) := by decide +kernel
theorem dX9_readsWays_35 : decode cX9_readsWays 35 = .ok (.aload_n 0, 1) := by decide +kernel
theorem dX9_readsWays_36 : decode cX9_readsWays 36 = .ok (.getfield 29, 3) := by decide +kernel
theorem dX9_readsWays_39 : decode cX9_readsWays 39 = .ok (.iconst 0, 1) := by decide +kernel
theorem dX9_readsWays_40 : decode cX9_readsWays 40 = .ok (.iconst 1, 1) := by decide +kernel
theorem dX9_readsWays_41 : decode cX9_readsWays 41 = .ok (.iastore, 1) := by decide +kernel
theorem dX9_readsWays_42 : decode cX9_readsWays 42 = .ok (.aload_n 0, 1) := by decide +kernel
theorem dX9_readsWays_43 : decode cX9_readsWays 43 = .ok (.invokevirtual 82, 3) := by decide +kernel
theorem dX9_readsWays_46 : decode cX9_readsWays 46 = .ok (.aload_n 0, 1) := by decide +kernel
theorem dX9_readsWays_47 : decode cX9_readsWays 47 = .ok (.getfield 75, 3) := by decide +kernel
theorem dX9_readsWays_50 : decode cX9_readsWays 50 = .ok (.ifCond .ne 96, 3) := by decide +kernel
theorem dX9_readsWays_53 : decode cX9_readsWays 53 = .ok (.aload_n 0, 1) := by decide +kernel
theorem dX9_readsWays_54 : decode cX9_readsWays 54 = .ok (.invokevirtual 78, 3) := by decide +kernel
theorem dX9_readsWays_57 : decode cX9_readsWays 57 = .ok (.bipush 44, 2) := by decide +kernel
theorem dX9_readsWays_59 : decode cX9_readsWays 59 = .ok (.if_icmp .eq 13, 3) := by decide +kernel
theorem dX9_readsWays_62 : decode cX9_readsWays 62 = .ok (.aload_n 0, 1) := by decide +kernel
theorem dX9_readsWays_63 : decode cX9_readsWays 63 = .ok (.getfield 29, 3) := by decide +kernel
theorem dX9_readsWays_66 : decode cX9_readsWays 66 = .ok (.iconst 0, 1) := by decide +kernel
theorem dX9_readsWays_67 : decode cX9_readsWays 67 = .ok (.iaload, 1) := by decide +kernel
theorem dX9_readsWays_68 : decode cX9_readsWays 68 = .ok (.iconst 1, 1) := by decide +kernel
theorem dX9_readsWays_69 : decode cX9_readsWays 69 = .ok (.if_icmp .ne 77, 3) := by decide +kernel
theorem dX9_readsWays_72 : decode cX9_readsWays 72 = .ok (.aload_n 0, 1) := by decide +kernel
theorem dX9_readsWays_73 : decode cX9_readsWays 73 = .ok (.invokevirtual 78, 3) := by decide +kernel
theorem dX9_readsWays_76 : decode cX9_readsWays 76 = .ok (.bipush 44, 2) := by decide +kernel
theorem dX9_readsWays_78 : decode cX9_readsWays 78 = .ok (.if_icmp .ne 14, 3) := by decide +kernel
theorem dX9_readsWays_81 : decode cX9_readsWays 81 = .ok (.aload_n 0, 1) := by decide +kernel
theorem dX9_readsWays_82 : decode cX9_readsWays 82 = .ok (.getfield 29, 3) := by decide +kernel
theorem dX9_readsWays_85 : decode cX9_readsWays 85 = .ok (.iconst 0, 1) := by decide +kernel
theorem dX9_readsWays_86 : decode cX9_readsWays 86 = .ok (.iaload, 1) := by decide +kernel
theorem dX9_readsWays_87 : decode cX9_readsWays 87 = .ok (.bipush 8, 2) := by decide +kernel
theorem dX9_readsWays_89 : decode cX9_readsWays 89 = .ok (.if_icmp .ne 11, 3) := by decide +kernel
theorem dX9_readsWays_92 : decode cX9_readsWays 92 = .ok (.aload_n 0, 1) := by decide +kernel
theorem dX9_readsWays_93 : decode cX9_readsWays 93 = .ok (.iconst 1, 1) := by decide +kernel
theorem dX9_readsWays_94 : decode cX9_readsWays 94 = .ok (.invokevirtual 85, 3) := by decide +kernel
theorem dX9_readsWays_97 : decode cX9_readsWays 97 = .ok (.goto 42, 3) := by decide +kernel
theorem dX9_readsWays_100 : decode cX9_readsWays 100 = .ok (.aload_n 0, 1) := by decide +kernel
theorem dX9_readsWays_101 : decode cX9_readsWays 101 = .ok (.dup, 1) := by decide +kernel
theorem dX9_readsWays_102 : decode cX9_readsWays 102 = .ok (.getfield 72, 3) := by decide +kernel
theorem dX9_readsWays_105 : decode cX9_readsWays 105 = .ok (.iconst 1, 1) := by decide +kernel
theorem dX9_readsWays_106 : decode cX9_readsWays 106 = .ok (.iadd, 1) := by decide +kernel
theorem dX9_readsWays_107 : decode cX9_readsWays 107 = .ok (.putfield 72, 3) := by decide +kernel
theorem dX9_readsWays_110 : decode cX9_readsWays 110 = .ok (.aload_n 0, 1) := by decide +kernel
theorem dX9_readsWays_111 : decode cX9_readsWays 111 = .ok (.getfield 32, 3) := by decide +kernel
theorem dX9_readsWays_114 : decode cX9_readsWays 114 = .ok (.aload_n 0, 1) := by decide +kernel
theorem dX9_readsWays_115 : decode cX9_readsWays 115 = .ok (.getfield 29, 3) := by decide +kernel
theorem dX9_readsWays_118 : decode cX9_readsWays 118 = .ok (.iconst 0, 1) := by decide +kernel
theorem dX9_readsWays_119 : decode cX9_readsWays 119 = .ok (.iaload, 1) := by decide +kernel
theorem dX9_readsWays_120 : decode cX9_readsWays 120 = .ok (.aload_n 0, 1) := by decide +kernel
theorem dX9_readsWays_121 : decode cX9_readsWays 121 = .ok (.iconst 1, 1) := by decide +kernel
theorem dX9_readsWays_122 : decode cX9_readsWays 122 = .ok (.sipush 999, 3) := by decide +kernel
theorem dX9_readsWays_125 : decode cX9_readsWays 125 = .ok (.invokevirtual 93, 3) := by decide +kernel
theorem dX9_readsWays_128 : decode cX9_readsWays 128 = .ok (.iastore, 1) := by decide +kernel
theorem dX9_readsWays_129 : decode cX9_readsWays 129 = .ok (.aload_n 0, 1) := by decide +kernel
theorem dX9_readsWays_130 : decode cX9_readsWays 130 = .ok (.getfield 29, 3) := by decide +kernel
theorem dX9_readsWays_133 : decode cX9_readsWays 133 = .ok (.iconst 0, 1) := by decide +kernel
theorem dX9_readsWays_134 : decode cX9_readsWays 134 = .ok (.dup2, 1) := by decide +kernel
theorem dX9_readsWays_135 : decode cX9_readsWays 135 = .ok (.iaload, 1) := by decide +kernel
theorem dX9_readsWays_136 : decode cX9_readsWays 136 = .ok (.iconst 1, 1) := by decide +kernel
theorem dX9_readsWays_137 : decode cX9_readsWays 137 = .ok (.iadd, 1) := by decide +kernel
theorem dX9_readsWays_138 : decode cX9_readsWays 138 = .ok (.iastore, 1) := by decide +kernel
theorem dX9_readsWays_139 : decode cX9_readsWays 139 = .ok (.aload_n 0, 1) := by decide +kernel
theorem dX9_readsWays_140 : decode cX9_readsWays 140 = .ok (.invokevirtual 82, 3) := by decide +kernel
theorem dX9_readsWays_143 : decode cX9_readsWays 143 = .ok (.goto (-97), 3) := by decide +kernel
theorem dX9_readsWays_146 : decode cX9_readsWays 146 = .ok (.aload_n 0, 1) := by decide +kernel
theorem dX9_readsWays_147 : decode cX9_readsWays 147 = .ok (.bipush 59, 2) := by decide +kernel
theorem dX9_readsWays_149 : decode cX9_readsWays 149 = .ok (.invokevirtual 97, 3) := by decide +kernel
theorem dX9_readsWays_152 : decode cX9_readsWays 152 = .ok (.return_, 1) := by decide +kernel
theorem dX9_waysOf_0 : decode cX9_waysOf 0 = .ok (.aload_n 0, 1) := by decide +kernel
theorem dX9_waysOf_1 : decode cX9_waysOf 1 = .ok (.invokevirtual 82, 3) := by decide +kernel
theorem dX9_waysOf_4 : decode cX9_waysOf 4 = .ok (.aload_n 0, 1) := by decide +kernel
theorem dX9_waysOf_5 : decode cX9_waysOf 5 = .ok (.getfield 72, 3) := by decide +kernel
theorem dX9_waysOf_8 : decode cX9_waysOf 8 = .ok (.istore_n 3, 1) := by decide +kernel
theorem dX9_waysOf_9 : decode cX9_waysOf 9 = .ok (.aload_n 0, 1) := by decide +kernel
theorem dX9_waysOf_10 : decode cX9_waysOf 10 = .ok (.iload_n 2, 1) := by decide +kernel
theorem dX9_waysOf_11 : decode cX9_waysOf 11 = .ok (.sipush 255, 3) := by decide +kernel
theorem dX9_waysOf_14 : decode cX9_waysOf 14 = .ok (.invokevirtual 93, 3) := by decide +kernel
theorem dX9_waysOf_17 : decode cX9_waysOf 17 = .ok (.istore 4, 2) := by decide +kernel
theorem dX9_waysOf_19 : decode cX9_waysOf 19 = .ok (.aload_n 0, 1) := by decide +kernel
theorem dX9_waysOf_20 : decode cX9_waysOf 20 = .ok (.getfield 75, 3) := by decide +kernel
theorem dX9_waysOf_23 : decode cX9_waysOf 23 = .ok (.ifCond .ne 22, 3) := by decide +kernel
theorem dX9_waysOf_26 : decode cX9_waysOf 26 = .ok (.iload 4, 2) := by decide +kernel
theorem dX9_waysOf_28 : decode cX9_waysOf 28 = .ok (.iload_n 1, 1) := by decide +kernel
theorem dX9_waysOf_29 : decode cX9_waysOf 29 = .ok (.iconst (-1), 1) := by decide +kernel
theorem dX9_waysOf_30 : decode cX9_waysOf 30 = .ok (.ixor, 1) := by decide +kernel
theorem dX9_waysOf_31 : decode cX9_waysOf 31 = .ok (.iand, 1) := by decide +kernel
theorem dX9_waysOf_32 : decode cX9_waysOf 32 = .ok (.ifCond .eq 13, 3) := by decide +kernel
theorem dX9_waysOf_35 : decode cX9_waysOf 35 = .ok (.aload_n 0, 1) := by decide +kernel
theorem dX9_waysOf_36 : decode cX9_waysOf 36 = .ok (.iload_n 3, 1) := by decide +kernel
theorem dX9_waysOf_37 : decode cX9_waysOf 37 = .ok (.putfield 72, 3) := by decide +kernel
theorem dX9_waysOf_40 : decode cX9_waysOf 40 = .ok (.aload_n 0, 1) := by decide +kernel
theorem dX9_waysOf_41 : decode cX9_waysOf 41 = .ok (.iconst 2, 1) := by decide +kernel
theorem dX9_waysOf_42 : decode cX9_waysOf 42 = .ok (.invokevirtual 85, 3) := by decide +kernel
theorem dX9_waysOf_45 : decode cX9_waysOf 45 = .ok (.iload 4, 2) := by decide +kernel
theorem dX9_waysOf_47 : decode cX9_waysOf 47 = .ok (.ireturn, 1) := by decide +kernel
theorem dX9_allOf_0 : decode cX9_allOf 0 = .ok (.iconst 1, 1) := by decide +kernel
theorem dX9_allOf_1 : decode cX9_allOf 1 = .ok (.iload_n 0, 1) := by decide +kernel
theorem dX9_allOf_2 : decode cX9_allOf 2 = .ok (.ishl, 1) := by decide +kernel
theorem dX9_allOf_3 : decode cX9_allOf 3 = .ok (.iconst 1, 1) := by decide +kernel
theorem dX9_allOf_4 : decode cX9_allOf 4 = .ok (.isub, 1) := by decide +kernel
theorem dX9_allOf_5 : decode cX9_allOf 5 = .ok (.ireturn, 1) := by decide +kernel
theorem dX9_readsTest_0 : decode cX9_readsTest 0 = .ok (.aload_n 0, 1) := by decide +kernel
theorem dX9_readsTest_1 : decode cX9_readsTest 1 = .ok (.aload_n 0, 1) := by decide +kernel
theorem dX9_readsTest_2 : decode cX9_readsTest 2 = .ok (.getfield 29, 3) := by decide +kernel
theorem dX9_readsTest_5 : decode cX9_readsTest 5 = .ok (.iconst 1, 1) := by decide +kernel
theorem dX9_readsTest_6 : decode cX9_readsTest 6 = .ok (.iaload, 1) := by decide +kernel
theorem dX9_readsTest_7 : decode cX9_readsTest 7 = .ok (.bipush 6, 2) := by decide +kernel
theorem dX9_readsTest_9 : decode cX9_readsTest 9 = .ok (.if_icmp .ne 7, 3) := by decide +kernel
theorem dX9_readsTest_12 : decode cX9_readsTest 12 = .ok (.iconst 1, 1) := by decide +kernel
theorem dX9_readsTest_13 : decode cX9_readsTest 13 = .ok (.goto 4, 3) := by decide +kernel
theorem dX9_readsTest_16 : decode cX9_readsTest 16 = .ok (.iconst 0, 1) := by decide +kernel
theorem dX9_readsTest_17 : decode cX9_readsTest 17 = .ok (.invokevirtual 89, 3) := by decide +kernel
theorem dX9_readsTest_20 : decode cX9_readsTest 20 = .ok (.ifCond .eq 82, 3) := by decide +kernel
theorem dX9_readsTest_23 : decode cX9_readsTest 23 = .ok (.iconst 3, 1) := by decide +kernel
theorem dX9_readsTest_24 : decode cX9_readsTest 24 = .ok (.aload_n 0, 1) := by decide +kernel
theorem dX9_readsTest_25 : decode cX9_readsTest 25 = .ok (.getfield 29, 3) := by decide +kernel
theorem dX9_readsTest_28 : decode cX9_readsTest 28 = .ok (.iconst 1, 1) := by decide +kernel
theorem dX9_readsTest_29 : decode cX9_readsTest 29 = .ok (.iaload, 1) := by decide +kernel
theorem dX9_readsTest_30 : decode cX9_readsTest 30 = .ok (.imul, 1) := by decide +kernel
theorem dX9_readsTest_31 : decode cX9_readsTest 31 = .ok (.istore_n 1, 1) := by decide +kernel
theorem dX9_readsTest_32 : decode cX9_readsTest 32 = .ok (.aload_n 0, 1) := by decide +kernel
theorem dX9_readsTest_33 : decode cX9_readsTest 33 = .ok (.getfield 35, 3) := by decide +kernel
theorem dX9_readsTest_36 : decode cX9_readsTest 36 = .ok (.iload_n 1, 1) := by decide +kernel
theorem dX9_readsTest_37 : decode cX9_readsTest 37 = .ok (.aload_n 0, 1) := by decide +kernel
theorem dX9_readsTest_38 : decode cX9_readsTest 38 = .ok (.aload_n 0, 1) := by decide +kernel
theorem dX9_readsTest_39 : decode cX9_readsTest 39 = .ok (.getfield 29, 3) := by decide +kernel
theorem dX9_readsTest_42 : decode cX9_readsTest 42 = .ok (.iconst 0, 1) := by decide +kernel
theorem dX9_readsTest_43 : decode cX9_readsTest 43 = .ok (.iaload, 1) := by decide +kernel
theorem dX9_readsTest_44 : decode cX9_readsTest 44 = .ok (.invokestatic 100, 3) := by decide +kernel
theorem dX9_readsTest_47 : decode cX9_readsTest 47 = .ok (.bipush (-2), 2) := by decide +kernel
theorem dX9_readsTest_49 : decode cX9_readsTest 49 = .ok (.iand, 1) := by decide +kernel
theorem dX9_readsTest_50 : decode cX9_readsTest 50 = .ok (.iconst 0, 1) := by decide +kernel
theorem dX9_readsTest_51 : decode cX9_readsTest 51 = .ok (.invokevirtual 104, 3) := by decide +kernel
theorem dX9_readsTest_54 : decode cX9_readsTest 54 = .ok (.iastore, 1) := by decide +kernel
theorem dX9_readsTest_55 : decode cX9_readsTest 55 = .ok (.aload_n 0, 1) := by decide +kernel
theorem dX9_readsTest_56 : decode cX9_readsTest 56 = .ok (.getfield 35, 3) := by decide +kernel
theorem dX9_readsTest_59 : decode cX9_readsTest 59 = .ok (.iload_n 1, 1) := by decide +kernel
theorem dX9_readsTest_60 : decode cX9_readsTest 60 = .ok (.iconst 1, 1) := by decide +kernel
theorem dX9_readsTest_61 : decode cX9_readsTest 61 = .ok (.iadd, 1) := by decide +kernel
theorem dX9_readsTest_62 : decode cX9_readsTest 62 = .ok (.aload_n 0, 1) := by decide +kernel
theorem dX9_readsTest_63 : decode cX9_readsTest 63 = .ok (.iconst 0, 1) := by decide +kernel
theorem dX9_readsTest_64 : decode cX9_readsTest 64 = .ok (.bipush 63, 2) := by decide +kernel
theorem dX9_readsTest_66 : decode cX9_readsTest 66 = .ok (.invokevirtual 93, 3) := by decide +kernel
theorem dX9_readsTest_69 : decode cX9_readsTest 69 = .ok (.iastore, 1) := by decide +kernel
theorem dX9_readsTest_70 : decode cX9_readsTest 70 = .ok (.aload_n 0, 1) := by decide +kernel
theorem dX9_readsTest_71 : decode cX9_readsTest 71 = .ok (.getfield 35, 3) := by decide +kernel
theorem dX9_readsTest_74 : decode cX9_readsTest 74 = .ok (.iload_n 1, 1) := by decide +kernel
theorem dX9_readsTest_75 : decode cX9_readsTest 75 = .ok (.iconst 2, 1) := by decide +kernel
theorem dX9_readsTest_76 : decode cX9_readsTest 76 = .ok (.iadd, 1) := by decide +kernel
theorem dX9_readsTest_77 : decode cX9_readsTest 77 = .ok (.aload_n 0, 1) := by decide +kernel
theorem dX9_readsTest_78 : decode cX9_readsTest 78 = .ok (.iconst 0, 1) := by decide +kernel
theorem dX9_readsTest_79 : decode cX9_readsTest 79 = .ok (.sipush 999, 3) := by decide +kernel
theorem dX9_readsTest_82 : decode cX9_readsTest 82 = .ok (.invokevirtual 93, 3) := by decide +kernel
theorem dX9_readsTest_85 : decode cX9_readsTest 85 = .ok (.iastore, 1) := by decide +kernel
theorem dX9_readsTest_86 : decode cX9_readsTest 86 = .ok (.aload_n 0, 1) := by decide +kernel
theorem dX9_readsTest_87 : decode cX9_readsTest 87 = .ok (.bipush 59, 2) := by decide +kernel
theorem dX9_readsTest_89 : decode cX9_readsTest 89 = .ok (.invokevirtual 97, 3) := by decide +kernel
theorem dX9_readsTest_92 : decode cX9_readsTest 92 = .ok (.aload_n 0, 1) := by decide +kernel
theorem dX9_readsTest_93 : decode cX9_readsTest 93 = .ok (.getfield 29, 3) := by decide +kernel
theorem dX9_readsTest_96 : decode cX9_readsTest 96 = .ok (.iconst 1, 1) := by decide +kernel
theorem dX9_readsTest_97 : decode cX9_readsTest 97 = .ok (.dup2, 1) := by decide +kernel
theorem dX9_readsTest_98 : decode cX9_readsTest 98 = .ok (.iaload, 1) := by decide +kernel
theorem dX9_readsTest_99 : decode cX9_readsTest 99 = .ok (.iconst 1, 1) := by decide +kernel
theorem dX9_readsTest_100 : decode cX9_readsTest 100 = .ok (.iadd, 1) := by decide +kernel
theorem dX9_readsTest_101 : decode cX9_readsTest 101 = .ok (.iastore, 1) := by decide +kernel
theorem dX9_readsTest_102 : decode cX9_readsTest 102 = .ok (.return_, 1) := by decide +kernel
theorem dX9_readsServant_0 : decode cX9_readsServant 0 = .ok (.aload_n 0, 1) := by decide +kernel
theorem dX9_readsServant_1 : decode cX9_readsServant 1 = .ok (.aload_n 0, 1) := by decide +kernel
theorem dX9_readsServant_2 : decode cX9_readsServant 2 = .ok (.getfield 29, 3) := by decide +kernel
theorem dX9_readsServant_5 : decode cX9_readsServant 5 = .ok (.iconst 2, 1) := by decide +kernel
theorem dX9_readsServant_6 : decode cX9_readsServant 6 = .ok (.iaload, 1) := by decide +kernel
theorem dX9_readsServant_7 : decode cX9_readsServant 7 = .ok (.iconst 5, 1) := by decide +kernel
theorem dX9_readsServant_8 : decode cX9_readsServant 8 = .ok (.if_icmp .ne 7, 3) := by decide +kernel
theorem dX9_readsServant_11 : decode cX9_readsServant 11 = .ok (.iconst 1, 1) := by decide +kernel
theorem dX9_readsServant_12 : decode cX9_readsServant 12 = .ok (.goto 4, 3) := by decide +kernel
theorem dX9_readsServant_15 : decode cX9_readsServant 15 = .ok (.iconst 0, 1) := by decide +kernel
theorem dX9_readsServant_16 : decode cX9_readsServant 16 = .ok (.invokevirtual 89, 3) := by decide +kernel
theorem dX9_readsServant_19 : decode cX9_readsServant 19 = .ok (.ifCond .eq 64, 3) := by decide +kernel
theorem dX9_readsServant_22 : decode cX9_readsServant 22 = .ok (.iconst 2, 1) := by decide +kernel
theorem dX9_readsServant_23 : decode cX9_readsServant 23 = .ok (.aload_n 0, 1) := by decide +kernel
theorem dX9_readsServant_24 : decode cX9_readsServant 24 = .ok (.getfield 29, 3) := by decide +kernel
theorem dX9_readsServant_27 : decode cX9_readsServant 27 = .ok (.iconst 2, 1) := by decide +kernel
theorem dX9_readsServant_28 : decode cX9_readsServant 28 = .ok (.iaload, 1) := by decide +kernel
theorem dX9_readsServant_29 : decode cX9_readsServant 29 = .ok (.imul, 1) := by decide +kernel
theorem dX9_readsServant_30 : decode cX9_readsServant 30 = .ok (.istore_n 1, 1) := by decide +kernel
theorem dX9_readsServant_31 : decode cX9_readsServant 31 = .ok (.aload_n 0, 1) := by decide +kernel
theorem dX9_readsServant_32 : decode cX9_readsServant 32 = .ok (.getfield 38, 3) := by decide +kernel
theorem dX9_readsServant_35 : decode cX9_readsServant 35 = .ok (.iload_n 1, 1) := by decide +kernel
theorem dX9_readsServant_36 : decode cX9_readsServant 36 = .ok (.aload_n 0, 1) := by decide +kernel
theorem dX9_readsServant_37 : decode cX9_readsServant 37 = .ok (.aload_n 0, 1) := by decide +kernel
theorem dX9_readsServant_38 : decode cX9_readsServant 38 = .ok (.getfield 29, 3) := by decide +kernel
theorem dX9_readsServant_41 : decode cX9_readsServant 41 = .ok (.iconst 0, 1) := by decide +kernel
theorem dX9_readsServant_42 : decode cX9_readsServant 42 = .ok (.iaload, 1) := by decide +kernel
theorem dX9_readsServant_43 : decode cX9_readsServant 43 = .ok (.invokestatic 100, 3) := by decide +kernel
theorem dX9_readsServant_46 : decode cX9_readsServant 46 = .ok (.iconst 1, 1) := by decide +kernel
theorem dX9_readsServant_47 : decode cX9_readsServant 47 = .ok (.invokevirtual 104, 3) := by decide +kernel
theorem dX9_readsServant_50 : decode cX9_readsServant 50 = .ok (.iastore, 1) := by decide +kernel
theorem dX9_readsServant_51 : decode cX9_readsServant 51 = .ok (.aload_n 0, 1) := by decide +kernel
theorem dX9_readsServant_52 : decode cX9_readsServant 52 = .ok (.getfield 38, 3) := by decide +kernel
theorem dX9_readsServant_55 : decode cX9_readsServant 55 = .ok (.iload_n 1, 1) := by decide +kernel
theorem dX9_readsServant_56 : decode cX9_readsServant 56 = .ok (.iconst 1, 1) := by decide +kernel
theorem dX9_readsServant_57 : decode cX9_readsServant 57 = .ok (.iadd, 1) := by decide +kernel
theorem dX9_readsServant_58 : decode cX9_readsServant 58 = .ok (.aload_n 0, 1) := by decide +kernel
theorem dX9_readsServant_59 : decode cX9_readsServant 59 = .ok (.iconst 0, 1) := by decide +kernel
theorem dX9_readsServant_60 : decode cX9_readsServant 60 = .ok (.sipush 999, 3) := by decide +kernel
theorem dX9_readsServant_63 : decode cX9_readsServant 63 = .ok (.invokevirtual 93, 3) := by decide +kernel
theorem dX9_readsServant_66 : decode cX9_readsServant 66 = .ok (.iastore, 1) := by decide +kernel
theorem dX9_readsServant_67 : decode cX9_readsServant 67 = .ok (.aload_n 0, 1) := by decide +kernel
theorem dX9_readsServant_68 : decode cX9_readsServant 68 = .ok (.bipush 59, 2) := by decide +kernel
theorem dX9_readsServant_70 : decode cX9_readsServant 70 = .ok (.invokevirtual 97, 3) := by decide +kernel
theorem dX9_readsServant_73 : decode cX9_readsServant 73 = .ok (.aload_n 0, 1) := by decide +kernel
theorem dX9_readsServant_74 : decode cX9_readsServant 74 = .ok (.getfield 29, 3) := by decide +kernel
theorem dX9_readsServant_77 : decode cX9_readsServant 77 = .ok (.iconst 2, 1) := by decide +kernel
theorem dX9_readsServant_78 : decode cX9_readsServant 78 = .ok (.dup2, 1) := by decide +kernel
theorem dX9_readsServant_79 : decode cX9_readsServant 79 = .ok (.iaload, 1) := by decide +kernel
theorem dX9_readsServant_80 : decode cX9_readsServant 80 = .ok (.iconst 1, 1) := by decide +kernel
theorem dX9_readsServant_81 : decode cX9_readsServant 81 = .ok (.iadd, 1) := by decide +kernel
theorem dX9_readsServant_82 : decode cX9_readsServant 82 = .ok (.iastore, 1) := by decide +kernel
theorem dX9_readsServant_83 : decode cX9_readsServant 83 = .ok (.return_, 1) := by decide +kernel
theorem dX9_readsPay_0 : decode cX9_readsPay 0 = .ok (.aload_n 0, 1) := by decide +kernel
theorem dX9_readsPay_1 : decode cX9_readsPay 1 = .ok (.aload_n 0, 1) := by decide +kernel
theorem dX9_readsPay_2 : decode cX9_readsPay 2 = .ok (.getfield 29, 3) := by decide +kernel
theorem dX9_readsPay_5 : decode cX9_readsPay 5 = .ok (.iconst 3, 1) := by decide +kernel
theorem dX9_readsPay_6 : decode cX9_readsPay 6 = .ok (.iaload, 1) := by decide +kernel
theorem dX9_readsPay_7 : decode cX9_readsPay 7 = .ok (.ifCond .le 7, 3) := by decide +kernel
theorem dX9_readsPay_10 : decode cX9_readsPay 10 = .ok (.iconst 1, 1) := by decide +kernel
theorem dX9_readsPay_11 : decode cX9_readsPay 11 = .ok (.goto 4, 3) := by decide +kernel
theorem dX9_readsPay_14 : decode cX9_readsPay 14 = .ok (.iconst 0, 1) := by decide +kernel
theorem dX9_readsPay_15 : decode cX9_readsPay 15 = .ok (.invokevirtual 89, 3) := by decide +kernel
theorem dX9_readsPay_18 : decode cX9_readsPay 18 = .ok (.ifCond .eq 35, 3) := by decide +kernel
theorem dX9_readsPay_21 : decode cX9_readsPay 21 = .ok (.aload_n 0, 1) := by decide +kernel
theorem dX9_readsPay_22 : decode cX9_readsPay 22 = .ok (.getfield 29, 3) := by decide +kernel
theorem dX9_readsPay_25 : decode cX9_readsPay 25 = .ok (.iconst 3, 1) := by decide +kernel
theorem dX9_readsPay_26 : decode cX9_readsPay 26 = .ok (.aload_n 0, 1) := by decide +kernel
theorem dX9_readsPay_27 : decode cX9_readsPay 27 = .ok (.iconst 1, 1) := by decide +kernel
theorem dX9_readsPay_28 : decode cX9_readsPay 28 = .ok (.bipush 99, 2) := by decide +kernel
theorem dX9_readsPay_30 : decode cX9_readsPay 30 = .ok (.invokevirtual 93, 3) := by decide +kernel
theorem dX9_readsPay_33 : decode cX9_readsPay 33 = .ok (.iastore, 1) := by decide +kernel
theorem dX9_readsPay_34 : decode cX9_readsPay 34 = .ok (.aload_n 0, 1) := by decide +kernel
theorem dX9_readsPay_35 : decode cX9_readsPay 35 = .ok (.getfield 29, 3) := by decide +kernel
theorem dX9_readsPay_38 : decode cX9_readsPay 38 = .ok (.iconst 4, 1) := by decide +kernel
theorem dX9_readsPay_39 : decode cX9_readsPay 39 = .ok (.aload_n 0, 1) := by decide +kernel
theorem dX9_readsPay_40 : decode cX9_readsPay 40 = .ok (.iconst 1, 1) := by decide +kernel
theorem dX9_readsPay_41 : decode cX9_readsPay 41 = .ok (.bipush 30, 2) := by decide +kernel
theorem dX9_readsPay_43 : decode cX9_readsPay 43 = .ok (.invokevirtual 93, 3) := by decide +kernel
theorem dX9_readsPay_46 : decode cX9_readsPay 46 = .ok (.iastore, 1) := by decide +kernel
theorem dX9_readsPay_47 : decode cX9_readsPay 47 = .ok (.aload_n 0, 1) := by decide +kernel
theorem dX9_readsPay_48 : decode cX9_readsPay 48 = .ok (.bipush 59, 2) := by decide +kernel
theorem dX9_readsPay_50 : decode cX9_readsPay 50 = .ok (.invokevirtual 97, 3) := by decide +kernel
theorem dX9_readsPay_53 : decode cX9_readsPay 53 = .ok (.return_, 1) := by decide +kernel
theorem dX9_reads_0 : decode cX9_reads 0 = .ok (.aload_n 0, 1) := by decide +kernel
theorem dX9_reads_1 : decode cX9_reads 1 = .ok (.getfield 75, 3) := by decide +kernel
theorem dX9_reads_4 : decode cX9_reads 4 = .ok (.ifCond .ne 104, 3) := by decide +kernel
theorem dX9_reads_7 : decode cX9_reads 7 = .ok (.aload_n 0, 1) := by decide +kernel
theorem dX9_reads_8 : decode cX9_reads 8 = .ok (.invokevirtual 78, 3) := by decide +kernel
theorem dX9_reads_11 : decode cX9_reads 11 = .ok (.iconst (-1), 1) := by decide +kernel
theorem dX9_reads_12 : decode cX9_reads 12 = .ok (.if_icmp .eq 96, 3) := by decide +kernel
theorem dX9_reads_15 : decode cX9_reads 15 = .ok (.aload_n 0, 1) := by decide +kernel
theorem dX9_reads_16 : decode cX9_reads 16 = .ok (.invokevirtual 78, 3) := by decide +kernel
theorem dX9_reads_19 : decode cX9_reads 19 = .ok (.bipush 119, 2) := by decide +kernel
theorem dX9_reads_21 : decode cX9_reads 21 = .ok (.if_icmp .ne 10, 3) := by decide +kernel
theorem dX9_reads_24 : decode cX9_reads 24 = .ok (.aload_n 0, 1) := by decide +kernel
theorem dX9_reads_25 : decode cX9_reads 25 = .ok (.invokevirtual 107, 3) := by decide +kernel
theorem dX9_reads_28 : decode cX9_reads 28 = .ok (.goto 73, 3) := by decide +kernel
theorem dX9_reads_31 : decode cX9_reads 31 = .ok (.aload_n 0, 1) := by decide +kernel
theorem dX9_reads_32 : decode cX9_reads 32 = .ok (.getfield 29, 3) := by decide +kernel
theorem dX9_reads_35 : decode cX9_reads 35 = .ok (.iconst 0, 1) := by decide +kernel
theorem dX9_reads_36 : decode cX9_reads 36 = .ok (.iaload, 1) := by decide +kernel
theorem dX9_reads_37 : decode cX9_reads 37 = .ok (.ifCond .ne 11, 3) := by decide +kernel
theorem dX9_reads_40 : decode cX9_reads 40 = .ok (.aload_n 0, 1) := by decide +kernel
theorem dX9_reads_41 : decode cX9_reads 41 = .ok (.iconst 1, 1) := by decide +kernel
theorem dX9_reads_42 : decode cX9_reads 42 = .ok (.invokevirtual 85, 3) := by decide +kernel
theorem dX9_reads_45 : decode cX9_reads 45 = .ok (.goto 56, 3) := by decide +kernel
theorem dX9_reads_48 : decode cX9_reads 48 = .ok (.aload_n 0, 1) := by decide +kernel
theorem dX9_reads_49 : decode cX9_reads 49 = .ok (.invokevirtual 78, 3) := by decide +kernel
theorem dX9_reads_52 : decode cX9_reads 52 = .ok (.bipush 116, 2) := by decide +kernel
theorem dX9_reads_54 : decode cX9_reads 54 = .ok (.if_icmp .ne 10, 3) := by decide +kernel
theorem dX9_reads_57 : decode cX9_reads 57 = .ok (.aload_n 0, 1) := by decide +kernel
theorem dX9_reads_58 : decode cX9_reads 58 = .ok (.invokevirtual 110, 3) := by decide +kernel
theorem dX9_reads_61 : decode cX9_reads 61 = .ok (.goto 40, 3) := by decide +kernel
theorem dX9_reads_64 : decode cX9_reads 64 = .ok (.aload_n 0, 1) := by decide +kernel
theorem dX9_reads_65 : decode cX9_reads 65 = .ok (.invokevirtual 78, 3) := by decide +kernel
theorem dX9_reads_68 : decode cX9_reads 68 = .ok (.bipush 115, 2) := by decide +kernel
theorem dX9_reads_70 : decode cX9_reads 70 = .ok (.if_icmp .ne 10, 3) := by decide +kernel
theorem dX9_reads_73 : decode cX9_reads 73 = .ok (.aload_n 0, 1) := by decide +kernel
theorem dX9_reads_74 : decode cX9_reads 74 = .ok (.invokevirtual 113, 3) := by decide +kernel
theorem dX9_reads_77 : decode cX9_reads 77 = .ok (.goto 24, 3) := by decide +kernel
theorem dX9_reads_80 : decode cX9_reads 80 = .ok (.aload_n 0, 1) := by decide +kernel
theorem dX9_reads_81 : decode cX9_reads 81 = .ok (.invokevirtual 78, 3) := by decide +kernel
theorem dX9_reads_84 : decode cX9_reads 84 = .ok (.bipush 112, 2) := by decide +kernel
theorem dX9_reads_86 : decode cX9_reads 86 = .ok (.if_icmp .ne 10, 3) := by decide +kernel
theorem dX9_reads_89 : decode cX9_reads 89 = .ok (.aload_n 0, 1) := by decide +kernel
theorem dX9_reads_90 : decode cX9_reads 90 = .ok (.invokevirtual 116, 3) := by decide +kernel
theorem dX9_reads_93 : decode cX9_reads 93 = .ok (.goto 8, 3) := by decide +kernel
theorem dX9_reads_96 : decode cX9_reads 96 = .ok (.aload_n 0, 1) := by decide +kernel
theorem dX9_reads_97 : decode cX9_reads 97 = .ok (.iconst 1, 1) := by decide +kernel
theorem dX9_reads_98 : decode cX9_reads 98 = .ok (.invokevirtual 85, 3) := by decide +kernel
theorem dX9_reads_101 : decode cX9_reads 101 = .ok (.aload_n 0, 1) := by decide +kernel
theorem dX9_reads_102 : decode cX9_reads 102 = .ok (.invokevirtual 82, 3) := by decide +kernel
theorem dX9_reads_105 : decode cX9_reads 105 = .ok (.goto (-105), 3) := by decide +kernel
theorem dX9_reads_108 : decode cX9_reads 108 = .ok (.return_, 1) := by decide +kernel
theorem dX9_copies_0 : decode cX9_copies 0 = .ok (.iconst 0, 1) := by decide +kernel
theorem dX9_copies_1 : decode cX9_copies 1 = .ok (.istore 5, 2) := by decide +kernel
theorem dX9_copies_3 : decode cX9_copies 3 = .ok (.iload 5, 2) := by decide +kernel
theorem dX9_copies_5 : decode cX9_copies 5 = .ok (.iload 4, 2) := by decide +kernel
theorem dX9_copies_7 : decode cX9_copies 7 = .ok (.if_icmp .ge 21, 3) := by decide +kernel
theorem dX9_copies_10 : decode cX9_copies 10 = .ok (.aload_n 2, 1) := by decide +kernel
theorem dX9_copies_11 : decode cX9_copies 11 = .ok (.iload_n 3, 1) := by decide +kernel
theorem dX9_copies_12 : decode cX9_copies 12 = .ok (.iload 5, 2) := by decide +kernel
theorem dX9_copies_14 : decode cX9_copies 14 = .ok (.iadd, 1) := by decide +kernel
theorem dX9_copies_15 : decode cX9_copies 15 = .ok (.aload_n 0, 1) := by decide +kernel
theorem dX9_copies_16 : decode cX9_copies 16 = .ok (.iload_n 1, 1) := by decide +kernel
theorem dX9_copies_17 : decode cX9_copies 17 = .ok (.iload 5, 2) := by decide +kernel
theorem dX9_copies_19 : decode cX9_copies 19 = .ok (.iadd, 1) := by decide +kernel
theorem dX9_copies_20 : decode cX9_copies 20 = .ok (.iaload, 1) := by decide +kernel
theorem dX9_copies_21 : decode cX9_copies 21 = .ok (.iastore, 1) := by decide +kernel
theorem dX9_copies_22 : decode cX9_copies 22 = .ok (.iinc 5 1, 3) := by decide +kernel
theorem dX9_copies_25 : decode cX9_copies 25 = .ok (.goto (-22), 3) := by decide +kernel
theorem dX9_copies_28 : decode cX9_copies 28 = .ok (.return_, 1) := by decide +kernel
theorem dX9_castle_0 : decode cX9_castle 0 = .ok (.aload_n 0, 1) := by decide +kernel
theorem dX9_castle_1 : decode cX9_castle 1 = .ok (.iconst 0, 1) := by decide +kernel
theorem dX9_castle_2 : decode cX9_castle 2 = .ok (.putfield 72, 3) := by decide +kernel
theorem dX9_castle_5 : decode cX9_castle 5 = .ok (.aload_n 0, 1) := by decide +kernel
theorem dX9_castle_6 : decode cX9_castle 6 = .ok (.iconst 0, 1) := by decide +kernel
theorem dX9_castle_7 : decode cX9_castle 7 = .ok (.putfield 75, 3) := by decide +kernel
theorem dX9_castle_10 : decode cX9_castle 10 = .ok (.iconst 0, 1) := by decide +kernel
theorem dX9_castle_11 : decode cX9_castle 11 = .ok (.istore_n 1, 1) := by decide +kernel
theorem dX9_castle_12 : decode cX9_castle 12 = .ok (.iload_n 1, 1) := by decide +kernel
theorem dX9_castle_13 : decode cX9_castle 13 = .ok (.bipush 18, 2) := by decide +kernel
theorem dX9_castle_15 : decode cX9_castle 15 = .ok (.if_icmp .ge 45, 3) := by decide +kernel
theorem dX9_castle_18 : decode cX9_castle 18 = .ok (.aload_n 0, 1) := by decide +kernel
theorem dX9_castle_19 : decode cX9_castle 19 = .ok (.getfield 29, 3) := by decide +kernel
theorem dX9_castle_22 : decode cX9_castle 22 = .ok (.iload_n 1, 1) := by decide +kernel
theorem dX9_castle_23 : decode cX9_castle 23 = .ok (.iconst 5, 1) := by decide +kernel
theorem dX9_castle_24 : decode cX9_castle 24 = .ok (.irem, 1) := by decide +kernel
theorem dX9_castle_25 : decode cX9_castle 25 = .ok (.iconst 0, 1) := by decide +kernel
theorem dX9_castle_26 : decode cX9_castle 26 = .ok (.iastore, 1) := by decide +kernel
theorem dX9_castle_27 : decode cX9_castle 27 = .ok (.aload_n 0, 1) := by decide +kernel
theorem dX9_castle_28 : decode cX9_castle 28 = .ok (.getfield 32, 3) := by decide +kernel
theorem dX9_castle_31 : decode cX9_castle 31 = .ok (.iload_n 1, 1) := by decide +kernel
theorem dX9_castle_32 : decode cX9_castle 32 = .ok (.bipush 8, 2) := by decide +kernel
theorem dX9_castle_34 : decode cX9_castle 34 = .ok (.irem, 1) := by decide +kernel
theorem dX9_castle_35 : decode cX9_castle 35 = .ok (.iconst 0, 1) := by decide +kernel
theorem dX9_castle_36 : decode cX9_castle 36 = .ok (.iastore, 1) := by decide +kernel
theorem dX9_castle_37 : decode cX9_castle 37 = .ok (.aload_n 0, 1) := by decide +kernel
theorem dX9_castle_38 : decode cX9_castle 38 = .ok (.getfield 35, 3) := by decide +kernel
theorem dX9_castle_41 : decode cX9_castle 41 = .ok (.iload_n 1, 1) := by decide +kernel
theorem dX9_castle_42 : decode cX9_castle 42 = .ok (.iconst 0, 1) := by decide +kernel
theorem dX9_castle_43 : decode cX9_castle 43 = .ok (.iastore, 1) := by decide +kernel
theorem dX9_castle_44 : decode cX9_castle 44 = .ok (.aload_n 0, 1) := by decide +kernel
theorem dX9_castle_45 : decode cX9_castle 45 = .ok (.getfield 38, 3) := by decide +kernel
theorem dX9_castle_48 : decode cX9_castle 48 = .ok (.iload_n 1, 1) := by decide +kernel
theorem dX9_castle_49 : decode cX9_castle 49 = .ok (.bipush 10, 2) := by decide +kernel
theorem dX9_castle_51 : decode cX9_castle 51 = .ok (.irem, 1) := by decide +kernel
theorem dX9_castle_52 : decode cX9_castle 52 = .ok (.iconst 0, 1) := by decide +kernel
theorem dX9_castle_53 : decode cX9_castle 53 = .ok (.iastore, 1) := by decide +kernel
theorem dX9_castle_54 : decode cX9_castle 54 = .ok (.iinc 1 1, 3) := by decide +kernel
theorem dX9_castle_57 : decode cX9_castle 57 = .ok (.goto (-45), 3) := by decide +kernel
theorem dX9_castle_60 : decode cX9_castle 60 = .ok (.aload_n 0, 1) := by decide +kernel
theorem dX9_castle_61 : decode cX9_castle 61 = .ok (.invokevirtual 82, 3) := by decide +kernel
theorem dX9_castle_64 : decode cX9_castle 64 = .ok (.aload_n 0, 1) := by decide +kernel
theorem dX9_castle_65 : decode cX9_castle 65 = .ok (.invokevirtual 119, 3) := by decide +kernel
theorem dX9_castle_68 : decode cX9_castle 68 = .ok (.aload_n 0, 1) := by decide +kernel
theorem dX9_castle_69 : decode cX9_castle 69 = .ok (.iconst 0, 1) := by decide +kernel
theorem dX9_castle_70 : decode cX9_castle 70 = .ok (.putfield 68, 3) := by decide +kernel
theorem dX9_castle_73 : decode cX9_castle 73 = .ok (.aload_n 0, 1) := by decide +kernel
theorem dX9_castle_74 : decode cX9_castle 74 = .ok (.aload_n 0, 1) := by decide +kernel
theorem dX9_castle_75 : decode cX9_castle 75 = .ok (.getfield 75, 3) := by decide +kernel
theorem dX9_castle_78 : decode cX9_castle 78 = .ok (.ifCond .ne 7, 3) := by decide +kernel
theorem dX9_castle_81 : decode cX9_castle 81 = .ok (.iconst (-1), 1) := by decide +kernel
theorem dX9_castle_82 : decode cX9_castle 82 = .ok (.goto 7, 3) := by decide +kernel
theorem dX9_castle_85 : decode cX9_castle 85 = .ok (.aload_n 0, 1) := by decide +kernel
theorem dX9_castle_86 : decode cX9_castle 86 = .ok (.getfield 72, 3) := by decide +kernel
theorem dX9_castle_89 : decode cX9_castle 89 = .ok (.putfield 13, 3) := by decide +kernel
theorem dX9_castle_92 : decode cX9_castle 92 = .ok (.aload_n 0, 1) := by decide +kernel
theorem dX9_castle_93 : decode cX9_castle 93 = .ok (.getfield 75, 3) := by decide +kernel
theorem dX9_castle_96 : decode cX9_castle 96 = .ok (.ifCond .eq 11, 3) := by decide +kernel
theorem dX9_castle_99 : decode cX9_castle 99 = .ok (.bipush (-10), 2) := by decide +kernel
theorem dX9_castle_101 : decode cX9_castle 101 = .ok (.aload_n 0, 1) := by decide +kernel
theorem dX9_castle_102 : decode cX9_castle 102 = .ok (.getfield 75, 3) := by decide +kernel
theorem dX9_castle_105 : decode cX9_castle 105 = .ok (.isub, 1) := by decide +kernel
theorem dX9_castle_106 : decode cX9_castle 106 = .ok (.ireturn, 1) := by decide +kernel
theorem dX9_castle_107 : decode cX9_castle 107 = .ok (.aload_n 0, 1) := by decide +kernel
theorem dX9_castle_108 : decode cX9_castle 108 = .ok (.getfield 29, 3) := by decide +kernel
theorem dX9_castle_111 : decode cX9_castle 111 = .ok (.iconst 0, 1) := by decide +kernel
theorem dX9_castle_112 : decode cX9_castle 112 = .ok (.iaload, 1) := by decide +kernel
theorem dX9_castle_113 : decode cX9_castle 113 = .ok (.ifCond .le 26, 3) := by decide +kernel
theorem dX9_castle_116 : decode cX9_castle 116 = .ok (.aload_n 0, 1) := by decide +kernel
theorem dX9_castle_117 : decode cX9_castle 117 = .ok (.getfield 29, 3) := by decide +kernel
theorem dX9_castle_120 : decode cX9_castle 120 = .ok (.iconst 3, 1) := by decide +kernel
theorem dX9_castle_121 : decode cX9_castle 121 = .ok (.iaload, 1) := by decide +kernel
theorem dX9_castle_122 : decode cX9_castle 122 = .ok (.ifCond .ne 17, 3) := by decide +kernel
theorem dX9_castle_125 : decode cX9_castle 125 = .ok (.aload_n 0, 1) := by decide +kernel
theorem dX9_castle_126 : decode cX9_castle 126 = .ok (.getfield 29, 3) := by decide +kernel
theorem dX9_castle_129 : decode cX9_castle 129 = .ok (.iconst 3, 1) := by decide +kernel
theorem dX9_castle_130 : decode cX9_castle 130 = .ok (.iconst 1, 1) := by decide +kernel
theorem dX9_castle_131 : decode cX9_castle 131 = .ok (.iastore, 1) := by decide +kernel
theorem dX9_castle_132 : decode cX9_castle 132 = .ok (.aload_n 0, 1) := by decide +kernel
theorem dX9_castle_133 : decode cX9_castle 133 = .ok (.getfield 29, 3) := by decide +kernel
theorem dX9_castle_136 : decode cX9_castle 136 = .ok (.iconst 4, 1) := by decide +kernel
theorem dX9_castle_137 : decode cX9_castle 137 = .ok (.iconst 1, 1) := by decide +kernel
theorem dX9_castle_138 : decode cX9_castle 138 = .ok (.iastore, 1) := by decide +kernel
theorem dX9_castle_139 : decode cX9_castle 139 = .ok (.aload_n 0, 1) := by decide +kernel
theorem dX9_castle_140 : decode cX9_castle 140 = .ok (.getfield 29, 3) := by decide +kernel
theorem dX9_castle_143 : decode cX9_castle 143 = .ok (.iconst 0, 1) := by decide +kernel
theorem dX9_castle_144 : decode cX9_castle 144 = .ok (.aload_n 0, 1) := by decide +kernel
theorem dX9_castle_145 : decode cX9_castle 145 = .ok (.getfield 17, 3) := by decide +kernel
theorem dX9_castle_148 : decode cX9_castle 148 = .ok (.iconst 0, 1) := by decide +kernel
theorem dX9_castle_149 : decode cX9_castle 149 = .ok (.iconst 5, 1) := by decide +kernel
theorem dX9_castle_150 : decode cX9_castle 150 = .ok (.invokestatic 122, 3) := by decide +kernel
theorem dX9_castle_153 : decode cX9_castle 153 = .ok (.aload_n 0, 1) := by decide +kernel
theorem dX9_castle_154 : decode cX9_castle 154 = .ok (.getfield 32, 3) := by decide +kernel
theorem dX9_castle_157 : decode cX9_castle 157 = .ok (.iconst 0, 1) := by decide +kernel
theorem dX9_castle_158 : decode cX9_castle 158 = .ok (.aload_n 0, 1) := by decide +kernel
theorem dX9_castle_159 : decode cX9_castle 159 = .ok (.getfield 20, 3) := by decide +kernel
theorem dX9_castle_162 : decode cX9_castle 162 = .ok (.iconst 0, 1) := by decide +kernel
theorem dX9_castle_163 : decode cX9_castle 163 = .ok (.bipush 8, 2) := by decide +kernel
theorem dX9_castle_165 : decode cX9_castle 165 = .ok (.invokestatic 122, 3) := by decide +kernel
theorem dX9_castle_168 : decode cX9_castle 168 = .ok (.aload_n 0, 1) := by decide +kernel
theorem dX9_castle_169 : decode cX9_castle 169 = .ok (.getfield 35, 3) := by decide +kernel
theorem dX9_castle_172 : decode cX9_castle 172 = .ok (.iconst 0, 1) := by decide +kernel
theorem dX9_castle_173 : decode cX9_castle 173 = .ok (.aload_n 0, 1) := by decide +kernel
theorem dX9_castle_174 : decode cX9_castle 174 = .ok (.getfield 23, 3) := by decide +kernel
theorem dX9_castle_177 : decode cX9_castle 177 = .ok (.iconst 0, 1) := by decide +kernel
theorem dX9_castle_178 : decode cX9_castle 178 = .ok (.bipush 18, 2) := by decide +kernel
theorem dX9_castle_180 : decode cX9_castle 180 = .ok (.invokestatic 122, 3) := by decide +kernel
theorem dX9_castle_183 : decode cX9_castle 183 = .ok (.aload_n 0, 1) := by decide +kernel
theorem dX9_castle_184 : decode cX9_castle 184 = .ok (.getfield 38, 3) := by decide +kernel
theorem dX9_castle_187 : decode cX9_castle 187 = .ok (.iconst 0, 1) := by decide +kernel
theorem dX9_castle_188 : decode cX9_castle 188 = .ok (.aload_n 0, 1) := by decide +kernel
theorem dX9_castle_189 : decode cX9_castle 189 = .ok (.getfield 26, 3) := by decide +kernel
theorem dX9_castle_192 : decode cX9_castle 192 = .ok (.iconst 0, 1) := by decide +kernel
theorem dX9_castle_193 : decode cX9_castle 193 = .ok (.bipush 10, 2) := by decide +kernel
theorem dX9_castle_195 : decode cX9_castle 195 = .ok (.invokestatic 122, 3) := by decide +kernel
theorem dX9_castle_198 : decode cX9_castle 198 = .ok (.iconst 0, 1) := by decide +kernel
theorem dX9_castle_199 : decode cX9_castle 199 = .ok (.istore_n 1, 1) := by decide +kernel
theorem dX9_castle_200 : decode cX9_castle 200 = .ok (.iload_n 1, 1) := by decide +kernel
theorem dX9_castle_201 : decode cX9_castle 201 = .ok (.bipush 21, 2) := by decide +kernel
theorem dX9_castle_203 : decode cX9_castle 203 = .ok (.if_icmp .ge 16, 3) := by decide +kernel
theorem dX9_castle_206 : decode cX9_castle 206 = .ok (.aload_n 0, 1) := by decide +kernel
theorem dX9_castle_207 : decode cX9_castle 207 = .ok (.getfield 41, 3) := by decide +kernel
theorem dX9_castle_210 : decode cX9_castle 210 = .ok (.iload_n 1, 1) := by decide +kernel
theorem dX9_castle_211 : decode cX9_castle 211 = .ok (.iconst 0, 1) := by decide +kernel
theorem dX9_castle_212 : decode cX9_castle 212 = .ok (.iastore, 1) := by decide +kernel
theorem dX9_castle_213 : decode cX9_castle 213 = .ok (.iinc 1 1, 3) := by decide +kernel
theorem dX9_castle_216 : decode cX9_castle 216 = .ok (.goto (-16), 3) := by decide +kernel
theorem dX9_castle_219 : decode cX9_castle 219 = .ok (.aload_n 0, 1) := by decide +kernel
theorem dX9_castle_220 : decode cX9_castle 220 = .ok (.getfield 41, 3) := by decide +kernel
theorem dX9_castle_223 : decode cX9_castle 223 = .ok (.iconst 2, 1) := by decide +kernel
theorem dX9_castle_224 : decode cX9_castle 224 = .ok (.aload_n 0, 1) := by decide +kernel
theorem dX9_castle_225 : decode cX9_castle 225 = .ok (.getfield 17, 3) := by decide +kernel
theorem dX9_castle_228 : decode cX9_castle 228 = .ok (.iconst 0, 1) := by decide +kernel
theorem dX9_castle_229 : decode cX9_castle 229 = .ok (.iaload, 1) := by decide +kernel
theorem dX9_castle_230 : decode cX9_castle 230 = .ok (.ifCond .le 7, 3) := by decide +kernel
theorem dX9_castle_233 : decode cX9_castle 233 = .ok (.iconst 1, 1) := by decide +kernel
theorem dX9_castle_234 : decode cX9_castle 234 = .ok (.goto 4, 3) := by decide +kernel
theorem dX9_castle_237 : decode cX9_castle 237 = .ok (.iconst 0, 1) := by decide +kernel
theorem dX9_castle_238 : decode cX9_castle 238 = .ok (.iastore, 1) := by decide +kernel
theorem dX9_castle_239 : decode cX9_castle 239 = .ok (.aload_n 0, 1) := by decide +kernel
theorem dX9_castle_240 : decode cX9_castle 240 = .ok (.getfield 41, 3) := by decide +kernel
theorem dX9_castle_243 : decode cX9_castle 243 = .ok (.iconst 3, 1) := by decide +kernel
theorem dX9_castle_244 : decode cX9_castle 244 = .ok (.aload_n 0, 1) := by decide +kernel
theorem dX9_castle_245 : decode cX9_castle 245 = .ok (.getfield 41, 3) := by decide +kernel
theorem dX9_castle_248 : decode cX9_castle 248 = .ok (.iconst 2, 1) := by decide +kernel
theorem dX9_castle_249 : decode cX9_castle 249 = .ok (.iaload, 1) := by decide +kernel
theorem dX9_castle_250 : decode cX9_castle 250 = .ok (.iastore, 1) := by decide +kernel
theorem dX9_castle_251 : decode cX9_castle 251 = .ok (.iconst 0, 1) := by decide +kernel
theorem dX9_castle_252 : decode cX9_castle 252 = .ok (.istore_n 1, 1) := by decide +kernel
theorem dX9_castle_253 : decode cX9_castle 253 = .ok (.iload_n 1, 1) := by decide +kernel
theorem dX9_castle_254 : decode cX9_castle 254 = .ok (.aload_n 0, 1) := by decide +kernel
theorem dX9_castle_255 : decode cX9_castle 255 = .ok (.getfield 17, 3) := by decide +kernel
theorem dX9_castle_258 : decode cX9_castle 258 = .ok (.iconst 2, 1) := by decide +kernel
theorem dX9_castle_259 : decode cX9_castle 259 = .ok (.iaload, 1) := by decide +kernel
theorem dX9_castle_260 : decode cX9_castle 260 = .ok (.if_icmp .ge 28, 3) := by decide +kernel
theorem dX9_castle_263 : decode cX9_castle 263 = .ok (.aload_n 0, 1) := by decide +kernel
theorem dX9_castle_264 : decode cX9_castle 264 = .ok (.getfield 41, 3) := by decide +kernel
theorem dX9_castle_267 : decode cX9_castle 267 = .ok (.bipush 6, 2) := by decide +kernel
theorem dX9_castle_269 : decode cX9_castle 269 = .ok (.iconst 3, 1) := by decide +kernel
theorem dX9_castle_270 : decode cX9_castle 270 = .ok (.iload_n 1, 1) := by decide +kernel
theorem dX9_castle_271 : decode cX9_castle 271 = .ok (.imul, 1) := by decide +kernel
theorem dX9_castle_272 : decode cX9_castle 272 = .ok (.iadd, 1) := by decide +kernel
theorem dX9_castle_273 : decode cX9_castle 273 = .ok (.aload_n 0, 1) := by decide +kernel
theorem dX9_castle_274 : decode cX9_castle 274 = .ok (.getfield 26, 3) := by decide +kernel
theorem dX9_castle_277 : decode cX9_castle 277 = .ok (.iconst 2, 1) := by decide +kernel
theorem dX9_castle_278 : decode cX9_castle 278 = .ok (.iload_n 1, 1) := by decide +kernel
theorem dX9_castle_279 : decode cX9_castle 279 = .ok (.imul, 1) := by decide +kernel
theorem dX9_castle_280 : decode cX9_castle 280 = .ok (.iaload, 1) := by decide +kernel
theorem dX9_castle_281 : decode cX9_castle 281 = .ok (.iastore, 1) := by decide +kernel
theorem dX9_castle_282 : decode cX9_castle 282 = .ok (.iinc 1 1, 3) := by decide +kernel
theorem dX9_castle_285 : decode cX9_castle 285 = .ok (.goto (-32), 3) := by decide +kernel
theorem dX9_castle_288 : decode cX9_castle 288 = .ok (.aload_n 0, 1) := by decide +kernel
theorem dX9_castle_289 : decode cX9_castle 289 = .ok (.iconst 0, 1) := by decide +kernel
theorem dX9_castle_290 : decode cX9_castle 290 = .ok (.putfield 126, 3) := by decide +kernel
theorem dX9_castle_293 : decode cX9_castle 293 = .ok (.aload_n 0, 1) := by decide +kernel
theorem dX9_castle_294 : decode cX9_castle 294 = .ok (.iconst 0, 1) := by decide +kernel
theorem dX9_castle_295 : decode cX9_castle 295 = .ok (.putfield 129, 3) := by decide +kernel
theorem dX9_castle_298 : decode cX9_castle 298 = .ok (.aload_n 0, 1) := by decide +kernel
theorem dX9_castle_299 : decode cX9_castle 299 = .ok (.iconst 0, 1) := by decide +kernel
theorem dX9_castle_300 : decode cX9_castle 300 = .ok (.putfield 132, 3) := by decide +kernel
theorem dX9_castle_303 : decode cX9_castle 303 = .ok (.aload_n 0, 1) := by decide +kernel
theorem dX9_castle_304 : decode cX9_castle 304 = .ok (.getfield 53, 3) := by decide +kernel
theorem dX9_castle_307 : decode cX9_castle 307 = .ok (.iconst 0, 1) := by decide +kernel
theorem dX9_castle_308 : decode cX9_castle 308 = .ok (.iconst 0, 1) := by decide +kernel
theorem dX9_castle_309 : decode cX9_castle 309 = .ok (.bastore, 1) := by decide +kernel
theorem dX9_castle_310 : decode cX9_castle 310 = .ok (.aload_n 0, 1) := by decide +kernel
theorem dX9_castle_311 : decode cX9_castle 311 = .ok (.getfield 53, 3) := by decide +kernel
theorem dX9_castle_314 : decode cX9_castle 314 = .ok (.iconst 1, 1) := by decide +kernel
theorem dX9_castle_315 : decode cX9_castle 315 = .ok (.iconst 0, 1) := by decide +kernel
theorem dX9_castle_316 : decode cX9_castle 316 = .ok (.bastore, 1) := by decide +kernel
theorem dX9_castle_317 : decode cX9_castle 317 = .ok (.aload_n 0, 1) := by decide +kernel
theorem dX9_castle_318 : decode cX9_castle 318 = .ok (.getfield 17, 3) := by decide +kernel
theorem dX9_castle_321 : decode cX9_castle 321 = .ok (.iconst 0, 1) := by decide +kernel
theorem dX9_castle_322 : decode cX9_castle 322 = .ok (.iaload, 1) := by decide +kernel
theorem dX9_castle_323 : decode cX9_castle 323 = .ok (.ireturn, 1) := by decide +kernel
theorem dX9_fault_0 : decode cX9_fault 0 = .ok (.aload_n 0, 1) := by decide +kernel
theorem dX9_fault_1 : decode cX9_fault 1 = .ok (.getfield 13, 3) := by decide +kernel
theorem dX9_fault_4 : decode cX9_fault 4 = .ok (.ireturn, 1) := by decide +kernel
theorem dX9_isCastle_0 : decode cX9_isCastle 0 = .ok (.aload_n 0, 1) := by decide +kernel
theorem dX9_isCastle_1 : decode cX9_isCastle 1 = .ok (.getfield 17, 3) := by decide +kernel
theorem dX9_isCastle_4 : decode cX9_isCastle 4 = .ok (.iconst 0, 1) := by decide +kernel
theorem dX9_isCastle_5 : decode cX9_isCastle 5 = .ok (.iaload, 1) := by decide +kernel
theorem dX9_isCastle_6 : decode cX9_isCastle 6 = .ok (.ifCond .le 7, 3) := by decide +kernel
theorem dX9_isCastle_9 : decode cX9_isCastle 9 = .ok (.iconst 1, 1) := by decide +kernel
theorem dX9_isCastle_10 : decode cX9_isCastle 10 = .ok (.goto 4, 3) := by decide +kernel
theorem dX9_isCastle_13 : decode cX9_isCastle 13 = .ok (.iconst 0, 1) := by decide +kernel
theorem dX9_isCastle_14 : decode cX9_isCastle 14 = .ok (.ireturn, 1) := by decide +kernel
theorem dX9_isWay_0 : decode cX9_isWay 0 = .ok (.iload_n 1, 1) := by decide +kernel
theorem dX9_isWay_1 : decode cX9_isWay 1 = .ok (.iconst 0, 1) := by decide +kernel
theorem dX9_isWay_2 : decode cX9_isWay 2 = .ok (.aload_n 0, 1) := by decide +kernel
theorem dX9_isWay_3 : decode cX9_isWay 3 = .ok (.getfield 17, 3) := by decide +kernel
theorem dX9_isWay_6 : decode cX9_isWay 6 = .ok (.iconst 0, 1) := by decide +kernel
theorem dX9_isWay_7 : decode cX9_isWay 7 = .ok (.iaload, 1) := by decide +kernel
theorem dX9_isWay_8 : decode cX9_isWay 8 = .ok (.iconst 1, 1) := by decide +kernel
theorem dX9_isWay_9 : decode cX9_isWay 9 = .ok (.isub, 1) := by decide +kernel
theorem dX9_isWay_10 : decode cX9_isWay 10 = .ok (.invokestatic 63, 3) := by decide +kernel
theorem dX9_isWay_13 : decode cX9_isWay 13 = .ok (.ireturn, 1) := by decide +kernel
theorem dX9_areWays_0 : decode cX9_areWays 0 = .ok (.iload_n 1, 1) := by decide +kernel
theorem dX9_areWays_1 : decode cX9_areWays 1 = .ok (.iconst 0, 1) := by decide +kernel
theorem dX9_areWays_2 : decode cX9_areWays 2 = .ok (.aload_n 0, 1) := by decide +kernel
theorem dX9_areWays_3 : decode cX9_areWays 3 = .ok (.getfield 17, 3) := by decide +kernel
theorem dX9_areWays_6 : decode cX9_areWays 6 = .ok (.iconst 0, 1) := by decide +kernel
theorem dX9_areWays_7 : decode cX9_areWays 7 = .ok (.iaload, 1) := by decide +kernel
theorem dX9_areWays_8 : decode cX9_areWays 8 = .ok (.invokestatic 100, 3) := by decide +kernel
theorem dX9_areWays_11 : decode cX9_areWays 11 = .ok (.invokestatic 63, 3) := by decide +kernel
theorem dX9_areWays_14 : decode cX9_areWays 14 = .ok (.ireturn, 1) := by decide +kernel
theorem dX9_isTest_0 : decode cX9_isTest 0 = .ok (.iload_n 1, 1) := by decide +kernel
theorem dX9_isTest_1 : decode cX9_isTest 1 = .ok (.iconst 0, 1) := by decide +kernel
theorem dX9_isTest_2 : decode cX9_isTest 2 = .ok (.aload_n 0, 1) := by decide +kernel
theorem dX9_isTest_3 : decode cX9_isTest 3 = .ok (.getfield 17, 3) := by decide +kernel
theorem dX9_isTest_6 : decode cX9_isTest 6 = .ok (.iconst 1, 1) := by decide +kernel
theorem dX9_isTest_7 : decode cX9_isTest 7 = .ok (.iaload, 1) := by decide +kernel
theorem dX9_isTest_8 : decode cX9_isTest 8 = .ok (.iconst 1, 1) := by decide +kernel
theorem dX9_isTest_9 : decode cX9_isTest 9 = .ok (.isub, 1) := by decide +kernel
theorem dX9_isTest_10 : decode cX9_isTest 10 = .ok (.invokestatic 63, 3) := by decide +kernel
theorem dX9_isTest_13 : decode cX9_isTest 13 = .ok (.ireturn, 1) := by decide +kernel
theorem dX9_isServant_0 : decode cX9_isServant 0 = .ok (.iload_n 1, 1) := by decide +kernel
theorem dX9_isServant_1 : decode cX9_isServant 1 = .ok (.iconst 0, 1) := by decide +kernel
theorem dX9_isServant_2 : decode cX9_isServant 2 = .ok (.aload_n 0, 1) := by decide +kernel
theorem dX9_isServant_3 : decode cX9_isServant 3 = .ok (.getfield 17, 3) := by decide +kernel
theorem dX9_isServant_6 : decode cX9_isServant 6 = .ok (.iconst 2, 1) := by decide +kernel
theorem dX9_isServant_7 : decode cX9_isServant 7 = .ok (.iaload, 1) := by decide +kernel
theorem dX9_isServant_8 : decode cX9_isServant 8 = .ok (.iconst 1, 1) := by decide +kernel
theorem dX9_isServant_9 : decode cX9_isServant 9 = .ok (.isub, 1) := by decide +kernel
theorem dX9_isServant_10 : decode cX9_isServant 10 = .ok (.invokestatic 63, 3) := by decide +kernel
theorem dX9_isServant_13 : decode cX9_isServant 13 = .ok (.ireturn, 1) := by decide +kernel
theorem dX9_leftBy_0 : decode cX9_leftBy 0 = .ok (.iconst 0, 1) := by decide +kernel
theorem dX9_leftBy_1 : decode cX9_leftBy 1 = .ok (.istore_n 2, 1) := by decide +kernel
theorem dX9_leftBy_2 : decode cX9_leftBy 2 = .ok (.iconst 0, 1) := by decide +kernel
theorem dX9_leftBy_3 : decode cX9_leftBy 3 = .ok (.istore_n 3, 1) := by decide +kernel
theorem dX9_leftBy_4 : decode cX9_leftBy 4 = .ok (.iload_n 3, 1) := by decide +kernel
theorem dX9_leftBy_5 : decode cX9_leftBy 5 = .ok (.aload_n 0, 1) := by decide +kernel
theorem dX9_leftBy_6 : decode cX9_leftBy 6 = .ok (.getfield 17, 3) := by decide +kernel
theorem dX9_leftBy_9 : decode cX9_leftBy 9 = .ok (.iconst 1, 1) := by decide +kernel
theorem dX9_leftBy_10 : decode cX9_leftBy 10 = .ok (.iaload, 1) := by decide +kernel
theorem dX9_leftBy_11 : decode cX9_leftBy 11 = .ok (.if_icmp .ge 32, 3) := by decide +kernel
theorem dX9_leftBy_14 : decode cX9_leftBy 14 = .ok (.iload_n 2, 1) := by decide +kernel
theorem dX9_leftBy_15 : decode cX9_leftBy 15 = .ok (.iload_n 1, 1) := by decide +kernel
theorem dX9_leftBy_16 : decode cX9_leftBy 16 = .ok (.iload_n 3, 1) := by decide +kernel
theorem dX9_leftBy_17 : decode cX9_leftBy 17 = .ok (.invokestatic 135, 3) := by decide +kernel
theorem dX9_leftBy_20 : decode cX9_leftBy 20 = .ok (.ifCond .eq 14, 3) := by decide +kernel
theorem dX9_leftBy_23 : decode cX9_leftBy 23 = .ok (.aload_n 0, 1) := by decide +kernel
theorem dX9_leftBy_24 : decode cX9_leftBy 24 = .ok (.getfield 23, 3) := by decide +kernel
theorem dX9_leftBy_27 : decode cX9_leftBy 27 = .ok (.iconst 3, 1) := by decide +kernel
theorem dX9_leftBy_28 : decode cX9_leftBy 28 = .ok (.iload_n 3, 1) := by decide +kernel
theorem dX9_leftBy_29 : decode cX9_leftBy 29 = .ok (.imul, 1) := by decide +kernel
theorem dX9_leftBy_30 : decode cX9_leftBy 30 = .ok (.iaload, 1) := by decide +kernel
theorem dX9_leftBy_31 : decode cX9_leftBy 31 = .ok (.goto 4, 3) := by decide +kernel
theorem dX9_leftBy_34 : decode cX9_leftBy 34 = .ok (.iconst 0, 1) := by decide +kernel
theorem dX9_leftBy_35 : decode cX9_leftBy 35 = .ok (.ior, 1) := by decide +kernel
theorem dX9_leftBy_36 : decode cX9_leftBy 36 = .ok (.istore_n 2, 1) := by decide +kernel
theorem dX9_leftBy_37 : decode cX9_leftBy 37 = .ok (.iinc 3 1, 3) := by decide +kernel
theorem dX9_leftBy_40 : decode cX9_leftBy 40 = .ok (.goto (-36), 3) := by decide +kernel
theorem dX9_leftBy_43 : decode cX9_leftBy 43 = .ok (.aload_n 0, 1) := by decide +kernel
theorem dX9_leftBy_44 : decode cX9_leftBy 44 = .ok (.getfield 17, 3) := by decide +kernel
theorem dX9_leftBy_47 : decode cX9_leftBy 47 = .ok (.iconst 0, 1) := by decide +kernel
theorem dX9_leftBy_48 : decode cX9_leftBy 48 = .ok (.iaload, 1) := by decide +kernel
theorem dX9_leftBy_49 : decode cX9_leftBy 49 = .ok (.invokestatic 100, 3) := by decide +kernel
theorem dX9_leftBy_52 : decode cX9_leftBy 52 = .ok (.iload_n 2, 1) := by decide +kernel
theorem dX9_leftBy_53 : decode cX9_leftBy 53 = .ok (.iconst (-1), 1) := by decide +kernel
theorem dX9_leftBy_54 : decode cX9_leftBy 54 = .ok (.ixor, 1) := by decide +kernel
theorem dX9_leftBy_55 : decode cX9_leftBy 55 = .ok (.iand, 1) := by decide +kernel
theorem dX9_leftBy_56 : decode cX9_leftBy 56 = .ok (.ireturn, 1) := by decide +kernel
theorem dX9_shownBy_0 : decode cX9_shownBy 0 = .ok (.iconst 0, 1) := by decide +kernel
theorem dX9_shownBy_1 : decode cX9_shownBy 1 = .ok (.istore_n 2, 1) := by decide +kernel
theorem dX9_shownBy_2 : decode cX9_shownBy 2 = .ok (.iconst 0, 1) := by decide +kernel
theorem dX9_shownBy_3 : decode cX9_shownBy 3 = .ok (.istore_n 3, 1) := by decide +kernel
theorem dX9_shownBy_4 : decode cX9_shownBy 4 = .ok (.iload_n 3, 1) := by decide +kernel
theorem dX9_shownBy_5 : decode cX9_shownBy 5 = .ok (.aload_n 0, 1) := by decide +kernel
theorem dX9_shownBy_6 : decode cX9_shownBy 6 = .ok (.getfield 17, 3) := by decide +kernel
theorem dX9_shownBy_9 : decode cX9_shownBy 9 = .ok (.iconst 1, 1) := by decide +kernel
theorem dX9_shownBy_10 : decode cX9_shownBy 10 = .ok (.iaload, 1) := by decide +kernel
theorem dX9_shownBy_11 : decode cX9_shownBy 11 = .ok (.if_icmp .ge 34, 3) := by decide +kernel
theorem dX9_shownBy_14 : decode cX9_shownBy 14 = .ok (.iload_n 2, 1) := by decide +kernel
theorem dX9_shownBy_15 : decode cX9_shownBy 15 = .ok (.iload_n 1, 1) := by decide +kernel
theorem dX9_shownBy_16 : decode cX9_shownBy 16 = .ok (.iload_n 3, 1) := by decide +kernel
theorem dX9_shownBy_17 : decode cX9_shownBy 17 = .ok (.invokestatic 135, 3) := by decide +kernel
theorem dX9_shownBy_20 : decode cX9_shownBy 20 = .ok (.ifCond .eq 16, 3) := by decide +kernel
theorem dX9_shownBy_23 : decode cX9_shownBy 23 = .ok (.aload_n 0, 1) := by decide +kernel
theorem dX9_shownBy_24 : decode cX9_shownBy 24 = .ok (.getfield 23, 3) := by decide +kernel
theorem dX9_shownBy_27 : decode cX9_shownBy 27 = .ok (.iconst 3, 1) := by decide +kernel
theorem dX9_shownBy_28 : decode cX9_shownBy 28 = .ok (.iload_n 3, 1) := by decide +kernel
theorem dX9_shownBy_29 : decode cX9_shownBy 29 = .ok (.imul, 1) := by decide +kernel
theorem dX9_shownBy_30 : decode cX9_shownBy 30 = .ok (.iconst 1, 1) := by decide +kernel
theorem dX9_shownBy_31 : decode cX9_shownBy 31 = .ok (.iadd, 1) := by decide +kernel
theorem dX9_shownBy_32 : decode cX9_shownBy 32 = .ok (.iaload, 1) := by decide +kernel
theorem dX9_shownBy_33 : decode cX9_shownBy 33 = .ok (.goto 4, 3) := by decide +kernel
theorem dX9_shownBy_36 : decode cX9_shownBy 36 = .ok (.iconst 0, 1) := by decide +kernel
theorem dX9_shownBy_37 : decode cX9_shownBy 37 = .ok (.ior, 1) := by decide +kernel
theorem dX9_shownBy_38 : decode cX9_shownBy 38 = .ok (.istore_n 2, 1) := by decide +kernel
theorem dX9_shownBy_39 : decode cX9_shownBy 39 = .ok (.iinc 3 1, 3) := by decide +kernel
theorem dX9_shownBy_42 : decode cX9_shownBy 42 = .ok (.goto (-38), 3) := by decide +kernel
theorem dX9_shownBy_45 : decode cX9_shownBy 45 = .ok (.iload_n 2, 1) := by decide +kernel
theorem dX9_shownBy_46 : decode cX9_shownBy 46 = .ok (.ireturn, 1) := by decide +kernel
theorem dX9_spent_0 : decode cX9_spent 0 = .ok (.iconst 0, 1) := by decide +kernel
theorem dX9_spent_1 : decode cX9_spent 1 = .ok (.istore_n 1, 1) := by decide +kernel
theorem dX9_spent_2 : decode cX9_spent 2 = .ok (.iconst 0, 1) := by decide +kernel
theorem dX9_spent_3 : decode cX9_spent 3 = .ok (.istore_n 2, 1) := by decide +kernel
theorem dX9_spent_4 : decode cX9_spent 4 = .ok (.iload_n 2, 1) := by decide +kernel
theorem dX9_spent_5 : decode cX9_spent 5 = .ok (.aload_n 0, 1) := by decide +kernel
theorem dX9_spent_6 : decode cX9_spent 6 = .ok (.getfield 17, 3) := by decide +kernel
theorem dX9_spent_9 : decode cX9_spent 9 = .ok (.iconst 1, 1) := by decide +kernel
theorem dX9_spent_10 : decode cX9_spent 10 = .ok (.iaload, 1) := by decide +kernel
theorem dX9_spent_11 : decode cX9_spent 11 = .ok (.if_icmp .ge 39, 3) := by decide +kernel
theorem dX9_spent_14 : decode cX9_spent 14 = .ok (.iload_n 1, 1) := by decide +kernel
theorem dX9_spent_15 : decode cX9_spent 15 = .ok (.aload_n 0, 1) := by decide +kernel
theorem dX9_spent_16 : decode cX9_spent 16 = .ok (.getfield 41, 3) := by decide +kernel
theorem dX9_spent_19 : decode cX9_spent 19 = .ok (.iconst 4, 1) := by decide +kernel
theorem dX9_spent_20 : decode cX9_spent 20 = .ok (.iaload, 1) := by decide +kernel
theorem dX9_spent_21 : decode cX9_spent 21 = .ok (.iload_n 2, 1) := by decide +kernel
theorem dX9_spent_22 : decode cX9_spent 22 = .ok (.invokestatic 135, 3) := by decide +kernel
theorem dX9_spent_25 : decode cX9_spent 25 = .ok (.ifCond .eq 16, 3) := by decide +kernel
theorem dX9_spent_28 : decode cX9_spent 28 = .ok (.aload_n 0, 1) := by decide +kernel
theorem dX9_spent_29 : decode cX9_spent 29 = .ok (.getfield 23, 3) := by decide +kernel
theorem dX9_spent_32 : decode cX9_spent 32 = .ok (.iconst 3, 1) := by decide +kernel
theorem dX9_spent_33 : decode cX9_spent 33 = .ok (.iload_n 2, 1) := by decide +kernel
theorem dX9_spent_34 : decode cX9_spent 34 = .ok (.imul, 1) := by decide +kernel
theorem dX9_spent_35 : decode cX9_spent 35 = .ok (.iconst 2, 1) := by decide +kernel
theorem dX9_spent_36 : decode cX9_spent 36 = .ok (.iadd, 1) := by decide +kernel
theorem dX9_spent_37 : decode cX9_spent 37 = .ok (.iaload, 1) := by decide +kernel
theorem dX9_spent_38 : decode cX9_spent 38 = .ok (.goto 4, 3) := by decide +kernel
theorem dX9_spent_41 : decode cX9_spent 41 = .ok (.iconst 0, 1) := by decide +kernel
theorem dX9_spent_42 : decode cX9_spent 42 = .ok (.iadd, 1) := by decide +kernel
theorem dX9_spent_43 : decode cX9_spent 43 = .ok (.istore_n 1, 1) := by decide +kernel
theorem dX9_spent_44 : decode cX9_spent 44 = .ok (.iinc 2 1, 3) := by decide +kernel
theorem dX9_spent_47 : decode cX9_spent 47 = .ok (.goto (-43), 3) := by decide +kernel
theorem dX9_spent_50 : decode cX9_spent 50 = .ok (.iconst 0, 1) := by decide +kernel
theorem dX9_spent_51 : decode cX9_spent 51 = .ok (.istore_n 2, 1) := by decide +kernel
theorem dX9_spent_52 : decode cX9_spent 52 = .ok (.iload_n 2, 1) := by decide +kernel
theorem dX9_spent_53 : decode cX9_spent 53 = .ok (.aload_n 0, 1) := by decide +kernel
theorem dX9_spent_54 : decode cX9_spent 54 = .ok (.getfield 17, 3) := by decide +kernel
theorem dX9_spent_57 : decode cX9_spent 57 = .ok (.iconst 2, 1) := by decide +kernel
theorem dX9_spent_58 : decode cX9_spent 58 = .ok (.iaload, 1) := by decide +kernel
theorem dX9_spent_59 : decode cX9_spent 59 = .ok (.if_icmp .ge 25, 3) := by decide +kernel
theorem dX9_spent_62 : decode cX9_spent 62 = .ok (.iload_n 1, 1) := by decide +kernel
theorem dX9_spent_63 : decode cX9_spent 63 = .ok (.aload_n 0, 1) := by decide +kernel
theorem dX9_spent_64 : decode cX9_spent 64 = .ok (.getfield 41, 3) := by decide +kernel
theorem dX9_spent_67 : decode cX9_spent 67 = .ok (.bipush 6, 2) := by decide +kernel
theorem dX9_spent_69 : decode cX9_spent 69 = .ok (.iconst 3, 1) := by decide +kernel
theorem dX9_spent_70 : decode cX9_spent 70 = .ok (.iload_n 2, 1) := by decide +kernel
theorem dX9_spent_71 : decode cX9_spent 71 = .ok (.imul, 1) := by decide +kernel
theorem dX9_spent_72 : decode cX9_spent 72 = .ok (.iadd, 1) := by decide +kernel
theorem dX9_spent_73 : decode cX9_spent 73 = .ok (.iconst 1, 1) := by decide +kernel
theorem dX9_spent_74 : decode cX9_spent 74 = .ok (.iadd, 1) := by decide +kernel
theorem dX9_spent_75 : decode cX9_spent 75 = .ok (.iaload, 1) := by decide +kernel
theorem dX9_spent_76 : decode cX9_spent 76 = .ok (.iadd, 1) := by decide +kernel
theorem dX9_spent_77 : decode cX9_spent 77 = .ok (.istore_n 1, 1) := by decide +kernel
theorem dX9_spent_78 : decode cX9_spent 78 = .ok (.iinc 2 1, 3) := by decide +kernel
theorem dX9_spent_81 : decode cX9_spent 81 = .ok (.goto (-29), 3) := by decide +kernel
theorem dX9_spent_84 : decode cX9_spent 84 = .ok (.iload_n 1, 1) := by decide +kernel
theorem dX9_spent_85 : decode cX9_spent 85 = .ok (.ldc 139, 2) := by decide +kernel
theorem dX9_spent_87 : decode cX9_spent 87 = .ok (.if_icmp .le 8, 3) := by decide +kernel
theorem dX9_spent_90 : decode cX9_spent 90 = .ok (.ldc 139, 2) := by decide +kernel
theorem dX9_spent_92 : decode cX9_spent 92 = .ok (.goto 4, 3) := by decide +kernel
theorem dX9_spent_95 : decode cX9_spent 95 = .ok (.iload_n 1, 1) := by decide +kernel
theorem dX9_spent_96 : decode cX9_spent 96 = .ok (.ireturn, 1) := by decide +kernel
theorem dX9_told_0 : decode cX9_told 0 = .ok (.iload_n 1, 1) := by decide +kernel
theorem dX9_told_1 : decode cX9_told 1 = .ok (.tableswitch 211 0 17 #[87, 94, 101, 108, 113, 120, 127, 134, 141, 148, 155, 162, 173, 184, 191, 196, 201, 206], 87) := by decide +kernel
theorem dX9_told_88 : decode cX9_told 88 = .ok (.aload_n 0, 1) := by decide +kernel
theorem dX9_told_89 : decode cX9_told 89 = .ok (.getfield 17, 3) := by decide +kernel
theorem dX9_told_92 : decode cX9_told 92 = .ok (.iconst 0, 1) := by decide +kernel
theorem dX9_told_93 : decode cX9_told 93 = .ok (.iaload, 1) := by decide +kernel
theorem dX9_told_94 : decode cX9_told 94 = .ok (.ireturn, 1) := by decide +kernel
theorem dX9_told_95 : decode cX9_told 95 = .ok (.aload_n 0, 1) := by decide +kernel
theorem dX9_told_96 : decode cX9_told 96 = .ok (.getfield 17, 3) := by decide +kernel
theorem dX9_told_99 : decode cX9_told 99 = .ok (.iconst 1, 1) := by decide +kernel
theorem dX9_told_100 : decode cX9_told 100 = .ok (.iaload, 1) := by decide +kernel
theorem dX9_told_101 : decode cX9_told 101 = .ok (.ireturn, 1) := by decide +kernel
theorem dX9_told_102 : decode cX9_told 102 = .ok (.aload_n 0, 1) := by decide +kernel
theorem dX9_told_103 : decode cX9_told 103 = .ok (.getfield 17, 3) := by decide +kernel
theorem dX9_told_106 : decode cX9_told 106 = .ok (.iconst 2, 1) := by decide +kernel
theorem dX9_told_107 : decode cX9_told 107 = .ok (.iaload, 1) := by decide +kernel
theorem dX9_told_108 : decode cX9_told 108 = .ok (.ireturn, 1) := by decide +kernel
theorem dX9_told_109 : decode cX9_told 109 = .ok (.aload_n 0, 1) := by decide +kernel
theorem dX9_told_110 : decode cX9_told 110 = .ok (.getfield 68, 3) := by decide +kernel
theorem dX9_told_113 : decode cX9_told 113 = .ok (.ireturn, 1) := by decide +kernel
theorem dX9_told_114 : decode cX9_told 114 = .ok (.aload_n 0, 1) := by decide +kernel
theorem dX9_told_115 : decode cX9_told 115 = .ok (.getfield 17, 3) := by decide +kernel
theorem dX9_told_118 : decode cX9_told 118 = .ok (.iconst 3, 1) := by decide +kernel
theorem dX9_told_119 : decode cX9_told 119 = .ok (.iaload, 1) := by decide +kernel
theorem dX9_told_120 : decode cX9_told 120 = .ok (.ireturn, 1) := by decide +kernel
theorem dX9_told_121 : decode cX9_told 121 = .ok (.aload_n 0, 1) := by decide +kernel
theorem dX9_told_122 : decode cX9_told 122 = .ok (.getfield 17, 3) := by decide +kernel
theorem dX9_told_125 : decode cX9_told 125 = .ok (.iconst 4, 1) := by decide +kernel
theorem dX9_told_126 : decode cX9_told 126 = .ok (.iaload, 1) := by decide +kernel
theorem dX9_told_127 : decode cX9_told 127 = .ok (.ireturn, 1) := by decide +kernel
theorem dX9_told_128 : decode cX9_told 128 = .ok (.aload_n 0, 1) := by decide +kernel
theorem dX9_told_129 : decode cX9_told 129 = .ok (.getfield 41, 3) := by decide +kernel
theorem dX9_told_132 : decode cX9_told 132 = .ok (.iconst 0, 1) := by decide +kernel
theorem dX9_told_133 : decode cX9_told 133 = .ok (.iaload, 1) := by decide +kernel
theorem dX9_told_134 : decode cX9_told 134 = .ok (.ireturn, 1) := by decide +kernel
theorem dX9_told_135 : decode cX9_told 135 = .ok (.aload_n 0, 1) := by decide +kernel
theorem dX9_told_136 : decode cX9_told 136 = .ok (.getfield 41, 3) := by decide +kernel
theorem dX9_told_139 : decode cX9_told 139 = .ok (.iconst 1, 1) := by decide +kernel
theorem dX9_told_140 : decode cX9_told 140 = .ok (.iaload, 1) := by decide +kernel
theorem dX9_told_141 : decode cX9_told 141 = .ok (.ireturn, 1) := by decide +kernel
theorem dX9_told_142 : decode cX9_told 142 = .ok (.aload_n 0, 1) := by decide +kernel
theorem dX9_told_143 : decode cX9_told 143 = .ok (.getfield 41, 3) := by decide +kernel
theorem dX9_told_146 : decode cX9_told 146 = .ok (.iconst 2, 1) := by decide +kernel
theorem dX9_told_147 : decode cX9_told 147 = .ok (.iaload, 1) := by decide +kernel
theorem dX9_told_148 : decode cX9_told 148 = .ok (.ireturn, 1) := by decide +kernel
theorem dX9_told_149 : decode cX9_told 149 = .ok (.aload_n 0, 1) := by decide +kernel
theorem dX9_told_150 : decode cX9_told 150 = .ok (.getfield 41, 3) := by decide +kernel
theorem dX9_told_153 : decode cX9_told 153 = .ok (.iconst 3, 1) := by decide +kernel
theorem dX9_told_154 : decode cX9_told 154 = .ok (.iaload, 1) := by decide +kernel
theorem dX9_told_155 : decode cX9_told 155 = .ok (.ireturn, 1) := by decide +kernel
theorem dX9_told_156 : decode cX9_told 156 = .ok (.aload_n 0, 1) := by decide +kernel
theorem dX9_told_157 : decode cX9_told 157 = .ok (.getfield 41, 3) := by decide +kernel
theorem dX9_told_160 : decode cX9_told 160 = .ok (.iconst 4, 1) := by decide +kernel
theorem dX9_told_161 : decode cX9_told 161 = .ok (.iaload, 1) := by decide +kernel
theorem dX9_told_162 : decode cX9_told 162 = .ok (.ireturn, 1) := by decide +kernel
theorem dX9_told_163 : decode cX9_told 163 = .ok (.aload_n 0, 1) := by decide +kernel
theorem dX9_told_164 : decode cX9_told 164 = .ok (.aload_n 0, 1) := by decide +kernel
theorem dX9_told_165 : decode cX9_told 165 = .ok (.getfield 41, 3) := by decide +kernel
theorem dX9_told_168 : decode cX9_told 168 = .ok (.iconst 4, 1) := by decide +kernel
theorem dX9_told_169 : decode cX9_told 169 = .ok (.iaload, 1) := by decide +kernel
theorem dX9_told_170 : decode cX9_told 170 = .ok (.invokevirtual 140, 3) := by decide +kernel
theorem dX9_told_173 : decode cX9_told 173 = .ok (.ireturn, 1) := by decide +kernel
theorem dX9_told_174 : decode cX9_told 174 = .ok (.aload_n 0, 1) := by decide +kernel
theorem dX9_told_175 : decode cX9_told 175 = .ok (.aload_n 0, 1) := by decide +kernel
theorem dX9_told_176 : decode cX9_told 176 = .ok (.getfield 41, 3) := by decide +kernel
theorem dX9_told_179 : decode cX9_told 179 = .ok (.iconst 4, 1) := by decide +kernel
theorem dX9_told_180 : decode cX9_told 180 = .ok (.iaload, 1) := by decide +kernel
theorem dX9_told_181 : decode cX9_told 181 = .ok (.invokevirtual 143, 3) := by decide +kernel
theorem dX9_told_184 : decode cX9_told 184 = .ok (.ireturn, 1) := by decide +kernel
theorem dX9_told_185 : decode cX9_told 185 = .ok (.aload_n 0, 1) := by decide +kernel
theorem dX9_told_186 : decode cX9_told 186 = .ok (.getfield 41, 3) := by decide +kernel
theorem dX9_told_189 : decode cX9_told 189 = .ok (.iconst 5, 1) := by decide +kernel
theorem dX9_told_190 : decode cX9_told 190 = .ok (.iaload, 1) := by decide +kernel
theorem dX9_told_191 : decode cX9_told 191 = .ok (.ireturn, 1) := by decide +kernel
theorem dX9_told_192 : decode cX9_told 192 = .ok (.aload_n 0, 1) := by decide +kernel
theorem dX9_told_193 : decode cX9_told 193 = .ok (.invokevirtual 146, 3) := by decide +kernel
theorem dX9_told_196 : decode cX9_told 196 = .ok (.ireturn, 1) := by decide +kernel
theorem dX9_told_197 : decode cX9_told 197 = .ok (.aload_n 0, 1) := by decide +kernel
theorem dX9_told_198 : decode cX9_told 198 = .ok (.getfield 129, 3) := by decide +kernel
theorem dX9_told_201 : decode cX9_told 201 = .ok (.ireturn, 1) := by decide +kernel
theorem dX9_told_202 : decode cX9_told 202 = .ok (.aload_n 0, 1) := by decide +kernel
theorem dX9_told_203 : decode cX9_told 203 = .ok (.getfield 132, 3) := by decide +kernel
theorem dX9_told_206 : decode cX9_told 206 = .ok (.ireturn, 1) := by decide +kernel
theorem dX9_told_207 : decode cX9_told 207 = .ok (.aload_n 0, 1) := by decide +kernel
theorem dX9_told_208 : decode cX9_told 208 = .ok (.getfield 126, 3) := by decide +kernel
theorem dX9_told_211 : decode cX9_told 211 = .ok (.ireturn, 1) := by decide +kernel
theorem dX9_told_212 : decode cX9_told 212 = .ok (.ldc 67, 2) := by decide +kernel
theorem dX9_told_214 : decode cX9_told 214 = .ok (.ireturn, 1) := by decide +kernel
theorem dX9_likely_0 : decode cX9_likely 0 = .ok (.aload_n 0, 1) := by decide +kernel
theorem dX9_likely_1 : decode cX9_likely 1 = .ok (.iload_n 1, 1) := by decide +kernel
theorem dX9_likely_2 : decode cX9_likely 2 = .ok (.invokevirtual 149, 3) := by decide +kernel
theorem dX9_likely_5 : decode cX9_likely 5 = .ok (.ifCond .eq 12, 3) := by decide +kernel
theorem dX9_likely_8 : decode cX9_likely 8 = .ok (.aload_n 0, 1) := by decide +kernel
theorem dX9_likely_9 : decode cX9_likely 9 = .ok (.getfield 20, 3) := by decide +kernel
theorem dX9_likely_12 : decode cX9_likely 12 = .ok (.iload_n 1, 1) := by decide +kernel
theorem dX9_likely_13 : decode cX9_likely 13 = .ok (.iaload, 1) := by decide +kernel
theorem dX9_likely_14 : decode cX9_likely 14 = .ok (.goto 5, 3) := by decide +kernel
theorem dX9_likely_17 : decode cX9_likely 17 = .ok (.ldc 153, 2) := by decide +kernel
theorem dX9_likely_19 : decode cX9_likely 19 = .ok (.ireturn, 1) := by decide +kernel
theorem dX9_test_0 : decode cX9_test 0 = .ok (.aload_n 0, 1) := by decide +kernel
theorem dX9_test_1 : decode cX9_test 1 = .ok (.iload_n 1, 1) := by decide +kernel
theorem dX9_test_2 : decode cX9_test 2 = .ok (.invokevirtual 154, 3) := by decide +kernel
theorem dX9_test_5 : decode cX9_test 5 = .ok (.ifCond .ne 6, 3) := by decide +kernel
theorem dX9_test_8 : decode cX9_test 8 = .ok (.ldc 153, 2) := by decide +kernel
theorem dX9_test_10 : decode cX9_test 10 = .ok (.ireturn, 1) := by decide +kernel
theorem dX9_test_11 : decode cX9_test 11 = .ok (.iload_n 2, 1) := by decide +kernel
theorem dX9_test_12 : decode cX9_test 12 = .ok (.iconst 0, 1) := by decide +kernel
theorem dX9_test_13 : decode cX9_test 13 = .ok (.iconst 3, 1) := by decide +kernel
theorem dX9_test_14 : decode cX9_test 14 = .ok (.invokestatic 63, 3) := by decide +kernel
theorem dX9_test_17 : decode cX9_test 17 = .ok (.ifCond .ne 8, 3) := by decide +kernel
theorem dX9_test_20 : decode cX9_test 20 = .ok (.ldc 67, 2) := by decide +kernel
theorem dX9_test_22 : decode cX9_test 22 = .ok (.goto 31, 3) := by decide +kernel
theorem dX9_test_25 : decode cX9_test 25 = .ok (.iload_n 2, 1) := by decide +kernel
theorem dX9_test_26 : decode cX9_test 26 = .ok (.iconst 3, 1) := by decide +kernel
theorem dX9_test_27 : decode cX9_test 27 = .ok (.if_icmp .ge 16, 3) := by decide +kernel
theorem dX9_test_30 : decode cX9_test 30 = .ok (.aload_n 0, 1) := by decide +kernel
theorem dX9_test_31 : decode cX9_test 31 = .ok (.getfield 23, 3) := by decide +kernel
theorem dX9_test_34 : decode cX9_test 34 = .ok (.iconst 3, 1) := by decide +kernel
theorem dX9_test_35 : decode cX9_test 35 = .ok (.iload_n 1, 1) := by decide +kernel
theorem dX9_test_36 : decode cX9_test 36 = .ok (.imul, 1) := by decide +kernel
theorem dX9_test_37 : decode cX9_test 37 = .ok (.iload_n 2, 1) := by decide +kernel
theorem dX9_test_38 : decode cX9_test 38 = .ok (.iadd, 1) := by decide +kernel
theorem dX9_test_39 : decode cX9_test 39 = .ok (.iaload, 1) := by decide +kernel
theorem dX9_test_40 : decode cX9_test 40 = .ok (.goto 13, 3) := by decide +kernel
theorem dX9_test_43 : decode cX9_test 43 = .ok (.aload_n 0, 1) := by decide +kernel
theorem dX9_test_44 : decode cX9_test 44 = .ok (.getfield 41, 3) := by decide +kernel
theorem dX9_test_47 : decode cX9_test 47 = .ok (.iconst 4, 1) := by decide +kernel
theorem dX9_test_48 : decode cX9_test 48 = .ok (.iaload, 1) := by decide +kernel
theorem dX9_test_49 : decode cX9_test 49 = .ok (.iload_n 1, 1) := by decide +kernel
theorem dX9_test_50 : decode cX9_test 50 = .ok (.ishr, 1) := by decide +kernel
theorem dX9_test_51 : decode cX9_test 51 = .ok (.iconst 1, 1) := by decide +kernel
theorem dX9_test_52 : decode cX9_test 52 = .ok (.iand, 1) := by decide +kernel
theorem dX9_test_53 : decode cX9_test 53 = .ok (.ireturn, 1) := by decide +kernel
theorem dX9_servant_0 : decode cX9_servant 0 = .ok (.aload_n 0, 1) := by decide +kernel
theorem dX9_servant_1 : decode cX9_servant 1 = .ok (.iload_n 1, 1) := by decide +kernel
theorem dX9_servant_2 : decode cX9_servant 2 = .ok (.invokevirtual 157, 3) := by decide +kernel
theorem dX9_servant_5 : decode cX9_servant 5 = .ok (.ifCond .ne 6, 3) := by decide +kernel
theorem dX9_servant_8 : decode cX9_servant 8 = .ok (.ldc 153, 2) := by decide +kernel
theorem dX9_servant_10 : decode cX9_servant 10 = .ok (.ireturn, 1) := by decide +kernel
theorem dX9_servant_11 : decode cX9_servant 11 = .ok (.iload_n 2, 1) := by decide +kernel
theorem dX9_servant_12 : decode cX9_servant 12 = .ok (.tableswitch 100 0 3 #[32, 44, 55, 69], 32) := by decide +kernel
theorem dX9_servant_44 : decode cX9_servant 44 = .ok (.aload_n 0, 1) := by decide +kernel
theorem dX9_servant_45 : decode cX9_servant 45 = .ok (.getfield 41, 3) := by decide +kernel
theorem dX9_servant_48 : decode cX9_servant 48 = .ok (.bipush 6, 2) := by decide +kernel
theorem dX9_servant_50 : decode cX9_servant 50 = .ok (.iconst 3, 1) := by decide +kernel
theorem dX9_servant_51 : decode cX9_servant 51 = .ok (.iload_n 1, 1) := by decide +kernel
theorem dX9_servant_52 : decode cX9_servant 52 = .ok (.imul, 1) := by decide +kernel
theorem dX9_servant_53 : decode cX9_servant 53 = .ok (.iadd, 1) := by decide +kernel
theorem dX9_servant_54 : decode cX9_servant 54 = .ok (.iaload, 1) := by decide +kernel
theorem dX9_servant_55 : decode cX9_servant 55 = .ok (.ireturn, 1) := by decide +kernel
theorem dX9_servant_56 : decode cX9_servant 56 = .ok (.aload_n 0, 1) := by decide +kernel
theorem dX9_servant_57 : decode cX9_servant 57 = .ok (.getfield 26, 3) := by decide +kernel
theorem dX9_servant_60 : decode cX9_servant 60 = .ok (.iconst 2, 1) := by decide +kernel
theorem dX9_servant_61 : decode cX9_servant 61 = .ok (.iload_n 1, 1) := by decide +kernel
theorem dX9_servant_62 : decode cX9_servant 62 = .ok (.imul, 1) := by decide +kernel
theorem dX9_servant_63 : decode cX9_servant 63 = .ok (.iconst 1, 1) := by decide +kernel
theorem dX9_servant_64 : decode cX9_servant 64 = .ok (.iadd, 1) := by decide +kernel
theorem dX9_servant_65 : decode cX9_servant 65 = .ok (.iaload, 1) := by decide +kernel
theorem dX9_servant_66 : decode cX9_servant 66 = .ok (.ireturn, 1) := by decide +kernel
theorem dX9_servant_67 : decode cX9_servant 67 = .ok (.aload_n 0, 1) := by decide +kernel
theorem dX9_servant_68 : decode cX9_servant 68 = .ok (.getfield 41, 3) := by decide +kernel
theorem dX9_servant_71 : decode cX9_servant 71 = .ok (.bipush 6, 2) := by decide +kernel
theorem dX9_servant_73 : decode cX9_servant 73 = .ok (.iconst 3, 1) := by decide +kernel
theorem dX9_servant_74 : decode cX9_servant 74 = .ok (.iload_n 1, 1) := by decide +kernel
theorem dX9_servant_75 : decode cX9_servant 75 = .ok (.imul, 1) := by decide +kernel
theorem dX9_servant_76 : decode cX9_servant 76 = .ok (.iadd, 1) := by decide +kernel
theorem dX9_servant_77 : decode cX9_servant 77 = .ok (.iconst 1, 1) := by decide +kernel
theorem dX9_servant_78 : decode cX9_servant 78 = .ok (.iadd, 1) := by decide +kernel
theorem dX9_servant_79 : decode cX9_servant 79 = .ok (.iaload, 1) := by decide +kernel
theorem dX9_servant_80 : decode cX9_servant 80 = .ok (.ireturn, 1) := by decide +kernel
theorem dX9_servant_81 : decode cX9_servant 81 = .ok (.aload_n 0, 1) := by decide +kernel
theorem dX9_servant_82 : decode cX9_servant 82 = .ok (.getfield 41, 3) := by decide +kernel
theorem dX9_servant_85 : decode cX9_servant 85 = .ok (.iconst 5, 1) := by decide +kernel
theorem dX9_servant_86 : decode cX9_servant 86 = .ok (.iaload, 1) := by decide +kernel
theorem dX9_servant_87 : decode cX9_servant 87 = .ok (.iload_n 1, 1) := by decide +kernel
theorem dX9_servant_88 : decode cX9_servant 88 = .ok (.invokestatic 135, 3) := by decide +kernel
theorem dX9_servant_91 : decode cX9_servant 91 = .ok (.ifCond .eq 19, 3) := by decide +kernel
theorem dX9_servant_94 : decode cX9_servant 94 = .ok (.aload_n 0, 1) := by decide +kernel
theorem dX9_servant_95 : decode cX9_servant 95 = .ok (.getfield 41, 3) := by decide +kernel
theorem dX9_servant_98 : decode cX9_servant 98 = .ok (.bipush 6, 2) := by decide +kernel
theorem dX9_servant_100 : decode cX9_servant 100 = .ok (.iconst 3, 1) := by decide +kernel
theorem dX9_servant_101 : decode cX9_servant 101 = .ok (.iload_n 1, 1) := by decide +kernel
theorem dX9_servant_102 : decode cX9_servant 102 = .ok (.imul, 1) := by decide +kernel
theorem dX9_servant_103 : decode cX9_servant 103 = .ok (.iadd, 1) := by decide +kernel
theorem dX9_servant_104 : decode cX9_servant 104 = .ok (.iconst 2, 1) := by decide +kernel
theorem dX9_servant_105 : decode cX9_servant 105 = .ok (.iadd, 1) := by decide +kernel
theorem dX9_servant_106 : decode cX9_servant 106 = .ok (.iaload, 1) := by decide +kernel
theorem dX9_servant_107 : decode cX9_servant 107 = .ok (.goto 4, 3) := by decide +kernel
theorem dX9_servant_110 : decode cX9_servant 110 = .ok (.iconst (-1), 1) := by decide +kernel
theorem dX9_servant_111 : decode cX9_servant 111 = .ok (.ireturn, 1) := by decide +kernel
theorem dX9_servant_112 : decode cX9_servant 112 = .ok (.ldc 67, 2) := by decide +kernel
theorem dX9_servant_114 : decode cX9_servant 114 = .ok (.ireturn, 1) := by decide +kernel
theorem dX9_notes_0 : decode cX9_notes 0 = .ok (.aload_n 0, 1) := by decide +kernel
theorem dX9_notes_1 : decode cX9_notes 1 = .ok (.getfield 126, 3) := by decide +kernel
theorem dX9_notes_4 : decode cX9_notes 4 = .ok (.bipush 20, 2) := by decide +kernel
theorem dX9_notes_6 : decode cX9_notes 6 = .ok (.if_icmp .ne 43, 3) := by decide +kernel
theorem dX9_notes_9 : decode cX9_notes 9 = .ok (.iconst 0, 1) := by decide +kernel
theorem dX9_notes_10 : decode cX9_notes 10 = .ok (.istore_n 1, 1) := by decide +kernel
theorem dX9_notes_11 : decode cX9_notes 11 = .ok (.iload_n 1, 1) := by decide +kernel
theorem dX9_notes_12 : decode cX9_notes 12 = .ok (.sipush 399, 3) := by decide +kernel
theorem dX9_notes_15 : decode cX9_notes 15 = .ok (.if_icmp .ge 24, 3) := by decide +kernel
theorem dX9_notes_18 : decode cX9_notes 18 = .ok (.aload_n 0, 1) := by decide +kernel
theorem dX9_notes_19 : decode cX9_notes 19 = .ok (.getfield 44, 3) := by decide +kernel
theorem dX9_notes_22 : decode cX9_notes 22 = .ok (.iload_n 1, 1) := by decide +kernel
theorem dX9_notes_23 : decode cX9_notes 23 = .ok (.aload_n 0, 1) := by decide +kernel
theorem dX9_notes_24 : decode cX9_notes 24 = .ok (.getfield 44, 3) := by decide +kernel
theorem dX9_notes_27 : decode cX9_notes 27 = .ok (.iload_n 1, 1) := by decide +kernel
theorem dX9_notes_28 : decode cX9_notes 28 = .ok (.bipush 21, 2) := by decide +kernel
theorem dX9_notes_30 : decode cX9_notes 30 = .ok (.iadd, 1) := by decide +kernel
theorem dX9_notes_31 : decode cX9_notes 31 = .ok (.iaload, 1) := by decide +kernel
theorem dX9_notes_32 : decode cX9_notes 32 = .ok (.iastore, 1) := by decide +kernel
theorem dX9_notes_33 : decode cX9_notes 33 = .ok (.iinc 1 1, 3) := by decide +kernel
theorem dX9_notes_36 : decode cX9_notes 36 = .ok (.goto (-25), 3) := by decide +kernel
theorem dX9_notes_39 : decode cX9_notes 39 = .ok (.aload_n 0, 1) := by decide +kernel
theorem dX9_notes_40 : decode cX9_notes 40 = .ok (.dup, 1) := by decide +kernel
theorem dX9_notes_41 : decode cX9_notes 41 = .ok (.getfield 126, 3) := by decide +kernel
theorem dX9_notes_44 : decode cX9_notes 44 = .ok (.iconst 1, 1) := by decide +kernel
theorem dX9_notes_45 : decode cX9_notes 45 = .ok (.isub, 1) := by decide +kernel
theorem dX9_notes_46 : decode cX9_notes 46 = .ok (.putfield 126, 3) := by decide +kernel
theorem dX9_notes_49 : decode cX9_notes 49 = .ok (.aload_n 0, 1) := by decide +kernel
theorem dX9_notes_50 : decode cX9_notes 50 = .ok (.getfield 41, 3) := by decide +kernel
theorem dX9_notes_53 : decode cX9_notes 53 = .ok (.iconst 0, 1) := by decide +kernel
theorem dX9_notes_54 : decode cX9_notes 54 = .ok (.aload_n 0, 1) := by decide +kernel
theorem dX9_notes_55 : decode cX9_notes 55 = .ok (.getfield 44, 3) := by decide +kernel
theorem dX9_notes_58 : decode cX9_notes 58 = .ok (.bipush 21, 2) := by decide +kernel
theorem dX9_notes_60 : decode cX9_notes 60 = .ok (.aload_n 0, 1) := by decide +kernel
theorem dX9_notes_61 : decode cX9_notes 61 = .ok (.getfield 126, 3) := by decide +kernel
theorem dX9_notes_64 : decode cX9_notes 64 = .ok (.imul, 1) := by decide +kernel
theorem dX9_notes_65 : decode cX9_notes 65 = .ok (.bipush 21, 2) := by decide +kernel
theorem dX9_notes_67 : decode cX9_notes 67 = .ok (.invokestatic 122, 3) := by decide +kernel
theorem dX9_notes_70 : decode cX9_notes 70 = .ok (.aload_n 0, 1) := by decide +kernel
theorem dX9_notes_71 : decode cX9_notes 71 = .ok (.dup, 1) := by decide +kernel
theorem dX9_notes_72 : decode cX9_notes 72 = .ok (.getfield 126, 3) := by decide +kernel
theorem dX9_notes_75 : decode cX9_notes 75 = .ok (.iconst 1, 1) := by decide +kernel
theorem dX9_notes_76 : decode cX9_notes 76 = .ok (.iadd, 1) := by decide +kernel
theorem dX9_notes_77 : decode cX9_notes 77 = .ok (.putfield 126, 3) := by decide +kernel
theorem dX9_notes_80 : decode cX9_notes 80 = .ok (.return_, 1) := by decide +kernel
theorem dX9_gets_0 : decode cX9_gets 0 = .ok (.aload_n 0, 1) := by decide +kernel
theorem dX9_gets_1 : decode cX9_gets 1 = .ok (.getfield 41, 3) := by decide +kernel
theorem dX9_gets_4 : decode cX9_gets 4 = .ok (.bipush 6, 2) := by decide +kernel
theorem dX9_gets_6 : decode cX9_gets 6 = .ok (.iconst 3, 1) := by decide +kernel
theorem dX9_gets_7 : decode cX9_gets 7 = .ok (.iload_n 1, 1) := by decide +kernel
theorem dX9_gets_8 : decode cX9_gets 8 = .ok (.imul, 1) := by decide +kernel
theorem dX9_gets_9 : decode cX9_gets 9 = .ok (.iadd, 1) := by decide +kernel
theorem dX9_gets_10 : decode cX9_gets 10 = .ok (.iconst 1, 1) := by decide +kernel
theorem dX9_gets_11 : decode cX9_gets 11 = .ok (.iadd, 1) := by decide +kernel
theorem dX9_gets_12 : decode cX9_gets 12 = .ok (.iaload, 1) := by decide +kernel
theorem dX9_gets_13 : decode cX9_gets 13 = .ok (.iload_n 2, 1) := by decide +kernel
theorem dX9_gets_14 : decode cX9_gets 14 = .ok (.iadd, 1) := by decide +kernel
theorem dX9_gets_15 : decode cX9_gets 15 = .ok (.istore_n 3, 1) := by decide +kernel
theorem dX9_gets_16 : decode cX9_gets 16 = .ok (.aload_n 0, 1) := by decide +kernel
theorem dX9_gets_17 : decode cX9_gets 17 = .ok (.getfield 41, 3) := by decide +kernel
theorem dX9_gets_20 : decode cX9_gets 20 = .ok (.bipush 6, 2) := by decide +kernel
theorem dX9_gets_22 : decode cX9_gets 22 = .ok (.iconst 3, 1) := by decide +kernel
theorem dX9_gets_23 : decode cX9_gets 23 = .ok (.iload_n 1, 1) := by decide +kernel
theorem dX9_gets_24 : decode cX9_gets 24 = .ok (.imul, 1) := by decide +kernel
theorem dX9_gets_25 : decode cX9_gets 25 = .ok (.iadd, 1) := by decide +kernel
theorem dX9_gets_26 : decode cX9_gets 26 = .ok (.iconst 1, 1) := by decide +kernel
theorem dX9_gets_27 : decode cX9_gets 27 = .ok (.iadd, 1) := by decide +kernel
theorem dX9_gets_28 : decode cX9_gets 28 = .ok (.iload_n 3, 1) := by decide +kernel
theorem dX9_gets_29 : decode cX9_gets 29 = .ok (.ldc 139, 2) := by decide +kernel
theorem dX9_gets_31 : decode cX9_gets 31 = .ok (.if_icmp .le 8, 3) := by decide +kernel
theorem dX9_gets_34 : decode cX9_gets 34 = .ok (.ldc 139, 2) := by decide +kernel
theorem dX9_gets_36 : decode cX9_gets 36 = .ok (.goto 4, 3) := by decide +kernel
theorem dX9_gets_39 : decode cX9_gets 39 = .ok (.iload_n 3, 1) := by decide +kernel
theorem dX9_gets_40 : decode cX9_gets 40 = .ok (.iastore, 1) := by decide +kernel
theorem dX9_gets_41 : decode cX9_gets 41 = .ok (.return_, 1) := by decide +kernel
theorem dX9_passes_0 : decode cX9_passes 0 = .ok (.aload_n 0, 1) := by decide +kernel
theorem dX9_passes_1 : decode cX9_passes 1 = .ok (.getfield 41, 3) := by decide +kernel
theorem dX9_passes_4 : decode cX9_passes 4 = .ok (.iconst 0, 1) := by decide +kernel
theorem dX9_passes_5 : decode cX9_passes 5 = .ok (.dup2, 1) := by decide +kernel
theorem dX9_passes_6 : decode cX9_passes 6 = .ok (.iaload, 1) := by decide +kernel
theorem dX9_passes_7 : decode cX9_passes 7 = .ok (.iconst 1, 1) := by decide +kernel
theorem dX9_passes_8 : decode cX9_passes 8 = .ok (.iadd, 1) := by decide +kernel
theorem dX9_passes_9 : decode cX9_passes 9 = .ok (.iastore, 1) := by decide +kernel
theorem dX9_passes_10 : decode cX9_passes 10 = .ok (.aload_n 0, 1) := by decide +kernel
theorem dX9_passes_11 : decode cX9_passes 11 = .ok (.getfield 41, 3) := by decide +kernel
theorem dX9_passes_14 : decode cX9_passes 14 = .ok (.iconst 1, 1) := by decide +kernel
theorem dX9_passes_15 : decode cX9_passes 15 = .ok (.dup2, 1) := by decide +kernel
theorem dX9_passes_16 : decode cX9_passes 16 = .ok (.iaload, 1) := by decide +kernel
theorem dX9_passes_17 : decode cX9_passes 17 = .ok (.aload_n 0, 1) := by decide +kernel
theorem dX9_passes_18 : decode cX9_passes 18 = .ok (.getfield 41, 3) := by decide +kernel
theorem dX9_passes_21 : decode cX9_passes 21 = .ok (.iconst 2, 1) := by decide +kernel
theorem dX9_passes_22 : decode cX9_passes 22 = .ok (.iaload, 1) := by decide +kernel
theorem dX9_passes_23 : decode cX9_passes 23 = .ok (.iadd, 1) := by decide +kernel
theorem dX9_passes_24 : decode cX9_passes 24 = .ok (.iastore, 1) := by decide +kernel
theorem dX9_passes_25 : decode cX9_passes 25 = .ok (.iconst 0, 1) := by decide +kernel
theorem dX9_passes_26 : decode cX9_passes 26 = .ok (.istore_n 1, 1) := by decide +kernel
theorem dX9_passes_27 : decode cX9_passes 27 = .ok (.iload_n 1, 1) := by decide +kernel
theorem dX9_passes_28 : decode cX9_passes 28 = .ok (.aload_n 0, 1) := by decide +kernel
theorem dX9_passes_29 : decode cX9_passes 29 = .ok (.getfield 17, 3) := by decide +kernel
theorem dX9_passes_32 : decode cX9_passes 32 = .ok (.iconst 2, 1) := by decide +kernel
theorem dX9_passes_33 : decode cX9_passes 33 = .ok (.iaload, 1) := by decide +kernel
theorem dX9_passes_34 : decode cX9_passes 34 = .ok (.if_icmp .ge 86, 3) := by decide +kernel
theorem dX9_passes_37 : decode cX9_passes 37 = .ok (.aload_n 0, 1) := by decide +kernel
theorem dX9_passes_38 : decode cX9_passes 38 = .ok (.getfield 41, 3) := by decide +kernel
theorem dX9_passes_41 : decode cX9_passes 41 = .ok (.iconst 5, 1) := by decide +kernel
theorem dX9_passes_42 : decode cX9_passes 42 = .ok (.iaload, 1) := by decide +kernel
theorem dX9_passes_43 : decode cX9_passes 43 = .ok (.iload_n 1, 1) := by decide +kernel
theorem dX9_passes_44 : decode cX9_passes 44 = .ok (.invokestatic 135, 3) := by decide +kernel
theorem dX9_passes_47 : decode cX9_passes 47 = .ok (.ifCond .eq 67, 3) := by decide +kernel
theorem dX9_passes_50 : decode cX9_passes 50 = .ok (.aload_n 0, 1) := by decide +kernel
theorem dX9_passes_51 : decode cX9_passes 51 = .ok (.getfield 41, 3) := by decide +kernel
theorem dX9_passes_54 : decode cX9_passes 54 = .ok (.bipush 6, 2) := by decide +kernel
theorem dX9_passes_56 : decode cX9_passes 56 = .ok (.iconst 3, 1) := by decide +kernel
theorem dX9_passes_57 : decode cX9_passes 57 = .ok (.iload_n 1, 1) := by decide +kernel
theorem dX9_passes_58 : decode cX9_passes 58 = .ok (.imul, 1) := by decide +kernel
theorem dX9_passes_59 : decode cX9_passes 59 = .ok (.iadd, 1) := by decide +kernel
theorem dX9_passes_60 : decode cX9_passes 60 = .ok (.iconst 2, 1) := by decide +kernel
theorem dX9_passes_61 : decode cX9_passes 61 = .ok (.iadd, 1) := by decide +kernel
theorem dX9_passes_62 : decode cX9_passes 62 = .ok (.dup2, 1) := by decide +kernel
theorem dX9_passes_63 : decode cX9_passes 63 = .ok (.iaload, 1) := by decide +kernel
theorem dX9_passes_64 : decode cX9_passes 64 = .ok (.iconst 1, 1) := by decide +kernel
theorem dX9_passes_65 : decode cX9_passes 65 = .ok (.iadd, 1) := by decide +kernel
theorem dX9_passes_66 : decode cX9_passes 66 = .ok (.iastore, 1) := by decide +kernel
theorem dX9_passes_67 : decode cX9_passes 67 = .ok (.aload_n 0, 1) := by decide +kernel
theorem dX9_passes_68 : decode cX9_passes 68 = .ok (.getfield 41, 3) := by decide +kernel
theorem dX9_passes_71 : decode cX9_passes 71 = .ok (.bipush 6, 2) := by decide +kernel
theorem dX9_passes_73 : decode cX9_passes 73 = .ok (.iconst 3, 1) := by decide +kernel
theorem dX9_passes_74 : decode cX9_passes 74 = .ok (.iload_n 1, 1) := by decide +kernel
theorem dX9_passes_75 : decode cX9_passes 75 = .ok (.imul, 1) := by decide +kernel
theorem dX9_passes_76 : decode cX9_passes 76 = .ok (.iadd, 1) := by decide +kernel
theorem dX9_passes_77 : decode cX9_passes 77 = .ok (.iconst 2, 1) := by decide +kernel
theorem dX9_passes_78 : decode cX9_passes 78 = .ok (.iadd, 1) := by decide +kernel
theorem dX9_passes_79 : decode cX9_passes 79 = .ok (.iaload, 1) := by decide +kernel
theorem dX9_passes_80 : decode cX9_passes 80 = .ok (.aload_n 0, 1) := by decide +kernel
theorem dX9_passes_81 : decode cX9_passes 81 = .ok (.getfield 17, 3) := by decide +kernel
theorem dX9_passes_84 : decode cX9_passes 84 = .ok (.iconst 4, 1) := by decide +kernel
theorem dX9_passes_85 : decode cX9_passes 85 = .ok (.iaload, 1) := by decide +kernel
theorem dX9_passes_86 : decode cX9_passes 86 = .ok (.if_icmp .ne 28, 3) := by decide +kernel
theorem dX9_passes_89 : decode cX9_passes 89 = .ok (.aload_n 0, 1) := by decide +kernel
theorem dX9_passes_90 : decode cX9_passes 90 = .ok (.getfield 41, 3) := by decide +kernel
theorem dX9_passes_93 : decode cX9_passes 93 = .ok (.bipush 6, 2) := by decide +kernel
theorem dX9_passes_95 : decode cX9_passes 95 = .ok (.iconst 3, 1) := by decide +kernel
theorem dX9_passes_96 : decode cX9_passes 96 = .ok (.iload_n 1, 1) := by decide +kernel
theorem dX9_passes_97 : decode cX9_passes 97 = .ok (.imul, 1) := by decide +kernel
theorem dX9_passes_98 : decode cX9_passes 98 = .ok (.iadd, 1) := by decide +kernel
theorem dX9_passes_99 : decode cX9_passes 99 = .ok (.iconst 2, 1) := by decide +kernel
theorem dX9_passes_100 : decode cX9_passes 100 = .ok (.iadd, 1) := by decide +kernel
theorem dX9_passes_101 : decode cX9_passes 101 = .ok (.iconst 0, 1) := by decide +kernel
theorem dX9_passes_102 : decode cX9_passes 102 = .ok (.iastore, 1) := by decide +kernel
theorem dX9_passes_103 : decode cX9_passes 103 = .ok (.aload_n 0, 1) := by decide +kernel
theorem dX9_passes_104 : decode cX9_passes 104 = .ok (.iload_n 1, 1) := by decide +kernel
theorem dX9_passes_105 : decode cX9_passes 105 = .ok (.aload_n 0, 1) := by decide +kernel
theorem dX9_passes_106 : decode cX9_passes 106 = .ok (.getfield 17, 3) := by decide +kernel
theorem dX9_passes_109 : decode cX9_passes 109 = .ok (.iconst 3, 1) := by decide +kernel
theorem dX9_passes_110 : decode cX9_passes 110 = .ok (.iaload, 1) := by decide +kernel
theorem dX9_passes_111 : decode cX9_passes 111 = .ok (.invokevirtual 160, 3) := by decide +kernel
theorem dX9_passes_114 : decode cX9_passes 114 = .ok (.iinc 1 1, 3) := by decide +kernel
theorem dX9_passes_117 : decode cX9_passes 117 = .ok (.goto (-90), 3) := by decide +kernel
theorem dX9_passes_120 : decode cX9_passes 120 = .ok (.return_, 1) := by decide +kernel
theorem dX9_barred_0 : decode cX9_barred 0 = .ok (.iload_n 1, 1) := by decide +kernel
theorem dX9_barred_1 : decode cX9_barred 1 = .ok (.iconst 1, 1) := by decide +kernel
theorem dX9_barred_2 : decode cX9_barred 2 = .ok (.bipush 60, 2) := by decide +kernel
theorem dX9_barred_4 : decode cX9_barred 4 = .ok (.invokestatic 63, 3) := by decide +kernel
theorem dX9_barred_7 : decode cX9_barred 7 = .ok (.ifCond .ne 8, 3) := by decide +kernel
theorem dX9_barred_10 : decode cX9_barred 10 = .ok (.ldc 67, 2) := by decide +kernel
theorem dX9_barred_12 : decode cX9_barred 12 = .ok (.goto 33, 3) := by decide +kernel
theorem dX9_barred_15 : decode cX9_barred 15 = .ok (.aload_n 0, 1) := by decide +kernel
theorem dX9_barred_16 : decode cX9_barred 16 = .ok (.invokevirtual 164, 3) := by decide +kernel
theorem dX9_barred_19 : decode cX9_barred 19 = .ok (.ifCond .ne 8, 3) := by decide +kernel
theorem dX9_barred_22 : decode cX9_barred 22 = .ok (.ldc 168, 2) := by decide +kernel
theorem dX9_barred_24 : decode cX9_barred 24 = .ok (.goto 21, 3) := by decide +kernel
theorem dX9_barred_27 : decode cX9_barred 27 = .ok (.aload_n 0, 1) := by decide +kernel
theorem dX9_barred_28 : decode cX9_barred 28 = .ok (.getfield 41, 3) := by decide +kernel
theorem dX9_barred_31 : decode cX9_barred 31 = .ok (.iconst 0, 1) := by decide +kernel
theorem dX9_barred_32 : decode cX9_barred 32 = .ok (.iaload, 1) := by decide +kernel
theorem dX9_barred_33 : decode cX9_barred 33 = .ok (.sipush 9000, 3) := by decide +kernel
theorem dX9_barred_36 : decode cX9_barred 36 = .ok (.if_icmp .le 8, 3) := by decide +kernel
theorem dX9_barred_39 : decode cX9_barred 39 = .ok (.ldc 71, 2) := by decide +kernel
theorem dX9_barred_41 : decode cX9_barred 41 = .ok (.goto 4, 3) := by decide +kernel
theorem dX9_barred_44 : decode cX9_barred 44 = .ok (.iconst 0, 1) := by decide +kernel
theorem dX9_barred_45 : decode cX9_barred 45 = .ok (.ireturn, 1) := by decide +kernel
theorem dX9_day_0 : decode cX9_day 0 = .ok (.aload_n 0, 1) := by decide +kernel
theorem dX9_day_1 : decode cX9_day 1 = .ok (.iload_n 1, 1) := by decide +kernel
theorem dX9_day_2 : decode cX9_day 2 = .ok (.invokevirtual 169, 3) := by decide +kernel
theorem dX9_day_5 : decode cX9_day 5 = .ok (.istore_n 2, 1) := by decide +kernel
theorem dX9_day_6 : decode cX9_day 6 = .ok (.iload_n 2, 1) := by decide +kernel
theorem dX9_day_7 : decode cX9_day 7 = .ok (.ifCond .eq 5, 3) := by decide +kernel
theorem dX9_day_10 : decode cX9_day 10 = .ok (.iload_n 2, 1) := by decide +kernel
theorem dX9_day_11 : decode cX9_day 11 = .ok (.ireturn, 1) := by decide +kernel
theorem dX9_day_12 : decode cX9_day 12 = .ok (.aload_n 0, 1) := by decide +kernel
theorem dX9_day_13 : decode cX9_day 13 = .ok (.invokevirtual 172, 3) := by decide +kernel
theorem dX9_day_16 : decode cX9_day 16 = .ok (.iconst 0, 1) := by decide +kernel
theorem dX9_day_17 : decode cX9_day 17 = .ok (.istore_n 3, 1) := by decide +kernel
theorem dX9_day_18 : decode cX9_day 18 = .ok (.iload_n 3, 1) := by decide +kernel
theorem dX9_day_19 : decode cX9_day 19 = .ok (.iload_n 1, 1) := by decide +kernel
theorem dX9_day_20 : decode cX9_day 20 = .ok (.if_icmp .ge 13, 3) := by decide +kernel
theorem dX9_day_23 : decode cX9_day 23 = .ok (.aload_n 0, 1) := by decide +kernel
theorem dX9_day_24 : decode cX9_day 24 = .ok (.invokevirtual 175, 3) := by decide +kernel
theorem dX9_day_27 : decode cX9_day 27 = .ok (.iinc 3 1, 3) := by decide +kernel
theorem dX9_day_30 : decode cX9_day 30 = .ok (.goto (-12), 3) := by decide +kernel
theorem dX9_day_33 : decode cX9_day 33 = .ok (.aload_n 0, 1) := by decide +kernel
theorem dX9_day_34 : decode cX9_day 34 = .ok (.getfield 41, 3) := by decide +kernel
theorem dX9_day_37 : decode cX9_day 37 = .ok (.iconst 0, 1) := by decide +kernel
theorem dX9_day_38 : decode cX9_day 38 = .ok (.iaload, 1) := by decide +kernel
theorem dX9_day_39 : decode cX9_day 39 = .ok (.ireturn, 1) := by decide +kernel
theorem dX9_canBe_0 : decode cX9_canBe 0 = .ok (.aload_n 0, 1) := by decide +kernel
theorem dX9_canBe_1 : decode cX9_canBe 1 = .ok (.getfield 41, 3) := by decide +kernel
theorem dX9_canBe_4 : decode cX9_canBe 4 = .ok (.iconst 4, 1) := by decide +kernel
theorem dX9_canBe_5 : decode cX9_canBe 5 = .ok (.iaload, 1) := by decide +kernel
theorem dX9_canBe_6 : decode cX9_canBe 6 = .ok (.iload_n 1, 1) := by decide +kernel
theorem dX9_canBe_7 : decode cX9_canBe 7 = .ok (.invokestatic 135, 3) := by decide +kernel
theorem dX9_canBe_10 : decode cX9_canBe 10 = .ok (.ifCond .ne 39, 3) := by decide +kernel
theorem dX9_canBe_13 : decode cX9_canBe 13 = .ok (.aload_n 0, 1) := by decide +kernel
theorem dX9_canBe_14 : decode cX9_canBe 14 = .ok (.getfield 41, 3) := by decide +kernel
theorem dX9_canBe_17 : decode cX9_canBe 17 = .ok (.iconst 2, 1) := by decide +kernel
theorem dX9_canBe_18 : decode cX9_canBe 18 = .ok (.iaload, 1) := by decide +kernel
theorem dX9_canBe_19 : decode cX9_canBe 19 = .ok (.iconst 1, 1) := by decide +kernel
theorem dX9_canBe_20 : decode cX9_canBe 20 = .ok (.if_icmp .ne 29, 3) := by decide +kernel
theorem dX9_canBe_23 : decode cX9_canBe 23 = .ok (.aload_n 0, 1) := by decide +kernel
theorem dX9_canBe_24 : decode cX9_canBe 24 = .ok (.getfield 41, 3) := by decide +kernel
theorem dX9_canBe_27 : decode cX9_canBe 27 = .ok (.iconst 3, 1) := by decide +kernel
theorem dX9_canBe_28 : decode cX9_canBe 28 = .ok (.iaload, 1) := by decide +kernel
theorem dX9_canBe_29 : decode cX9_canBe 29 = .ok (.ifCond .eq 16, 3) := by decide +kernel
theorem dX9_canBe_32 : decode cX9_canBe 32 = .ok (.aload_n 0, 1) := by decide +kernel
theorem dX9_canBe_33 : decode cX9_canBe 33 = .ok (.getfield 23, 3) := by decide +kernel
theorem dX9_canBe_36 : decode cX9_canBe 36 = .ok (.iconst 3, 1) := by decide +kernel
theorem dX9_canBe_37 : decode cX9_canBe 37 = .ok (.iload_n 1, 1) := by decide +kernel
theorem dX9_canBe_38 : decode cX9_canBe 38 = .ok (.imul, 1) := by decide +kernel
theorem dX9_canBe_39 : decode cX9_canBe 39 = .ok (.iconst 1, 1) := by decide +kernel
theorem dX9_canBe_40 : decode cX9_canBe 40 = .ok (.iadd, 1) := by decide +kernel
theorem dX9_canBe_41 : decode cX9_canBe 41 = .ok (.iaload, 1) := by decide +kernel
theorem dX9_canBe_42 : decode cX9_canBe 42 = .ok (.ifCond .ne 7, 3) := by decide +kernel
theorem dX9_canBe_45 : decode cX9_canBe 45 = .ok (.iconst 1, 1) := by decide +kernel
theorem dX9_canBe_46 : decode cX9_canBe 46 = .ok (.goto 4, 3) := by decide +kernel
theorem dX9_canBe_49 : decode cX9_canBe 49 = .ok (.iconst 0, 1) := by decide +kernel
theorem dX9_canBe_50 : decode cX9_canBe 50 = .ok (.ireturn, 1) := by decide +kernel
theorem dX9_make_0 : decode cX9_make 0 = .ok (.aload_n 0, 1) := by decide +kernel
theorem dX9_make_1 : decode cX9_make 1 = .ok (.iload_n 1, 1) := by decide +kernel
theorem dX9_make_2 : decode cX9_make 2 = .ok (.invokevirtual 154, 3) := by decide +kernel
theorem dX9_make_5 : decode cX9_make 5 = .ok (.ifCond .ne 6, 3) := by decide +kernel
theorem dX9_make_8 : decode cX9_make 8 = .ok (.ldc 153, 2) := by decide +kernel
theorem dX9_make_10 : decode cX9_make 10 = .ok (.ireturn, 1) := by decide +kernel
theorem dX9_make_11 : decode cX9_make 11 = .ok (.aload_n 0, 1) := by decide +kernel
theorem dX9_make_12 : decode cX9_make 12 = .ok (.iload_n 1, 1) := by decide +kernel
theorem dX9_make_13 : decode cX9_make 13 = .ok (.invokevirtual 178, 3) := by decide +kernel
theorem dX9_make_16 : decode cX9_make 16 = .ok (.ifCond .ne 6, 3) := by decide +kernel
theorem dX9_make_19 : decode cX9_make 19 = .ok (.ldc 168, 2) := by decide +kernel
theorem dX9_make_21 : decode cX9_make 21 = .ok (.ireturn, 1) := by decide +kernel
theorem dX9_make_22 : decode cX9_make 22 = .ok (.aload_n 0, 1) := by decide +kernel
theorem dX9_make_23 : decode cX9_make 23 = .ok (.invokevirtual 172, 3) := by decide +kernel
theorem dX9_make_26 : decode cX9_make 26 = .ok (.aload_n 0, 1) := by decide +kernel
theorem dX9_make_27 : decode cX9_make 27 = .ok (.getfield 41, 3) := by decide +kernel
theorem dX9_make_30 : decode cX9_make 30 = .ok (.iconst 4, 1) := by decide +kernel
theorem dX9_make_31 : decode cX9_make 31 = .ok (.dup2, 1) := by decide +kernel
theorem dX9_make_32 : decode cX9_make 32 = .ok (.iaload, 1) := by decide +kernel
theorem dX9_make_33 : decode cX9_make 33 = .ok (.iconst 1, 1) := by decide +kernel
theorem dX9_make_34 : decode cX9_make 34 = .ok (.iload_n 1, 1) := by decide +kernel
theorem dX9_make_35 : decode cX9_make 35 = .ok (.ishl, 1) := by decide +kernel
theorem dX9_make_36 : decode cX9_make 36 = .ok (.ior, 1) := by decide +kernel
theorem dX9_make_37 : decode cX9_make 37 = .ok (.iastore, 1) := by decide +kernel
theorem dX9_make_38 : decode cX9_make 38 = .ok (.aload_n 0, 1) := by decide +kernel
theorem dX9_make_39 : decode cX9_make 39 = .ok (.aload_n 0, 1) := by decide +kernel
theorem dX9_make_40 : decode cX9_make 40 = .ok (.getfield 41, 3) := by decide +kernel
theorem dX9_make_43 : decode cX9_make 43 = .ok (.iconst 4, 1) := by decide +kernel
theorem dX9_make_44 : decode cX9_make 44 = .ok (.iaload, 1) := by decide +kernel
theorem dX9_make_45 : decode cX9_make 45 = .ok (.invokevirtual 140, 3) := by decide +kernel
theorem dX9_make_48 : decode cX9_make 48 = .ok (.ireturn, 1) := by decide +kernel
theorem dX9_seal_0 : decode cX9_seal 0 = .ok (.aload_n 0, 1) := by decide +kernel
theorem dX9_seal_1 : decode cX9_seal 1 = .ok (.invokevirtual 164, 3) := by decide +kernel
theorem dX9_seal_4 : decode cX9_seal 4 = .ok (.ifCond .ne 6, 3) := by decide +kernel
theorem dX9_seal_7 : decode cX9_seal 7 = .ok (.ldc 168, 2) := by decide +kernel
theorem dX9_seal_9 : decode cX9_seal 9 = .ok (.ireturn, 1) := by decide +kernel
theorem dX9_seal_10 : decode cX9_seal 10 = .ok (.aload_n 0, 1) := by decide +kernel
theorem dX9_seal_11 : decode cX9_seal 11 = .ok (.invokevirtual 172, 3) := by decide +kernel
theorem dX9_seal_14 : decode cX9_seal 14 = .ok (.aload_n 0, 1) := by decide +kernel
theorem dX9_seal_15 : decode cX9_seal 15 = .ok (.getfield 41, 3) := by decide +kernel
theorem dX9_seal_18 : decode cX9_seal 18 = .ok (.iconst 3, 1) := by decide +kernel
theorem dX9_seal_19 : decode cX9_seal 19 = .ok (.iaload, 1) := by decide +kernel
theorem dX9_seal_20 : decode cX9_seal 20 = .ok (.istore_n 2, 1) := by decide +kernel
theorem dX9_seal_21 : decode cX9_seal 21 = .ok (.aload_n 0, 1) := by decide +kernel
theorem dX9_seal_22 : decode cX9_seal 22 = .ok (.getfield 41, 3) := by decide +kernel
theorem dX9_seal_25 : decode cX9_seal 25 = .ok (.iconst 3, 1) := by decide +kernel
theorem dX9_seal_26 : decode cX9_seal 26 = .ok (.iload_n 1, 1) := by decide +kernel
theorem dX9_seal_27 : decode cX9_seal 27 = .ok (.ifCond .eq 7, 3) := by decide +kernel
theorem dX9_seal_30 : decode cX9_seal 30 = .ok (.iconst 1, 1) := by decide +kernel
theorem dX9_seal_31 : decode cX9_seal 31 = .ok (.goto 4, 3) := by decide +kernel
theorem dX9_seal_34 : decode cX9_seal 34 = .ok (.iconst 0, 1) := by decide +kernel
theorem dX9_seal_35 : decode cX9_seal 35 = .ok (.iastore, 1) := by decide +kernel
theorem dX9_seal_36 : decode cX9_seal 36 = .ok (.iload_n 2, 1) := by decide +kernel
theorem dX9_seal_37 : decode cX9_seal 37 = .ok (.ireturn, 1) := by decide +kernel
theorem dX9_smash_0 : decode cX9_smash 0 = .ok (.aload_n 0, 1) := by decide +kernel
theorem dX9_smash_1 : decode cX9_smash 1 = .ok (.getfield 41, 3) := by decide +kernel
theorem dX9_smash_4 : decode cX9_smash 4 = .ok (.iconst 2, 1) := by decide +kernel
theorem dX9_smash_5 : decode cX9_smash 5 = .ok (.iaload, 1) := by decide +kernel
theorem dX9_smash_6 : decode cX9_smash 6 = .ok (.ifCond .ne 6, 3) := by decide +kernel
theorem dX9_smash_9 : decode cX9_smash 9 = .ok (.ldc 168, 2) := by decide +kernel
theorem dX9_smash_11 : decode cX9_smash 11 = .ok (.ireturn, 1) := by decide +kernel
theorem dX9_smash_12 : decode cX9_smash 12 = .ok (.aload_n 0, 1) := by decide +kernel
theorem dX9_smash_13 : decode cX9_smash 13 = .ok (.invokevirtual 172, 3) := by decide +kernel
theorem dX9_smash_16 : decode cX9_smash 16 = .ok (.aload_n 0, 1) := by decide +kernel
theorem dX9_smash_17 : decode cX9_smash 17 = .ok (.getfield 41, 3) := by decide +kernel
theorem dX9_smash_20 : decode cX9_smash 20 = .ok (.iconst 2, 1) := by decide +kernel
theorem dX9_smash_21 : decode cX9_smash 21 = .ok (.iconst 0, 1) := by decide +kernel
theorem dX9_smash_22 : decode cX9_smash 22 = .ok (.iastore, 1) := by decide +kernel
theorem dX9_smash_23 : decode cX9_smash 23 = .ok (.aload_n 0, 1) := by decide +kernel
theorem dX9_smash_24 : decode cX9_smash 24 = .ok (.getfield 41, 3) := by decide +kernel
theorem dX9_smash_27 : decode cX9_smash 27 = .ok (.iconst 1, 1) := by decide +kernel
theorem dX9_smash_28 : decode cX9_smash 28 = .ok (.iaload, 1) := by decide +kernel
theorem dX9_smash_29 : decode cX9_smash 29 = .ok (.ireturn, 1) := by decide +kernel
theorem dX9_hires_0 : decode cX9_hires 0 = .ok (.aload_n 0, 1) := by decide +kernel
theorem dX9_hires_1 : decode cX9_hires 1 = .ok (.getfield 41, 3) := by decide +kernel
theorem dX9_hires_4 : decode cX9_hires 4 = .ok (.iconst 5, 1) := by decide +kernel
theorem dX9_hires_5 : decode cX9_hires 5 = .ok (.iload_n 2, 1) := by decide +kernel
theorem dX9_hires_6 : decode cX9_hires 6 = .ok (.ifCond .eq 16, 3) := by decide +kernel
theorem dX9_hires_9 : decode cX9_hires 9 = .ok (.aload_n 0, 1) := by decide +kernel
theorem dX9_hires_10 : decode cX9_hires 10 = .ok (.getfield 41, 3) := by decide +kernel
theorem dX9_hires_13 : decode cX9_hires 13 = .ok (.iconst 5, 1) := by decide +kernel
theorem dX9_hires_14 : decode cX9_hires 14 = .ok (.iaload, 1) := by decide +kernel
theorem dX9_hires_15 : decode cX9_hires 15 = .ok (.iconst 1, 1) := by decide +kernel
theorem dX9_hires_16 : decode cX9_hires 16 = .ok (.iload_n 1, 1) := by decide +kernel
theorem dX9_hires_17 : decode cX9_hires 17 = .ok (.ishl, 1) := by decide +kernel
theorem dX9_hires_18 : decode cX9_hires 18 = .ok (.ior, 1) := by decide +kernel
theorem dX9_hires_19 : decode cX9_hires 19 = .ok (.goto 15, 3) := by decide +kernel
theorem dX9_hires_22 : decode cX9_hires 22 = .ok (.aload_n 0, 1) := by decide +kernel
theorem dX9_hires_23 : decode cX9_hires 23 = .ok (.getfield 41, 3) := by decide +kernel
theorem dX9_hires_26 : decode cX9_hires 26 = .ok (.iconst 5, 1) := by decide +kernel
theorem dX9_hires_27 : decode cX9_hires 27 = .ok (.iaload, 1) := by decide +kernel
theorem dX9_hires_28 : decode cX9_hires 28 = .ok (.iconst 1, 1) := by decide +kernel
theorem dX9_hires_29 : decode cX9_hires 29 = .ok (.iload_n 1, 1) := by decide +kernel
theorem dX9_hires_30 : decode cX9_hires 30 = .ok (.ishl, 1) := by decide +kernel
theorem dX9_hires_31 : decode cX9_hires 31 = .ok (.iconst (-1), 1) := by decide +kernel
theorem dX9_hires_32 : decode cX9_hires 32 = .ok (.ixor, 1) := by decide +kernel
theorem dX9_hires_33 : decode cX9_hires 33 = .ok (.iand, 1) := by decide +kernel
theorem dX9_hires_34 : decode cX9_hires 34 = .ok (.iastore, 1) := by decide +kernel
theorem dX9_hires_35 : decode cX9_hires 35 = .ok (.aload_n 0, 1) := by decide +kernel
theorem dX9_hires_36 : decode cX9_hires 36 = .ok (.getfield 41, 3) := by decide +kernel
theorem dX9_hires_39 : decode cX9_hires 39 = .ok (.bipush 6, 2) := by decide +kernel
theorem dX9_hires_41 : decode cX9_hires 41 = .ok (.iconst 3, 1) := by decide +kernel
theorem dX9_hires_42 : decode cX9_hires 42 = .ok (.iload_n 1, 1) := by decide +kernel
theorem dX9_hires_43 : decode cX9_hires 43 = .ok (.imul, 1) := by decide +kernel
theorem dX9_hires_44 : decode cX9_hires 44 = .ok (.iadd, 1) := by decide +kernel
theorem dX9_hires_45 : decode cX9_hires 45 = .ok (.iconst 2, 1) := by decide +kernel
theorem dX9_hires_46 : decode cX9_hires 46 = .ok (.iadd, 1) := by decide +kernel
theorem dX9_hires_47 : decode cX9_hires 47 = .ok (.iconst 0, 1) := by decide +kernel
theorem dX9_hires_48 : decode cX9_hires 48 = .ok (.iastore, 1) := by decide +kernel
theorem dX9_hires_49 : decode cX9_hires 49 = .ok (.return_, 1) := by decide +kernel
theorem dX9_hire_0 : decode cX9_hire 0 = .ok (.aload_n 0, 1) := by decide +kernel
theorem dX9_hire_1 : decode cX9_hire 1 = .ok (.iload_n 1, 1) := by decide +kernel
theorem dX9_hire_2 : decode cX9_hire 2 = .ok (.invokevirtual 157, 3) := by decide +kernel
theorem dX9_hire_5 : decode cX9_hire 5 = .ok (.ifCond .ne 6, 3) := by decide +kernel
theorem dX9_hire_8 : decode cX9_hire 8 = .ok (.ldc 153, 2) := by decide +kernel
theorem dX9_hire_10 : decode cX9_hire 10 = .ok (.ireturn, 1) := by decide +kernel
theorem dX9_hire_11 : decode cX9_hire 11 = .ok (.aload_n 0, 1) := by decide +kernel
theorem dX9_hire_12 : decode cX9_hire 12 = .ok (.invokevirtual 172, 3) := by decide +kernel
theorem dX9_hire_15 : decode cX9_hire 15 = .ok (.aload_n 0, 1) := by decide +kernel
theorem dX9_hire_16 : decode cX9_hire 16 = .ok (.getfield 41, 3) := by decide +kernel
theorem dX9_hire_19 : decode cX9_hire 19 = .ok (.iconst 5, 1) := by decide +kernel
theorem dX9_hire_20 : decode cX9_hire 20 = .ok (.iaload, 1) := by decide +kernel
theorem dX9_hire_21 : decode cX9_hire 21 = .ok (.iload_n 1, 1) := by decide +kernel
theorem dX9_hire_22 : decode cX9_hire 22 = .ok (.ishr, 1) := by decide +kernel
theorem dX9_hire_23 : decode cX9_hire 23 = .ok (.iconst 1, 1) := by decide +kernel
theorem dX9_hire_24 : decode cX9_hire 24 = .ok (.iand, 1) := by decide +kernel
theorem dX9_hire_25 : decode cX9_hire 25 = .ok (.istore_n 3, 1) := by decide +kernel
theorem dX9_hire_26 : decode cX9_hire 26 = .ok (.aload_n 0, 1) := by decide +kernel
theorem dX9_hire_27 : decode cX9_hire 27 = .ok (.iload_n 1, 1) := by decide +kernel
theorem dX9_hire_28 : decode cX9_hire 28 = .ok (.iload_n 2, 1) := by decide +kernel
theorem dX9_hire_29 : decode cX9_hire 29 = .ok (.invokevirtual 181, 3) := by decide +kernel
theorem dX9_hire_32 : decode cX9_hire 32 = .ok (.iload_n 3, 1) := by decide +kernel
theorem dX9_hire_33 : decode cX9_hire 33 = .ok (.ireturn, 1) := by decide +kernel
theorem dX9_buy_0 : decode cX9_buy 0 = .ok (.aload_n 0, 1) := by decide +kernel
theorem dX9_buy_1 : decode cX9_buy 1 = .ok (.iload_n 1, 1) := by decide +kernel
theorem dX9_buy_2 : decode cX9_buy 2 = .ok (.invokevirtual 157, 3) := by decide +kernel
theorem dX9_buy_5 : decode cX9_buy 5 = .ok (.ifCond .eq 15, 3) := by decide +kernel
theorem dX9_buy_8 : decode cX9_buy 8 = .ok (.aload_n 0, 1) := by decide +kernel
theorem dX9_buy_9 : decode cX9_buy 9 = .ok (.iload_n 2, 1) := by decide +kernel
theorem dX9_buy_10 : decode cX9_buy 10 = .ok (.invokevirtual 185, 3) := by decide +kernel
theorem dX9_buy_13 : decode cX9_buy 13 = .ok (.ifCond .eq 7, 3) := by decide +kernel
theorem dX9_buy_16 : decode cX9_buy 16 = .ok (.iload_n 2, 1) := by decide +kernel
theorem dX9_buy_17 : decode cX9_buy 17 = .ok (.ifCond .ne 6, 3) := by decide +kernel
theorem dX9_buy_20 : decode cX9_buy 20 = .ok (.ldc 153, 2) := by decide +kernel
theorem dX9_buy_22 : decode cX9_buy 22 = .ok (.ireturn, 1) := by decide +kernel
theorem dX9_buy_23 : decode cX9_buy 23 = .ok (.iload_n 3, 1) := by decide +kernel
theorem dX9_buy_24 : decode cX9_buy 24 = .ok (.iconst 0, 1) := by decide +kernel
theorem dX9_buy_25 : decode cX9_buy 25 = .ok (.sipush 9999, 3) := by decide +kernel
theorem dX9_buy_28 : decode cX9_buy 28 = .ok (.invokestatic 63, 3) := by decide +kernel
theorem dX9_buy_31 : decode cX9_buy 31 = .ok (.ifCond .ne 6, 3) := by decide +kernel
theorem dX9_buy_34 : decode cX9_buy 34 = .ok (.ldc 67, 2) := by decide +kernel
theorem dX9_buy_36 : decode cX9_buy 36 = .ok (.ireturn, 1) := by decide +kernel
theorem dX9_buy_37 : decode cX9_buy 37 = .ok (.iload_n 3, 1) := by decide +kernel
theorem dX9_buy_38 : decode cX9_buy 38 = .ok (.aload_n 0, 1) := by decide +kernel
theorem dX9_buy_39 : decode cX9_buy 39 = .ok (.getfield 26, 3) := by decide +kernel
theorem dX9_buy_42 : decode cX9_buy 42 = .ok (.iconst 2, 1) := by decide +kernel
theorem dX9_buy_43 : decode cX9_buy 43 = .ok (.iload_n 1, 1) := by decide +kernel
theorem dX9_buy_44 : decode cX9_buy 44 = .ok (.imul, 1) := by decide +kernel
theorem dX9_buy_45 : decode cX9_buy 45 = .ok (.iconst 1, 1) := by decide +kernel
theorem dX9_buy_46 : decode cX9_buy 46 = .ok (.iadd, 1) := by decide +kernel
theorem dX9_buy_47 : decode cX9_buy 47 = .ok (.iaload, 1) := by decide +kernel
theorem dX9_buy_48 : decode cX9_buy 48 = .ok (.if_icmp .ge 6, 3) := by decide +kernel
theorem dX9_buy_51 : decode cX9_buy 51 = .ok (.ldc 168, 2) := by decide +kernel
theorem dX9_buy_53 : decode cX9_buy 53 = .ok (.ireturn, 1) := by decide +kernel
theorem dX9_buy_54 : decode cX9_buy 54 = .ok (.aload_n 0, 1) := by decide +kernel
theorem dX9_buy_55 : decode cX9_buy 55 = .ok (.invokevirtual 172, 3) := by decide +kernel
theorem dX9_buy_58 : decode cX9_buy 58 = .ok (.aload_n 0, 1) := by decide +kernel
theorem dX9_buy_59 : decode cX9_buy 59 = .ok (.getfield 41, 3) := by decide +kernel
theorem dX9_buy_62 : decode cX9_buy 62 = .ok (.bipush 6, 2) := by decide +kernel
theorem dX9_buy_64 : decode cX9_buy 64 = .ok (.iconst 3, 1) := by decide +kernel
theorem dX9_buy_65 : decode cX9_buy 65 = .ok (.iload_n 1, 1) := by decide +kernel
theorem dX9_buy_66 : decode cX9_buy 66 = .ok (.imul, 1) := by decide +kernel
theorem dX9_buy_67 : decode cX9_buy 67 = .ok (.iadd, 1) := by decide +kernel
theorem dX9_buy_68 : decode cX9_buy 68 = .ok (.iload_n 2, 1) := by decide +kernel
theorem dX9_buy_69 : decode cX9_buy 69 = .ok (.iastore, 1) := by decide +kernel
theorem dX9_buy_70 : decode cX9_buy 70 = .ok (.aload_n 0, 1) := by decide +kernel
theorem dX9_buy_71 : decode cX9_buy 71 = .ok (.iload_n 1, 1) := by decide +kernel
theorem dX9_buy_72 : decode cX9_buy 72 = .ok (.iload_n 3, 1) := by decide +kernel
theorem dX9_buy_73 : decode cX9_buy 73 = .ok (.invokevirtual 160, 3) := by decide +kernel
theorem dX9_buy_76 : decode cX9_buy 76 = .ok (.aload_n 0, 1) := by decide +kernel
theorem dX9_buy_77 : decode cX9_buy 77 = .ok (.getfield 41, 3) := by decide +kernel
theorem dX9_buy_80 : decode cX9_buy 80 = .ok (.bipush 6, 2) := by decide +kernel
theorem dX9_buy_82 : decode cX9_buy 82 = .ok (.iconst 3, 1) := by decide +kernel
theorem dX9_buy_83 : decode cX9_buy 83 = .ok (.iload_n 1, 1) := by decide +kernel
theorem dX9_buy_84 : decode cX9_buy 84 = .ok (.imul, 1) := by decide +kernel
theorem dX9_buy_85 : decode cX9_buy 85 = .ok (.iadd, 1) := by decide +kernel
theorem dX9_buy_86 : decode cX9_buy 86 = .ok (.iconst 1, 1) := by decide +kernel
theorem dX9_buy_87 : decode cX9_buy 87 = .ok (.iadd, 1) := by decide +kernel
theorem dX9_buy_88 : decode cX9_buy 88 = .ok (.iaload, 1) := by decide +kernel
theorem dX9_buy_89 : decode cX9_buy 89 = .ok (.ireturn, 1) := by decide +kernel
theorem dX9_draw_0 : decode cX9_draw 0 = .ok (.aload_n 0, 1) := by decide +kernel
theorem dX9_draw_1 : decode cX9_draw 1 = .ok (.aload_n 0, 1) := by decide +kernel
theorem dX9_draw_2 : decode cX9_draw 2 = .ok (.getfield 188, 3) := by decide +kernel
theorem dX9_draw_5 : decode cX9_draw 5 = .ok (.i2l, 1) := by decide +kernel
theorem dX9_draw_6 : decode cX9_draw 6 = .ok (.ldc2_w 191, 3) := by decide +kernel
theorem dX9_draw_9 : decode cX9_draw 9 = .ok (.lmul, 1) := by decide +kernel
theorem dX9_draw_10 : decode cX9_draw 10 = .ok (.ldc2_w 193, 3) := by decide +kernel
theorem dX9_draw_13 : decode cX9_draw 13 = .ok (.ladd, 1) := by decide +kernel
theorem dX9_draw_14 : decode cX9_draw 14 = .ok (.ldc2_w 195, 3) := by decide +kernel
theorem dX9_draw_17 : decode cX9_draw 17 = .ok (.land, 1) := by decide +kernel
theorem dX9_draw_18 : decode cX9_draw 18 = .ok (.l2i, 1) := by decide +kernel
theorem dX9_draw_19 : decode cX9_draw 19 = .ok (.putfield 188, 3) := by decide +kernel
theorem dX9_draw_22 : decode cX9_draw 22 = .ok (.aload_n 0, 1) := by decide +kernel
theorem dX9_draw_23 : decode cX9_draw 23 = .ok (.getfield 188, 3) := by decide +kernel
theorem dX9_draw_26 : decode cX9_draw 26 = .ok (.ldc 197, 2) := by decide +kernel
theorem dX9_draw_28 : decode cX9_draw 28 = .ok (.idiv, 1) := by decide +kernel
theorem dX9_draw_29 : decode cX9_draw 29 = .ok (.iload_n 1, 1) := by decide +kernel
theorem dX9_draw_30 : decode cX9_draw 30 = .ok (.irem, 1) := by decide +kernel
theorem dX9_draw_31 : decode cX9_draw 31 = .ok (.ireturn, 1) := by decide +kernel
theorem dX9_drift_0 : decode cX9_drift 0 = .ok (.aload_n 0, 1) := by decide +kernel
theorem dX9_drift_1 : decode cX9_drift 1 = .ok (.iload_n 1, 1) := by decide +kernel
theorem dX9_drift_2 : decode cX9_drift 2 = .ok (.invokevirtual 169, 3) := by decide +kernel
theorem dX9_drift_5 : decode cX9_drift 5 = .ok (.istore_n 2, 1) := by decide +kernel
theorem dX9_drift_6 : decode cX9_drift 6 = .ok (.iload_n 2, 1) := by decide +kernel
theorem dX9_drift_7 : decode cX9_drift 7 = .ok (.ifCond .eq 5, 3) := by decide +kernel
theorem dX9_drift_10 : decode cX9_drift 10 = .ok (.iload_n 2, 1) := by decide +kernel
theorem dX9_drift_11 : decode cX9_drift 11 = .ok (.ireturn, 1) := by decide +kernel
theorem dX9_drift_12 : decode cX9_drift 12 = .ok (.aload_n 0, 1) := by decide +kernel
theorem dX9_drift_13 : decode cX9_drift 13 = .ok (.invokevirtual 172, 3) := by decide +kernel
theorem dX9_drift_16 : decode cX9_drift 16 = .ok (.iconst 0, 1) := by decide +kernel
theorem dX9_drift_17 : decode cX9_drift 17 = .ok (.istore_n 3, 1) := by decide +kernel
theorem dX9_drift_18 : decode cX9_drift 18 = .ok (.iload_n 3, 1) := by decide +kernel
theorem dX9_drift_19 : decode cX9_drift 19 = .ok (.iload_n 1, 1) := by decide +kernel
theorem dX9_drift_20 : decode cX9_drift 20 = .ok (.if_icmp .ge 151, 3) := by decide +kernel
theorem dX9_drift_23 : decode cX9_drift 23 = .ok (.aload_n 0, 1) := by decide +kernel
theorem dX9_drift_24 : decode cX9_drift 24 = .ok (.bipush 8, 2) := by decide +kernel
theorem dX9_drift_26 : decode cX9_drift 26 = .ok (.invokevirtual 198, 3) := by decide +kernel
theorem dX9_drift_29 : decode cX9_drift 29 = .ok (.istore 4, 2) := by decide +kernel
theorem dX9_drift_31 : decode cX9_drift 31 = .ok (.iload 4, 2) := by decide +kernel
theorem dX9_drift_33 : decode cX9_drift 33 = .ok (.ifCond .ne 53, 3) := by decide +kernel
theorem dX9_drift_36 : decode cX9_drift 36 = .ok (.aload_n 0, 1) := by decide +kernel
theorem dX9_drift_37 : decode cX9_drift 37 = .ok (.getfield 17, 3) := by decide +kernel
theorem dX9_drift_40 : decode cX9_drift 40 = .ok (.iconst 1, 1) := by decide +kernel
theorem dX9_drift_41 : decode cX9_drift 41 = .ok (.iaload, 1) := by decide +kernel
theorem dX9_drift_42 : decode cX9_drift 42 = .ok (.ifCond .le 44, 3) := by decide +kernel
theorem dX9_drift_45 : decode cX9_drift 45 = .ok (.aload_n 0, 1) := by decide +kernel
theorem dX9_drift_46 : decode cX9_drift 46 = .ok (.aload_n 0, 1) := by decide +kernel
theorem dX9_drift_47 : decode cX9_drift 47 = .ok (.getfield 17, 3) := by decide +kernel
theorem dX9_drift_50 : decode cX9_drift 50 = .ok (.iconst 1, 1) := by decide +kernel
theorem dX9_drift_51 : decode cX9_drift 51 = .ok (.iaload, 1) := by decide +kernel
theorem dX9_drift_52 : decode cX9_drift 52 = .ok (.invokevirtual 198, 3) := by decide +kernel
theorem dX9_drift_55 : decode cX9_drift 55 = .ok (.istore 5, 2) := by decide +kernel
theorem dX9_drift_57 : decode cX9_drift 57 = .ok (.aload_n 0, 1) := by decide +kernel
theorem dX9_drift_58 : decode cX9_drift 58 = .ok (.getfield 41, 3) := by decide +kernel
theorem dX9_drift_61 : decode cX9_drift 61 = .ok (.iconst 4, 1) := by decide +kernel
theorem dX9_drift_62 : decode cX9_drift 62 = .ok (.dup2, 1) := by decide +kernel
theorem dX9_drift_63 : decode cX9_drift 63 = .ok (.iaload, 1) := by decide +kernel
theorem dX9_drift_64 : decode cX9_drift 64 = .ok (.aload_n 0, 1) := by decide +kernel
theorem dX9_drift_65 : decode cX9_drift 65 = .ok (.iload 5, 2) := by decide +kernel
theorem dX9_drift_67 : decode cX9_drift 67 = .ok (.invokevirtual 178, 3) := by decide +kernel
theorem dX9_drift_70 : decode cX9_drift 70 = .ok (.ifCond .eq 10, 3) := by decide +kernel
theorem dX9_drift_73 : decode cX9_drift 73 = .ok (.iconst 1, 1) := by decide +kernel
theorem dX9_drift_74 : decode cX9_drift 74 = .ok (.iload 5, 2) := by decide +kernel
theorem dX9_drift_76 : decode cX9_drift 76 = .ok (.ishl, 1) := by decide +kernel
theorem dX9_drift_77 : decode cX9_drift 77 = .ok (.goto 4, 3) := by decide +kernel
theorem dX9_drift_80 : decode cX9_drift 80 = .ok (.iconst 0, 1) := by decide +kernel
theorem dX9_drift_81 : decode cX9_drift 81 = .ok (.ior, 1) := by decide +kernel
theorem dX9_drift_82 : decode cX9_drift 82 = .ok (.iastore, 1) := by decide +kernel
theorem dX9_drift_83 : decode cX9_drift 83 = .ok (.goto 78, 3) := by decide +kernel
theorem dX9_drift_86 : decode cX9_drift 86 = .ok (.iload 4, 2) := by decide +kernel
theorem dX9_drift_88 : decode cX9_drift 88 = .ok (.iconst 1, 1) := by decide +kernel
theorem dX9_drift_89 : decode cX9_drift 89 = .ok (.if_icmp .ne 52, 3) := by decide +kernel
theorem dX9_drift_92 : decode cX9_drift 92 = .ok (.aload_n 0, 1) := by decide +kernel
theorem dX9_drift_93 : decode cX9_drift 93 = .ok (.getfield 17, 3) := by decide +kernel
theorem dX9_drift_96 : decode cX9_drift 96 = .ok (.iconst 2, 1) := by decide +kernel
theorem dX9_drift_97 : decode cX9_drift 97 = .ok (.iaload, 1) := by decide +kernel
theorem dX9_drift_98 : decode cX9_drift 98 = .ok (.ifCond .le 43, 3) := by decide +kernel
theorem dX9_drift_101 : decode cX9_drift 101 = .ok (.aload_n 0, 1) := by decide +kernel
theorem dX9_drift_102 : decode cX9_drift 102 = .ok (.aload_n 0, 1) := by decide +kernel
theorem dX9_drift_103 : decode cX9_drift 103 = .ok (.getfield 17, 3) := by decide +kernel
theorem dX9_drift_106 : decode cX9_drift 106 = .ok (.iconst 2, 1) := by decide +kernel
theorem dX9_drift_107 : decode cX9_drift 107 = .ok (.iaload, 1) := by decide +kernel
theorem dX9_drift_108 : decode cX9_drift 108 = .ok (.invokevirtual 198, 3) := by decide +kernel
theorem dX9_drift_111 : decode cX9_drift 111 = .ok (.istore 5, 2) := by decide +kernel
theorem dX9_drift_113 : decode cX9_drift 113 = .ok (.aload_n 0, 1) := by decide +kernel
theorem dX9_drift_114 : decode cX9_drift 114 = .ok (.iload 5, 2) := by decide +kernel
theorem dX9_drift_116 : decode cX9_drift 116 = .ok (.aload_n 0, 1) := by decide +kernel
theorem dX9_drift_117 : decode cX9_drift 117 = .ok (.getfield 41, 3) := by decide +kernel
theorem dX9_drift_120 : decode cX9_drift 120 = .ok (.iconst 5, 1) := by decide +kernel
theorem dX9_drift_121 : decode cX9_drift 121 = .ok (.iaload, 1) := by decide +kernel
theorem dX9_drift_122 : decode cX9_drift 122 = .ok (.iload 5, 2) := by decide +kernel
theorem dX9_drift_124 : decode cX9_drift 124 = .ok (.invokestatic 135, 3) := by decide +kernel
theorem dX9_drift_127 : decode cX9_drift 127 = .ok (.ifCond .ne 7, 3) := by decide +kernel
theorem dX9_drift_130 : decode cX9_drift 130 = .ok (.iconst 1, 1) := by decide +kernel
theorem dX9_drift_131 : decode cX9_drift 131 = .ok (.goto 4, 3) := by decide +kernel
theorem dX9_drift_134 : decode cX9_drift 134 = .ok (.iconst 0, 1) := by decide +kernel
theorem dX9_drift_135 : decode cX9_drift 135 = .ok (.invokevirtual 181, 3) := by decide +kernel
theorem dX9_drift_138 : decode cX9_drift 138 = .ok (.goto 23, 3) := by decide +kernel
theorem dX9_drift_141 : decode cX9_drift 141 = .ok (.iload 4, 2) := by decide +kernel
theorem dX9_drift_143 : decode cX9_drift 143 = .ok (.iconst 2, 1) := by decide +kernel
theorem dX9_drift_144 : decode cX9_drift 144 = .ok (.if_icmp .ne 17, 3) := by decide +kernel
theorem dX9_drift_147 : decode cX9_drift 147 = .ok (.aload_n 0, 1) := by decide +kernel
theorem dX9_drift_148 : decode cX9_drift 148 = .ok (.getfield 41, 3) := by decide +kernel
theorem dX9_drift_151 : decode cX9_drift 151 = .ok (.iconst 3, 1) := by decide +kernel
theorem dX9_drift_152 : decode cX9_drift 152 = .ok (.iconst 1, 1) := by decide +kernel
theorem dX9_drift_153 : decode cX9_drift 153 = .ok (.aload_n 0, 1) := by decide +kernel
theorem dX9_drift_154 : decode cX9_drift 154 = .ok (.getfield 41, 3) := by decide +kernel
theorem dX9_drift_157 : decode cX9_drift 157 = .ok (.iconst 3, 1) := by decide +kernel
theorem dX9_drift_158 : decode cX9_drift 158 = .ok (.iaload, 1) := by decide +kernel
theorem dX9_drift_159 : decode cX9_drift 159 = .ok (.isub, 1) := by decide +kernel
theorem dX9_drift_160 : decode cX9_drift 160 = .ok (.iastore, 1) := by decide +kernel
theorem dX9_drift_161 : decode cX9_drift 161 = .ok (.aload_n 0, 1) := by decide +kernel
theorem dX9_drift_162 : decode cX9_drift 162 = .ok (.invokevirtual 175, 3) := by decide +kernel
theorem dX9_drift_165 : decode cX9_drift 165 = .ok (.iinc 3 1, 3) := by decide +kernel
theorem dX9_drift_168 : decode cX9_drift 168 = .ok (.goto (-150), 3) := by decide +kernel
theorem dX9_drift_171 : decode cX9_drift 171 = .ok (.aload_n 0, 1) := by decide +kernel
theorem dX9_drift_172 : decode cX9_drift 172 = .ok (.aload_n 0, 1) := by decide +kernel
theorem dX9_drift_173 : decode cX9_drift 173 = .ok (.getfield 41, 3) := by decide +kernel
theorem dX9_drift_176 : decode cX9_drift 176 = .ok (.iconst 4, 1) := by decide +kernel
theorem dX9_drift_177 : decode cX9_drift 177 = .ok (.iaload, 1) := by decide +kernel
theorem dX9_drift_178 : decode cX9_drift 178 = .ok (.invokevirtual 140, 3) := by decide +kernel
theorem dX9_drift_181 : decode cX9_drift 181 = .ok (.ireturn, 1) := by decide +kernel
theorem dX9_undo_0 : decode cX9_undo 0 = .ok (.aload_n 0, 1) := by decide +kernel
theorem dX9_undo_1 : decode cX9_undo 1 = .ok (.getfield 126, 3) := by decide +kernel
theorem dX9_undo_4 : decode cX9_undo 4 = .ok (.ifCond .ne 6, 3) := by decide +kernel
theorem dX9_undo_7 : decode cX9_undo 7 = .ok (.ldc 168, 2) := by decide +kernel
theorem dX9_undo_9 : decode cX9_undo 9 = .ok (.ireturn, 1) := by decide +kernel
theorem dX9_undo_10 : decode cX9_undo 10 = .ok (.aload_n 0, 1) := by decide +kernel
theorem dX9_undo_11 : decode cX9_undo 11 = .ok (.dup, 1) := by decide +kernel
theorem dX9_undo_12 : decode cX9_undo 12 = .ok (.getfield 126, 3) := by decide +kernel
theorem dX9_undo_15 : decode cX9_undo 15 = .ok (.iconst 1, 1) := by decide +kernel
theorem dX9_undo_16 : decode cX9_undo 16 = .ok (.isub, 1) := by decide +kernel
theorem dX9_undo_17 : decode cX9_undo 17 = .ok (.putfield 126, 3) := by decide +kernel
theorem dX9_undo_20 : decode cX9_undo 20 = .ok (.aload_n 0, 1) := by decide +kernel
theorem dX9_undo_21 : decode cX9_undo 21 = .ok (.getfield 44, 3) := by decide +kernel
theorem dX9_undo_24 : decode cX9_undo 24 = .ok (.bipush 21, 2) := by decide +kernel
theorem dX9_undo_26 : decode cX9_undo 26 = .ok (.aload_n 0, 1) := by decide +kernel
theorem dX9_undo_27 : decode cX9_undo 27 = .ok (.getfield 126, 3) := by decide +kernel
theorem dX9_undo_30 : decode cX9_undo 30 = .ok (.imul, 1) := by decide +kernel
theorem dX9_undo_31 : decode cX9_undo 31 = .ok (.aload_n 0, 1) := by decide +kernel
theorem dX9_undo_32 : decode cX9_undo 32 = .ok (.getfield 41, 3) := by decide +kernel
theorem dX9_undo_35 : decode cX9_undo 35 = .ok (.iconst 0, 1) := by decide +kernel
theorem dX9_undo_36 : decode cX9_undo 36 = .ok (.bipush 21, 2) := by decide +kernel
theorem dX9_undo_38 : decode cX9_undo 38 = .ok (.invokestatic 122, 3) := by decide +kernel
theorem dX9_undo_41 : decode cX9_undo 41 = .ok (.aload_n 0, 1) := by decide +kernel
theorem dX9_undo_42 : decode cX9_undo 42 = .ok (.getfield 126, 3) := by decide +kernel
theorem dX9_undo_45 : decode cX9_undo 45 = .ok (.ireturn, 1) := by decide +kernel
theorem dX9_likelyIn_0 : decode cX9_likelyIn 0 = .ok (.iconst 0, 1) := by decide +kernel
theorem dX9_likelyIn_1 : decode cX9_likelyIn 1 = .ok (.istore_n 2, 1) := by decide +kernel
theorem dX9_likelyIn_2 : decode cX9_likelyIn 2 = .ok (.iconst 0, 1) := by decide +kernel
theorem dX9_likelyIn_3 : decode cX9_likelyIn 3 = .ok (.istore_n 3, 1) := by decide +kernel
theorem dX9_likelyIn_4 : decode cX9_likelyIn 4 = .ok (.iload_n 3, 1) := by decide +kernel
theorem dX9_likelyIn_5 : decode cX9_likelyIn 5 = .ok (.aload_n 0, 1) := by decide +kernel
theorem dX9_likelyIn_6 : decode cX9_likelyIn 6 = .ok (.getfield 17, 3) := by decide +kernel
theorem dX9_likelyIn_9 : decode cX9_likelyIn 9 = .ok (.iconst 0, 1) := by decide +kernel
theorem dX9_likelyIn_10 : decode cX9_likelyIn 10 = .ok (.iaload, 1) := by decide +kernel
theorem dX9_likelyIn_11 : decode cX9_likelyIn 11 = .ok (.if_icmp .ge 30, 3) := by decide +kernel
theorem dX9_likelyIn_14 : decode cX9_likelyIn 14 = .ok (.iload_n 2, 1) := by decide +kernel
theorem dX9_likelyIn_15 : decode cX9_likelyIn 15 = .ok (.iload_n 1, 1) := by decide +kernel
theorem dX9_likelyIn_16 : decode cX9_likelyIn 16 = .ok (.iload_n 3, 1) := by decide +kernel
theorem dX9_likelyIn_17 : decode cX9_likelyIn 17 = .ok (.invokestatic 135, 3) := by decide +kernel
theorem dX9_likelyIn_20 : decode cX9_likelyIn 20 = .ok (.ifCond .eq 12, 3) := by decide +kernel
theorem dX9_likelyIn_23 : decode cX9_likelyIn 23 = .ok (.aload_n 0, 1) := by decide +kernel
theorem dX9_likelyIn_24 : decode cX9_likelyIn 24 = .ok (.getfield 20, 3) := by decide +kernel
theorem dX9_likelyIn_27 : decode cX9_likelyIn 27 = .ok (.iload_n 3, 1) := by decide +kernel
theorem dX9_likelyIn_28 : decode cX9_likelyIn 28 = .ok (.iaload, 1) := by decide +kernel
theorem dX9_likelyIn_29 : decode cX9_likelyIn 29 = .ok (.goto 4, 3) := by decide +kernel
theorem dX9_likelyIn_32 : decode cX9_likelyIn 32 = .ok (.iconst 0, 1) := by decide +kernel
theorem dX9_likelyIn_33 : decode cX9_likelyIn 33 = .ok (.iadd, 1) := by decide +kernel
theorem dX9_likelyIn_34 : decode cX9_likelyIn 34 = .ok (.istore_n 2, 1) := by decide +kernel
theorem dX9_likelyIn_35 : decode cX9_likelyIn 35 = .ok (.iinc 3 1, 3) := by decide +kernel
theorem dX9_likelyIn_38 : decode cX9_likelyIn 38 = .ok (.goto (-34), 3) := by decide +kernel
theorem dX9_likelyIn_41 : decode cX9_likelyIn 41 = .ok (.iload_n 2, 1) := by decide +kernel
theorem dX9_likelyIn_42 : decode cX9_likelyIn 42 = .ok (.ireturn, 1) := by decide +kernel
theorem dX9_beliefBy_0 : decode cX9_beliefBy 0 = .ok (.iload_n 2, 1) := by decide +kernel
theorem dX9_beliefBy_1 : decode cX9_beliefBy 1 = .ok (.iload_n 1, 1) := by decide +kernel
theorem dX9_beliefBy_2 : decode cX9_beliefBy 2 = .ok (.invokestatic 135, 3) := by decide +kernel
theorem dX9_beliefBy_5 : decode cX9_beliefBy 5 = .ok (.ifCond .eq 25, 3) := by decide +kernel
theorem dX9_beliefBy_8 : decode cX9_beliefBy 8 = .ok (.ldc2_w 201, 3) := by decide +kernel
theorem dX9_beliefBy_11 : decode cX9_beliefBy 11 = .ok (.aload_n 0, 1) := by decide +kernel
theorem dX9_beliefBy_12 : decode cX9_beliefBy 12 = .ok (.getfield 20, 3) := by decide +kernel
theorem dX9_beliefBy_15 : decode cX9_beliefBy 15 = .ok (.iload_n 1, 1) := by decide +kernel
theorem dX9_beliefBy_16 : decode cX9_beliefBy 16 = .ok (.iaload, 1) := by decide +kernel
theorem dX9_beliefBy_17 : decode cX9_beliefBy 17 = .ok (.i2l, 1) := by decide +kernel
theorem dX9_beliefBy_18 : decode cX9_beliefBy 18 = .ok (.lmul, 1) := by decide +kernel
theorem dX9_beliefBy_19 : decode cX9_beliefBy 19 = .ok (.aload_n 0, 1) := by decide +kernel
theorem dX9_beliefBy_20 : decode cX9_beliefBy 20 = .ok (.iload_n 2, 1) := by decide +kernel
theorem dX9_beliefBy_21 : decode cX9_beliefBy 21 = .ok (.invokevirtual 203, 3) := by decide +kernel
theorem dX9_beliefBy_24 : decode cX9_beliefBy 24 = .ok (.i2l, 1) := by decide +kernel
theorem dX9_beliefBy_25 : decode cX9_beliefBy 25 = .ok (.ldiv, 1) := by decide +kernel
theorem dX9_beliefBy_26 : decode cX9_beliefBy 26 = .ok (.l2i, 1) := by decide +kernel
theorem dX9_beliefBy_27 : decode cX9_beliefBy 27 = .ok (.goto 4, 3) := by decide +kernel
theorem dX9_beliefBy_30 : decode cX9_beliefBy 30 = .ok (.iconst 0, 1) := by decide +kernel
theorem dX9_beliefBy_31 : decode cX9_beliefBy 31 = .ok (.ireturn, 1) := by decide +kernel
theorem dX9_belief_0 : decode cX9_belief 0 = .ok (.aload_n 0, 1) := by decide +kernel
theorem dX9_belief_1 : decode cX9_belief 1 = .ok (.iload_n 1, 1) := by decide +kernel
theorem dX9_belief_2 : decode cX9_belief 2 = .ok (.invokevirtual 149, 3) := by decide +kernel
theorem dX9_belief_5 : decode cX9_belief 5 = .ok (.ifCond .eq 21, 3) := by decide +kernel
theorem dX9_belief_8 : decode cX9_belief 8 = .ok (.aload_n 0, 1) := by decide +kernel
theorem dX9_belief_9 : decode cX9_belief 9 = .ok (.iload_n 1, 1) := by decide +kernel
theorem dX9_belief_10 : decode cX9_belief 10 = .ok (.aload_n 0, 1) := by decide +kernel
theorem dX9_belief_11 : decode cX9_belief 11 = .ok (.aload_n 0, 1) := by decide +kernel
theorem dX9_belief_12 : decode cX9_belief 12 = .ok (.getfield 41, 3) := by decide +kernel
theorem dX9_belief_15 : decode cX9_belief 15 = .ok (.iconst 4, 1) := by decide +kernel
theorem dX9_belief_16 : decode cX9_belief 16 = .ok (.iaload, 1) := by decide +kernel
theorem dX9_belief_17 : decode cX9_belief 17 = .ok (.invokevirtual 140, 3) := by decide +kernel
theorem dX9_belief_20 : decode cX9_belief 20 = .ok (.invokevirtual 206, 3) := by decide +kernel
theorem dX9_belief_23 : decode cX9_belief 23 = .ok (.goto 5, 3) := by decide +kernel
theorem dX9_belief_26 : decode cX9_belief 26 = .ok (.ldc 153, 2) := by decide +kernel
theorem dX9_belief_28 : decode cX9_belief 28 = .ok (.ireturn, 1) := by decide +kernel
theorem dX9_liarsBy_0 : decode cX9_liarsBy 0 = .ok (.iconst 0, 1) := by decide +kernel
theorem dX9_liarsBy_1 : decode cX9_liarsBy 1 = .ok (.istore_n 2, 1) := by decide +kernel
theorem dX9_liarsBy_2 : decode cX9_liarsBy 2 = .ok (.iconst 0, 1) := by decide +kernel
theorem dX9_liarsBy_3 : decode cX9_liarsBy 3 = .ok (.istore_n 3, 1) := by decide +kernel
theorem dX9_liarsBy_4 : decode cX9_liarsBy 4 = .ok (.iload_n 3, 1) := by decide +kernel
theorem dX9_liarsBy_5 : decode cX9_liarsBy 5 = .ok (.aload_n 0, 1) := by decide +kernel
theorem dX9_liarsBy_6 : decode cX9_liarsBy 6 = .ok (.getfield 17, 3) := by decide +kernel
theorem dX9_liarsBy_9 : decode cX9_liarsBy 9 = .ok (.iconst 2, 1) := by decide +kernel
theorem dX9_liarsBy_10 : decode cX9_liarsBy 10 = .ok (.iaload, 1) := by decide +kernel
theorem dX9_liarsBy_11 : decode cX9_liarsBy 11 = .ok (.if_icmp .ge 37, 3) := by decide +kernel
theorem dX9_liarsBy_14 : decode cX9_liarsBy 14 = .ok (.iload_n 2, 1) := by decide +kernel
theorem dX9_liarsBy_15 : decode cX9_liarsBy 15 = .ok (.aload_n 0, 1) := by decide +kernel
theorem dX9_liarsBy_16 : decode cX9_liarsBy 16 = .ok (.getfield 41, 3) := by decide +kernel
theorem dX9_liarsBy_19 : decode cX9_liarsBy 19 = .ok (.bipush 6, 2) := by decide +kernel
theorem dX9_liarsBy_21 : decode cX9_liarsBy 21 = .ok (.iconst 3, 1) := by decide +kernel
theorem dX9_liarsBy_22 : decode cX9_liarsBy 22 = .ok (.iload_n 3, 1) := by decide +kernel
theorem dX9_liarsBy_23 : decode cX9_liarsBy 23 = .ok (.imul, 1) := by decide +kernel
theorem dX9_liarsBy_24 : decode cX9_liarsBy 24 = .ok (.iadd, 1) := by decide +kernel
theorem dX9_liarsBy_25 : decode cX9_liarsBy 25 = .ok (.iaload, 1) := by decide +kernel
theorem dX9_liarsBy_26 : decode cX9_liarsBy 26 = .ok (.iload_n 1, 1) := by decide +kernel
theorem dX9_liarsBy_27 : decode cX9_liarsBy 27 = .ok (.invokestatic 135, 3) := by decide +kernel
theorem dX9_liarsBy_30 : decode cX9_liarsBy 30 = .ok (.ifCond .eq 7, 3) := by decide +kernel
theorem dX9_liarsBy_33 : decode cX9_liarsBy 33 = .ok (.iconst 0, 1) := by decide +kernel
theorem dX9_liarsBy_34 : decode cX9_liarsBy 34 = .ok (.goto 6, 3) := by decide +kernel
theorem dX9_liarsBy_37 : decode cX9_liarsBy 37 = .ok (.iconst 1, 1) := by decide +kernel
theorem dX9_liarsBy_38 : decode cX9_liarsBy 38 = .ok (.iload_n 3, 1) := by decide +kernel
theorem dX9_liarsBy_39 : decode cX9_liarsBy 39 = .ok (.ishl, 1) := by decide +kernel
theorem dX9_liarsBy_40 : decode cX9_liarsBy 40 = .ok (.ior, 1) := by decide +kernel
theorem dX9_liarsBy_41 : decode cX9_liarsBy 41 = .ok (.istore_n 2, 1) := by decide +kernel
theorem dX9_liarsBy_42 : decode cX9_liarsBy 42 = .ok (.iinc 3 1, 3) := by decide +kernel
theorem dX9_liarsBy_45 : decode cX9_liarsBy 45 = .ok (.goto (-41), 3) := by decide +kernel
theorem dX9_liarsBy_48 : decode cX9_liarsBy 48 = .ok (.iload_n 2, 1) := by decide +kernel
theorem dX9_liarsBy_49 : decode cX9_liarsBy 49 = .ok (.ireturn, 1) := by decide +kernel
theorem dX9_liars_0 : decode cX9_liars 0 = .ok (.aload_n 0, 1) := by decide +kernel
theorem dX9_liars_1 : decode cX9_liars 1 = .ok (.iload_n 1, 1) := by decide +kernel
theorem dX9_liars_2 : decode cX9_liars 2 = .ok (.invokevirtual 149, 3) := by decide +kernel
theorem dX9_liars_5 : decode cX9_liars 5 = .ok (.ifCond .eq 11, 3) := by decide +kernel
theorem dX9_liars_8 : decode cX9_liars 8 = .ok (.aload_n 0, 1) := by decide +kernel
theorem dX9_liars_9 : decode cX9_liars 9 = .ok (.iload_n 1, 1) := by decide +kernel
theorem dX9_liars_10 : decode cX9_liars 10 = .ok (.invokevirtual 209, 3) := by decide +kernel
theorem dX9_liars_13 : decode cX9_liars 13 = .ok (.goto 5, 3) := by decide +kernel
theorem dX9_liars_16 : decode cX9_liars 16 = .ok (.ldc 153, 2) := by decide +kernel
theorem dX9_liars_18 : decode cX9_liars 18 = .ok (.ireturn, 1) := by decide +kernel
theorem dX9_leastLiars_0 : decode cX9_leastLiars 0 = .ok (.iload_n 1, 1) := by decide +kernel
theorem dX9_leastLiars_1 : decode cX9_leastLiars 1 = .ok (.iconst 0, 1) := by decide +kernel
theorem dX9_leastLiars_2 : decode cX9_leastLiars 2 = .ok (.iconst 1, 1) := by decide +kernel
theorem dX9_leastLiars_3 : decode cX9_leastLiars 3 = .ok (.invokestatic 63, 3) := by decide +kernel
theorem dX9_leastLiars_6 : decode cX9_leastLiars 6 = .ok (.ifCond .ne 6, 3) := by decide +kernel
theorem dX9_leastLiars_9 : decode cX9_leastLiars 9 = .ok (.ldc 67, 2) := by decide +kernel
theorem dX9_leastLiars_11 : decode cX9_leastLiars 11 = .ok (.ireturn, 1) := by decide +kernel
theorem dX9_leastLiars_12 : decode cX9_leastLiars 12 = .ok (.aload_n 0, 1) := by decide +kernel
theorem dX9_leastLiars_13 : decode cX9_leastLiars 13 = .ok (.invokevirtual 164, 3) := by decide +kernel
theorem dX9_leastLiars_16 : decode cX9_leastLiars 16 = .ok (.ifCond .ne 6, 3) := by decide +kernel
theorem dX9_leastLiars_19 : decode cX9_leastLiars 19 = .ok (.ldc 168, 2) := by decide +kernel
theorem dX9_leastLiars_21 : decode cX9_leastLiars 21 = .ok (.ireturn, 1) := by decide +kernel
theorem dX9_leastLiars_22 : decode cX9_leastLiars 22 = .ok (.aload_n 0, 1) := by decide +kernel
theorem dX9_leastLiars_23 : decode cX9_leastLiars 23 = .ok (.aload_n 0, 1) := by decide +kernel
theorem dX9_leastLiars_24 : decode cX9_leastLiars 24 = .ok (.getfield 41, 3) := by decide +kernel
theorem dX9_leastLiars_27 : decode cX9_leastLiars 27 = .ok (.iconst 4, 1) := by decide +kernel
theorem dX9_leastLiars_28 : decode cX9_leastLiars 28 = .ok (.iaload, 1) := by decide +kernel
theorem dX9_leastLiars_29 : decode cX9_leastLiars 29 = .ok (.invokevirtual 140, 3) := by decide +kernel
theorem dX9_leastLiars_32 : decode cX9_leastLiars 32 = .ok (.istore_n 2, 1) := by decide +kernel
theorem dX9_leastLiars_33 : decode cX9_leastLiars 33 = .ok (.iconst 0, 1) := by decide +kernel
theorem dX9_leastLiars_34 : decode cX9_leastLiars 34 = .ok (.istore_n 3, 1) := by decide +kernel
theorem dX9_leastLiars_35 : decode cX9_leastLiars 35 = .ok (.iconst 1, 1) := by decide +kernel
theorem dX9_leastLiars_36 : decode cX9_leastLiars 36 = .ok (.istore 4, 2) := by decide +kernel
theorem dX9_leastLiars_38 : decode cX9_leastLiars 38 = .ok (.iload 4, 2) := by decide +kernel
theorem dX9_leastLiars_40 : decode cX9_leastLiars 40 = .ok (.aload_n 0, 1) := by decide +kernel
theorem dX9_leastLiars_41 : decode cX9_leastLiars 41 = .ok (.getfield 17, 3) := by decide +kernel
theorem dX9_leastLiars_44 : decode cX9_leastLiars 44 = .ok (.iconst 0, 1) := by decide +kernel
theorem dX9_leastLiars_45 : decode cX9_leastLiars 45 = .ok (.iaload, 1) := by decide +kernel
theorem dX9_leastLiars_46 : decode cX9_leastLiars 46 = .ok (.if_icmp .ge 45, 3) := by decide +kernel
theorem dX9_leastLiars_49 : decode cX9_leastLiars 49 = .ok (.iload_n 2, 1) := by decide +kernel
theorem dX9_leastLiars_50 : decode cX9_leastLiars 50 = .ok (.iload 4, 2) := by decide +kernel
theorem dX9_leastLiars_52 : decode cX9_leastLiars 52 = .ok (.invokestatic 135, 3) := by decide +kernel
theorem dX9_leastLiars_55 : decode cX9_leastLiars 55 = .ok (.ifCond .eq 28, 3) := by decide +kernel
theorem dX9_leastLiars_58 : decode cX9_leastLiars 58 = .ok (.aload_n 0, 1) := by decide +kernel
theorem dX9_leastLiars_59 : decode cX9_leastLiars 59 = .ok (.iload 4, 2) := by decide +kernel
theorem dX9_leastLiars_61 : decode cX9_leastLiars 61 = .ok (.invokevirtual 209, 3) := by decide +kernel
theorem dX9_leastLiars_64 : decode cX9_leastLiars 64 = .ok (.invokestatic 212, 3) := by decide +kernel
theorem dX9_leastLiars_67 : decode cX9_leastLiars 67 = .ok (.aload_n 0, 1) := by decide +kernel
theorem dX9_leastLiars_68 : decode cX9_leastLiars 68 = .ok (.iload_n 3, 1) := by decide +kernel
theorem dX9_leastLiars_69 : decode cX9_leastLiars 69 = .ok (.invokevirtual 209, 3) := by decide +kernel
theorem dX9_leastLiars_72 : decode cX9_leastLiars 72 = .ok (.invokestatic 212, 3) := by decide +kernel
theorem dX9_leastLiars_75 : decode cX9_leastLiars 75 = .ok (.if_icmp .ge 8, 3) := by decide +kernel
theorem dX9_leastLiars_78 : decode cX9_leastLiars 78 = .ok (.iload 4, 2) := by decide +kernel
theorem dX9_leastLiars_80 : decode cX9_leastLiars 80 = .ok (.goto 4, 3) := by decide +kernel
theorem dX9_leastLiars_83 : decode cX9_leastLiars 83 = .ok (.iload_n 3, 1) := by decide +kernel
theorem dX9_leastLiars_84 : decode cX9_leastLiars 84 = .ok (.istore_n 3, 1) := by decide +kernel
theorem dX9_leastLiars_85 : decode cX9_leastLiars 85 = .ok (.iinc 4 1, 3) := by decide +kernel
theorem dX9_leastLiars_88 : decode cX9_leastLiars 88 = .ok (.goto (-50), 3) := by decide +kernel
theorem dX9_leastLiars_91 : decode cX9_leastLiars 91 = .ok (.iload_n 1, 1) := by decide +kernel
theorem dX9_leastLiars_92 : decode cX9_leastLiars 92 = .ok (.ifCond .ne 7, 3) := by decide +kernel
theorem dX9_leastLiars_95 : decode cX9_leastLiars 95 = .ok (.iload_n 3, 1) := by decide +kernel
theorem dX9_leastLiars_96 : decode cX9_leastLiars 96 = .ok (.goto 11, 3) := by decide +kernel
theorem dX9_leastLiars_99 : decode cX9_leastLiars 99 = .ok (.aload_n 0, 1) := by decide +kernel
theorem dX9_leastLiars_100 : decode cX9_leastLiars 100 = .ok (.iload_n 3, 1) := by decide +kernel
theorem dX9_leastLiars_101 : decode cX9_leastLiars 101 = .ok (.invokevirtual 209, 3) := by decide +kernel
theorem dX9_leastLiars_104 : decode cX9_leastLiars 104 = .ok (.invokestatic 212, 3) := by decide +kernel
theorem dX9_leastLiars_107 : decode cX9_leastLiars 107 = .ok (.ireturn, 1) := by decide +kernel
theorem dX9_costOf_0 : decode cX9_costOf 0 = .ok (.iconst 0, 1) := by decide +kernel
theorem dX9_costOf_1 : decode cX9_costOf 1 = .ok (.istore_n 2, 1) := by decide +kernel
theorem dX9_costOf_2 : decode cX9_costOf 2 = .ok (.iconst 0, 1) := by decide +kernel
theorem dX9_costOf_3 : decode cX9_costOf 3 = .ok (.istore_n 3, 1) := by decide +kernel
theorem dX9_costOf_4 : decode cX9_costOf 4 = .ok (.iload_n 3, 1) := by decide +kernel
theorem dX9_costOf_5 : decode cX9_costOf 5 = .ok (.aload_n 0, 1) := by decide +kernel
theorem dX9_costOf_6 : decode cX9_costOf 6 = .ok (.getfield 17, 3) := by decide +kernel
theorem dX9_costOf_9 : decode cX9_costOf 9 = .ok (.iconst 1, 1) := by decide +kernel
theorem dX9_costOf_10 : decode cX9_costOf 10 = .ok (.iaload, 1) := by decide +kernel
theorem dX9_costOf_11 : decode cX9_costOf 11 = .ok (.if_icmp .ge 43, 3) := by decide +kernel
theorem dX9_costOf_14 : decode cX9_costOf 14 = .ok (.iload_n 2, 1) := by decide +kernel
theorem dX9_costOf_15 : decode cX9_costOf 15 = .ok (.iload_n 1, 1) := by decide +kernel
theorem dX9_costOf_16 : decode cX9_costOf 16 = .ok (.aload_n 0, 1) := by decide +kernel
theorem dX9_costOf_17 : decode cX9_costOf 17 = .ok (.getfield 41, 3) := by decide +kernel
theorem dX9_costOf_20 : decode cX9_costOf 20 = .ok (.iconst 4, 1) := by decide +kernel
theorem dX9_costOf_21 : decode cX9_costOf 21 = .ok (.iaload, 1) := by decide +kernel
theorem dX9_costOf_22 : decode cX9_costOf 22 = .ok (.iconst (-1), 1) := by decide +kernel
theorem dX9_costOf_23 : decode cX9_costOf 23 = .ok (.ixor, 1) := by decide +kernel
theorem dX9_costOf_24 : decode cX9_costOf 24 = .ok (.iand, 1) := by decide +kernel
theorem dX9_costOf_25 : decode cX9_costOf 25 = .ok (.iload_n 3, 1) := by decide +kernel
theorem dX9_costOf_26 : decode cX9_costOf 26 = .ok (.invokestatic 135, 3) := by decide +kernel
theorem dX9_costOf_29 : decode cX9_costOf 29 = .ok (.ifCond .eq 16, 3) := by decide +kernel
theorem dX9_costOf_32 : decode cX9_costOf 32 = .ok (.aload_n 0, 1) := by decide +kernel
theorem dX9_costOf_33 : decode cX9_costOf 33 = .ok (.getfield 23, 3) := by decide +kernel
theorem dX9_costOf_36 : decode cX9_costOf 36 = .ok (.iconst 3, 1) := by decide +kernel
theorem dX9_costOf_37 : decode cX9_costOf 37 = .ok (.iload_n 3, 1) := by decide +kernel
theorem dX9_costOf_38 : decode cX9_costOf 38 = .ok (.imul, 1) := by decide +kernel
theorem dX9_costOf_39 : decode cX9_costOf 39 = .ok (.iconst 2, 1) := by decide +kernel
theorem dX9_costOf_40 : decode cX9_costOf 40 = .ok (.iadd, 1) := by decide +kernel
theorem dX9_costOf_41 : decode cX9_costOf 41 = .ok (.iaload, 1) := by decide +kernel
theorem dX9_costOf_42 : decode cX9_costOf 42 = .ok (.goto 4, 3) := by decide +kernel
theorem dX9_costOf_45 : decode cX9_costOf 45 = .ok (.iconst 0, 1) := by decide +kernel
theorem dX9_costOf_46 : decode cX9_costOf 46 = .ok (.iadd, 1) := by decide +kernel
theorem dX9_costOf_47 : decode cX9_costOf 47 = .ok (.istore_n 2, 1) := by decide +kernel
theorem dX9_costOf_48 : decode cX9_costOf 48 = .ok (.iinc 3 1, 3) := by decide +kernel
theorem dX9_costOf_51 : decode cX9_costOf 51 = .ok (.goto (-47), 3) := by decide +kernel
theorem dX9_costOf_54 : decode cX9_costOf 54 = .ok (.iload_n 2, 1) := by decide +kernel
theorem dX9_costOf_55 : decode cX9_costOf 55 = .ok (.ireturn, 1) := by decide +kernel
theorem dX9_ruleOut_0 : decode cX9_ruleOut 0 = .ok (.aload_n 0, 1) := by decide +kernel
theorem dX9_ruleOut_1 : decode cX9_ruleOut 1 = .ok (.iload_n 1, 1) := by decide +kernel
theorem dX9_ruleOut_2 : decode cX9_ruleOut 2 = .ok (.invokevirtual 185, 3) := by decide +kernel
theorem dX9_ruleOut_5 : decode cX9_ruleOut 5 = .ok (.ifCond .eq 21, 3) := by decide +kernel
theorem dX9_ruleOut_8 : decode cX9_ruleOut 8 = .ok (.iload_n 1, 1) := by decide +kernel
theorem dX9_ruleOut_9 : decode cX9_ruleOut 9 = .ok (.iconst 0, 1) := by decide +kernel
theorem dX9_ruleOut_10 : decode cX9_ruleOut 10 = .ok (.invokestatic 135, 3) := by decide +kernel
theorem dX9_ruleOut_13 : decode cX9_ruleOut 13 = .ok (.ifCond .ne 13, 3) := by decide +kernel
theorem dX9_ruleOut_16 : decode cX9_ruleOut 16 = .ok (.iload_n 2, 1) := by decide +kernel
theorem dX9_ruleOut_17 : decode cX9_ruleOut 17 = .ok (.iconst 0, 1) := by decide +kernel
theorem dX9_ruleOut_18 : decode cX9_ruleOut 18 = .ok (.bipush 63, 2) := by decide +kernel
theorem dX9_ruleOut_20 : decode cX9_ruleOut 20 = .ok (.invokestatic 63, 3) := by decide +kernel
theorem dX9_ruleOut_23 : decode cX9_ruleOut 23 = .ok (.ifCond .ne 6, 3) := by decide +kernel
theorem dX9_ruleOut_26 : decode cX9_ruleOut 26 = .ok (.ldc 153, 2) := by decide +kernel
theorem dX9_ruleOut_28 : decode cX9_ruleOut 28 = .ok (.ireturn, 1) := by decide +kernel
theorem dX9_ruleOut_29 : decode cX9_ruleOut 29 = .ok (.iload_n 3, 1) := by decide +kernel
theorem dX9_ruleOut_30 : decode cX9_ruleOut 30 = .ok (.iconst 0, 1) := by decide +kernel
theorem dX9_ruleOut_31 : decode cX9_ruleOut 31 = .ok (.iconst 1, 1) := by decide +kernel
theorem dX9_ruleOut_32 : decode cX9_ruleOut 32 = .ok (.invokestatic 63, 3) := by decide +kernel
theorem dX9_ruleOut_35 : decode cX9_ruleOut 35 = .ok (.ifCond .ne 6, 3) := by decide +kernel
theorem dX9_ruleOut_38 : decode cX9_ruleOut 38 = .ok (.ldc 67, 2) := by decide +kernel
theorem dX9_ruleOut_40 : decode cX9_ruleOut 40 = .ok (.ireturn, 1) := by decide +kernel
theorem dX9_ruleOut_41 : decode cX9_ruleOut 41 = .ok (.iconst (-1), 1) := by decide +kernel
theorem dX9_ruleOut_42 : decode cX9_ruleOut 42 = .ok (.istore 4, 2) := by decide +kernel
theorem dX9_ruleOut_44 : decode cX9_ruleOut 44 = .ok (.iconst 0, 1) := by decide +kernel
theorem dX9_ruleOut_45 : decode cX9_ruleOut 45 = .ok (.istore 5, 2) := by decide +kernel
theorem dX9_ruleOut_47 : decode cX9_ruleOut 47 = .ok (.iload 5, 2) := by decide +kernel
theorem dX9_ruleOut_49 : decode cX9_ruleOut 49 = .ok (.iconst 1, 1) := by decide +kernel
theorem dX9_ruleOut_50 : decode cX9_ruleOut 50 = .ok (.aload_n 0, 1) := by decide +kernel
theorem dX9_ruleOut_51 : decode cX9_ruleOut 51 = .ok (.getfield 17, 3) := by decide +kernel
theorem dX9_ruleOut_54 : decode cX9_ruleOut 54 = .ok (.iconst 1, 1) := by decide +kernel
theorem dX9_ruleOut_55 : decode cX9_ruleOut 55 = .ok (.iaload, 1) := by decide +kernel
theorem dX9_ruleOut_56 : decode cX9_ruleOut 56 = .ok (.ishl, 1) := by decide +kernel
theorem dX9_ruleOut_57 : decode cX9_ruleOut 57 = .ok (.if_icmp .ge 75, 3) := by decide +kernel
theorem dX9_ruleOut_60 : decode cX9_ruleOut 60 = .ok (.aload_n 0, 1) := by decide +kernel
theorem dX9_ruleOut_61 : decode cX9_ruleOut 61 = .ok (.iload 5, 2) := by decide +kernel
theorem dX9_ruleOut_63 : decode cX9_ruleOut 63 = .ok (.invokevirtual 140, 3) := by decide +kernel
theorem dX9_ruleOut_66 : decode cX9_ruleOut 66 = .ok (.iload_n 1, 1) := by decide +kernel
theorem dX9_ruleOut_67 : decode cX9_ruleOut 67 = .ok (.iand, 1) := by decide +kernel
theorem dX9_ruleOut_68 : decode cX9_ruleOut 68 = .ok (.ifCond .ne 20, 3) := by decide +kernel
theorem dX9_ruleOut_71 : decode cX9_ruleOut 71 = .ok (.aload_n 0, 1) := by decide +kernel
theorem dX9_ruleOut_72 : decode cX9_ruleOut 72 = .ok (.iload 5, 2) := by decide +kernel
theorem dX9_ruleOut_74 : decode cX9_ruleOut 74 = .ok (.invokevirtual 143, 3) := by decide +kernel
theorem dX9_ruleOut_77 : decode cX9_ruleOut 77 = .ok (.iload_n 2, 1) := by decide +kernel
theorem dX9_ruleOut_78 : decode cX9_ruleOut 78 = .ok (.iconst (-1), 1) := by decide +kernel
theorem dX9_ruleOut_79 : decode cX9_ruleOut 79 = .ok (.ixor, 1) := by decide +kernel
theorem dX9_ruleOut_80 : decode cX9_ruleOut 80 = .ok (.iand, 1) := by decide +kernel
theorem dX9_ruleOut_81 : decode cX9_ruleOut 81 = .ok (.ifCond .ne 7, 3) := by decide +kernel
theorem dX9_ruleOut_84 : decode cX9_ruleOut 84 = .ok (.iconst 1, 1) := by decide +kernel
theorem dX9_ruleOut_85 : decode cX9_ruleOut 85 = .ok (.goto 4, 3) := by decide +kernel
theorem dX9_ruleOut_88 : decode cX9_ruleOut 88 = .ok (.iconst 0, 1) := by decide +kernel
theorem dX9_ruleOut_89 : decode cX9_ruleOut 89 = .ok (.istore 6, 2) := by decide +kernel
theorem dX9_ruleOut_91 : decode cX9_ruleOut 91 = .ok (.iload 6, 2) := by decide +kernel
theorem dX9_ruleOut_93 : decode cX9_ruleOut 93 = .ok (.ifCond .eq 29, 3) := by decide +kernel
theorem dX9_ruleOut_96 : decode cX9_ruleOut 96 = .ok (.iload 4, 2) := by decide +kernel
theorem dX9_ruleOut_98 : decode cX9_ruleOut 98 = .ok (.iconst (-1), 1) := by decide +kernel
theorem dX9_ruleOut_99 : decode cX9_ruleOut 99 = .ok (.if_icmp .eq 18, 3) := by decide +kernel
theorem dX9_ruleOut_102 : decode cX9_ruleOut 102 = .ok (.aload_n 0, 1) := by decide +kernel
theorem dX9_ruleOut_103 : decode cX9_ruleOut 103 = .ok (.iload 5, 2) := by decide +kernel
theorem dX9_ruleOut_105 : decode cX9_ruleOut 105 = .ok (.invokevirtual 215, 3) := by decide +kernel
theorem dX9_ruleOut_108 : decode cX9_ruleOut 108 = .ok (.aload_n 0, 1) := by decide +kernel
theorem dX9_ruleOut_109 : decode cX9_ruleOut 109 = .ok (.iload 4, 2) := by decide +kernel
theorem dX9_ruleOut_111 : decode cX9_ruleOut 111 = .ok (.invokevirtual 215, 3) := by decide +kernel
theorem dX9_ruleOut_114 : decode cX9_ruleOut 114 = .ok (.if_icmp .ge 8, 3) := by decide +kernel
theorem dX9_ruleOut_117 : decode cX9_ruleOut 117 = .ok (.iload 5, 2) := by decide +kernel
theorem dX9_ruleOut_119 : decode cX9_ruleOut 119 = .ok (.goto 5, 3) := by decide +kernel
theorem dX9_ruleOut_122 : decode cX9_ruleOut 122 = .ok (.iload 4, 2) := by decide +kernel
theorem dX9_ruleOut_124 : decode cX9_ruleOut 124 = .ok (.istore 4, 2) := by decide +kernel
theorem dX9_ruleOut_126 : decode cX9_ruleOut 126 = .ok (.iinc 5 1, 3) := by decide +kernel
theorem dX9_ruleOut_129 : decode cX9_ruleOut 129 = .ok (.goto (-82), 3) := by decide +kernel
theorem dX9_ruleOut_132 : decode cX9_ruleOut 132 = .ok (.iload 4, 2) := by decide +kernel
theorem dX9_ruleOut_134 : decode cX9_ruleOut 134 = .ok (.iconst (-1), 1) := by decide +kernel
theorem dX9_ruleOut_135 : decode cX9_ruleOut 135 = .ok (.if_icmp .eq 7, 3) := by decide +kernel
theorem dX9_ruleOut_138 : decode cX9_ruleOut 138 = .ok (.iload_n 3, 1) := by decide +kernel
theorem dX9_ruleOut_139 : decode cX9_ruleOut 139 = .ok (.ifCond .ne 8, 3) := by decide +kernel
theorem dX9_ruleOut_142 : decode cX9_ruleOut 142 = .ok (.iload 4, 2) := by decide +kernel
theorem dX9_ruleOut_144 : decode cX9_ruleOut 144 = .ok (.goto 9, 3) := by decide +kernel
theorem dX9_ruleOut_147 : decode cX9_ruleOut 147 = .ok (.aload_n 0, 1) := by decide +kernel
theorem dX9_ruleOut_148 : decode cX9_ruleOut 148 = .ok (.iload 4, 2) := by decide +kernel
theorem dX9_ruleOut_150 : decode cX9_ruleOut 150 = .ok (.invokevirtual 215, 3) := by decide +kernel
theorem dX9_ruleOut_153 : decode cX9_ruleOut 153 = .ok (.ireturn, 1) := by decide +kernel
theorem dX9_next_0 : decode cX9_next 0 = .ok (.aload_n 0, 1) := by decide +kernel
theorem dX9_next_1 : decode cX9_next 1 = .ok (.aload_n 0, 1) := by decide +kernel
theorem dX9_next_2 : decode cX9_next 2 = .ok (.getfield 41, 3) := by decide +kernel
theorem dX9_next_5 : decode cX9_next 5 = .ok (.iconst 4, 1) := by decide +kernel
theorem dX9_next_6 : decode cX9_next 6 = .ok (.iaload, 1) := by decide +kernel
theorem dX9_next_7 : decode cX9_next 7 = .ok (.invokevirtual 140, 3) := by decide +kernel
theorem dX9_next_10 : decode cX9_next 10 = .ok (.istore_n 1, 1) := by decide +kernel
theorem dX9_next_11 : decode cX9_next 11 = .ok (.iconst (-1), 1) := by decide +kernel
theorem dX9_next_12 : decode cX9_next 12 = .ok (.istore_n 2, 1) := by decide +kernel
theorem dX9_next_13 : decode cX9_next 13 = .ok (.iconst 0, 1) := by decide +kernel
theorem dX9_next_14 : decode cX9_next 14 = .ok (.istore_n 3, 1) := by decide +kernel
theorem dX9_next_15 : decode cX9_next 15 = .ok (.iconst 0, 1) := by decide +kernel
theorem dX9_next_16 : decode cX9_next 16 = .ok (.istore 4, 2) := by decide +kernel
theorem dX9_next_18 : decode cX9_next 18 = .ok (.iload 4, 2) := by decide +kernel
theorem dX9_next_20 : decode cX9_next 20 = .ok (.aload_n 0, 1) := by decide +kernel
theorem dX9_next_21 : decode cX9_next 21 = .ok (.getfield 17, 3) := by decide +kernel
theorem dX9_next_24 : decode cX9_next 24 = .ok (.iconst 1, 1) := by decide +kernel
theorem dX9_next_25 : decode cX9_next 25 = .ok (.iaload, 1) := by decide +kernel
theorem dX9_next_26 : decode cX9_next 26 = .ok (.if_icmp .ge 140, 3) := by decide +kernel
theorem dX9_next_29 : decode cX9_next 29 = .ok (.aload_n 0, 1) := by decide +kernel
theorem dX9_next_30 : decode cX9_next 30 = .ok (.iload_n 1, 1) := by decide +kernel
theorem dX9_next_31 : decode cX9_next 31 = .ok (.aload_n 0, 1) := by decide +kernel
theorem dX9_next_32 : decode cX9_next 32 = .ok (.getfield 23, 3) := by decide +kernel
theorem dX9_next_35 : decode cX9_next 35 = .ok (.iconst 3, 1) := by decide +kernel
theorem dX9_next_36 : decode cX9_next 36 = .ok (.iload 4, 2) := by decide +kernel
theorem dX9_next_38 : decode cX9_next 38 = .ok (.imul, 1) := by decide +kernel
theorem dX9_next_39 : decode cX9_next 39 = .ok (.iaload, 1) := by decide +kernel
theorem dX9_next_40 : decode cX9_next 40 = .ok (.iconst (-1), 1) := by decide +kernel
theorem dX9_next_41 : decode cX9_next 41 = .ok (.ixor, 1) := by decide +kernel
theorem dX9_next_42 : decode cX9_next 42 = .ok (.iand, 1) := by decide +kernel
theorem dX9_next_43 : decode cX9_next 43 = .ok (.invokevirtual 203, 3) := by decide +kernel
theorem dX9_next_46 : decode cX9_next 46 = .ok (.istore 5, 2) := by decide +kernel
theorem dX9_next_48 : decode cX9_next 48 = .ok (.aload_n 0, 1) := by decide +kernel
theorem dX9_next_49 : decode cX9_next 49 = .ok (.getfield 41, 3) := by decide +kernel
theorem dX9_next_52 : decode cX9_next 52 = .ok (.iconst 4, 1) := by decide +kernel
theorem dX9_next_53 : decode cX9_next 53 = .ok (.iaload, 1) := by decide +kernel
theorem dX9_next_54 : decode cX9_next 54 = .ok (.iload 4, 2) := by decide +kernel
theorem dX9_next_56 : decode cX9_next 56 = .ok (.invokestatic 135, 3) := by decide +kernel
theorem dX9_next_59 : decode cX9_next 59 = .ok (.ifCond .ne 21, 3) := by decide +kernel
theorem dX9_next_62 : decode cX9_next 62 = .ok (.iload_n 1, 1) := by decide +kernel
theorem dX9_next_63 : decode cX9_next 63 = .ok (.aload_n 0, 1) := by decide +kernel
theorem dX9_next_64 : decode cX9_next 64 = .ok (.getfield 23, 3) := by decide +kernel
theorem dX9_next_67 : decode cX9_next 67 = .ok (.iconst 3, 1) := by decide +kernel
theorem dX9_next_68 : decode cX9_next 68 = .ok (.iload 4, 2) := by decide +kernel
theorem dX9_next_70 : decode cX9_next 70 = .ok (.imul, 1) := by decide +kernel
theorem dX9_next_71 : decode cX9_next 71 = .ok (.iaload, 1) := by decide +kernel
theorem dX9_next_72 : decode cX9_next 72 = .ok (.iand, 1) := by decide +kernel
theorem dX9_next_73 : decode cX9_next 73 = .ok (.ifCond .eq 7, 3) := by decide +kernel
theorem dX9_next_76 : decode cX9_next 76 = .ok (.iconst 1, 1) := by decide +kernel
theorem dX9_next_77 : decode cX9_next 77 = .ok (.goto 4, 3) := by decide +kernel
theorem dX9_next_80 : decode cX9_next 80 = .ok (.iconst 0, 1) := by decide +kernel
theorem dX9_next_81 : decode cX9_next 81 = .ok (.istore 6, 2) := by decide +kernel
theorem dX9_next_83 : decode cX9_next 83 = .ok (.iload 6, 2) := by decide +kernel
theorem dX9_next_85 : decode cX9_next 85 = .ok (.ifCond .eq 48, 3) := by decide +kernel
theorem dX9_next_88 : decode cX9_next 88 = .ok (.iload_n 2, 1) := by decide +kernel
theorem dX9_next_89 : decode cX9_next 89 = .ok (.iconst (-1), 1) := by decide +kernel
theorem dX9_next_90 : decode cX9_next 90 = .ok (.if_icmp .eq 39, 3) := by decide +kernel
theorem dX9_next_93 : decode cX9_next 93 = .ok (.iload 5, 2) := by decide +kernel
theorem dX9_next_95 : decode cX9_next 95 = .ok (.iload_n 3, 1) := by decide +kernel
theorem dX9_next_96 : decode cX9_next 96 = .ok (.if_icmp .lt 33, 3) := by decide +kernel
theorem dX9_next_99 : decode cX9_next 99 = .ok (.iload 5, 2) := by decide +kernel
theorem dX9_next_101 : decode cX9_next 101 = .ok (.iload_n 3, 1) := by decide +kernel
theorem dX9_next_102 : decode cX9_next 102 = .ok (.if_icmp .ne 31, 3) := by decide +kernel
theorem dX9_next_105 : decode cX9_next 105 = .ok (.aload_n 0, 1) := by decide +kernel
theorem dX9_next_106 : decode cX9_next 106 = .ok (.getfield 23, 3) := by decide +kernel
theorem dX9_next_109 : decode cX9_next 109 = .ok (.iconst 3, 1) := by decide +kernel
theorem dX9_next_110 : decode cX9_next 110 = .ok (.iload 4, 2) := by decide +kernel
theorem dX9_next_112 : decode cX9_next 112 = .ok (.imul, 1) := by decide +kernel
theorem dX9_next_113 : decode cX9_next 113 = .ok (.iconst 2, 1) := by decide +kernel
theorem dX9_next_114 : decode cX9_next 114 = .ok (.iadd, 1) := by decide +kernel
theorem dX9_next_115 : decode cX9_next 115 = .ok (.iaload, 1) := by decide +kernel
theorem dX9_next_116 : decode cX9_next 116 = .ok (.aload_n 0, 1) := by decide +kernel
theorem dX9_next_117 : decode cX9_next 117 = .ok (.getfield 23, 3) := by decide +kernel
theorem dX9_next_120 : decode cX9_next 120 = .ok (.iconst 3, 1) := by decide +kernel
theorem dX9_next_121 : decode cX9_next 121 = .ok (.iload_n 2, 1) := by decide +kernel
theorem dX9_next_122 : decode cX9_next 122 = .ok (.imul, 1) := by decide +kernel
theorem dX9_next_123 : decode cX9_next 123 = .ok (.iconst 2, 1) := by decide +kernel
theorem dX9_next_124 : decode cX9_next 124 = .ok (.iadd, 1) := by decide +kernel
theorem dX9_next_125 : decode cX9_next 125 = .ok (.iaload, 1) := by decide +kernel
theorem dX9_next_126 : decode cX9_next 126 = .ok (.if_icmp .ge 7, 3) := by decide +kernel
theorem dX9_next_129 : decode cX9_next 129 = .ok (.iconst 1, 1) := by decide +kernel
theorem dX9_next_130 : decode cX9_next 130 = .ok (.goto 4, 3) := by decide +kernel
theorem dX9_next_133 : decode cX9_next 133 = .ok (.iconst 0, 1) := by decide +kernel
theorem dX9_next_134 : decode cX9_next 134 = .ok (.istore 7, 2) := by decide +kernel
theorem dX9_next_136 : decode cX9_next 136 = .ok (.iload 7, 2) := by decide +kernel
theorem dX9_next_138 : decode cX9_next 138 = .ok (.ifCond .eq 8, 3) := by decide +kernel
theorem dX9_next_141 : decode cX9_next 141 = .ok (.iload 4, 2) := by decide +kernel
theorem dX9_next_143 : decode cX9_next 143 = .ok (.goto 4, 3) := by decide +kernel
theorem dX9_next_146 : decode cX9_next 146 = .ok (.iload_n 2, 1) := by decide +kernel
theorem dX9_next_147 : decode cX9_next 147 = .ok (.istore_n 2, 1) := by decide +kernel
theorem dX9_next_148 : decode cX9_next 148 = .ok (.iload 7, 2) := by decide +kernel
theorem dX9_next_150 : decode cX9_next 150 = .ok (.ifCond .eq 8, 3) := by decide +kernel
theorem dX9_next_153 : decode cX9_next 153 = .ok (.iload 5, 2) := by decide +kernel
theorem dX9_next_155 : decode cX9_next 155 = .ok (.goto 4, 3) := by decide +kernel
theorem dX9_next_158 : decode cX9_next 158 = .ok (.iload_n 3, 1) := by decide +kernel
theorem dX9_next_159 : decode cX9_next 159 = .ok (.istore_n 3, 1) := by decide +kernel
theorem dX9_next_160 : decode cX9_next 160 = .ok (.iinc 4 1, 3) := by decide +kernel
theorem dX9_next_163 : decode cX9_next 163 = .ok (.goto (-145), 3) := by decide +kernel
theorem dX9_next_166 : decode cX9_next 166 = .ok (.iload_n 2, 1) := by decide +kernel
theorem dX9_next_167 : decode cX9_next 167 = .ok (.ireturn, 1) := by decide +kernel
theorem dX9_offerBy_0 : decode cX9_offerBy 0 = .ok (.iload_n 1, 1) := by decide +kernel
theorem dX9_offerBy_1 : decode cX9_offerBy 1 = .ok (.i2l, 1) := by decide +kernel
theorem dX9_offerBy_2 : decode cX9_offerBy 2 = .ok (.aload_n 0, 1) := by decide +kernel
theorem dX9_offerBy_3 : decode cX9_offerBy 3 = .ok (.iconst 0, 1) := by decide +kernel
theorem dX9_offerBy_4 : decode cX9_offerBy 4 = .ok (.iload_n 3, 1) := by decide +kernel
theorem dX9_offerBy_5 : decode cX9_offerBy 5 = .ok (.invokevirtual 206, 3) := by decide +kernel
theorem dX9_offerBy_8 : decode cX9_offerBy 8 = .ok (.i2l, 1) := by decide +kernel
theorem dX9_offerBy_9 : decode cX9_offerBy 9 = .ok (.lmul, 1) := by decide +kernel
theorem dX9_offerBy_10 : decode cX9_offerBy 10 = .ok (.ldc2_w 201, 3) := by decide +kernel
theorem dX9_offerBy_13 : decode cX9_offerBy 13 = .ok (.ldiv, 1) := by decide +kernel
theorem dX9_offerBy_14 : decode cX9_offerBy 14 = .ok (.l2i, 1) := by decide +kernel
theorem dX9_offerBy_15 : decode cX9_offerBy 15 = .ok (.iload_n 2, 1) := by decide +kernel
theorem dX9_offerBy_16 : decode cX9_offerBy 16 = .ok (.isub, 1) := by decide +kernel
theorem dX9_offerBy_17 : decode cX9_offerBy 17 = .ok (.istore 4, 2) := by decide +kernel
theorem dX9_offerBy_19 : decode cX9_offerBy 19 = .ok (.iload 4, 2) := by decide +kernel
theorem dX9_offerBy_21 : decode cX9_offerBy 21 = .ok (.ifCond .ge 7, 3) := by decide +kernel
theorem dX9_offerBy_24 : decode cX9_offerBy 24 = .ok (.iconst 0, 1) := by decide +kernel
theorem dX9_offerBy_25 : decode cX9_offerBy 25 = .ok (.goto 5, 3) := by decide +kernel
theorem dX9_offerBy_28 : decode cX9_offerBy 28 = .ok (.iload 4, 2) := by decide +kernel
theorem dX9_offerBy_30 : decode cX9_offerBy 30 = .ok (.ireturn, 1) := by decide +kernel
theorem dX9_offer_0 : decode cX9_offer 0 = .ok (.iload_n 1, 1) := by decide +kernel
theorem dX9_offer_1 : decode cX9_offer 1 = .ok (.iconst 0, 1) := by decide +kernel
theorem dX9_offer_2 : decode cX9_offer 2 = .ok (.sipush 9999, 3) := by decide +kernel
theorem dX9_offer_5 : decode cX9_offer 5 = .ok (.invokestatic 63, 3) := by decide +kernel
theorem dX9_offer_8 : decode cX9_offer 8 = .ok (.ifCond .eq 14, 3) := by decide +kernel
theorem dX9_offer_11 : decode cX9_offer 11 = .ok (.iload_n 2, 1) := by decide +kernel
theorem dX9_offer_12 : decode cX9_offer 12 = .ok (.iconst 0, 1) := by decide +kernel
theorem dX9_offer_13 : decode cX9_offer 13 = .ok (.sipush 9999, 3) := by decide +kernel
theorem dX9_offer_16 : decode cX9_offer 16 = .ok (.invokestatic 63, 3) := by decide +kernel
theorem dX9_offer_19 : decode cX9_offer 19 = .ok (.ifCond .ne 6, 3) := by decide +kernel
theorem dX9_offer_22 : decode cX9_offer 22 = .ok (.ldc 67, 2) := by decide +kernel
theorem dX9_offer_24 : decode cX9_offer 24 = .ok (.ireturn, 1) := by decide +kernel
theorem dX9_offer_25 : decode cX9_offer 25 = .ok (.aload_n 0, 1) := by decide +kernel
theorem dX9_offer_26 : decode cX9_offer 26 = .ok (.invokevirtual 164, 3) := by decide +kernel
theorem dX9_offer_29 : decode cX9_offer 29 = .ok (.ifCond .eq 22, 3) := by decide +kernel
theorem dX9_offer_32 : decode cX9_offer 32 = .ok (.aload_n 0, 1) := by decide +kernel
theorem dX9_offer_33 : decode cX9_offer 33 = .ok (.iload_n 1, 1) := by decide +kernel
theorem dX9_offer_34 : decode cX9_offer 34 = .ok (.iload_n 2, 1) := by decide +kernel
theorem dX9_offer_35 : decode cX9_offer 35 = .ok (.aload_n 0, 1) := by decide +kernel
theorem dX9_offer_36 : decode cX9_offer 36 = .ok (.aload_n 0, 1) := by decide +kernel
theorem dX9_offer_37 : decode cX9_offer 37 = .ok (.getfield 41, 3) := by decide +kernel
theorem dX9_offer_40 : decode cX9_offer 40 = .ok (.iconst 4, 1) := by decide +kernel
theorem dX9_offer_41 : decode cX9_offer 41 = .ok (.iaload, 1) := by decide +kernel
theorem dX9_offer_42 : decode cX9_offer 42 = .ok (.invokevirtual 140, 3) := by decide +kernel
theorem dX9_offer_45 : decode cX9_offer 45 = .ok (.invokevirtual 218, 3) := by decide +kernel
theorem dX9_offer_48 : decode cX9_offer 48 = .ok (.goto 5, 3) := by decide +kernel
theorem dX9_offer_51 : decode cX9_offer 51 = .ok (.ldc 168, 2) := by decide +kernel
theorem dX9_offer_53 : decode cX9_offer 53 = .ok (.ireturn, 1) := by decide +kernel
theorem dX9_both_0 : decode cX9_both 0 = .ok (.iload_n 1, 1) := by decide +kernel
theorem dX9_both_1 : decode cX9_both 1 = .ok (.iconst 0, 1) := by decide +kernel
theorem dX9_both_2 : decode cX9_both 2 = .ok (.sipush 9999, 3) := by decide +kernel
theorem dX9_both_5 : decode cX9_both 5 = .ok (.invokestatic 63, 3) := by decide +kernel
theorem dX9_both_8 : decode cX9_both 8 = .ok (.ifCond .eq 25, 3) := by decide +kernel
theorem dX9_both_11 : decode cX9_both 11 = .ok (.iload_n 2, 1) := by decide +kernel
theorem dX9_both_12 : decode cX9_both 12 = .ok (.iconst 0, 1) := by decide +kernel
theorem dX9_both_13 : decode cX9_both 13 = .ok (.sipush 9999, 3) := by decide +kernel
theorem dX9_both_16 : decode cX9_both 16 = .ok (.invokestatic 63, 3) := by decide +kernel
theorem dX9_both_19 : decode cX9_both 19 = .ok (.ifCond .eq 14, 3) := by decide +kernel
theorem dX9_both_22 : decode cX9_both 22 = .ok (.iload_n 3, 1) := by decide +kernel
theorem dX9_both_23 : decode cX9_both 23 = .ok (.iconst 0, 1) := by decide +kernel
theorem dX9_both_24 : decode cX9_both 24 = .ok (.sipush 9999, 3) := by decide +kernel
theorem dX9_both_27 : decode cX9_both 27 = .ok (.invokestatic 63, 3) := by decide +kernel
theorem dX9_both_30 : decode cX9_both 30 = .ok (.ifCond .ne 6, 3) := by decide +kernel
theorem dX9_both_33 : decode cX9_both 33 = .ok (.ldc 67, 2) := by decide +kernel
theorem dX9_both_35 : decode cX9_both 35 = .ok (.ireturn, 1) := by decide +kernel
theorem dX9_both_36 : decode cX9_both 36 = .ok (.aload_n 0, 1) := by decide +kernel
theorem dX9_both_37 : decode cX9_both 37 = .ok (.invokevirtual 164, 3) := by decide +kernel
theorem dX9_both_40 : decode cX9_both 40 = .ok (.ifCond .ne 6, 3) := by decide +kernel
theorem dX9_both_43 : decode cX9_both 43 = .ok (.ldc 168, 2) := by decide +kernel
theorem dX9_both_45 : decode cX9_both 45 = .ok (.ireturn, 1) := by decide +kernel
theorem dX9_both_46 : decode cX9_both 46 = .ok (.aload_n 0, 1) := by decide +kernel
theorem dX9_both_47 : decode cX9_both 47 = .ok (.iload_n 1, 1) := by decide +kernel
theorem dX9_both_48 : decode cX9_both 48 = .ok (.iload_n 2, 1) := by decide +kernel
theorem dX9_both_49 : decode cX9_both 49 = .ok (.aload_n 0, 1) := by decide +kernel
theorem dX9_both_50 : decode cX9_both 50 = .ok (.aload_n 0, 1) := by decide +kernel
theorem dX9_both_51 : decode cX9_both 51 = .ok (.getfield 41, 3) := by decide +kernel
theorem dX9_both_54 : decode cX9_both 54 = .ok (.iconst 4, 1) := by decide +kernel
theorem dX9_both_55 : decode cX9_both 55 = .ok (.iaload, 1) := by decide +kernel
theorem dX9_both_56 : decode cX9_both 56 = .ok (.invokevirtual 140, 3) := by decide +kernel
theorem dX9_both_59 : decode cX9_both 59 = .ok (.invokevirtual 218, 3) := by decide +kernel
theorem dX9_both_62 : decode cX9_both 62 = .ok (.istore 4, 2) := by decide +kernel
theorem dX9_both_64 : decode cX9_both 64 = .ok (.iload 4, 2) := by decide +kernel
theorem dX9_both_66 : decode cX9_both 66 = .ok (.iload_n 3, 1) := by decide +kernel
theorem dX9_both_67 : decode cX9_both 67 = .ok (.if_icmp .le 12, 3) := by decide +kernel
theorem dX9_both_70 : decode cX9_both 70 = .ok (.iload 4, 2) := by decide +kernel
theorem dX9_both_72 : decode cX9_both 72 = .ok (.iload_n 3, 1) := by decide +kernel
theorem dX9_both_73 : decode cX9_both 73 = .ok (.isub, 1) := by decide +kernel
theorem dX9_both_74 : decode cX9_both 74 = .ok (.iconst 2, 1) := by decide +kernel
theorem dX9_both_75 : decode cX9_both 75 = .ok (.idiv, 1) := by decide +kernel
theorem dX9_both_76 : decode cX9_both 76 = .ok (.goto 4, 3) := by decide +kernel
theorem dX9_both_79 : decode cX9_both 79 = .ok (.iconst 0, 1) := by decide +kernel
theorem dX9_both_80 : decode cX9_both 80 = .ok (.ireturn, 1) := by decide +kernel
theorem dX9_worth_0 : decode cX9_worth 0 = .ok (.aload_n 0, 1) := by decide +kernel
theorem dX9_worth_1 : decode cX9_worth 1 = .ok (.iload_n 1, 1) := by decide +kernel
theorem dX9_worth_2 : decode cX9_worth 2 = .ok (.invokevirtual 154, 3) := by decide +kernel
theorem dX9_worth_5 : decode cX9_worth 5 = .ok (.ifCond .ne 6, 3) := by decide +kernel
theorem dX9_worth_8 : decode cX9_worth 8 = .ok (.ldc 153, 2) := by decide +kernel
theorem dX9_worth_10 : decode cX9_worth 10 = .ok (.ireturn, 1) := by decide +kernel
theorem dX9_worth_11 : decode cX9_worth 11 = .ok (.iload_n 2, 1) := by decide +kernel
theorem dX9_worth_12 : decode cX9_worth 12 = .ok (.iconst 0, 1) := by decide +kernel
theorem dX9_worth_13 : decode cX9_worth 13 = .ok (.sipush 9999, 3) := by decide +kernel
theorem dX9_worth_16 : decode cX9_worth 16 = .ok (.invokestatic 63, 3) := by decide +kernel
theorem dX9_worth_19 : decode cX9_worth 19 = .ok (.ifCond .ne 6, 3) := by decide +kernel
theorem dX9_worth_22 : decode cX9_worth 22 = .ok (.ldc 67, 2) := by decide +kernel
theorem dX9_worth_24 : decode cX9_worth 24 = .ok (.ireturn, 1) := by decide +kernel
theorem dX9_worth_25 : decode cX9_worth 25 = .ok (.aload_n 0, 1) := by decide +kernel
theorem dX9_worth_26 : decode cX9_worth 26 = .ok (.iload_n 2, 1) := by decide +kernel
theorem dX9_worth_27 : decode cX9_worth 27 = .ok (.iconst 0, 1) := by decide +kernel
theorem dX9_worth_28 : decode cX9_worth 28 = .ok (.aload_n 0, 1) := by decide +kernel
theorem dX9_worth_29 : decode cX9_worth 29 = .ok (.aload_n 0, 1) := by decide +kernel
theorem dX9_worth_30 : decode cX9_worth 30 = .ok (.getfield 41, 3) := by decide +kernel
theorem dX9_worth_33 : decode cX9_worth 33 = .ok (.iconst 4, 1) := by decide +kernel
theorem dX9_worth_34 : decode cX9_worth 34 = .ok (.iaload, 1) := by decide +kernel
theorem dX9_worth_35 : decode cX9_worth 35 = .ok (.iconst 1, 1) := by decide +kernel
theorem dX9_worth_36 : decode cX9_worth 36 = .ok (.iload_n 1, 1) := by decide +kernel
theorem dX9_worth_37 : decode cX9_worth 37 = .ok (.ishl, 1) := by decide +kernel
theorem dX9_worth_38 : decode cX9_worth 38 = .ok (.ior, 1) := by decide +kernel
theorem dX9_worth_39 : decode cX9_worth 39 = .ok (.invokevirtual 140, 3) := by decide +kernel
theorem dX9_worth_42 : decode cX9_worth 42 = .ok (.invokevirtual 218, 3) := by decide +kernel
theorem dX9_worth_45 : decode cX9_worth 45 = .ok (.aload_n 0, 1) := by decide +kernel
theorem dX9_worth_46 : decode cX9_worth 46 = .ok (.iload_n 2, 1) := by decide +kernel
theorem dX9_worth_47 : decode cX9_worth 47 = .ok (.iconst 0, 1) := by decide +kernel
theorem dX9_worth_48 : decode cX9_worth 48 = .ok (.aload_n 0, 1) := by decide +kernel
theorem dX9_worth_49 : decode cX9_worth 49 = .ok (.aload_n 0, 1) := by decide +kernel
theorem dX9_worth_50 : decode cX9_worth 50 = .ok (.getfield 41, 3) := by decide +kernel
theorem dX9_worth_53 : decode cX9_worth 53 = .ok (.iconst 4, 1) := by decide +kernel
theorem dX9_worth_54 : decode cX9_worth 54 = .ok (.iaload, 1) := by decide +kernel
theorem dX9_worth_55 : decode cX9_worth 55 = .ok (.invokevirtual 140, 3) := by decide +kernel
theorem dX9_worth_58 : decode cX9_worth 58 = .ok (.invokevirtual 218, 3) := by decide +kernel
theorem dX9_worth_61 : decode cX9_worth 61 = .ok (.isub, 1) := by decide +kernel
theorem dX9_worth_62 : decode cX9_worth 62 = .ok (.aload_n 0, 1) := by decide +kernel
theorem dX9_worth_63 : decode cX9_worth 63 = .ok (.getfield 23, 3) := by decide +kernel
theorem dX9_worth_66 : decode cX9_worth 66 = .ok (.iconst 3, 1) := by decide +kernel
theorem dX9_worth_67 : decode cX9_worth 67 = .ok (.iload_n 1, 1) := by decide +kernel
theorem dX9_worth_68 : decode cX9_worth 68 = .ok (.imul, 1) := by decide +kernel
theorem dX9_worth_69 : decode cX9_worth 69 = .ok (.iconst 2, 1) := by decide +kernel
theorem dX9_worth_70 : decode cX9_worth 70 = .ok (.iadd, 1) := by decide +kernel
theorem dX9_worth_71 : decode cX9_worth 71 = .ok (.iaload, 1) := by decide +kernel
theorem dX9_worth_72 : decode cX9_worth 72 = .ok (.isub, 1) := by decide +kernel
theorem dX9_worth_73 : decode cX9_worth 73 = .ok (.ldc 222, 2) := by decide +kernel
theorem dX9_worth_75 : decode cX9_worth 75 = .ok (.iadd, 1) := by decide +kernel
theorem dX9_worth_76 : decode cX9_worth 76 = .ok (.ireturn, 1) := by decide +kernel
theorem dX9_secret_0 : decode cX9_secret 0 = .ok (.iload_n 1, 1) := by decide +kernel
theorem dX9_secret_1 : decode cX9_secret 1 = .ok (.iconst 0, 1) := by decide +kernel
theorem dX9_secret_2 : decode cX9_secret 2 = .ok (.bipush 60, 2) := by decide +kernel
theorem dX9_secret_4 : decode cX9_secret 4 = .ok (.invokestatic 63, 3) := by decide +kernel
theorem dX9_secret_7 : decode cX9_secret 7 = .ok (.ifCond .eq 13, 3) := by decide +kernel
theorem dX9_secret_10 : decode cX9_secret 10 = .ok (.iload_n 2, 1) := by decide +kernel
theorem dX9_secret_11 : decode cX9_secret 11 = .ok (.iconst 0, 1) := by decide +kernel
theorem dX9_secret_12 : decode cX9_secret 12 = .ok (.bipush 100, 2) := by decide +kernel
theorem dX9_secret_14 : decode cX9_secret 14 = .ok (.invokestatic 63, 3) := by decide +kernel
theorem dX9_secret_17 : decode cX9_secret 17 = .ok (.ifCond .ne 6, 3) := by decide +kernel
theorem dX9_secret_20 : decode cX9_secret 20 = .ok (.ldc 67, 2) := by decide +kernel
theorem dX9_secret_22 : decode cX9_secret 22 = .ok (.ireturn, 1) := by decide +kernel
theorem dX9_secret_23 : decode cX9_secret 23 = .ok (.ldc 223, 2) := by decide +kernel
theorem dX9_secret_25 : decode cX9_secret 25 = .ok (.istore_n 3, 1) := by decide +kernel
theorem dX9_secret_26 : decode cX9_secret 26 = .ok (.iconst 0, 1) := by decide +kernel
theorem dX9_secret_27 : decode cX9_secret 27 = .ok (.istore 4, 2) := by decide +kernel
theorem dX9_secret_29 : decode cX9_secret 29 = .ok (.iload 4, 2) := by decide +kernel
theorem dX9_secret_31 : decode cX9_secret 31 = .ok (.iload_n 1, 1) := by decide +kernel
theorem dX9_secret_32 : decode cX9_secret 32 = .ok (.if_icmp .ge 19, 3) := by decide +kernel
theorem dX9_secret_35 : decode cX9_secret 35 = .ok (.iload_n 3, 1) := by decide +kernel
theorem dX9_secret_36 : decode cX9_secret 36 = .ok (.bipush 100, 2) := by decide +kernel
theorem dX9_secret_38 : decode cX9_secret 38 = .ok (.iload_n 2, 1) := by decide +kernel
theorem dX9_secret_39 : decode cX9_secret 39 = .ok (.isub, 1) := by decide +kernel
theorem dX9_secret_40 : decode cX9_secret 40 = .ok (.imul, 1) := by decide +kernel
theorem dX9_secret_41 : decode cX9_secret 41 = .ok (.bipush 100, 2) := by decide +kernel
theorem dX9_secret_43 : decode cX9_secret 43 = .ok (.idiv, 1) := by decide +kernel
theorem dX9_secret_44 : decode cX9_secret 44 = .ok (.istore_n 3, 1) := by decide +kernel
theorem dX9_secret_45 : decode cX9_secret 45 = .ok (.iinc 4 1, 3) := by decide +kernel
theorem dX9_secret_48 : decode cX9_secret 48 = .ok (.goto (-19), 3) := by decide +kernel
theorem dX9_secret_51 : decode cX9_secret 51 = .ok (.iload_n 3, 1) := by decide +kernel
theorem dX9_secret_52 : decode cX9_secret 52 = .ok (.ireturn, 1) := by decide +kernel
theorem dX9_hear_0 : decode cX9_hear 0 = .ok (.iload_n 1, 1) := by decide +kernel
theorem dX9_hear_1 : decode cX9_hear 1 = .ok (.iconst 0, 1) := by decide +kernel
theorem dX9_hear_2 : decode cX9_hear 2 = .ok (.bipush 59, 2) := by decide +kernel
theorem dX9_hear_4 : decode cX9_hear 4 = .ok (.invokestatic 63, 3) := by decide +kernel
theorem dX9_hear_7 : decode cX9_hear 7 = .ok (.ifCond .ne 6, 3) := by decide +kernel
theorem dX9_hear_10 : decode cX9_hear 10 = .ok (.ldc 67, 2) := by decide +kernel
theorem dX9_hear_12 : decode cX9_hear 12 = .ok (.ireturn, 1) := by decide +kernel
theorem dX9_hear_13 : decode cX9_hear 13 = .ok (.aload_n 0, 1) := by decide +kernel
theorem dX9_hear_14 : decode cX9_hear 14 = .ok (.invokevirtual 164, 3) := by decide +kernel
theorem dX9_hear_17 : decode cX9_hear 17 = .ok (.ifCond .ne 6, 3) := by decide +kernel
theorem dX9_hear_20 : decode cX9_hear 20 = .ok (.ldc 168, 2) := by decide +kernel
theorem dX9_hear_22 : decode cX9_hear 22 = .ok (.ireturn, 1) := by decide +kernel
theorem dX9_hear_23 : decode cX9_hear 23 = .ok (.aload_n 0, 1) := by decide +kernel
theorem dX9_hear_24 : decode cX9_hear 24 = .ok (.getfield 129, 3) := by decide +kernel
theorem dX9_hear_27 : decode cX9_hear 27 = .ok (.bipush 6, 2) := by decide +kernel
theorem dX9_hear_29 : decode cX9_hear 29 = .ok (.if_icmp .ne 6, 3) := by decide +kernel
theorem dX9_hear_32 : decode cX9_hear 32 = .ok (.ldc 71, 2) := by decide +kernel
theorem dX9_hear_34 : decode cX9_hear 34 = .ok (.ireturn, 1) := by decide +kernel
theorem dX9_hear_35 : decode cX9_hear 35 = .ok (.aload_n 0, 1) := by decide +kernel
theorem dX9_hear_36 : decode cX9_hear 36 = .ok (.getfield 57, 3) := by decide +kernel
theorem dX9_hear_39 : decode cX9_hear 39 = .ok (.iconst 2, 1) := by decide +kernel
theorem dX9_hear_40 : decode cX9_hear 40 = .ok (.aload_n 0, 1) := by decide +kernel
theorem dX9_hear_41 : decode cX9_hear 41 = .ok (.getfield 129, 3) := by decide +kernel
theorem dX9_hear_44 : decode cX9_hear 44 = .ok (.imul, 1) := by decide +kernel
theorem dX9_hear_45 : decode cX9_hear 45 = .ok (.iload_n 1, 1) := by decide +kernel
theorem dX9_hear_46 : decode cX9_hear 46 = .ok (.iastore, 1) := by decide +kernel
theorem dX9_hear_47 : decode cX9_hear 47 = .ok (.aload_n 0, 1) := by decide +kernel
theorem dX9_hear_48 : decode cX9_hear 48 = .ok (.getfield 57, 3) := by decide +kernel
theorem dX9_hear_51 : decode cX9_hear 51 = .ok (.iconst 2, 1) := by decide +kernel
theorem dX9_hear_52 : decode cX9_hear 52 = .ok (.aload_n 0, 1) := by decide +kernel
theorem dX9_hear_53 : decode cX9_hear 53 = .ok (.getfield 129, 3) := by decide +kernel
theorem dX9_hear_56 : decode cX9_hear 56 = .ok (.imul, 1) := by decide +kernel
theorem dX9_hear_57 : decode cX9_hear 57 = .ok (.iconst 1, 1) := by decide +kernel
theorem dX9_hear_58 : decode cX9_hear 58 = .ok (.iadd, 1) := by decide +kernel
theorem dX9_hear_59 : decode cX9_hear 59 = .ok (.iload_n 2, 1) := by decide +kernel
theorem dX9_hear_60 : decode cX9_hear 60 = .ok (.ifCond .eq 7, 3) := by decide +kernel
theorem dX9_hear_63 : decode cX9_hear 63 = .ok (.iconst 1, 1) := by decide +kernel
theorem dX9_hear_64 : decode cX9_hear 64 = .ok (.goto 4, 3) := by decide +kernel
theorem dX9_hear_67 : decode cX9_hear 67 = .ok (.iconst 0, 1) := by decide +kernel
theorem dX9_hear_68 : decode cX9_hear 68 = .ok (.iastore, 1) := by decide +kernel
theorem dX9_hear_69 : decode cX9_hear 69 = .ok (.aload_n 0, 1) := by decide +kernel
theorem dX9_hear_70 : decode cX9_hear 70 = .ok (.dup, 1) := by decide +kernel
theorem dX9_hear_71 : decode cX9_hear 71 = .ok (.getfield 129, 3) := by decide +kernel
theorem dX9_hear_74 : decode cX9_hear 74 = .ok (.iconst 1, 1) := by decide +kernel
theorem dX9_hear_75 : decode cX9_hear 75 = .ok (.iadd, 1) := by decide +kernel
theorem dX9_hear_76 : decode cX9_hear 76 = .ok (.putfield 129, 3) := by decide +kernel
theorem dX9_hear_79 : decode cX9_hear 79 = .ok (.aload_n 0, 1) := by decide +kernel
theorem dX9_hear_80 : decode cX9_hear 80 = .ok (.getfield 129, 3) := by decide +kernel
theorem dX9_hear_83 : decode cX9_hear 83 = .ok (.ireturn, 1) := by decide +kernel
theorem dX9_gotBy_0 : decode cX9_gotBy 0 = .ok (.iload_n 2, 1) := by decide +kernel
theorem dX9_gotBy_1 : decode cX9_gotBy 1 = .ok (.iload_n 1, 1) := by decide +kernel
theorem dX9_gotBy_2 : decode cX9_gotBy 2 = .ok (.if_icmp .lt 20, 3) := by decide +kernel
theorem dX9_gotBy_5 : decode cX9_gotBy 5 = .ok (.iload_n 2, 1) := by decide +kernel
theorem dX9_gotBy_6 : decode cX9_gotBy 6 = .ok (.iload_n 1, 1) := by decide +kernel
theorem dX9_gotBy_7 : decode cX9_gotBy 7 = .ok (.isub, 1) := by decide +kernel
theorem dX9_gotBy_8 : decode cX9_gotBy 8 = .ok (.aload_n 0, 1) := by decide +kernel
theorem dX9_gotBy_9 : decode cX9_gotBy 9 = .ok (.getfield 17, 3) := by decide +kernel
theorem dX9_gotBy_12 : decode cX9_gotBy 12 = .ok (.iconst 4, 1) := by decide +kernel
theorem dX9_gotBy_13 : decode cX9_gotBy 13 = .ok (.iaload, 1) := by decide +kernel
theorem dX9_gotBy_14 : decode cX9_gotBy 14 = .ok (.irem, 1) := by decide +kernel
theorem dX9_gotBy_15 : decode cX9_gotBy 15 = .ok (.ifCond .ne 7, 3) := by decide +kernel
theorem dX9_gotBy_18 : decode cX9_gotBy 18 = .ok (.iconst 1, 1) := by decide +kernel
theorem dX9_gotBy_19 : decode cX9_gotBy 19 = .ok (.goto 4, 3) := by decide +kernel
theorem dX9_gotBy_22 : decode cX9_gotBy 22 = .ok (.iconst 0, 1) := by decide +kernel
theorem dX9_gotBy_23 : decode cX9_gotBy 23 = .ok (.ireturn, 1) := by decide +kernel
theorem dX9_paidSet_0 : decode cX9_paidSet 0 = .ok (.iconst 0, 1) := by decide +kernel
theorem dX9_paidSet_1 : decode cX9_paidSet 1 = .ok (.istore_n 1, 1) := by decide +kernel
theorem dX9_paidSet_2 : decode cX9_paidSet 2 = .ok (.iconst 0, 1) := by decide +kernel
theorem dX9_paidSet_3 : decode cX9_paidSet 3 = .ok (.istore_n 2, 1) := by decide +kernel
theorem dX9_paidSet_4 : decode cX9_paidSet 4 = .ok (.iload_n 2, 1) := by decide +kernel
theorem dX9_paidSet_5 : decode cX9_paidSet 5 = .ok (.aload_n 0, 1) := by decide +kernel
theorem dX9_paidSet_6 : decode cX9_paidSet 6 = .ok (.getfield 17, 3) := by decide +kernel
theorem dX9_paidSet_9 : decode cX9_paidSet 9 = .ok (.iconst 4, 1) := by decide +kernel
theorem dX9_paidSet_10 : decode cX9_paidSet 10 = .ok (.iaload, 1) := by decide +kernel
theorem dX9_paidSet_11 : decode cX9_paidSet 11 = .ok (.if_icmp .ge 81, 3) := by decide +kernel
theorem dX9_paidSet_14 : decode cX9_paidSet 14 = .ok (.iconst 1, 1) := by decide +kernel
theorem dX9_paidSet_15 : decode cX9_paidSet 15 = .ok (.istore_n 3, 1) := by decide +kernel
theorem dX9_paidSet_16 : decode cX9_paidSet 16 = .ok (.iconst 0, 1) := by decide +kernel
theorem dX9_paidSet_17 : decode cX9_paidSet 17 = .ok (.istore 4, 2) := by decide +kernel
theorem dX9_paidSet_19 : decode cX9_paidSet 19 = .ok (.iload 4, 2) := by decide +kernel
theorem dX9_paidSet_21 : decode cX9_paidSet 21 = .ok (.aload_n 0, 1) := by decide +kernel
theorem dX9_paidSet_22 : decode cX9_paidSet 22 = .ok (.getfield 129, 3) := by decide +kernel
theorem dX9_paidSet_25 : decode cX9_paidSet 25 = .ok (.if_icmp .ge 47, 3) := by decide +kernel
theorem dX9_paidSet_28 : decode cX9_paidSet 28 = .ok (.iload_n 3, 1) := by decide +kernel
theorem dX9_paidSet_29 : decode cX9_paidSet 29 = .ok (.ifCond .eq 35, 3) := by decide +kernel
theorem dX9_paidSet_32 : decode cX9_paidSet 32 = .ok (.aload_n 0, 1) := by decide +kernel
theorem dX9_paidSet_33 : decode cX9_paidSet 33 = .ok (.iload_n 2, 1) := by decide +kernel
theorem dX9_paidSet_34 : decode cX9_paidSet 34 = .ok (.aload_n 0, 1) := by decide +kernel
theorem dX9_paidSet_35 : decode cX9_paidSet 35 = .ok (.getfield 57, 3) := by decide +kernel
theorem dX9_paidSet_38 : decode cX9_paidSet 38 = .ok (.iconst 2, 1) := by decide +kernel
theorem dX9_paidSet_39 : decode cX9_paidSet 39 = .ok (.iload 4, 2) := by decide +kernel
theorem dX9_paidSet_41 : decode cX9_paidSet 41 = .ok (.imul, 1) := by decide +kernel
theorem dX9_paidSet_42 : decode cX9_paidSet 42 = .ok (.iaload, 1) := by decide +kernel
theorem dX9_paidSet_43 : decode cX9_paidSet 43 = .ok (.invokevirtual 224, 3) := by decide +kernel
theorem dX9_paidSet_46 : decode cX9_paidSet 46 = .ok (.aload_n 0, 1) := by decide +kernel
theorem dX9_paidSet_47 : decode cX9_paidSet 47 = .ok (.getfield 57, 3) := by decide +kernel
theorem dX9_paidSet_50 : decode cX9_paidSet 50 = .ok (.iconst 2, 1) := by decide +kernel
theorem dX9_paidSet_51 : decode cX9_paidSet 51 = .ok (.iload 4, 2) := by decide +kernel
theorem dX9_paidSet_53 : decode cX9_paidSet 53 = .ok (.imul, 1) := by decide +kernel
theorem dX9_paidSet_54 : decode cX9_paidSet 54 = .ok (.iconst 1, 1) := by decide +kernel
theorem dX9_paidSet_55 : decode cX9_paidSet 55 = .ok (.iadd, 1) := by decide +kernel
theorem dX9_paidSet_56 : decode cX9_paidSet 56 = .ok (.iaload, 1) := by decide +kernel
theorem dX9_paidSet_57 : decode cX9_paidSet 57 = .ok (.if_icmp .ne 7, 3) := by decide +kernel
theorem dX9_paidSet_60 : decode cX9_paidSet 60 = .ok (.iconst 1, 1) := by decide +kernel
theorem dX9_paidSet_61 : decode cX9_paidSet 61 = .ok (.goto 4, 3) := by decide +kernel
theorem dX9_paidSet_64 : decode cX9_paidSet 64 = .ok (.iconst 0, 1) := by decide +kernel
theorem dX9_paidSet_65 : decode cX9_paidSet 65 = .ok (.istore_n 3, 1) := by decide +kernel
theorem dX9_paidSet_66 : decode cX9_paidSet 66 = .ok (.iinc 4 1, 3) := by decide +kernel
theorem dX9_paidSet_69 : decode cX9_paidSet 69 = .ok (.goto (-50), 3) := by decide +kernel
theorem dX9_paidSet_72 : decode cX9_paidSet 72 = .ok (.iload_n 1, 1) := by decide +kernel
theorem dX9_paidSet_73 : decode cX9_paidSet 73 = .ok (.iload_n 3, 1) := by decide +kernel
theorem dX9_paidSet_74 : decode cX9_paidSet 74 = .ok (.ifCond .eq 9, 3) := by decide +kernel
theorem dX9_paidSet_77 : decode cX9_paidSet 77 = .ok (.iconst 1, 1) := by decide +kernel
theorem dX9_paidSet_78 : decode cX9_paidSet 78 = .ok (.iload_n 2, 1) := by decide +kernel
theorem dX9_paidSet_79 : decode cX9_paidSet 79 = .ok (.ishl, 1) := by decide +kernel
theorem dX9_paidSet_80 : decode cX9_paidSet 80 = .ok (.goto 4, 3) := by decide +kernel
theorem dX9_paidSet_83 : decode cX9_paidSet 83 = .ok (.iconst 0, 1) := by decide +kernel
theorem dX9_paidSet_84 : decode cX9_paidSet 84 = .ok (.ior, 1) := by decide +kernel
theorem dX9_paidSet_85 : decode cX9_paidSet 85 = .ok (.istore_n 1, 1) := by decide +kernel
theorem dX9_paidSet_86 : decode cX9_paidSet 86 = .ok (.iinc 2 1, 3) := by decide +kernel
theorem dX9_paidSet_89 : decode cX9_paidSet 89 = .ok (.goto (-85), 3) := by decide +kernel
theorem dX9_paidSet_92 : decode cX9_paidSet 92 = .ok (.iload_n 1, 1) := by decide +kernel
theorem dX9_paidSet_93 : decode cX9_paidSet 93 = .ok (.ireturn, 1) := by decide +kernel
theorem dX9_paid_0 : decode cX9_paid 0 = .ok (.aload_n 0, 1) := by decide +kernel
theorem dX9_paid_1 : decode cX9_paid 1 = .ok (.invokevirtual 164, 3) := by decide +kernel
theorem dX9_paid_4 : decode cX9_paid 4 = .ok (.ifCond .eq 10, 3) := by decide +kernel
theorem dX9_paid_7 : decode cX9_paid 7 = .ok (.aload_n 0, 1) := by decide +kernel
theorem dX9_paid_8 : decode cX9_paid 8 = .ok (.invokevirtual 227, 3) := by decide +kernel
theorem dX9_paid_11 : decode cX9_paid 11 = .ok (.goto 5, 3) := by decide +kernel
theorem dX9_paid_14 : decode cX9_paid 14 = .ok (.ldc 168, 2) := by decide +kernel
theorem dX9_paid_16 : decode cX9_paid 16 = .ok (.ireturn, 1) := by decide +kernel
theorem dX9_ask_0 : decode cX9_ask 0 = .ok (.aload_n 0, 1) := by decide +kernel
theorem dX9_ask_1 : decode cX9_ask 1 = .ok (.invokevirtual 164, 3) := by decide +kernel
theorem dX9_ask_4 : decode cX9_ask 4 = .ok (.ifCond .ne 6, 3) := by decide +kernel
theorem dX9_ask_7 : decode cX9_ask 7 = .ok (.ldc 168, 2) := by decide +kernel
theorem dX9_ask_9 : decode cX9_ask 9 = .ok (.ireturn, 1) := by decide +kernel
theorem dX9_ask_10 : decode cX9_ask 10 = .ok (.aload_n 0, 1) := by decide +kernel
theorem dX9_ask_11 : decode cX9_ask 11 = .ok (.invokevirtual 227, 3) := by decide +kernel
theorem dX9_ask_14 : decode cX9_ask 14 = .ok (.istore_n 1, 1) := by decide +kernel
theorem dX9_ask_15 : decode cX9_ask 15 = .ok (.iload_n 1, 1) := by decide +kernel
theorem dX9_ask_16 : decode cX9_ask 16 = .ok (.invokestatic 212, 3) := by decide +kernel
theorem dX9_ask_19 : decode cX9_ask 19 = .ok (.istore_n 2, 1) := by decide +kernel
theorem dX9_ask_20 : decode cX9_ask 20 = .ok (.iconst (-1), 1) := by decide +kernel
theorem dX9_ask_21 : decode cX9_ask 21 = .ok (.istore_n 3, 1) := by decide +kernel
theorem dX9_ask_22 : decode cX9_ask 22 = .ok (.iload_n 2, 1) := by decide +kernel
theorem dX9_ask_23 : decode cX9_ask 23 = .ok (.istore 4, 2) := by decide +kernel
theorem dX9_ask_25 : decode cX9_ask 25 = .ok (.iconst 0, 1) := by decide +kernel
theorem dX9_ask_26 : decode cX9_ask 26 = .ok (.istore 5, 2) := by decide +kernel
theorem dX9_ask_28 : decode cX9_ask 28 = .ok (.iload 5, 2) := by decide +kernel
theorem dX9_ask_30 : decode cX9_ask 30 = .ok (.bipush 60, 2) := by decide +kernel
theorem dX9_ask_32 : decode cX9_ask 32 = .ok (.if_icmp .ge 108, 3) := by decide +kernel
theorem dX9_ask_35 : decode cX9_ask 35 = .ok (.iconst 0, 1) := by decide +kernel
theorem dX9_ask_36 : decode cX9_ask 36 = .ok (.istore 6, 2) := by decide +kernel
theorem dX9_ask_38 : decode cX9_ask 38 = .ok (.iconst 0, 1) := by decide +kernel
theorem dX9_ask_39 : decode cX9_ask 39 = .ok (.istore 7, 2) := by decide +kernel
theorem dX9_ask_41 : decode cX9_ask 41 = .ok (.iload 7, 2) := by decide +kernel
theorem dX9_ask_43 : decode cX9_ask 43 = .ok (.aload_n 0, 1) := by decide +kernel
theorem dX9_ask_44 : decode cX9_ask 44 = .ok (.getfield 17, 3) := by decide +kernel
theorem dX9_ask_47 : decode cX9_ask 47 = .ok (.iconst 4, 1) := by decide +kernel
theorem dX9_ask_48 : decode cX9_ask 48 = .ok (.iaload, 1) := by decide +kernel
theorem dX9_ask_49 : decode cX9_ask 49 = .ok (.if_icmp .ge 35, 3) := by decide +kernel
theorem dX9_ask_52 : decode cX9_ask 52 = .ok (.iload 6, 2) := by decide +kernel
theorem dX9_ask_54 : decode cX9_ask 54 = .ok (.iload_n 1, 1) := by decide +kernel
theorem dX9_ask_55 : decode cX9_ask 55 = .ok (.iload 7, 2) := by decide +kernel
theorem dX9_ask_57 : decode cX9_ask 57 = .ok (.invokestatic 135, 3) := by decide +kernel
theorem dX9_ask_60 : decode cX9_ask 60 = .ok (.ifCond .eq 14, 3) := by decide +kernel
theorem dX9_ask_63 : decode cX9_ask 63 = .ok (.aload_n 0, 1) := by decide +kernel
theorem dX9_ask_64 : decode cX9_ask 64 = .ok (.iload 7, 2) := by decide +kernel
theorem dX9_ask_66 : decode cX9_ask 66 = .ok (.iload 5, 2) := by decide +kernel
theorem dX9_ask_68 : decode cX9_ask 68 = .ok (.invokevirtual 224, 3) := by decide +kernel
theorem dX9_ask_71 : decode cX9_ask 71 = .ok (.goto 4, 3) := by decide +kernel
theorem dX9_ask_74 : decode cX9_ask 74 = .ok (.iconst 0, 1) := by decide +kernel
theorem dX9_ask_75 : decode cX9_ask 75 = .ok (.iadd, 1) := by decide +kernel
theorem dX9_ask_76 : decode cX9_ask 76 = .ok (.istore 6, 2) := by decide +kernel
theorem dX9_ask_78 : decode cX9_ask 78 = .ok (.iinc 7 1, 3) := by decide +kernel
theorem dX9_ask_81 : decode cX9_ask 81 = .ok (.goto (-40), 3) := by decide +kernel
theorem dX9_ask_84 : decode cX9_ask 84 = .ok (.iload 6, 2) := by decide +kernel
theorem dX9_ask_86 : decode cX9_ask 86 = .ok (.iload_n 2, 1) := by decide +kernel
theorem dX9_ask_87 : decode cX9_ask 87 = .ok (.iload 6, 2) := by decide +kernel
theorem dX9_ask_89 : decode cX9_ask 89 = .ok (.isub, 1) := by decide +kernel
theorem dX9_ask_90 : decode cX9_ask 90 = .ok (.if_icmp .le 8, 3) := by decide +kernel
theorem dX9_ask_93 : decode cX9_ask 93 = .ok (.iload 6, 2) := by decide +kernel
theorem dX9_ask_95 : decode cX9_ask 95 = .ok (.goto 7, 3) := by decide +kernel
theorem dX9_ask_98 : decode cX9_ask 98 = .ok (.iload_n 2, 1) := by decide +kernel
theorem dX9_ask_99 : decode cX9_ask 99 = .ok (.iload 6, 2) := by decide +kernel
theorem dX9_ask_101 : decode cX9_ask 101 = .ok (.isub, 1) := by decide +kernel
theorem dX9_ask_102 : decode cX9_ask 102 = .ok (.istore 7, 2) := by decide +kernel
theorem dX9_ask_104 : decode cX9_ask 104 = .ok (.iload 7, 2) := by decide +kernel
theorem dX9_ask_106 : decode cX9_ask 106 = .ok (.iload 4, 2) := by decide +kernel
theorem dX9_ask_108 : decode cX9_ask 108 = .ok (.if_icmp .ge 8, 3) := by decide +kernel
theorem dX9_ask_111 : decode cX9_ask 111 = .ok (.iload 5, 2) := by decide +kernel
theorem dX9_ask_113 : decode cX9_ask 113 = .ok (.goto 4, 3) := by decide +kernel
theorem dX9_ask_116 : decode cX9_ask 116 = .ok (.iload_n 3, 1) := by decide +kernel
theorem dX9_ask_117 : decode cX9_ask 117 = .ok (.istore_n 3, 1) := by decide +kernel
theorem dX9_ask_118 : decode cX9_ask 118 = .ok (.iload 7, 2) := by decide +kernel
theorem dX9_ask_120 : decode cX9_ask 120 = .ok (.iload 4, 2) := by decide +kernel
theorem dX9_ask_122 : decode cX9_ask 122 = .ok (.if_icmp .ge 8, 3) := by decide +kernel
theorem dX9_ask_125 : decode cX9_ask 125 = .ok (.iload 7, 2) := by decide +kernel
theorem dX9_ask_127 : decode cX9_ask 127 = .ok (.goto 5, 3) := by decide +kernel
theorem dX9_ask_130 : decode cX9_ask 130 = .ok (.iload 4, 2) := by decide +kernel
theorem dX9_ask_132 : decode cX9_ask 132 = .ok (.istore 4, 2) := by decide +kernel
theorem dX9_ask_134 : decode cX9_ask 134 = .ok (.iinc 5 1, 3) := by decide +kernel
theorem dX9_ask_137 : decode cX9_ask 137 = .ok (.goto (-109), 3) := by decide +kernel
theorem dX9_ask_140 : decode cX9_ask 140 = .ok (.iload_n 3, 1) := by decide +kernel
theorem dX9_ask_141 : decode cX9_ask 141 = .ok (.ireturn, 1) := by decide +kernel
theorem dX9_write_0 : decode cX9_write 0 = .ok (.aload_n 0, 1) := by decide +kernel
theorem dX9_write_1 : decode cX9_write 1 = .ok (.iload_n 1, 1) := by decide +kernel
theorem dX9_write_2 : decode cX9_write 2 = .ok (.invokevirtual 185, 3) := by decide +kernel
theorem dX9_write_5 : decode cX9_write 5 = .ok (.ifCond .ne 6, 3) := by decide +kernel
theorem dX9_write_8 : decode cX9_write 8 = .ok (.ldc 153, 2) := by decide +kernel
theorem dX9_write_10 : decode cX9_write 10 = .ok (.ireturn, 1) := by decide +kernel
theorem dX9_write_11 : decode cX9_write 11 = .ok (.aload_n 0, 1) := by decide +kernel
theorem dX9_write_12 : decode cX9_write 12 = .ok (.getfield 132, 3) := by decide +kernel
theorem dX9_write_15 : decode cX9_write 15 = .ok (.bipush 15, 2) := by decide +kernel
theorem dX9_write_17 : decode cX9_write 17 = .ok (.if_icmp .ne 6, 3) := by decide +kernel
theorem dX9_write_20 : decode cX9_write 20 = .ok (.ldc 71, 2) := by decide +kernel
theorem dX9_write_22 : decode cX9_write 22 = .ok (.ireturn, 1) := by decide +kernel
theorem dX9_write_23 : decode cX9_write 23 = .ok (.aload_n 0, 1) := by decide +kernel
theorem dX9_write_24 : decode cX9_write 24 = .ok (.getfield 60, 3) := by decide +kernel
theorem dX9_write_27 : decode cX9_write 27 = .ok (.aload_n 0, 1) := by decide +kernel
theorem dX9_write_28 : decode cX9_write 28 = .ok (.getfield 132, 3) := by decide +kernel
theorem dX9_write_31 : decode cX9_write 31 = .ok (.iload_n 1, 1) := by decide +kernel
theorem dX9_write_32 : decode cX9_write 32 = .ok (.iastore, 1) := by decide +kernel
theorem dX9_write_33 : decode cX9_write 33 = .ok (.aload_n 0, 1) := by decide +kernel
theorem dX9_write_34 : decode cX9_write 34 = .ok (.dup, 1) := by decide +kernel
theorem dX9_write_35 : decode cX9_write 35 = .ok (.getfield 132, 3) := by decide +kernel
theorem dX9_write_38 : decode cX9_write 38 = .ok (.iconst 1, 1) := by decide +kernel
theorem dX9_write_39 : decode cX9_write 39 = .ok (.iadd, 1) := by decide +kernel
theorem dX9_write_40 : decode cX9_write 40 = .ok (.putfield 132, 3) := by decide +kernel
theorem dX9_write_43 : decode cX9_write 43 = .ok (.aload_n 0, 1) := by decide +kernel
theorem dX9_write_44 : decode cX9_write 44 = .ok (.getfield 132, 3) := by decide +kernel
theorem dX9_write_47 : decode cX9_write 47 = .ok (.ireturn, 1) := by decide +kernel
theorem dX9_tear_0 : decode cX9_tear 0 = .ok (.aload_n 0, 1) := by decide +kernel
theorem dX9_tear_1 : decode cX9_tear 1 = .ok (.getfield 129, 3) := by decide +kernel
theorem dX9_tear_4 : decode cX9_tear 4 = .ok (.aload_n 0, 1) := by decide +kernel
theorem dX9_tear_5 : decode cX9_tear 5 = .ok (.getfield 132, 3) := by decide +kernel
theorem dX9_tear_8 : decode cX9_tear 8 = .ok (.iadd, 1) := by decide +kernel
theorem dX9_tear_9 : decode cX9_tear 9 = .ok (.istore_n 1, 1) := by decide +kernel
theorem dX9_tear_10 : decode cX9_tear 10 = .ok (.aload_n 0, 1) := by decide +kernel
theorem dX9_tear_11 : decode cX9_tear 11 = .ok (.iconst 0, 1) := by decide +kernel
theorem dX9_tear_12 : decode cX9_tear 12 = .ok (.putfield 129, 3) := by decide +kernel
theorem dX9_tear_15 : decode cX9_tear 15 = .ok (.aload_n 0, 1) := by decide +kernel
theorem dX9_tear_16 : decode cX9_tear 16 = .ok (.iconst 0, 1) := by decide +kernel
theorem dX9_tear_17 : decode cX9_tear 17 = .ok (.putfield 132, 3) := by decide +kernel
theorem dX9_tear_20 : decode cX9_tear 20 = .ok (.iload_n 1, 1) := by decide +kernel
theorem dX9_tear_21 : decode cX9_tear 21 = .ok (.ireturn, 1) := by decide +kernel
theorem dX9_judge_0 : decode cX9_judge 0 = .ok (.iconst 0, 1) := by decide +kernel
theorem dX9_judge_1 : decode cX9_judge 1 = .ok (.istore_n 1, 1) := by decide +kernel
theorem dX9_judge_2 : decode cX9_judge 2 = .ok (.iload_n 1, 1) := by decide +kernel
theorem dX9_judge_3 : decode cX9_judge 3 = .ok (.aload_n 0, 1) := by decide +kernel
theorem dX9_judge_4 : decode cX9_judge 4 = .ok (.getfield 132, 3) := by decide +kernel
theorem dX9_judge_7 : decode cX9_judge 7 = .ok (.if_icmp .ge 30, 3) := by decide +kernel
theorem dX9_judge_10 : decode cX9_judge 10 = .ok (.aload_n 0, 1) := by decide +kernel
theorem dX9_judge_11 : decode cX9_judge 11 = .ok (.getfield 60, 3) := by decide +kernel
theorem dX9_judge_14 : decode cX9_judge 14 = .ok (.iload_n 1, 1) := by decide +kernel
theorem dX9_judge_15 : decode cX9_judge 15 = .ok (.iaload, 1) := by decide +kernel
theorem dX9_judge_16 : decode cX9_judge 16 = .ok (.aload_n 0, 1) := by decide +kernel
theorem dX9_judge_17 : decode cX9_judge 17 = .ok (.aload_n 0, 1) := by decide +kernel
theorem dX9_judge_18 : decode cX9_judge 18 = .ok (.getfield 41, 3) := by decide +kernel
theorem dX9_judge_21 : decode cX9_judge 21 = .ok (.iconst 4, 1) := by decide +kernel
theorem dX9_judge_22 : decode cX9_judge 22 = .ok (.iaload, 1) := by decide +kernel
theorem dX9_judge_23 : decode cX9_judge 23 = .ok (.invokevirtual 140, 3) := by decide +kernel
theorem dX9_judge_26 : decode cX9_judge 26 = .ok (.if_icmp .eq 5, 3) := by decide +kernel
theorem dX9_judge_29 : decode cX9_judge 29 = .ok (.iload_n 1, 1) := by decide +kernel
theorem dX9_judge_30 : decode cX9_judge 30 = .ok (.ireturn, 1) := by decide +kernel
theorem dX9_judge_31 : decode cX9_judge 31 = .ok (.iinc 1 1, 3) := by decide +kernel
theorem dX9_judge_34 : decode cX9_judge 34 = .ok (.goto (-32), 3) := by decide +kernel
theorem dX9_judge_37 : decode cX9_judge 37 = .ok (.iconst (-1), 1) := by decide +kernel
theorem dX9_judge_38 : decode cX9_judge 38 = .ok (.ireturn, 1) := by decide +kernel
theorem dX9_seed_0 : decode cX9_seed 0 = .ok (.iload_n 1, 1) := by decide +kernel
theorem dX9_seed_1 : decode cX9_seed 1 = .ok (.ifCond .ge 6, 3) := by decide +kernel
theorem dX9_seed_4 : decode cX9_seed 4 = .ok (.ldc 67, 2) := by decide +kernel
theorem dX9_seed_6 : decode cX9_seed 6 = .ok (.ireturn, 1) := by decide +kernel
theorem dX9_seed_7 : decode cX9_seed 7 = .ok (.aload_n 0, 1) := by decide +kernel
theorem dX9_seed_8 : decode cX9_seed 8 = .ok (.getfield 188, 3) := by decide +kernel
theorem dX9_seed_11 : decode cX9_seed 11 = .ok (.istore_n 2, 1) := by decide +kernel
theorem dX9_seed_12 : decode cX9_seed 12 = .ok (.aload_n 0, 1) := by decide +kernel
theorem dX9_seed_13 : decode cX9_seed 13 = .ok (.iload_n 1, 1) := by decide +kernel
theorem dX9_seed_14 : decode cX9_seed 14 = .ok (.putfield 188, 3) := by decide +kernel
theorem dX9_seed_17 : decode cX9_seed 17 = .ok (.iload_n 2, 1) := by decide +kernel
theorem dX9_seed_18 : decode cX9_seed 18 = .ok (.ireturn, 1) := by decide +kernel
theorem dX9_keep_0 : decode cX9_keep 0 = .ok (.iload_n 1, 1) := by decide +kernel
theorem dX9_keep_1 : decode cX9_keep 1 = .ok (.iconst 0, 1) := by decide +kernel
theorem dX9_keep_2 : decode cX9_keep 2 = .ok (.iconst 1, 1) := by decide +kernel
theorem dX9_keep_3 : decode cX9_keep 3 = .ok (.invokestatic 63, 3) := by decide +kernel
theorem dX9_keep_6 : decode cX9_keep 6 = .ok (.ifCond .ne 6, 3) := by decide +kernel
theorem dX9_keep_9 : decode cX9_keep 9 = .ok (.ldc 153, 2) := by decide +kernel
theorem dX9_keep_11 : decode cX9_keep 11 = .ok (.ireturn, 1) := by decide +kernel
theorem dX9_keep_12 : decode cX9_keep 12 = .ok (.aload_n 0, 1) := by decide +kernel
theorem dX9_keep_13 : decode cX9_keep 13 = .ok (.getfield 41, 3) := by decide +kernel
theorem dX9_keep_16 : decode cX9_keep 16 = .ok (.iconst 0, 1) := by decide +kernel
theorem dX9_keep_17 : decode cX9_keep 17 = .ok (.aload_n 0, 1) := by decide +kernel
theorem dX9_keep_18 : decode cX9_keep 18 = .ok (.getfield 47, 3) := by decide +kernel
theorem dX9_keep_21 : decode cX9_keep 21 = .ok (.bipush 21, 2) := by decide +kernel
theorem dX9_keep_23 : decode cX9_keep 23 = .ok (.iload_n 1, 1) := by decide +kernel
theorem dX9_keep_24 : decode cX9_keep 24 = .ok (.imul, 1) := by decide +kernel
theorem dX9_keep_25 : decode cX9_keep 25 = .ok (.bipush 21, 2) := by decide +kernel
theorem dX9_keep_27 : decode cX9_keep 27 = .ok (.invokestatic 122, 3) := by decide +kernel
theorem dX9_keep_30 : decode cX9_keep 30 = .ok (.aload_n 0, 1) := by decide +kernel
theorem dX9_keep_31 : decode cX9_keep 31 = .ok (.getfield 50, 3) := by decide +kernel
theorem dX9_keep_34 : decode cX9_keep 34 = .ok (.iload_n 1, 1) := by decide +kernel
theorem dX9_keep_35 : decode cX9_keep 35 = .ok (.aload_n 0, 1) := by decide +kernel
theorem dX9_keep_36 : decode cX9_keep 36 = .ok (.getfield 188, 3) := by decide +kernel
theorem dX9_keep_39 : decode cX9_keep 39 = .ok (.iastore, 1) := by decide +kernel
theorem dX9_keep_40 : decode cX9_keep 40 = .ok (.aload_n 0, 1) := by decide +kernel
theorem dX9_keep_41 : decode cX9_keep 41 = .ok (.getfield 53, 3) := by decide +kernel
theorem dX9_keep_44 : decode cX9_keep 44 = .ok (.iload_n 1, 1) := by decide +kernel
theorem dX9_keep_45 : decode cX9_keep 45 = .ok (.iconst 1, 1) := by decide +kernel
theorem dX9_keep_46 : decode cX9_keep 46 = .ok (.bastore, 1) := by decide +kernel
theorem dX9_keep_47 : decode cX9_keep 47 = .ok (.aload_n 0, 1) := by decide +kernel
theorem dX9_keep_48 : decode cX9_keep 48 = .ok (.iconst 0, 1) := by decide +kernel
theorem dX9_keep_49 : decode cX9_keep 49 = .ok (.putfield 126, 3) := by decide +kernel
theorem dX9_keep_52 : decode cX9_keep 52 = .ok (.iconst 1, 1) := by decide +kernel
theorem dX9_keep_53 : decode cX9_keep 53 = .ok (.ireturn, 1) := by decide +kernel
theorem dX9_goBack_0 : decode cX9_goBack 0 = .ok (.iload_n 1, 1) := by decide +kernel
theorem dX9_goBack_1 : decode cX9_goBack 1 = .ok (.iconst 0, 1) := by decide +kernel
theorem dX9_goBack_2 : decode cX9_goBack 2 = .ok (.iconst 1, 1) := by decide +kernel
theorem dX9_goBack_3 : decode cX9_goBack 3 = .ok (.invokestatic 63, 3) := by decide +kernel
theorem dX9_goBack_6 : decode cX9_goBack 6 = .ok (.ifCond .ne 6, 3) := by decide +kernel
theorem dX9_goBack_9 : decode cX9_goBack 9 = .ok (.ldc 153, 2) := by decide +kernel
theorem dX9_goBack_11 : decode cX9_goBack 11 = .ok (.ireturn, 1) := by decide +kernel
theorem dX9_goBack_12 : decode cX9_goBack 12 = .ok (.aload_n 0, 1) := by decide +kernel
theorem dX9_goBack_13 : decode cX9_goBack 13 = .ok (.getfield 53, 3) := by decide +kernel
theorem dX9_goBack_16 : decode cX9_goBack 16 = .ok (.iload_n 1, 1) := by decide +kernel
theorem dX9_goBack_17 : decode cX9_goBack 17 = .ok (.baload, 1) := by decide +kernel
theorem dX9_goBack_18 : decode cX9_goBack 18 = .ok (.ifCond .ne 6, 3) := by decide +kernel
theorem dX9_goBack_21 : decode cX9_goBack 21 = .ok (.ldc 168, 2) := by decide +kernel
theorem dX9_goBack_23 : decode cX9_goBack 23 = .ok (.ireturn, 1) := by decide +kernel
theorem dX9_goBack_24 : decode cX9_goBack 24 = .ok (.aload_n 0, 1) := by decide +kernel
theorem dX9_goBack_25 : decode cX9_goBack 25 = .ok (.getfield 47, 3) := by decide +kernel
theorem dX9_goBack_28 : decode cX9_goBack 28 = .ok (.bipush 21, 2) := by decide +kernel
theorem dX9_goBack_30 : decode cX9_goBack 30 = .ok (.iload_n 1, 1) := by decide +kernel
theorem dX9_goBack_31 : decode cX9_goBack 31 = .ok (.imul, 1) := by decide +kernel
theorem dX9_goBack_32 : decode cX9_goBack 32 = .ok (.aload_n 0, 1) := by decide +kernel
theorem dX9_goBack_33 : decode cX9_goBack 33 = .ok (.getfield 41, 3) := by decide +kernel
theorem dX9_goBack_36 : decode cX9_goBack 36 = .ok (.iconst 0, 1) := by decide +kernel
theorem dX9_goBack_37 : decode cX9_goBack 37 = .ok (.bipush 21, 2) := by decide +kernel
theorem dX9_goBack_39 : decode cX9_goBack 39 = .ok (.invokestatic 122, 3) := by decide +kernel
theorem dX9_goBack_42 : decode cX9_goBack 42 = .ok (.aload_n 0, 1) := by decide +kernel
theorem dX9_goBack_43 : decode cX9_goBack 43 = .ok (.aload_n 0, 1) := by decide +kernel
theorem dX9_goBack_44 : decode cX9_goBack 44 = .ok (.getfield 50, 3) := by decide +kernel
theorem dX9_goBack_47 : decode cX9_goBack 47 = .ok (.iload_n 1, 1) := by decide +kernel
theorem dX9_goBack_48 : decode cX9_goBack 48 = .ok (.iaload, 1) := by decide +kernel
theorem dX9_goBack_49 : decode cX9_goBack 49 = .ok (.putfield 188, 3) := by decide +kernel
theorem dX9_goBack_52 : decode cX9_goBack 52 = .ok (.aload_n 0, 1) := by decide +kernel
theorem dX9_goBack_53 : decode cX9_goBack 53 = .ok (.iconst 0, 1) := by decide +kernel
theorem dX9_goBack_54 : decode cX9_goBack 54 = .ok (.putfield 126, 3) := by decide +kernel
theorem dX9_goBack_57 : decode cX9_goBack 57 = .ok (.iconst 1, 1) := by decide +kernel
theorem dX9_goBack_58 : decode cX9_goBack 58 = .ok (.ireturn, 1) := by decide +kernel
