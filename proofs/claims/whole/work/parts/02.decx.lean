theorem dX0_init_0 : decode cX0_init 0 = .ok (.aload_n 0, 1) := by decide +kernel
theorem dX0_init_1 : decode cX0_init 1 = .ok (.invokespecial 3, 3) := by decide +kernel
theorem dX0_init_4 : decode cX0_init 4 = .ok (.aload_n 0, 1) := by decide +kernel
theorem dX0_init_5 : decode cX0_init 5 = .ok (.iconst 0, 1) := by decide +kernel
theorem dX0_init_6 : decode cX0_init 6 = .ok (.putfield 9, 3) := by decide +kernel
theorem dX0_init_9 : decode cX0_init 9 = .ok (.aload_n 0, 1) := by decide +kernel
theorem dX0_init_10 : decode cX0_init 10 = .ok (.iconst 0, 1) := by decide +kernel
theorem dX0_init_11 : decode cX0_init 11 = .ok (.putfield 15, 3) := by decide +kernel
theorem dX0_init_14 : decode cX0_init 14 = .ok (.aload_n 0, 1) := by decide +kernel
theorem dX0_init_15 : decode cX0_init 15 = .ok (.iconst 0, 1) := by decide +kernel
theorem dX0_init_16 : decode cX0_init 16 = .ok (.putfield 18, 3) := by decide +kernel
theorem dX0_init_19 : decode cX0_init 19 = .ok (.aload_n 0, 1) := by decide +kernel
theorem dX0_init_20 : decode cX0_init 20 = .ok (.iconst 0, 1) := by decide +kernel
theorem dX0_init_21 : decode cX0_init 21 = .ok (.putfield 22, 3) := by decide +kernel
theorem dX0_init_24 : decode cX0_init 24 = .ok (.aload_n 0, 1) := by decide +kernel
theorem dX0_init_25 : decode cX0_init 25 = .ok (.iconst 0, 1) := by decide +kernel
theorem dX0_init_26 : decode cX0_init 26 = .ok (.putfield 25, 3) := by decide +kernel
theorem dX0_init_29 : decode cX0_init 29 = .ok (.aload_n 0, 1) := by decide +kernel
theorem dX0_init_30 : decode cX0_init 30 = .ok (.iconst 0, 1) := by decide +kernel
theorem dX0_init_31 : decode cX0_init 31 = .ok (.putfield 28, 3) := by decide +kernel
theorem dX0_init_34 : decode cX0_init 34 = .ok (.aload_n 0, 1) := by decide +kernel
theorem dX0_init_35 : decode cX0_init 35 = .ok (.iconst 5, 1) := by decide +kernel
theorem dX0_init_36 : decode cX0_init 36 = .ok (.newarray .int, 2) := by decide +kernel
theorem dX0_init_38 : decode cX0_init 38 = .ok (.putfield 31, 3) := by decide +kernel
theorem dX0_init_41 : decode cX0_init 41 = .ok (.aload_n 0, 1) := by decide +kernel
theorem dX0_init_42 : decode cX0_init 42 = .ok (.iconst 5, 1) := by decide +kernel
theorem dX0_init_43 : decode cX0_init 43 = .ok (.newarray .int, 2) := by decide +kernel
theorem dX0_init_45 : decode cX0_init 45 = .ok (.putfield 35, 3) := by decide +kernel
theorem dX0_init_48 : decode cX0_init 48 = .ok (.aload_n 0, 1) := by decide +kernel
theorem dX0_init_49 : decode cX0_init 49 = .ok (.iconst 5, 1) := by decide +kernel
theorem dX0_init_50 : decode cX0_init 50 = .ok (.newarray .int, 2) := by decide +kernel
theorem dX0_init_52 : decode cX0_init 52 = .ok (.putfield 38, 3) := by decide +kernel
theorem dX0_init_55 : decode cX0_init 55 = .ok (.return_, 1) := by decide +kernel
theorem dX0_begin_0 : decode cX0_begin 0 = .ok (.aload_n 0, 1) := by decide +kernel
theorem dX0_begin_1 : decode cX0_begin 1 = .ok (.iconst 0, 1) := by decide +kernel
theorem dX0_begin_2 : decode cX0_begin 2 = .ok (.putfield 9, 3) := by decide +kernel
theorem dX0_begin_5 : decode cX0_begin 5 = .ok (.aload_n 0, 1) := by decide +kernel
theorem dX0_begin_6 : decode cX0_begin 6 = .ok (.iconst 0, 1) := by decide +kernel
theorem dX0_begin_7 : decode cX0_begin 7 = .ok (.putfield 15, 3) := by decide +kernel
theorem dX0_begin_10 : decode cX0_begin 10 = .ok (.aload_n 0, 1) := by decide +kernel
theorem dX0_begin_11 : decode cX0_begin 11 = .ok (.aload_n 1, 1) := by decide +kernel
theorem dX0_begin_12 : decode cX0_begin 12 = .ok (.invokevirtual 41, 3) := by decide +kernel
theorem dX0_begin_15 : decode cX0_begin 15 = .ok (.putfield 18, 3) := by decide +kernel
theorem dX0_begin_18 : decode cX0_begin 18 = .ok (.aload_n 0, 1) := by decide +kernel
theorem dX0_begin_19 : decode cX0_begin 19 = .ok (.aload_n 1, 1) := by decide +kernel
theorem dX0_begin_20 : decode cX0_begin 20 = .ok (.invokevirtual 41, 3) := by decide +kernel
theorem dX0_begin_23 : decode cX0_begin 23 = .ok (.putfield 22, 3) := by decide +kernel
theorem dX0_begin_26 : decode cX0_begin 26 = .ok (.aload_n 0, 1) := by decide +kernel
theorem dX0_begin_27 : decode cX0_begin 27 = .ok (.iconst 0, 1) := by decide +kernel
theorem dX0_begin_28 : decode cX0_begin 28 = .ok (.putfield 25, 3) := by decide +kernel
theorem dX0_begin_31 : decode cX0_begin 31 = .ok (.aload_n 0, 1) := by decide +kernel
theorem dX0_begin_32 : decode cX0_begin 32 = .ok (.iconst 0, 1) := by decide +kernel
theorem dX0_begin_33 : decode cX0_begin 33 = .ok (.putfield 28, 3) := by decide +kernel
theorem dX0_begin_36 : decode cX0_begin 36 = .ok (.iconst 0, 1) := by decide +kernel
theorem dX0_begin_37 : decode cX0_begin 37 = .ok (.istore_n 2, 1) := by decide +kernel
theorem dX0_begin_38 : decode cX0_begin 38 = .ok (.iload_n 2, 1) := by decide +kernel
theorem dX0_begin_39 : decode cX0_begin 39 = .ok (.iconst 5, 1) := by decide +kernel
theorem dX0_begin_40 : decode cX0_begin 40 = .ok (.if_icmp .ge 35, 3) := by decide +kernel
theorem dX0_begin_43 : decode cX0_begin 43 = .ok (.aload_n 0, 1) := by decide +kernel
theorem dX0_begin_44 : decode cX0_begin 44 = .ok (.getfield 31, 3) := by decide +kernel
theorem dX0_begin_47 : decode cX0_begin 47 = .ok (.iload_n 2, 1) := by decide +kernel
theorem dX0_begin_48 : decode cX0_begin 48 = .ok (.aload_n 1, 1) := by decide +kernel
theorem dX0_begin_49 : decode cX0_begin 49 = .ok (.getfield 47, 3) := by decide +kernel
theorem dX0_begin_52 : decode cX0_begin 52 = .ok (.iload_n 2, 1) := by decide +kernel
theorem dX0_begin_53 : decode cX0_begin 53 = .ok (.iaload, 1) := by decide +kernel
theorem dX0_begin_54 : decode cX0_begin 54 = .ok (.iastore, 1) := by decide +kernel
theorem dX0_begin_55 : decode cX0_begin 55 = .ok (.aload_n 0, 1) := by decide +kernel
theorem dX0_begin_56 : decode cX0_begin 56 = .ok (.getfield 35, 3) := by decide +kernel
theorem dX0_begin_59 : decode cX0_begin 59 = .ok (.iload_n 2, 1) := by decide +kernel
theorem dX0_begin_60 : decode cX0_begin 60 = .ok (.iconst 0, 1) := by decide +kernel
theorem dX0_begin_61 : decode cX0_begin 61 = .ok (.iastore, 1) := by decide +kernel
theorem dX0_begin_62 : decode cX0_begin 62 = .ok (.aload_n 0, 1) := by decide +kernel
theorem dX0_begin_63 : decode cX0_begin 63 = .ok (.getfield 38, 3) := by decide +kernel
theorem dX0_begin_66 : decode cX0_begin 66 = .ok (.iload_n 2, 1) := by decide +kernel
theorem dX0_begin_67 : decode cX0_begin 67 = .ok (.iconst 0, 1) := by decide +kernel
theorem dX0_begin_68 : decode cX0_begin 68 = .ok (.iastore, 1) := by decide +kernel
theorem dX0_begin_69 : decode cX0_begin 69 = .ok (.iinc 2 1, 3) := by decide +kernel
theorem dX0_begin_72 : decode cX0_begin 72 = .ok (.goto (-34), 3) := by decide +kernel
theorem dX0_begin_75 : decode cX0_begin 75 = .ok (.return_, 1) := by decide +kernel
theorem dX0_copyFrom_0 : decode cX0_copyFrom 0 = .ok (.aload_n 0, 1) := by decide +kernel
theorem dX0_copyFrom_1 : decode cX0_copyFrom 1 = .ok (.aload_n 1, 1) := by decide +kernel
theorem dX0_copyFrom_2 : decode cX0_copyFrom 2 = .ok (.getfield 9, 3) := by decide +kernel
theorem dX0_copyFrom_5 : decode cX0_copyFrom 5 = .ok (.putfield 9, 3) := by decide +kernel
theorem dX0_copyFrom_8 : decode cX0_copyFrom 8 = .ok (.aload_n 0, 1) := by decide +kernel
theorem dX0_copyFrom_9 : decode cX0_copyFrom 9 = .ok (.aload_n 1, 1) := by decide +kernel
theorem dX0_copyFrom_10 : decode cX0_copyFrom 10 = .ok (.getfield 15, 3) := by decide +kernel
theorem dX0_copyFrom_13 : decode cX0_copyFrom 13 = .ok (.putfield 15, 3) := by decide +kernel
theorem dX0_copyFrom_16 : decode cX0_copyFrom 16 = .ok (.aload_n 0, 1) := by decide +kernel
theorem dX0_copyFrom_17 : decode cX0_copyFrom 17 = .ok (.aload_n 1, 1) := by decide +kernel
theorem dX0_copyFrom_18 : decode cX0_copyFrom 18 = .ok (.getfield 18, 3) := by decide +kernel
theorem dX0_copyFrom_21 : decode cX0_copyFrom 21 = .ok (.putfield 18, 3) := by decide +kernel
theorem dX0_copyFrom_24 : decode cX0_copyFrom 24 = .ok (.aload_n 0, 1) := by decide +kernel
theorem dX0_copyFrom_25 : decode cX0_copyFrom 25 = .ok (.aload_n 1, 1) := by decide +kernel
theorem dX0_copyFrom_26 : decode cX0_copyFrom 26 = .ok (.getfield 22, 3) := by decide +kernel
theorem dX0_copyFrom_29 : decode cX0_copyFrom 29 = .ok (.putfield 22, 3) := by decide +kernel
theorem dX0_copyFrom_32 : decode cX0_copyFrom 32 = .ok (.aload_n 0, 1) := by decide +kernel
theorem dX0_copyFrom_33 : decode cX0_copyFrom 33 = .ok (.aload_n 1, 1) := by decide +kernel
theorem dX0_copyFrom_34 : decode cX0_copyFrom 34 = .ok (.getfield 25, 3) := by decide +kernel
theorem dX0_copyFrom_37 : decode cX0_copyFrom 37 = .ok (.putfield 25, 3) := by decide +kernel
theorem dX0_copyFrom_40 : decode cX0_copyFrom 40 = .ok (.aload_n 0, 1) := by decide +kernel
theorem dX0_copyFrom_41 : decode cX0_copyFrom 41 = .ok (.aload_n 1, 1) := by decide +kernel
theorem dX0_copyFrom_42 : decode cX0_copyFrom 42 = .ok (.getfield 28, 3) := by decide +kernel
theorem dX0_copyFrom_45 : decode cX0_copyFrom 45 = .ok (.putfield 28, 3) := by decide +kernel
theorem dX0_copyFrom_48 : decode cX0_copyFrom 48 = .ok (.iconst 0, 1) := by decide +kernel
theorem dX0_copyFrom_49 : decode cX0_copyFrom 49 = .ok (.istore_n 2, 1) := by decide +kernel
theorem dX0_copyFrom_50 : decode cX0_copyFrom 50 = .ok (.iload_n 2, 1) := by decide +kernel
theorem dX0_copyFrom_51 : decode cX0_copyFrom 51 = .ok (.iconst 5, 1) := by decide +kernel
theorem dX0_copyFrom_52 : decode cX0_copyFrom 52 = .ok (.if_icmp .ge 45, 3) := by decide +kernel
theorem dX0_copyFrom_55 : decode cX0_copyFrom 55 = .ok (.aload_n 0, 1) := by decide +kernel
theorem dX0_copyFrom_56 : decode cX0_copyFrom 56 = .ok (.getfield 31, 3) := by decide +kernel
theorem dX0_copyFrom_59 : decode cX0_copyFrom 59 = .ok (.iload_n 2, 1) := by decide +kernel
theorem dX0_copyFrom_60 : decode cX0_copyFrom 60 = .ok (.aload_n 1, 1) := by decide +kernel
theorem dX0_copyFrom_61 : decode cX0_copyFrom 61 = .ok (.getfield 31, 3) := by decide +kernel
theorem dX0_copyFrom_64 : decode cX0_copyFrom 64 = .ok (.iload_n 2, 1) := by decide +kernel
theorem dX0_copyFrom_65 : decode cX0_copyFrom 65 = .ok (.iaload, 1) := by decide +kernel
theorem dX0_copyFrom_66 : decode cX0_copyFrom 66 = .ok (.iastore, 1) := by decide +kernel
theorem dX0_copyFrom_67 : decode cX0_copyFrom 67 = .ok (.aload_n 0, 1) := by decide +kernel
theorem dX0_copyFrom_68 : decode cX0_copyFrom 68 = .ok (.getfield 35, 3) := by decide +kernel
theorem dX0_copyFrom_71 : decode cX0_copyFrom 71 = .ok (.iload_n 2, 1) := by decide +kernel
theorem dX0_copyFrom_72 : decode cX0_copyFrom 72 = .ok (.aload_n 1, 1) := by decide +kernel
theorem dX0_copyFrom_73 : decode cX0_copyFrom 73 = .ok (.getfield 35, 3) := by decide +kernel
theorem dX0_copyFrom_76 : decode cX0_copyFrom 76 = .ok (.iload_n 2, 1) := by decide +kernel
theorem dX0_copyFrom_77 : decode cX0_copyFrom 77 = .ok (.iaload, 1) := by decide +kernel
theorem dX0_copyFrom_78 : decode cX0_copyFrom 78 = .ok (.iastore, 1) := by decide +kernel
theorem dX0_copyFrom_79 : decode cX0_copyFrom 79 = .ok (.aload_n 0, 1) := by decide +kernel
theorem dX0_copyFrom_80 : decode cX0_copyFrom 80 = .ok (.getfield 38, 3) := by decide +kernel
theorem dX0_copyFrom_83 : decode cX0_copyFrom 83 = .ok (.iload_n 2, 1) := by decide +kernel
theorem dX0_copyFrom_84 : decode cX0_copyFrom 84 = .ok (.aload_n 1, 1) := by decide +kernel
theorem dX0_copyFrom_85 : decode cX0_copyFrom 85 = .ok (.getfield 38, 3) := by decide +kernel
theorem dX0_copyFrom_88 : decode cX0_copyFrom 88 = .ok (.iload_n 2, 1) := by decide +kernel
theorem dX0_copyFrom_89 : decode cX0_copyFrom 89 = .ok (.iaload, 1) := by decide +kernel
theorem dX0_copyFrom_90 : decode cX0_copyFrom 90 = .ok (.iastore, 1) := by decide +kernel
theorem dX0_copyFrom_91 : decode cX0_copyFrom 91 = .ok (.iinc 2 1, 3) := by decide +kernel
theorem dX0_copyFrom_94 : decode cX0_copyFrom 94 = .ok (.goto (-44), 3) := by decide +kernel
theorem dX0_copyFrom_97 : decode cX0_copyFrom 97 = .ok (.return_, 1) := by decide +kernel
theorem dX0_passDay_0 : decode cX0_passDay 0 = .ok (.aload_n 0, 1) := by decide +kernel
theorem dX0_passDay_1 : decode cX0_passDay 1 = .ok (.dup, 1) := by decide +kernel
theorem dX0_passDay_2 : decode cX0_passDay 2 = .ok (.getfield 9, 3) := by decide +kernel
theorem dX0_passDay_5 : decode cX0_passDay 5 = .ok (.iconst 1, 1) := by decide +kernel
theorem dX0_passDay_6 : decode cX0_passDay 6 = .ok (.iadd, 1) := by decide +kernel
theorem dX0_passDay_7 : decode cX0_passDay 7 = .ok (.putfield 9, 3) := by decide +kernel
theorem dX0_passDay_10 : decode cX0_passDay 10 = .ok (.aload_n 0, 1) := by decide +kernel
theorem dX0_passDay_11 : decode cX0_passDay 11 = .ok (.getfield 18, 3) := by decide +kernel
theorem dX0_passDay_14 : decode cX0_passDay 14 = .ok (.ifCond .eq 13, 3) := by decide +kernel
theorem dX0_passDay_17 : decode cX0_passDay 17 = .ok (.aload_n 0, 1) := by decide +kernel
theorem dX0_passDay_18 : decode cX0_passDay 18 = .ok (.dup, 1) := by decide +kernel
theorem dX0_passDay_19 : decode cX0_passDay 19 = .ok (.getfield 15, 3) := by decide +kernel
theorem dX0_passDay_22 : decode cX0_passDay 22 = .ok (.iconst 1, 1) := by decide +kernel
theorem dX0_passDay_23 : decode cX0_passDay 23 = .ok (.iadd, 1) := by decide +kernel
theorem dX0_passDay_24 : decode cX0_passDay 24 = .ok (.putfield 15, 3) := by decide +kernel
theorem dX0_passDay_27 : decode cX0_passDay 27 = .ok (.iconst 0, 1) := by decide +kernel
theorem dX0_passDay_28 : decode cX0_passDay 28 = .ok (.istore_n 2, 1) := by decide +kernel
theorem dX0_passDay_29 : decode cX0_passDay 29 = .ok (.iload_n 2, 1) := by decide +kernel
theorem dX0_passDay_30 : decode cX0_passDay 30 = .ok (.aload_n 1, 1) := by decide +kernel
theorem dX0_passDay_31 : decode cX0_passDay 31 = .ok (.getfield 48, 3) := by decide +kernel
theorem dX0_passDay_34 : decode cX0_passDay 34 = .ok (.if_icmp .ge 62, 3) := by decide +kernel
theorem dX0_passDay_37 : decode cX0_passDay 37 = .ok (.aload_n 0, 1) := by decide +kernel
theorem dX0_passDay_38 : decode cX0_passDay 38 = .ok (.getfield 28, 3) := by decide +kernel
theorem dX0_passDay_41 : decode cX0_passDay 41 = .ok (.iload_n 2, 1) := by decide +kernel
theorem dX0_passDay_42 : decode cX0_passDay 42 = .ok (.invokestatic 51, 3) := by decide +kernel
theorem dX0_passDay_45 : decode cX0_passDay 45 = .ok (.ifCond .ne 6, 3) := by decide +kernel
theorem dX0_passDay_48 : decode cX0_passDay 48 = .ok (.goto 42, 3) := by decide +kernel
theorem dX0_passDay_51 : decode cX0_passDay 51 = .ok (.aload_n 0, 1) := by decide +kernel
theorem dX0_passDay_52 : decode cX0_passDay 52 = .ok (.getfield 38, 3) := by decide +kernel
theorem dX0_passDay_55 : decode cX0_passDay 55 = .ok (.iload_n 2, 1) := by decide +kernel
theorem dX0_passDay_56 : decode cX0_passDay 56 = .ok (.dup2, 1) := by decide +kernel
theorem dX0_passDay_57 : decode cX0_passDay 57 = .ok (.iaload, 1) := by decide +kernel
theorem dX0_passDay_58 : decode cX0_passDay 58 = .ok (.iconst 1, 1) := by decide +kernel
theorem dX0_passDay_59 : decode cX0_passDay 59 = .ok (.iadd, 1) := by decide +kernel
theorem dX0_passDay_60 : decode cX0_passDay 60 = .ok (.iastore, 1) := by decide +kernel
theorem dX0_passDay_61 : decode cX0_passDay 61 = .ok (.aload_n 0, 1) := by decide +kernel
theorem dX0_passDay_62 : decode cX0_passDay 62 = .ok (.getfield 38, 3) := by decide +kernel
theorem dX0_passDay_65 : decode cX0_passDay 65 = .ok (.iload_n 2, 1) := by decide +kernel
theorem dX0_passDay_66 : decode cX0_passDay 66 = .ok (.iaload, 1) := by decide +kernel
theorem dX0_passDay_67 : decode cX0_passDay 67 = .ok (.aload_n 1, 1) := by decide +kernel
theorem dX0_passDay_68 : decode cX0_passDay 68 = .ok (.getfield 55, 3) := by decide +kernel
theorem dX0_passDay_71 : decode cX0_passDay 71 = .ok (.if_icmp .lt 19, 3) := by decide +kernel
theorem dX0_passDay_74 : decode cX0_passDay 74 = .ok (.aload_n 0, 1) := by decide +kernel
theorem dX0_passDay_75 : decode cX0_passDay 75 = .ok (.iload_n 2, 1) := by decide +kernel
theorem dX0_passDay_76 : decode cX0_passDay 76 = .ok (.aload_n 1, 1) := by decide +kernel
theorem dX0_passDay_77 : decode cX0_passDay 77 = .ok (.getfield 58, 3) := by decide +kernel
theorem dX0_passDay_80 : decode cX0_passDay 80 = .ok (.invokevirtual 61, 3) := by decide +kernel
theorem dX0_passDay_83 : decode cX0_passDay 83 = .ok (.aload_n 0, 1) := by decide +kernel
theorem dX0_passDay_84 : decode cX0_passDay 84 = .ok (.getfield 38, 3) := by decide +kernel
theorem dX0_passDay_87 : decode cX0_passDay 87 = .ok (.iload_n 2, 1) := by decide +kernel
theorem dX0_passDay_88 : decode cX0_passDay 88 = .ok (.iconst 0, 1) := by decide +kernel
theorem dX0_passDay_89 : decode cX0_passDay 89 = .ok (.iastore, 1) := by decide +kernel
theorem dX0_passDay_90 : decode cX0_passDay 90 = .ok (.iinc 2 1, 3) := by decide +kernel
theorem dX0_passDay_93 : decode cX0_passDay 93 = .ok (.goto (-64), 3) := by decide +kernel
theorem dX0_passDay_96 : decode cX0_passDay 96 = .ok (.return_, 1) := by decide +kernel
theorem dX0_canMake_0 : decode cX0_canMake 0 = .ok (.aload_n 0, 1) := by decide +kernel
theorem dX0_canMake_1 : decode cX0_canMake 1 = .ok (.getfield 18, 3) := by decide +kernel
theorem dX0_canMake_4 : decode cX0_canMake 4 = .ok (.ifCond .eq 42, 3) := by decide +kernel
theorem dX0_canMake_7 : decode cX0_canMake 7 = .ok (.aload_n 1, 1) := by decide +kernel
theorem dX0_canMake_8 : decode cX0_canMake 8 = .ok (.iload_n 2, 1) := by decide +kernel
theorem dX0_canMake_9 : decode cX0_canMake 9 = .ok (.invokevirtual 65, 3) := by decide +kernel
theorem dX0_canMake_12 : decode cX0_canMake 12 = .ok (.ifCond .eq 34, 3) := by decide +kernel
theorem dX0_canMake_15 : decode cX0_canMake 15 = .ok (.aload_n 0, 1) := by decide +kernel
theorem dX0_canMake_16 : decode cX0_canMake 16 = .ok (.getfield 25, 3) := by decide +kernel
theorem dX0_canMake_19 : decode cX0_canMake 19 = .ok (.iload_n 2, 1) := by decide +kernel
theorem dX0_canMake_20 : decode cX0_canMake 20 = .ok (.invokestatic 51, 3) := by decide +kernel
theorem dX0_canMake_23 : decode cX0_canMake 23 = .ok (.ifCond .ne 23, 3) := by decide +kernel
theorem dX0_canMake_26 : decode cX0_canMake 26 = .ok (.aload_n 0, 1) := by decide +kernel
theorem dX0_canMake_27 : decode cX0_canMake 27 = .ok (.getfield 22, 3) := by decide +kernel
theorem dX0_canMake_30 : decode cX0_canMake 30 = .ok (.ifCond .eq 12, 3) := by decide +kernel
theorem dX0_canMake_33 : decode cX0_canMake 33 = .ok (.aload_n 1, 1) := by decide +kernel
theorem dX0_canMake_34 : decode cX0_canMake 34 = .ok (.getfield 69, 3) := by decide +kernel
theorem dX0_canMake_37 : decode cX0_canMake 37 = .ok (.iload_n 2, 1) := by decide +kernel
theorem dX0_canMake_38 : decode cX0_canMake 38 = .ok (.iaload, 1) := by decide +kernel
theorem dX0_canMake_39 : decode cX0_canMake 39 = .ok (.ifCond .ne 7, 3) := by decide +kernel
theorem dX0_canMake_42 : decode cX0_canMake 42 = .ok (.iconst 1, 1) := by decide +kernel
theorem dX0_canMake_43 : decode cX0_canMake 43 = .ok (.goto 4, 3) := by decide +kernel
theorem dX0_canMake_46 : decode cX0_canMake 46 = .ok (.iconst 0, 1) := by decide +kernel
theorem dX0_canMake_47 : decode cX0_canMake 47 = .ok (.ireturn, 1) := by decide +kernel
theorem dX0_setHired_0 : decode cX0_setHired 0 = .ok (.iload_n 1, 1) := by decide +kernel
theorem dX0_setHired_1 : decode cX0_setHired 1 = .ok (.iconst 0, 1) := by decide +kernel
theorem dX0_setHired_2 : decode cX0_setHired 2 = .ok (.iconst 4, 1) := by decide +kernel
theorem dX0_setHired_3 : decode cX0_setHired 3 = .ok (.invokestatic 72, 3) := by decide +kernel
theorem dX0_setHired_6 : decode cX0_setHired 6 = .ok (.ifCond .ne 4, 3) := by decide +kernel
theorem dX0_setHired_9 : decode cX0_setHired 9 = .ok (.return_, 1) := by decide +kernel
theorem dX0_setHired_10 : decode cX0_setHired 10 = .ok (.aload_n 0, 1) := by decide +kernel
theorem dX0_setHired_11 : decode cX0_setHired 11 = .ok (.iload_n 2, 1) := by decide +kernel
theorem dX0_setHired_12 : decode cX0_setHired 12 = .ok (.ifCond .eq 14, 3) := by decide +kernel
theorem dX0_setHired_15 : decode cX0_setHired 15 = .ok (.aload_n 0, 1) := by decide +kernel
theorem dX0_setHired_16 : decode cX0_setHired 16 = .ok (.getfield 28, 3) := by decide +kernel
theorem dX0_setHired_19 : decode cX0_setHired 19 = .ok (.iconst 1, 1) := by decide +kernel
theorem dX0_setHired_20 : decode cX0_setHired 20 = .ok (.iload_n 1, 1) := by decide +kernel
theorem dX0_setHired_21 : decode cX0_setHired 21 = .ok (.ishl, 1) := by decide +kernel
theorem dX0_setHired_22 : decode cX0_setHired 22 = .ok (.ior, 1) := by decide +kernel
theorem dX0_setHired_23 : decode cX0_setHired 23 = .ok (.goto 13, 3) := by decide +kernel
theorem dX0_setHired_26 : decode cX0_setHired 26 = .ok (.aload_n 0, 1) := by decide +kernel
theorem dX0_setHired_27 : decode cX0_setHired 27 = .ok (.getfield 28, 3) := by decide +kernel
theorem dX0_setHired_30 : decode cX0_setHired 30 = .ok (.iconst 1, 1) := by decide +kernel
theorem dX0_setHired_31 : decode cX0_setHired 31 = .ok (.iload_n 1, 1) := by decide +kernel
theorem dX0_setHired_32 : decode cX0_setHired 32 = .ok (.ishl, 1) := by decide +kernel
theorem dX0_setHired_33 : decode cX0_setHired 33 = .ok (.iconst (-1), 1) := by decide +kernel
theorem dX0_setHired_34 : decode cX0_setHired 34 = .ok (.ixor, 1) := by decide +kernel
theorem dX0_setHired_35 : decode cX0_setHired 35 = .ok (.iand, 1) := by decide +kernel
theorem dX0_setHired_36 : decode cX0_setHired 36 = .ok (.putfield 28, 3) := by decide +kernel
theorem dX0_setHired_39 : decode cX0_setHired 39 = .ok (.aload_n 0, 1) := by decide +kernel
theorem dX0_setHired_40 : decode cX0_setHired 40 = .ok (.getfield 38, 3) := by decide +kernel
theorem dX0_setHired_43 : decode cX0_setHired 43 = .ok (.iload_n 1, 1) := by decide +kernel
theorem dX0_setHired_44 : decode cX0_setHired 44 = .ok (.iconst 0, 1) := by decide +kernel
theorem dX0_setHired_45 : decode cX0_setHired 45 = .ok (.iastore, 1) := by decide +kernel
theorem dX0_setHired_46 : decode cX0_setHired 46 = .ok (.return_, 1) := by decide +kernel
theorem dX0_give_0 : decode cX0_give 0 = .ok (.iload_n 1, 1) := by decide +kernel
theorem dX0_give_1 : decode cX0_give 1 = .ok (.iconst 0, 1) := by decide +kernel
theorem dX0_give_2 : decode cX0_give 2 = .ok (.iconst 4, 1) := by decide +kernel
theorem dX0_give_3 : decode cX0_give 3 = .ok (.invokestatic 72, 3) := by decide +kernel
theorem dX0_give_6 : decode cX0_give 6 = .ok (.ifCond .ne 4, 3) := by decide +kernel
theorem dX0_give_9 : decode cX0_give 9 = .ok (.return_, 1) := by decide +kernel
theorem dX0_give_10 : decode cX0_give 10 = .ok (.aload_n 0, 1) := by decide +kernel
theorem dX0_give_11 : decode cX0_give 11 = .ok (.getfield 35, 3) := by decide +kernel
theorem dX0_give_14 : decode cX0_give 14 = .ok (.iload_n 1, 1) := by decide +kernel
theorem dX0_give_15 : decode cX0_give 15 = .ok (.aload_n 0, 1) := by decide +kernel
theorem dX0_give_16 : decode cX0_give 16 = .ok (.getfield 35, 3) := by decide +kernel
theorem dX0_give_19 : decode cX0_give 19 = .ok (.iload_n 1, 1) := by decide +kernel
theorem dX0_give_20 : decode cX0_give 20 = .ok (.iaload, 1) := by decide +kernel
theorem dX0_give_21 : decode cX0_give 21 = .ok (.iload_n 2, 1) := by decide +kernel
theorem dX0_give_22 : decode cX0_give 22 = .ok (.iadd, 1) := by decide +kernel
theorem dX0_give_23 : decode cX0_give 23 = .ok (.ldc 76, 2) := by decide +kernel
theorem dX0_give_25 : decode cX0_give 25 = .ok (.invokestatic 77, 3) := by decide +kernel
theorem dX0_give_28 : decode cX0_give 28 = .ok (.iastore, 1) := by decide +kernel
theorem dX0_give_29 : decode cX0_give 29 = .ok (.return_, 1) := by decide +kernel
theorem dX1_init_0 : decode cX1_init 0 = .ok (.aload_n 0, 1) := by decide +kernel
theorem dX1_init_1 : decode cX1_init 1 = .ok (.invokespecial 3, 3) := by decide +kernel
theorem dX1_init_4 : decode cX1_init 4 = .ok (.aload_n 0, 1) := by decide +kernel
theorem dX1_init_5 : decode cX1_init 5 = .ok (.bipush 15, 2) := by decide +kernel
theorem dX1_init_7 : decode cX1_init 7 = .ok (.newarray .int, 2) := by decide +kernel
theorem dX1_init_9 : decode cX1_init 9 = .ok (.putfield 9, 3) := by decide +kernel
theorem dX1_init_12 : decode cX1_init 12 = .ok (.aload_n 0, 1) := by decide +kernel
theorem dX1_init_13 : decode cX1_init 13 = .ok (.iconst 0, 1) := by decide +kernel
theorem dX1_init_14 : decode cX1_init 14 = .ok (.putfield 15, 3) := by decide +kernel
theorem dX1_init_17 : decode cX1_init 17 = .ok (.return_, 1) := by decide +kernel
theorem dX1_add_0 : decode cX1_add 0 = .ok (.aload_n 0, 1) := by decide +kernel
theorem dX1_add_1 : decode cX1_add 1 = .ok (.getfield 15, 3) := by decide +kernel
theorem dX1_add_4 : decode cX1_add 4 = .ok (.bipush 15, 2) := by decide +kernel
theorem dX1_add_6 : decode cX1_add 6 = .ok (.if_icmp .lt 5, 3) := by decide +kernel
theorem dX1_add_9 : decode cX1_add 9 = .ok (.iconst 0, 1) := by decide +kernel
theorem dX1_add_10 : decode cX1_add 10 = .ok (.ireturn, 1) := by decide +kernel
theorem dX1_add_11 : decode cX1_add 11 = .ok (.aload_n 0, 1) := by decide +kernel
theorem dX1_add_12 : decode cX1_add 12 = .ok (.getfield 9, 3) := by decide +kernel
theorem dX1_add_15 : decode cX1_add 15 = .ok (.aload_n 0, 1) := by decide +kernel
theorem dX1_add_16 : decode cX1_add 16 = .ok (.getfield 15, 3) := by decide +kernel
theorem dX1_add_19 : decode cX1_add 19 = .ok (.iload_n 1, 1) := by decide +kernel
theorem dX1_add_20 : decode cX1_add 20 = .ok (.iastore, 1) := by decide +kernel
theorem dX1_add_21 : decode cX1_add 21 = .ok (.aload_n 0, 1) := by decide +kernel
theorem dX1_add_22 : decode cX1_add 22 = .ok (.dup, 1) := by decide +kernel
theorem dX1_add_23 : decode cX1_add 23 = .ok (.getfield 15, 3) := by decide +kernel
theorem dX1_add_26 : decode cX1_add 26 = .ok (.iconst 1, 1) := by decide +kernel
theorem dX1_add_27 : decode cX1_add 27 = .ok (.iadd, 1) := by decide +kernel
theorem dX1_add_28 : decode cX1_add 28 = .ok (.putfield 15, 3) := by decide +kernel
theorem dX1_add_31 : decode cX1_add 31 = .ok (.iconst 1, 1) := by decide +kernel
theorem dX1_add_32 : decode cX1_add 32 = .ok (.ireturn, 1) := by decide +kernel
theorem dX1_firstOtherThan_0 : decode cX1_firstOtherThan 0 = .ok (.iconst 0, 1) := by decide +kernel
theorem dX1_firstOtherThan_1 : decode cX1_firstOtherThan 1 = .ok (.istore_n 2, 1) := by decide +kernel
theorem dX1_firstOtherThan_2 : decode cX1_firstOtherThan 2 = .ok (.iload_n 2, 1) := by decide +kernel
theorem dX1_firstOtherThan_3 : decode cX1_firstOtherThan 3 = .ok (.aload_n 0, 1) := by decide +kernel
theorem dX1_firstOtherThan_4 : decode cX1_firstOtherThan 4 = .ok (.getfield 15, 3) := by decide +kernel
theorem dX1_firstOtherThan_7 : decode cX1_firstOtherThan 7 = .ok (.if_icmp .ge 21, 3) := by decide +kernel
theorem dX1_firstOtherThan_10 : decode cX1_firstOtherThan 10 = .ok (.aload_n 0, 1) := by decide +kernel
theorem dX1_firstOtherThan_11 : decode cX1_firstOtherThan 11 = .ok (.getfield 9, 3) := by decide +kernel
theorem dX1_firstOtherThan_14 : decode cX1_firstOtherThan 14 = .ok (.iload_n 2, 1) := by decide +kernel
theorem dX1_firstOtherThan_15 : decode cX1_firstOtherThan 15 = .ok (.iaload, 1) := by decide +kernel
theorem dX1_firstOtherThan_16 : decode cX1_firstOtherThan 16 = .ok (.iload_n 1, 1) := by decide +kernel
theorem dX1_firstOtherThan_17 : decode cX1_firstOtherThan 17 = .ok (.if_icmp .eq 5, 3) := by decide +kernel
theorem dX1_firstOtherThan_20 : decode cX1_firstOtherThan 20 = .ok (.iload_n 2, 1) := by decide +kernel
theorem dX1_firstOtherThan_21 : decode cX1_firstOtherThan 21 = .ok (.ireturn, 1) := by decide +kernel
theorem dX1_firstOtherThan_22 : decode cX1_firstOtherThan 22 = .ok (.iinc 2 1, 3) := by decide +kernel
theorem dX1_firstOtherThan_25 : decode cX1_firstOtherThan 25 = .ok (.goto (-23), 3) := by decide +kernel
theorem dX1_firstOtherThan_28 : decode cX1_firstOtherThan 28 = .ok (.iconst (-1), 1) := by decide +kernel
theorem dX1_firstOtherThan_29 : decode cX1_firstOtherThan 29 = .ok (.ireturn, 1) := by decide +kernel
theorem dX2_init_0 : decode cX2_init 0 = .ok (.aload_n 0, 1) := by decide +kernel
theorem dX2_init_1 : decode cX2_init 1 = .ok (.invokespecial 3, 3) := by decide +kernel
theorem dX2_init_4 : decode cX2_init 4 = .ok (.aload_n 0, 1) := by decide +kernel
theorem dX2_init_5 : decode cX2_init 5 = .ok (.iconst 0, 1) := by decide +kernel
theorem dX2_init_6 : decode cX2_init 6 = .ok (.putfield 9, 3) := by decide +kernel
theorem dX2_init_9 : decode cX2_init 9 = .ok (.aload_n 0, 1) := by decide +kernel
theorem dX2_init_10 : decode cX2_init 10 = .ok (.bipush 8, 2) := by decide +kernel
theorem dX2_init_12 : decode cX2_init 12 = .ok (.newarray .int, 2) := by decide +kernel
theorem dX2_init_14 : decode cX2_init 14 = .ok (.putfield 15, 3) := by decide +kernel
theorem dX2_init_17 : decode cX2_init 17 = .ok (.aload_n 0, 1) := by decide +kernel
theorem dX2_init_18 : decode cX2_init 18 = .ok (.iconst 0, 1) := by decide +kernel
theorem dX2_init_19 : decode cX2_init 19 = .ok (.putfield 19, 3) := by decide +kernel
theorem dX2_init_22 : decode cX2_init 22 = .ok (.aload_n 0, 1) := by decide +kernel
theorem dX2_init_23 : decode cX2_init 23 = .ok (.bipush 6, 2) := by decide +kernel
theorem dX2_init_25 : decode cX2_init 25 = .ok (.newarray .int, 2) := by decide +kernel
theorem dX2_init_27 : decode cX2_init 27 = .ok (.putfield 22, 3) := by decide +kernel
theorem dX2_init_30 : decode cX2_init 30 = .ok (.aload_n 0, 1) := by decide +kernel
theorem dX2_init_31 : decode cX2_init 31 = .ok (.bipush 6, 2) := by decide +kernel
theorem dX2_init_33 : decode cX2_init 33 = .ok (.newarray .int, 2) := by decide +kernel
theorem dX2_init_35 : decode cX2_init 35 = .ok (.putfield 25, 3) := by decide +kernel
theorem dX2_init_38 : decode cX2_init 38 = .ok (.aload_n 0, 1) := by decide +kernel
theorem dX2_init_39 : decode cX2_init 39 = .ok (.bipush 6, 2) := by decide +kernel
theorem dX2_init_41 : decode cX2_init 41 = .ok (.newarray .int, 2) := by decide +kernel
theorem dX2_init_43 : decode cX2_init 43 = .ok (.putfield 28, 3) := by decide +kernel
theorem dX2_init_46 : decode cX2_init 46 = .ok (.aload_n 0, 1) := by decide +kernel
theorem dX2_init_47 : decode cX2_init 47 = .ok (.iconst 0, 1) := by decide +kernel
theorem dX2_init_48 : decode cX2_init 48 = .ok (.putfield 31, 3) := by decide +kernel
theorem dX2_init_51 : decode cX2_init 51 = .ok (.aload_n 0, 1) := by decide +kernel
theorem dX2_init_52 : decode cX2_init 52 = .ok (.iconst 5, 1) := by decide +kernel
theorem dX2_init_53 : decode cX2_init 53 = .ok (.newarray .int, 2) := by decide +kernel
theorem dX2_init_55 : decode cX2_init 55 = .ok (.putfield 34, 3) := by decide +kernel
theorem dX2_init_58 : decode cX2_init 58 = .ok (.aload_n 0, 1) := by decide +kernel
theorem dX2_init_59 : decode cX2_init 59 = .ok (.iconst 5, 1) := by decide +kernel
theorem dX2_init_60 : decode cX2_init 60 = .ok (.newarray .int, 2) := by decide +kernel
theorem dX2_init_62 : decode cX2_init 62 = .ok (.putfield 37, 3) := by decide +kernel
theorem dX2_init_65 : decode cX2_init 65 = .ok (.aload_n 0, 1) := by decide +kernel
theorem dX2_init_66 : decode cX2_init 66 = .ok (.iconst 0, 1) := by decide +kernel
theorem dX2_init_67 : decode cX2_init 67 = .ok (.putfield 40, 3) := by decide +kernel
theorem dX2_init_70 : decode cX2_init 70 = .ok (.aload_n 0, 1) := by decide +kernel
theorem dX2_init_71 : decode cX2_init 71 = .ok (.iconst 0, 1) := by decide +kernel
theorem dX2_init_72 : decode cX2_init 72 = .ok (.putfield 43, 3) := by decide +kernel
theorem dX2_init_75 : decode cX2_init 75 = .ok (.return_, 1) := by decide +kernel
theorem dX2_clear_0 : decode cX2_clear 0 = .ok (.aload_n 0, 1) := by decide +kernel
theorem dX2_clear_1 : decode cX2_clear 1 = .ok (.iconst 0, 1) := by decide +kernel
theorem dX2_clear_2 : decode cX2_clear 2 = .ok (.putfield 9, 3) := by decide +kernel
theorem dX2_clear_5 : decode cX2_clear 5 = .ok (.aload_n 0, 1) := by decide +kernel
theorem dX2_clear_6 : decode cX2_clear 6 = .ok (.iconst 0, 1) := by decide +kernel
theorem dX2_clear_7 : decode cX2_clear 7 = .ok (.putfield 19, 3) := by decide +kernel
theorem dX2_clear_10 : decode cX2_clear 10 = .ok (.aload_n 0, 1) := by decide +kernel
theorem dX2_clear_11 : decode cX2_clear 11 = .ok (.iconst 0, 1) := by decide +kernel
theorem dX2_clear_12 : decode cX2_clear 12 = .ok (.putfield 31, 3) := by decide +kernel
theorem dX2_clear_15 : decode cX2_clear 15 = .ok (.aload_n 0, 1) := by decide +kernel
theorem dX2_clear_16 : decode cX2_clear 16 = .ok (.iconst 0, 1) := by decide +kernel
theorem dX2_clear_17 : decode cX2_clear 17 = .ok (.putfield 40, 3) := by decide +kernel
theorem dX2_clear_20 : decode cX2_clear 20 = .ok (.aload_n 0, 1) := by decide +kernel
theorem dX2_clear_21 : decode cX2_clear 21 = .ok (.iconst 0, 1) := by decide +kernel
theorem dX2_clear_22 : decode cX2_clear 22 = .ok (.putfield 43, 3) := by decide +kernel
theorem dX2_clear_25 : decode cX2_clear 25 = .ok (.return_, 1) := by decide +kernel
theorem dX2_stands_0 : decode cX2_stands 0 = .ok (.aload_n 0, 1) := by decide +kernel
theorem dX2_stands_1 : decode cX2_stands 1 = .ok (.getfield 9, 3) := by decide +kernel
theorem dX2_stands_4 : decode cX2_stands 4 = .ok (.ifCond .le 7, 3) := by decide +kernel
theorem dX2_stands_7 : decode cX2_stands 7 = .ok (.iconst 1, 1) := by decide +kernel
theorem dX2_stands_8 : decode cX2_stands 8 = .ok (.goto 4, 3) := by decide +kernel
theorem dX2_stands_11 : decode cX2_stands 11 = .ok (.iconst 0, 1) := by decide +kernel
theorem dX2_stands_12 : decode cX2_stands 12 = .ok (.ireturn, 1) := by decide +kernel
theorem dX2_hasWay_0 : decode cX2_hasWay 0 = .ok (.iload_n 1, 1) := by decide +kernel
theorem dX2_hasWay_1 : decode cX2_hasWay 1 = .ok (.iconst 0, 1) := by decide +kernel
theorem dX2_hasWay_2 : decode cX2_hasWay 2 = .ok (.aload_n 0, 1) := by decide +kernel
theorem dX2_hasWay_3 : decode cX2_hasWay 3 = .ok (.getfield 9, 3) := by decide +kernel
theorem dX2_hasWay_6 : decode cX2_hasWay 6 = .ok (.iconst 1, 1) := by decide +kernel
theorem dX2_hasWay_7 : decode cX2_hasWay 7 = .ok (.isub, 1) := by decide +kernel
theorem dX2_hasWay_8 : decode cX2_hasWay 8 = .ok (.invokestatic 46, 3) := by decide +kernel
theorem dX2_hasWay_11 : decode cX2_hasWay 11 = .ok (.ireturn, 1) := by decide +kernel
theorem dX2_hasTest_0 : decode cX2_hasTest 0 = .ok (.iload_n 1, 1) := by decide +kernel
theorem dX2_hasTest_1 : decode cX2_hasTest 1 = .ok (.iconst 0, 1) := by decide +kernel
theorem dX2_hasTest_2 : decode cX2_hasTest 2 = .ok (.aload_n 0, 1) := by decide +kernel
theorem dX2_hasTest_3 : decode cX2_hasTest 3 = .ok (.getfield 19, 3) := by decide +kernel
theorem dX2_hasTest_6 : decode cX2_hasTest 6 = .ok (.iconst 1, 1) := by decide +kernel
theorem dX2_hasTest_7 : decode cX2_hasTest 7 = .ok (.isub, 1) := by decide +kernel
theorem dX2_hasTest_8 : decode cX2_hasTest 8 = .ok (.invokestatic 46, 3) := by decide +kernel
theorem dX2_hasTest_11 : decode cX2_hasTest 11 = .ok (.ireturn, 1) := by decide +kernel
theorem dX2_hasServant_0 : decode cX2_hasServant 0 = .ok (.iload_n 1, 1) := by decide +kernel
theorem dX2_hasServant_1 : decode cX2_hasServant 1 = .ok (.iconst 0, 1) := by decide +kernel
theorem dX2_hasServant_2 : decode cX2_hasServant 2 = .ok (.aload_n 0, 1) := by decide +kernel
theorem dX2_hasServant_3 : decode cX2_hasServant 3 = .ok (.getfield 31, 3) := by decide +kernel
theorem dX2_hasServant_6 : decode cX2_hasServant 6 = .ok (.iconst 1, 1) := by decide +kernel
theorem dX2_hasServant_7 : decode cX2_hasServant 7 = .ok (.isub, 1) := by decide +kernel
theorem dX2_hasServant_8 : decode cX2_hasServant 8 = .ok (.invokestatic 46, 3) := by decide +kernel
theorem dX2_hasServant_11 : decode cX2_hasServant 11 = .ok (.ireturn, 1) := by decide +kernel
theorem dX2_hasWays_0 : decode cX2_hasWays 0 = .ok (.iload_n 1, 1) := by decide +kernel
theorem dX2_hasWays_1 : decode cX2_hasWays 1 = .ok (.aload_n 0, 1) := by decide +kernel
theorem dX2_hasWays_2 : decode cX2_hasWays 2 = .ok (.invokevirtual 50, 3) := by decide +kernel
theorem dX2_hasWays_5 : decode cX2_hasWays 5 = .ok (.iconst (-1), 1) := by decide +kernel
theorem dX2_hasWays_6 : decode cX2_hasWays 6 = .ok (.ixor, 1) := by decide +kernel
theorem dX2_hasWays_7 : decode cX2_hasWays 7 = .ok (.iand, 1) := by decide +kernel
theorem dX2_hasWays_8 : decode cX2_hasWays 8 = .ok (.ifCond .ne 7, 3) := by decide +kernel
theorem dX2_hasWays_11 : decode cX2_hasWays 11 = .ok (.iconst 1, 1) := by decide +kernel
theorem dX2_hasWays_12 : decode cX2_hasWays 12 = .ok (.goto 4, 3) := by decide +kernel
theorem dX2_hasWays_15 : decode cX2_hasWays 15 = .ok (.iconst 0, 1) := by decide +kernel
theorem dX2_hasWays_16 : decode cX2_hasWays 16 = .ok (.ireturn, 1) := by decide +kernel
theorem dX2_allWays_0 : decode cX2_allWays 0 = .ok (.iconst 1, 1) := by decide +kernel
theorem dX2_allWays_1 : decode cX2_allWays 1 = .ok (.aload_n 0, 1) := by decide +kernel
theorem dX2_allWays_2 : decode cX2_allWays 2 = .ok (.getfield 9, 3) := by decide +kernel
theorem dX2_allWays_5 : decode cX2_allWays 5 = .ok (.ishl, 1) := by decide +kernel
theorem dX2_allWays_6 : decode cX2_allWays 6 = .ok (.iconst 1, 1) := by decide +kernel
theorem dX2_allWays_7 : decode cX2_allWays 7 = .ok (.isub, 1) := by decide +kernel
theorem dX2_allWays_8 : decode cX2_allWays 8 = .ok (.ireturn, 1) := by decide +kernel
theorem dX2_leftBy_0 : decode cX2_leftBy 0 = .ok (.aload_n 0, 1) := by decide +kernel
theorem dX2_leftBy_1 : decode cX2_leftBy 1 = .ok (.invokevirtual 50, 3) := by decide +kernel
theorem dX2_leftBy_4 : decode cX2_leftBy 4 = .ok (.istore_n 2, 1) := by decide +kernel
theorem dX2_leftBy_5 : decode cX2_leftBy 5 = .ok (.iconst 0, 1) := by decide +kernel
theorem dX2_leftBy_6 : decode cX2_leftBy 6 = .ok (.istore_n 3, 1) := by decide +kernel
theorem dX2_leftBy_7 : decode cX2_leftBy 7 = .ok (.iload_n 3, 1) := by decide +kernel
theorem dX2_leftBy_8 : decode cX2_leftBy 8 = .ok (.aload_n 0, 1) := by decide +kernel
theorem dX2_leftBy_9 : decode cX2_leftBy 9 = .ok (.getfield 19, 3) := by decide +kernel
theorem dX2_leftBy_12 : decode cX2_leftBy 12 = .ok (.if_icmp .ge 28, 3) := by decide +kernel
theorem dX2_leftBy_15 : decode cX2_leftBy 15 = .ok (.iload_n 1, 1) := by decide +kernel
theorem dX2_leftBy_16 : decode cX2_leftBy 16 = .ok (.iload_n 3, 1) := by decide +kernel
theorem dX2_leftBy_17 : decode cX2_leftBy 17 = .ok (.invokestatic 54, 3) := by decide +kernel
theorem dX2_leftBy_20 : decode cX2_leftBy 20 = .ok (.ifCond .eq 14, 3) := by decide +kernel
theorem dX2_leftBy_23 : decode cX2_leftBy 23 = .ok (.iload_n 2, 1) := by decide +kernel
theorem dX2_leftBy_24 : decode cX2_leftBy 24 = .ok (.aload_n 0, 1) := by decide +kernel
theorem dX2_leftBy_25 : decode cX2_leftBy 25 = .ok (.getfield 22, 3) := by decide +kernel
theorem dX2_leftBy_28 : decode cX2_leftBy 28 = .ok (.iload_n 3, 1) := by decide +kernel
theorem dX2_leftBy_29 : decode cX2_leftBy 29 = .ok (.iaload, 1) := by decide +kernel
theorem dX2_leftBy_30 : decode cX2_leftBy 30 = .ok (.iconst (-1), 1) := by decide +kernel
theorem dX2_leftBy_31 : decode cX2_leftBy 31 = .ok (.ixor, 1) := by decide +kernel
theorem dX2_leftBy_32 : decode cX2_leftBy 32 = .ok (.iand, 1) := by decide +kernel
theorem dX2_leftBy_33 : decode cX2_leftBy 33 = .ok (.istore_n 2, 1) := by decide +kernel
theorem dX2_leftBy_34 : decode cX2_leftBy 34 = .ok (.iinc 3 1, 3) := by decide +kernel
theorem dX2_leftBy_37 : decode cX2_leftBy 37 = .ok (.goto (-30), 3) := by decide +kernel
theorem dX2_leftBy_40 : decode cX2_leftBy 40 = .ok (.iload_n 2, 1) := by decide +kernel
theorem dX2_leftBy_41 : decode cX2_leftBy 41 = .ok (.ireturn, 1) := by decide +kernel
theorem dX2_secretsOf_0 : decode cX2_secretsOf 0 = .ok (.iconst 0, 1) := by decide +kernel
theorem dX2_secretsOf_1 : decode cX2_secretsOf 1 = .ok (.istore_n 2, 1) := by decide +kernel
theorem dX2_secretsOf_2 : decode cX2_secretsOf 2 = .ok (.iconst 0, 1) := by decide +kernel
theorem dX2_secretsOf_3 : decode cX2_secretsOf 3 = .ok (.istore_n 3, 1) := by decide +kernel
theorem dX2_secretsOf_4 : decode cX2_secretsOf 4 = .ok (.iload_n 3, 1) := by decide +kernel
theorem dX2_secretsOf_5 : decode cX2_secretsOf 5 = .ok (.aload_n 0, 1) := by decide +kernel
theorem dX2_secretsOf_6 : decode cX2_secretsOf 6 = .ok (.getfield 19, 3) := by decide +kernel
theorem dX2_secretsOf_9 : decode cX2_secretsOf 9 = .ok (.if_icmp .ge 26, 3) := by decide +kernel
theorem dX2_secretsOf_12 : decode cX2_secretsOf 12 = .ok (.iload_n 1, 1) := by decide +kernel
theorem dX2_secretsOf_13 : decode cX2_secretsOf 13 = .ok (.iload_n 3, 1) := by decide +kernel
theorem dX2_secretsOf_14 : decode cX2_secretsOf 14 = .ok (.invokestatic 54, 3) := by decide +kernel
theorem dX2_secretsOf_17 : decode cX2_secretsOf 17 = .ok (.ifCond .eq 12, 3) := by decide +kernel
theorem dX2_secretsOf_20 : decode cX2_secretsOf 20 = .ok (.iload_n 2, 1) := by decide +kernel
theorem dX2_secretsOf_21 : decode cX2_secretsOf 21 = .ok (.aload_n 0, 1) := by decide +kernel
theorem dX2_secretsOf_22 : decode cX2_secretsOf 22 = .ok (.getfield 25, 3) := by decide +kernel
theorem dX2_secretsOf_25 : decode cX2_secretsOf 25 = .ok (.iload_n 3, 1) := by decide +kernel
theorem dX2_secretsOf_26 : decode cX2_secretsOf 26 = .ok (.iaload, 1) := by decide +kernel
theorem dX2_secretsOf_27 : decode cX2_secretsOf 27 = .ok (.ior, 1) := by decide +kernel
theorem dX2_secretsOf_28 : decode cX2_secretsOf 28 = .ok (.istore_n 2, 1) := by decide +kernel
theorem dX2_secretsOf_29 : decode cX2_secretsOf 29 = .ok (.iinc 3 1, 3) := by decide +kernel
theorem dX2_secretsOf_32 : decode cX2_secretsOf 32 = .ok (.goto (-28), 3) := by decide +kernel
theorem dX2_secretsOf_35 : decode cX2_secretsOf 35 = .ok (.iload_n 2, 1) := by decide +kernel
theorem dX2_secretsOf_36 : decode cX2_secretsOf 36 = .ok (.ireturn, 1) := by decide +kernel
theorem dX2_costOf_0 : decode cX2_costOf 0 = .ok (.iconst 0, 1) := by decide +kernel
theorem dX2_costOf_1 : decode cX2_costOf 1 = .ok (.istore_n 2, 1) := by decide +kernel
theorem dX2_costOf_2 : decode cX2_costOf 2 = .ok (.iconst 0, 1) := by decide +kernel
theorem dX2_costOf_3 : decode cX2_costOf 3 = .ok (.istore_n 3, 1) := by decide +kernel
theorem dX2_costOf_4 : decode cX2_costOf 4 = .ok (.iload_n 3, 1) := by decide +kernel
theorem dX2_costOf_5 : decode cX2_costOf 5 = .ok (.aload_n 0, 1) := by decide +kernel
theorem dX2_costOf_6 : decode cX2_costOf 6 = .ok (.getfield 19, 3) := by decide +kernel
theorem dX2_costOf_9 : decode cX2_costOf 9 = .ok (.if_icmp .ge 26, 3) := by decide +kernel
theorem dX2_costOf_12 : decode cX2_costOf 12 = .ok (.iload_n 1, 1) := by decide +kernel
theorem dX2_costOf_13 : decode cX2_costOf 13 = .ok (.iload_n 3, 1) := by decide +kernel
theorem dX2_costOf_14 : decode cX2_costOf 14 = .ok (.invokestatic 54, 3) := by decide +kernel
theorem dX2_costOf_17 : decode cX2_costOf 17 = .ok (.ifCond .eq 12, 3) := by decide +kernel
theorem dX2_costOf_20 : decode cX2_costOf 20 = .ok (.iload_n 2, 1) := by decide +kernel
theorem dX2_costOf_21 : decode cX2_costOf 21 = .ok (.aload_n 0, 1) := by decide +kernel
theorem dX2_costOf_22 : decode cX2_costOf 22 = .ok (.getfield 28, 3) := by decide +kernel
theorem dX2_costOf_25 : decode cX2_costOf 25 = .ok (.iload_n 3, 1) := by decide +kernel
theorem dX2_costOf_26 : decode cX2_costOf 26 = .ok (.iaload, 1) := by decide +kernel
theorem dX2_costOf_27 : decode cX2_costOf 27 = .ok (.iadd, 1) := by decide +kernel
theorem dX2_costOf_28 : decode cX2_costOf 28 = .ok (.istore_n 2, 1) := by decide +kernel
theorem dX2_costOf_29 : decode cX2_costOf 29 = .ok (.iinc 3 1, 3) := by decide +kernel
theorem dX2_costOf_32 : decode cX2_costOf 32 = .ok (.goto (-28), 3) := by decide +kernel
theorem dX2_costOf_35 : decode cX2_costOf 35 = .ok (.iload_n 2, 1) := by decide +kernel
theorem dX2_costOf_36 : decode cX2_costOf 36 = .ok (.ireturn, 1) := by decide +kernel
theorem dX2_likelyOf_0 : decode cX2_likelyOf 0 = .ok (.iconst 0, 1) := by decide +kernel
theorem dX2_likelyOf_1 : decode cX2_likelyOf 1 = .ok (.istore_n 2, 1) := by decide +kernel
theorem dX2_likelyOf_2 : decode cX2_likelyOf 2 = .ok (.iconst 0, 1) := by decide +kernel
theorem dX2_likelyOf_3 : decode cX2_likelyOf 3 = .ok (.istore_n 3, 1) := by decide +kernel
theorem dX2_likelyOf_4 : decode cX2_likelyOf 4 = .ok (.iload_n 3, 1) := by decide +kernel
theorem dX2_likelyOf_5 : decode cX2_likelyOf 5 = .ok (.aload_n 0, 1) := by decide +kernel
theorem dX2_likelyOf_6 : decode cX2_likelyOf 6 = .ok (.getfield 9, 3) := by decide +kernel
theorem dX2_likelyOf_9 : decode cX2_likelyOf 9 = .ok (.if_icmp .ge 26, 3) := by decide +kernel
theorem dX2_likelyOf_12 : decode cX2_likelyOf 12 = .ok (.iload_n 1, 1) := by decide +kernel
theorem dX2_likelyOf_13 : decode cX2_likelyOf 13 = .ok (.iload_n 3, 1) := by decide +kernel
theorem dX2_likelyOf_14 : decode cX2_likelyOf 14 = .ok (.invokestatic 54, 3) := by decide +kernel
theorem dX2_likelyOf_17 : decode cX2_likelyOf 17 = .ok (.ifCond .eq 12, 3) := by decide +kernel
theorem dX2_likelyOf_20 : decode cX2_likelyOf 20 = .ok (.iload_n 2, 1) := by decide +kernel
theorem dX2_likelyOf_21 : decode cX2_likelyOf 21 = .ok (.aload_n 0, 1) := by decide +kernel
theorem dX2_likelyOf_22 : decode cX2_likelyOf 22 = .ok (.getfield 15, 3) := by decide +kernel
theorem dX2_likelyOf_25 : decode cX2_likelyOf 25 = .ok (.iload_n 3, 1) := by decide +kernel
theorem dX2_likelyOf_26 : decode cX2_likelyOf 26 = .ok (.iaload, 1) := by decide +kernel
theorem dX2_likelyOf_27 : decode cX2_likelyOf 27 = .ok (.iadd, 1) := by decide +kernel
theorem dX2_likelyOf_28 : decode cX2_likelyOf 28 = .ok (.istore_n 2, 1) := by decide +kernel
theorem dX2_likelyOf_29 : decode cX2_likelyOf 29 = .ok (.iinc 3 1, 3) := by decide +kernel
theorem dX2_likelyOf_32 : decode cX2_likelyOf 32 = .ok (.goto (-28), 3) := by decide +kernel
theorem dX2_likelyOf_35 : decode cX2_likelyOf 35 = .ok (.iload_n 2, 1) := by decide +kernel
theorem dX2_likelyOf_36 : decode cX2_likelyOf 36 = .ok (.ireturn, 1) := by decide +kernel
theorem dX2_beliefIn_0 : decode cX2_beliefIn 0 = .ok (.aload_n 0, 1) := by decide +kernel
theorem dX2_beliefIn_1 : decode cX2_beliefIn 1 = .ok (.iload_n 2, 1) := by decide +kernel
theorem dX2_beliefIn_2 : decode cX2_beliefIn 2 = .ok (.invokevirtual 58, 3) := by decide +kernel
theorem dX2_beliefIn_5 : decode cX2_beliefIn 5 = .ok (.istore_n 3, 1) := by decide +kernel
theorem dX2_beliefIn_6 : decode cX2_beliefIn 6 = .ok (.aload_n 0, 1) := by decide +kernel
theorem dX2_beliefIn_7 : decode cX2_beliefIn 7 = .ok (.iload_n 1, 1) := by decide +kernel
theorem dX2_beliefIn_8 : decode cX2_beliefIn 8 = .ok (.invokevirtual 62, 3) := by decide +kernel
theorem dX2_beliefIn_11 : decode cX2_beliefIn 11 = .ok (.ifCond .eq 15, 3) := by decide +kernel
theorem dX2_beliefIn_14 : decode cX2_beliefIn 14 = .ok (.iload_n 2, 1) := by decide +kernel
theorem dX2_beliefIn_15 : decode cX2_beliefIn 15 = .ok (.iload_n 1, 1) := by decide +kernel
theorem dX2_beliefIn_16 : decode cX2_beliefIn 16 = .ok (.invokestatic 54, 3) := by decide +kernel
theorem dX2_beliefIn_19 : decode cX2_beliefIn 19 = .ok (.ifCond .eq 7, 3) := by decide +kernel
theorem dX2_beliefIn_22 : decode cX2_beliefIn 22 = .ok (.iload_n 3, 1) := by decide +kernel
theorem dX2_beliefIn_23 : decode cX2_beliefIn 23 = .ok (.ifCond .gt 5, 3) := by decide +kernel
theorem dX2_beliefIn_26 : decode cX2_beliefIn 26 = .ok (.iconst 0, 1) := by decide +kernel
theorem dX2_beliefIn_27 : decode cX2_beliefIn 27 = .ok (.ireturn, 1) := by decide +kernel
theorem dX2_beliefIn_28 : decode cX2_beliefIn 28 = .ok (.ldc2_w 66, 3) := by decide +kernel
theorem dX2_beliefIn_31 : decode cX2_beliefIn 31 = .ok (.aload_n 0, 1) := by decide +kernel
theorem dX2_beliefIn_32 : decode cX2_beliefIn 32 = .ok (.getfield 15, 3) := by decide +kernel
theorem dX2_beliefIn_35 : decode cX2_beliefIn 35 = .ok (.iload_n 1, 1) := by decide +kernel
theorem dX2_beliefIn_36 : decode cX2_beliefIn 36 = .ok (.iaload, 1) := by decide +kernel
theorem dX2_beliefIn_37 : decode cX2_beliefIn 37 = .ok (.i2l, 1) := by decide +kernel
theorem dX2_beliefIn_38 : decode cX2_beliefIn 38 = .ok (.lmul, 1) := by decide +kernel
theorem dX2_beliefIn_39 : decode cX2_beliefIn 39 = .ok (.iload_n 3, 1) := by decide +kernel
theorem dX2_beliefIn_40 : decode cX2_beliefIn 40 = .ok (.i2l, 1) := by decide +kernel
theorem dX2_beliefIn_41 : decode cX2_beliefIn 41 = .ok (.ldiv, 1) := by decide +kernel
theorem dX2_beliefIn_42 : decode cX2_beliefIn 42 = .ok (.l2i, 1) := by decide +kernel
theorem dX2_beliefIn_43 : decode cX2_beliefIn 43 = .ok (.ireturn, 1) := by decide +kernel
theorem dX3_init_0 : decode cX3_init 0 = .ok (.aload_n 0, 1) := by decide +kernel
theorem dX3_init_1 : decode cX3_init 1 = .ok (.invokespecial 1, 3) := by decide +kernel
theorem dX3_init_4 : decode cX3_init 4 = .ok (.aload_n 0, 1) := by decide +kernel
theorem dX3_init_5 : decode cX3_init 5 = .ok (.iconst 0, 1) := by decide +kernel
theorem dX3_init_6 : decode cX3_init 6 = .ok (.putfield 7, 3) := by decide +kernel
theorem dX3_init_9 : decode cX3_init 9 = .ok (.return_, 1) := by decide +kernel
theorem dX3_draw_0 : decode cX3_draw 0 = .ok (.aload_n 0, 1) := by decide +kernel
theorem dX3_draw_1 : decode cX3_draw 1 = .ok (.aload_n 0, 1) := by decide +kernel
theorem dX3_draw_2 : decode cX3_draw 2 = .ok (.getfield 7, 3) := by decide +kernel
theorem dX3_draw_5 : decode cX3_draw 5 = .ok (.i2l, 1) := by decide +kernel
theorem dX3_draw_6 : decode cX3_draw 6 = .ok (.ldc2_w 13, 3) := by decide +kernel
theorem dX3_draw_9 : decode cX3_draw 9 = .ok (.lmul, 1) := by decide +kernel
theorem dX3_draw_10 : decode cX3_draw 10 = .ok (.ldc2_w 15, 3) := by decide +kernel
theorem dX3_draw_13 : decode cX3_draw 13 = .ok (.ladd, 1) := by decide +kernel
theorem dX3_draw_14 : decode cX3_draw 14 = .ok (.ldc2_w 17, 3) := by decide +kernel
theorem dX3_draw_17 : decode cX3_draw 17 = .ok (.lrem, 1) := by decide +kernel
theorem dX3_draw_18 : decode cX3_draw 18 = .ok (.l2i, 1) := by decide +kernel
theorem dX3_draw_19 : decode cX3_draw 19 = .ok (.putfield 7, 3) := by decide +kernel
theorem dX3_draw_22 : decode cX3_draw 22 = .ok (.iload_n 1, 1) := by decide +kernel
theorem dX3_draw_23 : decode cX3_draw 23 = .ok (.ifCond .le 15, 3) := by decide +kernel
theorem dX3_draw_26 : decode cX3_draw 26 = .ok (.aload_n 0, 1) := by decide +kernel
theorem dX3_draw_27 : decode cX3_draw 27 = .ok (.getfield 7, 3) := by decide +kernel
theorem dX3_draw_30 : decode cX3_draw 30 = .ok (.ldc 19, 2) := by decide +kernel
theorem dX3_draw_32 : decode cX3_draw 32 = .ok (.idiv, 1) := by decide +kernel
theorem dX3_draw_33 : decode cX3_draw 33 = .ok (.iload_n 1, 1) := by decide +kernel
theorem dX3_draw_34 : decode cX3_draw 34 = .ok (.irem, 1) := by decide +kernel
theorem dX3_draw_35 : decode cX3_draw 35 = .ok (.goto 4, 3) := by decide +kernel
theorem dX3_draw_38 : decode cX3_draw 38 = .ok (.iconst 0, 1) := by decide +kernel
theorem dX3_draw_39 : decode cX3_draw 39 = .ok (.ireturn, 1) := by decide +kernel
theorem dX4_init_0 : decode cX4_init 0 = .ok (.aload_n 0, 1) := by decide +kernel
theorem dX4_init_1 : decode cX4_init 1 = .ok (.invokespecial 3, 3) := by decide +kernel
theorem dX4_init_4 : decode cX4_init 4 = .ok (.aload_n 0, 1) := by decide +kernel
theorem dX4_init_5 : decode cX4_init 5 = .ok (.bipush 6, 2) := by decide +kernel
theorem dX4_init_7 : decode cX4_init 7 = .ok (.newarray .int, 2) := by decide +kernel
theorem dX4_init_9 : decode cX4_init 9 = .ok (.putfield 9, 3) := by decide +kernel
theorem dX4_init_12 : decode cX4_init 12 = .ok (.aload_n 0, 1) := by decide +kernel
theorem dX4_init_13 : decode cX4_init 13 = .ok (.bipush 6, 2) := by decide +kernel
theorem dX4_init_15 : decode cX4_init 15 = .ok (.newarray .boolean, 2) := by decide +kernel
theorem dX4_init_17 : decode cX4_init 17 = .ok (.putfield 15, 3) := by decide +kernel
theorem dX4_init_20 : decode cX4_init 20 = .ok (.aload_n 0, 1) := by decide +kernel
theorem dX4_init_21 : decode cX4_init 21 = .ok (.iconst 0, 1) := by decide +kernel
theorem dX4_init_22 : decode cX4_init 22 = .ok (.putfield 19, 3) := by decide +kernel
theorem dX4_init_25 : decode cX4_init 25 = .ok (.return_, 1) := by decide +kernel
theorem dX4_add_0 : decode cX4_add 0 = .ok (.aload_n 0, 1) := by decide +kernel
theorem dX4_add_1 : decode cX4_add 1 = .ok (.getfield 19, 3) := by decide +kernel
theorem dX4_add_4 : decode cX4_add 4 = .ok (.bipush 6, 2) := by decide +kernel
theorem dX4_add_6 : decode cX4_add 6 = .ok (.if_icmp .lt 5, 3) := by decide +kernel
theorem dX4_add_9 : decode cX4_add 9 = .ok (.iconst 0, 1) := by decide +kernel
theorem dX4_add_10 : decode cX4_add 10 = .ok (.ireturn, 1) := by decide +kernel
theorem dX4_add_11 : decode cX4_add 11 = .ok (.aload_n 0, 1) := by decide +kernel
theorem dX4_add_12 : decode cX4_add 12 = .ok (.getfield 9, 3) := by decide +kernel
theorem dX4_add_15 : decode cX4_add 15 = .ok (.aload_n 0, 1) := by decide +kernel
theorem dX4_add_16 : decode cX4_add 16 = .ok (.getfield 19, 3) := by decide +kernel
theorem dX4_add_19 : decode cX4_add 19 = .ok (.iload_n 1, 1) := by decide +kernel
theorem dX4_add_20 : decode cX4_add 20 = .ok (.iastore, 1) := by decide +kernel
theorem dX4_add_21 : decode cX4_add 21 = .ok (.aload_n 0, 1) := by decide +kernel
theorem dX4_add_22 : decode cX4_add 22 = .ok (.getfield 15, 3) := by decide +kernel
theorem dX4_add_25 : decode cX4_add 25 = .ok (.aload_n 0, 1) := by decide +kernel
theorem dX4_add_26 : decode cX4_add 26 = .ok (.getfield 19, 3) := by decide +kernel
theorem dX4_add_29 : decode cX4_add 29 = .ok (.iload_n 2, 1) := by decide +kernel
theorem dX4_add_30 : decode cX4_add 30 = .ok (.bastore, 1) := by decide +kernel
theorem dX4_add_31 : decode cX4_add 31 = .ok (.aload_n 0, 1) := by decide +kernel
theorem dX4_add_32 : decode cX4_add 32 = .ok (.dup, 1) := by decide +kernel
theorem dX4_add_33 : decode cX4_add 33 = .ok (.getfield 19, 3) := by decide +kernel
theorem dX4_add_36 : decode cX4_add 36 = .ok (.iconst 1, 1) := by decide +kernel
theorem dX4_add_37 : decode cX4_add 37 = .ok (.iadd, 1) := by decide +kernel
theorem dX4_add_38 : decode cX4_add 38 = .ok (.putfield 19, 3) := by decide +kernel
theorem dX4_add_41 : decode cX4_add 41 = .ok (.iconst 1, 1) := by decide +kernel
theorem dX4_add_42 : decode cX4_add 42 = .ok (.ireturn, 1) := by decide +kernel
theorem dX4_fitting_0 : decode cX4_fitting 0 = .ok (.iconst 0, 1) := by decide +kernel
theorem dX4_fitting_1 : decode cX4_fitting 1 = .ok (.istore_n 2, 1) := by decide +kernel
theorem dX4_fitting_2 : decode cX4_fitting 2 = .ok (.iconst 0, 1) := by decide +kernel
theorem dX4_fitting_3 : decode cX4_fitting 3 = .ok (.istore_n 3, 1) := by decide +kernel
theorem dX4_fitting_4 : decode cX4_fitting 4 = .ok (.iload_n 3, 1) := by decide +kernel
theorem dX4_fitting_5 : decode cX4_fitting 5 = .ok (.iload_n 1, 1) := by decide +kernel
theorem dX4_fitting_6 : decode cX4_fitting 6 = .ok (.if_icmp .ge 24, 3) := by decide +kernel
theorem dX4_fitting_9 : decode cX4_fitting 9 = .ok (.aload_n 0, 1) := by decide +kernel
theorem dX4_fitting_10 : decode cX4_fitting 10 = .ok (.iload_n 3, 1) := by decide +kernel
theorem dX4_fitting_11 : decode cX4_fitting 11 = .ok (.iload_n 1, 1) := by decide +kernel
theorem dX4_fitting_12 : decode cX4_fitting 12 = .ok (.invokevirtual 23, 3) := by decide +kernel
theorem dX4_fitting_15 : decode cX4_fitting 15 = .ok (.ifCond .eq 9, 3) := by decide +kernel
theorem dX4_fitting_18 : decode cX4_fitting 18 = .ok (.iload_n 2, 1) := by decide +kernel
theorem dX4_fitting_19 : decode cX4_fitting 19 = .ok (.iconst 1, 1) := by decide +kernel
theorem dX4_fitting_20 : decode cX4_fitting 20 = .ok (.iload_n 3, 1) := by decide +kernel
theorem dX4_fitting_21 : decode cX4_fitting 21 = .ok (.ishl, 1) := by decide +kernel
theorem dX4_fitting_22 : decode cX4_fitting 22 = .ok (.ior, 1) := by decide +kernel
theorem dX4_fitting_23 : decode cX4_fitting 23 = .ok (.istore_n 2, 1) := by decide +kernel
theorem dX4_fitting_24 : decode cX4_fitting 24 = .ok (.iinc 3 1, 3) := by decide +kernel
theorem dX4_fitting_27 : decode cX4_fitting 27 = .ok (.goto (-23), 3) := by decide +kernel
theorem dX4_fitting_30 : decode cX4_fitting 30 = .ok (.iload_n 2, 1) := by decide +kernel
theorem dX4_fitting_31 : decode cX4_fitting 31 = .ok (.ireturn, 1) := by decide +kernel
theorem dX4_fits_0 : decode cX4_fits 0 = .ok (.iconst 0, 1) := by decide +kernel
theorem dX4_fits_1 : decode cX4_fits 1 = .ok (.istore_n 3, 1) := by decide +kernel
theorem dX4_fits_2 : decode cX4_fits 2 = .ok (.iload_n 3, 1) := by decide +kernel
theorem dX4_fits_3 : decode cX4_fits 3 = .ok (.aload_n 0, 1) := by decide +kernel
theorem dX4_fits_4 : decode cX4_fits 4 = .ok (.getfield 19, 3) := by decide +kernel
theorem dX4_fits_7 : decode cX4_fits 7 = .ok (.if_icmp .ge 31, 3) := by decide +kernel
theorem dX4_fits_10 : decode cX4_fits 10 = .ok (.aload_n 0, 1) := by decide +kernel
theorem dX4_fits_11 : decode cX4_fits 11 = .ok (.getfield 9, 3) := by decide +kernel
theorem dX4_fits_14 : decode cX4_fits 14 = .ok (.iload_n 3, 1) := by decide +kernel
theorem dX4_fits_15 : decode cX4_fits 15 = .ok (.iaload, 1) := by decide +kernel
theorem dX4_fits_16 : decode cX4_fits 16 = .ok (.iload_n 1, 1) := by decide +kernel
theorem dX4_fits_17 : decode cX4_fits 17 = .ok (.iload_n 2, 1) := by decide +kernel
theorem dX4_fits_18 : decode cX4_fits 18 = .ok (.invokestatic 27, 3) := by decide +kernel
theorem dX4_fits_21 : decode cX4_fits 21 = .ok (.aload_n 0, 1) := by decide +kernel
theorem dX4_fits_22 : decode cX4_fits 22 = .ok (.getfield 15, 3) := by decide +kernel
theorem dX4_fits_25 : decode cX4_fits 25 = .ok (.iload_n 3, 1) := by decide +kernel
theorem dX4_fits_26 : decode cX4_fits 26 = .ok (.baload, 1) := by decide +kernel
theorem dX4_fits_27 : decode cX4_fits 27 = .ok (.if_icmp .eq 5, 3) := by decide +kernel
theorem dX4_fits_30 : decode cX4_fits 30 = .ok (.iconst 0, 1) := by decide +kernel
theorem dX4_fits_31 : decode cX4_fits 31 = .ok (.ireturn, 1) := by decide +kernel
theorem dX4_fits_32 : decode cX4_fits 32 = .ok (.iinc 3 1, 3) := by decide +kernel
theorem dX4_fits_35 : decode cX4_fits 35 = .ok (.goto (-33), 3) := by decide +kernel
theorem dX4_fits_38 : decode cX4_fits 38 = .ok (.iconst 1, 1) := by decide +kernel
theorem dX4_fits_39 : decode cX4_fits 39 = .ok (.ireturn, 1) := by decide +kernel
theorem dX4_gotMoney_0 : decode cX4_gotMoney 0 = .ok (.iload_n 2, 1) := by decide +kernel
theorem dX4_gotMoney_1 : decode cX4_gotMoney 1 = .ok (.ifCond .le 14, 3) := by decide +kernel
theorem dX4_gotMoney_4 : decode cX4_gotMoney 4 = .ok (.iload_n 0, 1) := by decide +kernel
theorem dX4_gotMoney_5 : decode cX4_gotMoney 5 = .ok (.iload_n 2, 1) := by decide +kernel
theorem dX4_gotMoney_6 : decode cX4_gotMoney 6 = .ok (.irem, 1) := by decide +kernel
theorem dX4_gotMoney_7 : decode cX4_gotMoney 7 = .ok (.iload_n 1, 1) := by decide +kernel
theorem dX4_gotMoney_8 : decode cX4_gotMoney 8 = .ok (.if_icmp .ne 7, 3) := by decide +kernel
theorem dX4_gotMoney_11 : decode cX4_gotMoney 11 = .ok (.iconst 1, 1) := by decide +kernel
theorem dX4_gotMoney_12 : decode cX4_gotMoney 12 = .ok (.goto 4, 3) := by decide +kernel
theorem dX4_gotMoney_15 : decode cX4_gotMoney 15 = .ok (.iconst 0, 1) := by decide +kernel
theorem dX4_gotMoney_16 : decode cX4_gotMoney 16 = .ok (.ireturn, 1) := by decide +kernel
theorem dX4_bestQuestion_0 : decode cX4_bestQuestion 0 = .ok (.aload_n 0, 1) := by decide +kernel
theorem dX4_bestQuestion_1 : decode cX4_bestQuestion 1 = .ok (.iload_n 1, 1) := by decide +kernel
theorem dX4_bestQuestion_2 : decode cX4_bestQuestion 2 = .ok (.invokevirtual 31, 3) := by decide +kernel
theorem dX4_bestQuestion_5 : decode cX4_bestQuestion 5 = .ok (.istore_n 2, 1) := by decide +kernel
theorem dX4_bestQuestion_6 : decode cX4_bestQuestion 6 = .ok (.iconst (-1), 1) := by decide +kernel
theorem dX4_bestQuestion_7 : decode cX4_bestQuestion 7 = .ok (.istore_n 3, 1) := by decide +kernel
theorem dX4_bestQuestion_8 : decode cX4_bestQuestion 8 = .ok (.iload_n 2, 1) := by decide +kernel
theorem dX4_bestQuestion_9 : decode cX4_bestQuestion 9 = .ok (.invokestatic 35, 3) := by decide +kernel
theorem dX4_bestQuestion_12 : decode cX4_bestQuestion 12 = .ok (.istore 4, 2) := by decide +kernel
theorem dX4_bestQuestion_14 : decode cX4_bestQuestion 14 = .ok (.iconst 0, 1) := by decide +kernel
theorem dX4_bestQuestion_15 : decode cX4_bestQuestion 15 = .ok (.istore 5, 2) := by decide +kernel
theorem dX4_bestQuestion_17 : decode cX4_bestQuestion 17 = .ok (.iload 5, 2) := by decide +kernel
theorem dX4_bestQuestion_19 : decode cX4_bestQuestion 19 = .ok (.bipush 59, 2) := by decide +kernel
theorem dX4_bestQuestion_21 : decode cX4_bestQuestion 21 = .ok (.if_icmp .gt 32, 3) := by decide +kernel
theorem dX4_bestQuestion_24 : decode cX4_bestQuestion 24 = .ok (.iload_n 2, 1) := by decide +kernel
theorem dX4_bestQuestion_25 : decode cX4_bestQuestion 25 = .ok (.iload 5, 2) := by decide +kernel
theorem dX4_bestQuestion_27 : decode cX4_bestQuestion 27 = .ok (.iload_n 1, 1) := by decide +kernel
theorem dX4_bestQuestion_28 : decode cX4_bestQuestion 28 = .ok (.invokestatic 40, 3) := by decide +kernel
theorem dX4_bestQuestion_31 : decode cX4_bestQuestion 31 = .ok (.istore 6, 2) := by decide +kernel
theorem dX4_bestQuestion_33 : decode cX4_bestQuestion 33 = .ok (.iload 6, 2) := by decide +kernel
theorem dX4_bestQuestion_35 : decode cX4_bestQuestion 35 = .ok (.iload 4, 2) := by decide +kernel
theorem dX4_bestQuestion_37 : decode cX4_bestQuestion 37 = .ok (.if_icmp .ge 10, 3) := by decide +kernel
theorem dX4_bestQuestion_40 : decode cX4_bestQuestion 40 = .ok (.iload 5, 2) := by decide +kernel
theorem dX4_bestQuestion_42 : decode cX4_bestQuestion 42 = .ok (.istore_n 3, 1) := by decide +kernel
theorem dX4_bestQuestion_43 : decode cX4_bestQuestion 43 = .ok (.iload 6, 2) := by decide +kernel
theorem dX4_bestQuestion_45 : decode cX4_bestQuestion 45 = .ok (.istore 4, 2) := by decide +kernel
theorem dX4_bestQuestion_47 : decode cX4_bestQuestion 47 = .ok (.iinc 5 1, 3) := by decide +kernel
theorem dX4_bestQuestion_50 : decode cX4_bestQuestion 50 = .ok (.goto (-33), 3) := by decide +kernel
theorem dX4_bestQuestion_53 : decode cX4_bestQuestion 53 = .ok (.iload_n 3, 1) := by decide +kernel
theorem dX4_bestQuestion_54 : decode cX4_bestQuestion 54 = .ok (.ireturn, 1) := by decide +kernel
theorem dX4_greaterPart_0 : decode cX4_greaterPart 0 = .ok (.iconst 0, 1) := by decide +kernel
theorem dX4_greaterPart_1 : decode cX4_greaterPart 1 = .ok (.istore_n 3, 1) := by decide +kernel
theorem dX4_greaterPart_2 : decode cX4_greaterPart 2 = .ok (.iconst 0, 1) := by decide +kernel
theorem dX4_greaterPart_3 : decode cX4_greaterPart 3 = .ok (.istore 4, 2) := by decide +kernel
theorem dX4_greaterPart_5 : decode cX4_greaterPart 5 = .ok (.iload 4, 2) := by decide +kernel
theorem dX4_greaterPart_7 : decode cX4_greaterPart 7 = .ok (.iload_n 2, 1) := by decide +kernel
theorem dX4_greaterPart_8 : decode cX4_greaterPart 8 = .ok (.if_icmp .ge 31, 3) := by decide +kernel
theorem dX4_greaterPart_11 : decode cX4_greaterPart 11 = .ok (.iload_n 0, 1) := by decide +kernel
theorem dX4_greaterPart_12 : decode cX4_greaterPart 12 = .ok (.iload 4, 2) := by decide +kernel
theorem dX4_greaterPart_14 : decode cX4_greaterPart 14 = .ok (.invokestatic 44, 3) := by decide +kernel
theorem dX4_greaterPart_17 : decode cX4_greaterPart 17 = .ok (.ifCond .eq 16, 3) := by decide +kernel
theorem dX4_greaterPart_20 : decode cX4_greaterPart 20 = .ok (.iload_n 1, 1) := by decide +kernel
theorem dX4_greaterPart_21 : decode cX4_greaterPart 21 = .ok (.iload 4, 2) := by decide +kernel
theorem dX4_greaterPart_23 : decode cX4_greaterPart 23 = .ok (.iload_n 2, 1) := by decide +kernel
theorem dX4_greaterPart_24 : decode cX4_greaterPart 24 = .ok (.invokestatic 27, 3) := by decide +kernel
theorem dX4_greaterPart_27 : decode cX4_greaterPart 27 = .ok (.ifCond .eq 6, 3) := by decide +kernel
theorem dX4_greaterPart_30 : decode cX4_greaterPart 30 = .ok (.iinc 3 1, 3) := by decide +kernel
theorem dX4_greaterPart_33 : decode cX4_greaterPart 33 = .ok (.iinc 4 1, 3) := by decide +kernel
theorem dX4_greaterPart_36 : decode cX4_greaterPart 36 = .ok (.goto (-31), 3) := by decide +kernel
theorem dX4_greaterPart_39 : decode cX4_greaterPart 39 = .ok (.iload_n 3, 1) := by decide +kernel
theorem dX4_greaterPart_40 : decode cX4_greaterPart 40 = .ok (.iload_n 0, 1) := by decide +kernel
theorem dX4_greaterPart_41 : decode cX4_greaterPart 41 = .ok (.invokestatic 35, 3) := by decide +kernel
theorem dX4_greaterPart_44 : decode cX4_greaterPart 44 = .ok (.iload_n 3, 1) := by decide +kernel
theorem dX4_greaterPart_45 : decode cX4_greaterPart 45 = .ok (.isub, 1) := by decide +kernel
theorem dX4_greaterPart_46 : decode cX4_greaterPart 46 = .ok (.invokestatic 47, 3) := by decide +kernel
theorem dX4_greaterPart_49 : decode cX4_greaterPart 49 = .ok (.ireturn, 1) := by decide +kernel
theorem dX5_init_0 : decode cX5_init 0 = .ok (.aload_n 0, 1) := by decide +kernel
theorem dX5_init_1 : decode cX5_init 1 = .ok (.invokespecial 3, 3) := by decide +kernel
theorem dX5_init_4 : decode cX5_init 4 = .ok (.aload_n 0, 1) := by decide +kernel
theorem dX5_init_5 : decode cX5_init 5 = .ok (.bipush 20, 2) := by decide +kernel
theorem dX5_init_7 : decode cX5_init 7 = .ok (.anewarray 9, 3) := by decide +kernel
theorem dX5_init_10 : decode cX5_init 10 = .ok (.putfield 11, 3) := by decide +kernel
theorem dX5_init_13 : decode cX5_init 13 = .ok (.aload_n 0, 1) := by decide +kernel
theorem dX5_init_14 : decode cX5_init 14 = .ok (.iconst 0, 1) := by decide +kernel
theorem dX5_init_15 : decode cX5_init 15 = .ok (.putfield 17, 3) := by decide +kernel
theorem dX5_init_18 : decode cX5_init 18 = .ok (.aload_n 0, 1) := by decide +kernel
theorem dX5_init_19 : decode cX5_init 19 = .ok (.iconst 0, 1) := by decide +kernel
theorem dX5_init_20 : decode cX5_init 20 = .ok (.putfield 21, 3) := by decide +kernel
theorem dX5_init_23 : decode cX5_init 23 = .ok (.iconst 0, 1) := by decide +kernel
theorem dX5_init_24 : decode cX5_init 24 = .ok (.istore_n 1, 1) := by decide +kernel
theorem dX5_init_25 : decode cX5_init 25 = .ok (.iload_n 1, 1) := by decide +kernel
theorem dX5_init_26 : decode cX5_init 26 = .ok (.bipush 20, 2) := by decide +kernel
theorem dX5_init_28 : decode cX5_init 28 = .ok (.if_icmp .ge 22, 3) := by decide +kernel
theorem dX5_init_31 : decode cX5_init 31 = .ok (.aload_n 0, 1) := by decide +kernel
theorem dX5_init_32 : decode cX5_init 32 = .ok (.getfield 11, 3) := by decide +kernel
theorem dX5_init_35 : decode cX5_init 35 = .ok (.iload_n 1, 1) := by decide +kernel
theorem dX5_init_36 : decode cX5_init 36 = .ok (.new 9, 3) := by decide +kernel
theorem dX5_init_39 : decode cX5_init 39 = .ok (.dup, 1) := by decide +kernel
theorem dX5_init_40 : decode cX5_init 40 = .ok (.invokespecial 24, 3) := by decide +kernel
theorem dX5_init_43 : decode cX5_init 43 = .ok (.aastore, 1) := by decide +kernel
theorem dX5_init_44 : decode cX5_init 44 = .ok (.iinc 1 1, 3) := by decide +kernel
theorem dX5_init_47 : decode cX5_init 47 = .ok (.goto (-22), 3) := by decide +kernel
theorem dX5_init_50 : decode cX5_init 50 = .ok (.return_, 1) := by decide +kernel
theorem dX5_remember_0 : decode cX5_remember 0 = .ok (.aload_n 0, 1) := by decide +kernel
theorem dX5_remember_1 : decode cX5_remember 1 = .ok (.getfield 11, 3) := by decide +kernel
theorem dX5_remember_4 : decode cX5_remember 4 = .ok (.aload_n 0, 1) := by decide +kernel
theorem dX5_remember_5 : decode cX5_remember 5 = .ok (.getfield 17, 3) := by decide +kernel
theorem dX5_remember_8 : decode cX5_remember 8 = .ok (.aaload, 1) := by decide +kernel
theorem dX5_remember_9 : decode cX5_remember 9 = .ok (.aload_n 1, 1) := by decide +kernel
theorem dX5_remember_10 : decode cX5_remember 10 = .ok (.invokevirtual 25, 3) := by decide +kernel
theorem dX5_remember_13 : decode cX5_remember 13 = .ok (.aload_n 0, 1) := by decide +kernel
theorem dX5_remember_14 : decode cX5_remember 14 = .ok (.aload_n 0, 1) := by decide +kernel
theorem dX5_remember_15 : decode cX5_remember 15 = .ok (.getfield 17, 3) := by decide +kernel
theorem dX5_remember_18 : decode cX5_remember 18 = .ok (.iconst 1, 1) := by decide +kernel
theorem dX5_remember_19 : decode cX5_remember 19 = .ok (.iadd, 1) := by decide +kernel
theorem dX5_remember_20 : decode cX5_remember 20 = .ok (.bipush 20, 2) := by decide +kernel
theorem dX5_remember_22 : decode cX5_remember 22 = .ok (.irem, 1) := by decide +kernel
theorem dX5_remember_23 : decode cX5_remember 23 = .ok (.putfield 17, 3) := by decide +kernel
theorem dX5_remember_26 : decode cX5_remember 26 = .ok (.aload_n 0, 1) := by decide +kernel
theorem dX5_remember_27 : decode cX5_remember 27 = .ok (.aload_n 0, 1) := by decide +kernel
theorem dX5_remember_28 : decode cX5_remember 28 = .ok (.getfield 21, 3) := by decide +kernel
theorem dX5_remember_31 : decode cX5_remember 31 = .ok (.iconst 1, 1) := by decide +kernel
theorem dX5_remember_32 : decode cX5_remember 32 = .ok (.iadd, 1) := by decide +kernel
theorem dX5_remember_33 : decode cX5_remember 33 = .ok (.bipush 20, 2) := by decide +kernel
theorem dX5_remember_35 : decode cX5_remember 35 = .ok (.invokestatic 29, 3) := by decide +kernel
theorem dX5_remember_38 : decode cX5_remember 38 = .ok (.putfield 21, 3) := by decide +kernel
theorem dX5_remember_41 : decode cX5_remember 41 = .ok (.return_, 1) := by decide +kernel
theorem dX5_recall_0 : decode cX5_recall 0 = .ok (.aload_n 0, 1) := by decide +kernel
theorem dX5_recall_1 : decode cX5_recall 1 = .ok (.getfield 21, 3) := by decide +kernel
theorem dX5_recall_4 : decode cX5_recall 4 = .ok (.ifCond .ne 4, 3) := by decide +kernel
theorem dX5_recall_7 : decode cX5_recall 7 = .ok (.return_, 1) := by decide +kernel
theorem dX5_recall_8 : decode cX5_recall 8 = .ok (.aload_n 0, 1) := by decide +kernel
theorem dX5_recall_9 : decode cX5_recall 9 = .ok (.aload_n 0, 1) := by decide +kernel
theorem dX5_recall_10 : decode cX5_recall 10 = .ok (.getfield 17, 3) := by decide +kernel
theorem dX5_recall_13 : decode cX5_recall 13 = .ok (.bipush 20, 2) := by decide +kernel
theorem dX5_recall_15 : decode cX5_recall 15 = .ok (.iadd, 1) := by decide +kernel
theorem dX5_recall_16 : decode cX5_recall 16 = .ok (.iconst 1, 1) := by decide +kernel
theorem dX5_recall_17 : decode cX5_recall 17 = .ok (.isub, 1) := by decide +kernel
theorem dX5_recall_18 : decode cX5_recall 18 = .ok (.bipush 20, 2) := by decide +kernel
theorem dX5_recall_20 : decode cX5_recall 20 = .ok (.irem, 1) := by decide +kernel
theorem dX5_recall_21 : decode cX5_recall 21 = .ok (.putfield 17, 3) := by decide +kernel
theorem dX5_recall_24 : decode cX5_recall 24 = .ok (.aload_n 0, 1) := by decide +kernel
theorem dX5_recall_25 : decode cX5_recall 25 = .ok (.dup, 1) := by decide +kernel
theorem dX5_recall_26 : decode cX5_recall 26 = .ok (.getfield 21, 3) := by decide +kernel
theorem dX5_recall_29 : decode cX5_recall 29 = .ok (.iconst 1, 1) := by decide +kernel
theorem dX5_recall_30 : decode cX5_recall 30 = .ok (.isub, 1) := by decide +kernel
theorem dX5_recall_31 : decode cX5_recall 31 = .ok (.putfield 21, 3) := by decide +kernel
theorem dX5_recall_34 : decode cX5_recall 34 = .ok (.aload_n 1, 1) := by decide +kernel
theorem dX5_recall_35 : decode cX5_recall 35 = .ok (.aload_n 0, 1) := by decide +kernel
theorem dX5_recall_36 : decode cX5_recall 36 = .ok (.getfield 11, 3) := by decide +kernel
theorem dX5_recall_39 : decode cX5_recall 39 = .ok (.aload_n 0, 1) := by decide +kernel
theorem dX5_recall_40 : decode cX5_recall 40 = .ok (.getfield 17, 3) := by decide +kernel
theorem dX5_recall_43 : decode cX5_recall 43 = .ok (.aaload, 1) := by decide +kernel
theorem dX5_recall_44 : decode cX5_recall 44 = .ok (.invokevirtual 25, 3) := by decide +kernel
theorem dX5_recall_47 : decode cX5_recall 47 = .ok (.return_, 1) := by decide +kernel
theorem dX5_forget_0 : decode cX5_forget 0 = .ok (.aload_n 0, 1) := by decide +kernel
theorem dX5_forget_1 : decode cX5_forget 1 = .ok (.iconst 0, 1) := by decide +kernel
theorem dX5_forget_2 : decode cX5_forget 2 = .ok (.putfield 21, 3) := by decide +kernel
theorem dX5_forget_5 : decode cX5_forget 5 = .ok (.return_, 1) := by decide +kernel
theorem dX6_init_0 : decode cX6_init 0 = .ok (.aload_n 0, 1) := by decide +kernel
theorem dX6_init_1 : decode cX6_init 1 = .ok (.invokespecial 1, 3) := by decide +kernel
theorem dX6_init_4 : decode cX6_init 4 = .ok (.aload_n 0, 1) := by decide +kernel
theorem dX6_init_5 : decode cX6_init 5 = .ok (.iconst 0, 1) := by decide +kernel
theorem dX6_init_6 : decode cX6_init 6 = .ok (.putfield 7, 3) := by decide +kernel
theorem dX6_init_9 : decode cX6_init 9 = .ok (.aload_n 0, 1) := by decide +kernel
theorem dX6_init_10 : decode cX6_init 10 = .ok (.new 13, 3) := by decide +kernel
theorem dX6_init_13 : decode cX6_init 13 = .ok (.dup, 1) := by decide +kernel
theorem dX6_init_14 : decode cX6_init 14 = .ok (.invokespecial 15, 3) := by decide +kernel
theorem dX6_init_17 : decode cX6_init 17 = .ok (.putfield 16, 3) := by decide +kernel
theorem dX6_init_20 : decode cX6_init 20 = .ok (.aload_n 0, 1) := by decide +kernel
theorem dX6_init_21 : decode cX6_init 21 = .ok (.iconst 0, 1) := by decide +kernel
theorem dX6_init_22 : decode cX6_init 22 = .ok (.putfield 20, 3) := by decide +kernel
theorem dX6_init_25 : decode cX6_init 25 = .ok (.return_, 1) := by decide +kernel
theorem dX7_init_0 : decode cX7_init 0 = .ok (.aload_n 0, 1) := by decide +kernel
theorem dX7_init_1 : decode cX7_init 1 = .ok (.invokespecial 3, 3) := by decide +kernel
theorem dX7_init_4 : decode cX7_init 4 = .ok (.aload_n 0, 1) := by decide +kernel
theorem dX7_init_5 : decode cX7_init 5 = .ok (.sipush 240, 3) := by decide +kernel
theorem dX7_init_8 : decode cX7_init 8 = .ok (.newarray .int, 2) := by decide +kernel
theorem dX7_init_10 : decode cX7_init 10 = .ok (.putfield 9, 3) := by decide +kernel
theorem dX7_init_13 : decode cX7_init 13 = .ok (.aload_n 0, 1) := by decide +kernel
theorem dX7_init_14 : decode cX7_init 14 = .ok (.iconst 0, 1) := by decide +kernel
theorem dX7_init_15 : decode cX7_init 15 = .ok (.putfield 15, 3) := by decide +kernel
theorem dX7_init_18 : decode cX7_init 18 = .ok (.aload_n 0, 1) := by decide +kernel
theorem dX7_init_19 : decode cX7_init 19 = .ok (.iconst 0, 1) := by decide +kernel
theorem dX7_init_20 : decode cX7_init 20 = .ok (.putfield 19, 3) := by decide +kernel
theorem dX7_init_23 : decode cX7_init 23 = .ok (.aload_n 0, 1) := by decide +kernel
theorem dX7_init_24 : decode cX7_init 24 = .ok (.iconst 0, 1) := by decide +kernel
theorem dX7_init_25 : decode cX7_init 25 = .ok (.putfield 22, 3) := by decide +kernel
theorem dX7_init_28 : decode cX7_init 28 = .ok (.aload_n 0, 1) := by decide +kernel
theorem dX7_init_29 : decode cX7_init 29 = .ok (.new 25, 3) := by decide +kernel
theorem dX7_init_32 : decode cX7_init 32 = .ok (.dup, 1) := by decide +kernel
theorem dX7_init_33 : decode cX7_init 33 = .ok (.invokespecial 27, 3) := by decide +kernel
theorem dX7_init_36 : decode cX7_init 36 = .ok (.putfield 28, 3) := by decide +kernel
theorem dX7_init_39 : decode cX7_init 39 = .ok (.aload_n 0, 1) := by decide +kernel
theorem dX7_init_40 : decode cX7_init 40 = .ok (.iconst 0, 1) := by decide +kernel
theorem dX7_init_41 : decode cX7_init 41 = .ok (.putfield 32, 3) := by decide +kernel
theorem dX7_init_44 : decode cX7_init 44 = .ok (.aload_n 0, 1) := by decide +kernel
theorem dX7_init_45 : decode cX7_init 45 = .ok (.iconst 0, 1) := by decide +kernel
theorem dX7_init_46 : decode cX7_init 46 = .ok (.putfield 36, 3) := by decide +kernel
theorem dX7_init_49 : decode cX7_init 49 = .ok (.aload_n 0, 1) := by decide +kernel
theorem dX7_init_50 : decode cX7_init 50 = .ok (.iconst 0, 1) := by decide +kernel
theorem dX7_init_51 : decode cX7_init 51 = .ok (.putfield 39, 3) := by decide +kernel
theorem dX7_init_54 : decode cX7_init 54 = .ok (.aload_n 0, 1) := by decide +kernel
theorem dX7_init_55 : decode cX7_init 55 = .ok (.iconst 0, 1) := by decide +kernel
theorem dX7_init_56 : decode cX7_init 56 = .ok (.putfield 42, 3) := by decide +kernel
theorem dX7_init_59 : decode cX7_init 59 = .ok (.aload_n 0, 1) := by decide +kernel
theorem dX7_init_60 : decode cX7_init 60 = .ok (.iconst (-1), 1) := by decide +kernel
theorem dX7_init_61 : decode cX7_init 61 = .ok (.putfield 45, 3) := by decide +kernel
theorem dX7_init_64 : decode cX7_init 64 = .ok (.return_, 1) := by decide +kernel
theorem dX7_add_0 : decode cX7_add 0 = .ok (.aload_n 0, 1) := by decide +kernel
theorem dX7_add_1 : decode cX7_add 1 = .ok (.getfield 15, 3) := by decide +kernel
theorem dX7_add_4 : decode cX7_add 4 = .ok (.sipush 240, 3) := by decide +kernel
theorem dX7_add_7 : decode cX7_add 7 = .ok (.if_icmp .lt 5, 3) := by decide +kernel
theorem dX7_add_10 : decode cX7_add 10 = .ok (.iconst 0, 1) := by decide +kernel
theorem dX7_add_11 : decode cX7_add 11 = .ok (.ireturn, 1) := by decide +kernel
theorem dX7_add_12 : decode cX7_add 12 = .ok (.aload_n 0, 1) := by decide +kernel
theorem dX7_add_13 : decode cX7_add 13 = .ok (.getfield 9, 3) := by decide +kernel
theorem dX7_add_16 : decode cX7_add 16 = .ok (.aload_n 0, 1) := by decide +kernel
theorem dX7_add_17 : decode cX7_add 17 = .ok (.getfield 15, 3) := by decide +kernel
theorem dX7_add_20 : decode cX7_add 20 = .ok (.iload_n 1, 1) := by decide +kernel
theorem dX7_add_21 : decode cX7_add 21 = .ok (.iastore, 1) := by decide +kernel
theorem dX7_add_22 : decode cX7_add 22 = .ok (.aload_n 0, 1) := by decide +kernel
theorem dX7_add_23 : decode cX7_add 23 = .ok (.dup, 1) := by decide +kernel
theorem dX7_add_24 : decode cX7_add 24 = .ok (.getfield 15, 3) := by decide +kernel
theorem dX7_add_27 : decode cX7_add 27 = .ok (.iconst 1, 1) := by decide +kernel
theorem dX7_add_28 : decode cX7_add 28 = .ok (.iadd, 1) := by decide +kernel
theorem dX7_add_29 : decode cX7_add 29 = .ok (.putfield 15, 3) := by decide +kernel
theorem dX7_add_32 : decode cX7_add 32 = .ok (.iconst 1, 1) := by decide +kernel
theorem dX7_add_33 : decode cX7_add 33 = .ok (.ireturn, 1) := by decide +kernel
theorem dX7_readText_0 : decode cX7_readText 0 = .ok (.aload_n 0, 1) := by decide +kernel
theorem dX7_readText_1 : decode cX7_readText 1 = .ok (.aload_n 0, 1) := by decide +kernel
theorem dX7_readText_2 : decode cX7_readText 2 = .ok (.getfield 15, 3) := by decide +kernel
theorem dX7_readText_5 : decode cX7_readText 5 = .ok (.putfield 19, 3) := by decide +kernel
theorem dX7_readText_8 : decode cX7_readText 8 = .ok (.aload_n 0, 1) := by decide +kernel
theorem dX7_readText_9 : decode cX7_readText 9 = .ok (.iconst 0, 1) := by decide +kernel
theorem dX7_readText_10 : decode cX7_readText 10 = .ok (.putfield 15, 3) := by decide +kernel
theorem dX7_readText_13 : decode cX7_readText 13 = .ok (.aload_n 0, 1) := by decide +kernel
theorem dX7_readText_14 : decode cX7_readText 14 = .ok (.iconst 0, 1) := by decide +kernel
theorem dX7_readText_15 : decode cX7_readText 15 = .ok (.putfield 22, 3) := by decide +kernel
theorem dX7_readText_18 : decode cX7_readText 18 = .ok (.aload_n 0, 1) := by decide +kernel
theorem dX7_readText_19 : decode cX7_readText 19 = .ok (.iconst 0, 1) := by decide +kernel
theorem dX7_readText_20 : decode cX7_readText 20 = .ok (.putfield 32, 3) := by decide +kernel
theorem dX7_readText_23 : decode cX7_readText 23 = .ok (.aload_n 0, 1) := by decide +kernel
theorem dX7_readText_24 : decode cX7_readText 24 = .ok (.iconst 0, 1) := by decide +kernel
theorem dX7_readText_25 : decode cX7_readText 25 = .ok (.putfield 42, 3) := by decide +kernel
theorem dX7_readText_28 : decode cX7_readText 28 = .ok (.aload_n 0, 1) := by decide +kernel
theorem dX7_readText_29 : decode cX7_readText 29 = .ok (.iconst (-1), 1) := by decide +kernel
theorem dX7_readText_30 : decode cX7_readText 30 = .ok (.putfield 45, 3) := by decide +kernel
theorem dX7_readText_33 : decode cX7_readText 33 = .ok (.aload_n 0, 1) := by decide +kernel
theorem dX7_readText_34 : decode cX7_readText 34 = .ok (.getfield 28, 3) := by decide +kernel
theorem dX7_readText_37 : decode cX7_readText 37 = .ok (.invokevirtual 48, 3) := by decide +kernel
theorem dX7_readText_40 : decode cX7_readText 40 = .ok (.aload_n 0, 1) := by decide +kernel
theorem dX7_readText_41 : decode cX7_readText 41 = .ok (.invokevirtual 51, 3) := by decide +kernel
theorem dX7_readText_44 : decode cX7_readText 44 = .ok (.aload_n 0, 1) := by decide +kernel
theorem dX7_readText_45 : decode cX7_readText 45 = .ok (.getfield 22, 3) := by decide +kernel
theorem dX7_readText_48 : decode cX7_readText 48 = .ok (.aload_n 0, 1) := by decide +kernel
theorem dX7_readText_49 : decode cX7_readText 49 = .ok (.getfield 19, 3) := by decide +kernel
theorem dX7_readText_52 : decode cX7_readText 52 = .ok (.if_icmp .lt 5, 3) := by decide +kernel
theorem dX7_readText_55 : decode cX7_readText 55 = .ok (.iconst 0, 1) := by decide +kernel
theorem dX7_readText_56 : decode cX7_readText 56 = .ok (.ireturn, 1) := by decide +kernel
theorem dX7_readText_57 : decode cX7_readText 57 = .ok (.aload_n 0, 1) := by decide +kernel
theorem dX7_readText_58 : decode cX7_readText 58 = .ok (.getfield 28, 3) := by decide +kernel
theorem dX7_readText_61 : decode cX7_readText 61 = .ok (.iconst 1, 1) := by decide +kernel
theorem dX7_readText_62 : decode cX7_readText 62 = .ok (.putfield 54, 3) := by decide +kernel
theorem dX7_readText_65 : decode cX7_readText 65 = .ok (.aload_n 0, 1) := by decide +kernel
theorem dX7_readText_66 : decode cX7_readText 66 = .ok (.getfield 28, 3) := by decide +kernel
theorem dX7_readText_69 : decode cX7_readText 69 = .ok (.iconst 1, 1) := by decide +kernel
theorem dX7_readText_70 : decode cX7_readText 70 = .ok (.putfield 57, 3) := by decide +kernel
theorem dX7_readText_73 : decode cX7_readText 73 = .ok (.aload_n 0, 1) := by decide +kernel
theorem dX7_readText_74 : decode cX7_readText 74 = .ok (.invokevirtual 60, 3) := by decide +kernel
theorem dX7_readText_77 : decode cX7_readText 77 = .ok (.istore_n 1, 1) := by decide +kernel
theorem dX7_readText_78 : decode cX7_readText 78 = .ok (.iconst 0, 1) := by decide +kernel
theorem dX7_readText_79 : decode cX7_readText 79 = .ok (.istore_n 2, 1) := by decide +kernel
theorem dX7_readText_80 : decode cX7_readText 80 = .ok (.iload_n 2, 1) := by decide +kernel
theorem dX7_readText_81 : decode cX7_readText 81 = .ok (.sipush 240, 3) := by decide +kernel
theorem dX7_readText_84 : decode cX7_readText 84 = .ok (.if_icmp .ge 29, 3) := by decide +kernel
theorem dX7_readText_87 : decode cX7_readText 87 = .ok (.iload_n 1, 1) := by decide +kernel
theorem dX7_readText_88 : decode cX7_readText 88 = .ok (.ifCond .eq 25, 3) := by decide +kernel
theorem dX7_readText_91 : decode cX7_readText 91 = .ok (.aload_n 0, 1) := by decide +kernel
theorem dX7_readText_92 : decode cX7_readText 92 = .ok (.getfield 22, 3) := by decide +kernel
theorem dX7_readText_95 : decode cX7_readText 95 = .ok (.aload_n 0, 1) := by decide +kernel
theorem dX7_readText_96 : decode cX7_readText 96 = .ok (.getfield 19, 3) := by decide +kernel
theorem dX7_readText_99 : decode cX7_readText 99 = .ok (.if_icmp .ge 14, 3) := by decide +kernel
theorem dX7_readText_102 : decode cX7_readText 102 = .ok (.aload_n 0, 1) := by decide +kernel
theorem dX7_readText_103 : decode cX7_readText 103 = .ok (.invokevirtual 64, 3) := by decide +kernel
theorem dX7_readText_106 : decode cX7_readText 106 = .ok (.istore_n 1, 1) := by decide +kernel
theorem dX7_readText_107 : decode cX7_readText 107 = .ok (.iinc 2 1, 3) := by decide +kernel
theorem dX7_readText_110 : decode cX7_readText 110 = .ok (.goto (-30), 3) := by decide +kernel
theorem dX7_readText_113 : decode cX7_readText 113 = .ok (.aload_n 0, 1) := by decide +kernel
theorem dX7_readText_114 : decode cX7_readText 114 = .ok (.getfield 42, 3) := by decide +kernel
theorem dX7_readText_117 : decode cX7_readText 117 = .ok (.ireturn, 1) := by decide +kernel
theorem dX7_exchange_0 : decode cX7_exchange 0 = .ok (.aload_n 0, 1) := by decide +kernel
theorem dX7_exchange_1 : decode cX7_exchange 1 = .ok (.getfield 28, 3) := by decide +kernel
theorem dX7_exchange_4 : decode cX7_exchange 4 = .ok (.astore_n 2, 1) := by decide +kernel
theorem dX7_exchange_5 : decode cX7_exchange 5 = .ok (.aload_n 0, 1) := by decide +kernel
theorem dX7_exchange_6 : decode cX7_exchange 6 = .ok (.aload_n 1, 1) := by decide +kernel
theorem dX7_exchange_7 : decode cX7_exchange 7 = .ok (.putfield 28, 3) := by decide +kernel
theorem dX7_exchange_10 : decode cX7_exchange 10 = .ok (.aload_n 2, 1) := by decide +kernel
theorem dX7_exchange_11 : decode cX7_exchange 11 = .ok (.areturn, 1) := by decide +kernel
theorem dX7_readWays_0 : decode cX7_readWays 0 = .ok (.aload_n 0, 1) := by decide +kernel
theorem dX7_readWays_1 : decode cX7_readWays 1 = .ok (.bipush 119, 2) := by decide +kernel
theorem dX7_readWays_3 : decode cX7_readWays 3 = .ok (.invokevirtual 67, 3) := by decide +kernel
theorem dX7_readWays_6 : decode cX7_readWays 6 = .ok (.ifCond .eq 26, 3) := by decide +kernel
theorem dX7_readWays_9 : decode cX7_readWays 9 = .ok (.aload_n 0, 1) := by decide +kernel
theorem dX7_readWays_10 : decode cX7_readWays 10 = .ok (.invokevirtual 71, 3) := by decide +kernel
theorem dX7_readWays_13 : decode cX7_readWays 13 = .ok (.ifCond .eq 19, 3) := by decide +kernel
theorem dX7_readWays_16 : decode cX7_readWays 16 = .ok (.aload_n 0, 1) := by decide +kernel
theorem dX7_readWays_17 : decode cX7_readWays 17 = .ok (.bipush 44, 2) := by decide +kernel
theorem dX7_readWays_19 : decode cX7_readWays 19 = .ok (.invokevirtual 67, 3) := by decide +kernel
theorem dX7_readWays_22 : decode cX7_readWays 22 = .ok (.ifCond .eq 10, 3) := by decide +kernel
theorem dX7_readWays_25 : decode cX7_readWays 25 = .ok (.aload_n 0, 1) := by decide +kernel
theorem dX7_readWays_26 : decode cX7_readWays 26 = .ok (.invokevirtual 71, 3) := by decide +kernel
theorem dX7_readWays_29 : decode cX7_readWays 29 = .ok (.ifCond .ne 5, 3) := by decide +kernel
theorem dX7_readWays_32 : decode cX7_readWays 32 = .ok (.iconst 0, 1) := by decide +kernel
theorem dX7_readWays_33 : decode cX7_readWays 33 = .ok (.ireturn, 1) := by decide +kernel
theorem dX7_readWays_34 : decode cX7_readWays 34 = .ok (.iconst 2, 1) := by decide +kernel
theorem dX7_readWays_35 : decode cX7_readWays 35 = .ok (.istore_n 1, 1) := by decide +kernel
theorem dX7_readWays_36 : decode cX7_readWays 36 = .ok (.iload_n 1, 1) := by decide +kernel
theorem dX7_readWays_37 : decode cX7_readWays 37 = .ok (.bipush 8, 2) := by decide +kernel
theorem dX7_readWays_39 : decode cX7_readWays 39 = .ok (.if_icmp .ge 36, 3) := by decide +kernel
theorem dX7_readWays_42 : decode cX7_readWays 42 = .ok (.aload_n 0, 1) := by decide +kernel
theorem dX7_readWays_43 : decode cX7_readWays 43 = .ok (.invokevirtual 74, 3) := by decide +kernel
theorem dX7_readWays_46 : decode cX7_readWays 46 = .ok (.bipush 44, 2) := by decide +kernel
theorem dX7_readWays_48 : decode cX7_readWays 48 = .ok (.if_icmp .ne 27, 3) := by decide +kernel
theorem dX7_readWays_51 : decode cX7_readWays 51 = .ok (.aload_n 0, 1) := by decide +kernel
theorem dX7_readWays_52 : decode cX7_readWays 52 = .ok (.bipush 44, 2) := by decide +kernel
theorem dX7_readWays_54 : decode cX7_readWays 54 = .ok (.invokevirtual 67, 3) := by decide +kernel
theorem dX7_readWays_57 : decode cX7_readWays 57 = .ok (.ifCond .eq 10, 3) := by decide +kernel
theorem dX7_readWays_60 : decode cX7_readWays 60 = .ok (.aload_n 0, 1) := by decide +kernel
theorem dX7_readWays_61 : decode cX7_readWays 61 = .ok (.invokevirtual 71, 3) := by decide +kernel
theorem dX7_readWays_64 : decode cX7_readWays 64 = .ok (.ifCond .ne 5, 3) := by decide +kernel
theorem dX7_readWays_67 : decode cX7_readWays 67 = .ok (.iconst 0, 1) := by decide +kernel
theorem dX7_readWays_68 : decode cX7_readWays 68 = .ok (.ireturn, 1) := by decide +kernel
theorem dX7_readWays_69 : decode cX7_readWays 69 = .ok (.iinc 1 1, 3) := by decide +kernel
theorem dX7_readWays_72 : decode cX7_readWays 72 = .ok (.goto (-36), 3) := by decide +kernel
theorem dX7_readWays_75 : decode cX7_readWays 75 = .ok (.aload_n 0, 1) := by decide +kernel
theorem dX7_readWays_76 : decode cX7_readWays 76 = .ok (.bipush 59, 2) := by decide +kernel
theorem dX7_readWays_78 : decode cX7_readWays 78 = .ok (.invokevirtual 67, 3) := by decide +kernel
theorem dX7_readWays_81 : decode cX7_readWays 81 = .ok (.ireturn, 1) := by decide +kernel
theorem dX7_readWay_0 : decode cX7_readWay 0 = .ok (.aload_n 0, 1) := by decide +kernel
theorem dX7_readWay_1 : decode cX7_readWay 1 = .ok (.getfield 28, 3) := by decide +kernel
theorem dX7_readWay_4 : decode cX7_readWay 4 = .ok (.getfield 78, 3) := by decide +kernel
theorem dX7_readWay_7 : decode cX7_readWay 7 = .ok (.bipush 8, 2) := by decide +kernel
theorem dX7_readWay_9 : decode cX7_readWay 9 = .ok (.if_icmp .lt 13, 3) := by decide +kernel
theorem dX7_readWay_12 : decode cX7_readWay 12 = .ok (.aload_n 0, 1) := by decide +kernel
theorem dX7_readWay_13 : decode cX7_readWay 13 = .ok (.iconst 1, 1) := by decide +kernel
theorem dX7_readWay_14 : decode cX7_readWay 14 = .ok (.aload_n 0, 1) := by decide +kernel
theorem dX7_readWay_15 : decode cX7_readWay 15 = .ok (.getfield 22, 3) := by decide +kernel
theorem dX7_readWay_18 : decode cX7_readWay 18 = .ok (.invokevirtual 81, 3) := by decide +kernel
theorem dX7_readWay_21 : decode cX7_readWay 21 = .ok (.ireturn, 1) := by decide +kernel
theorem dX7_readWay_22 : decode cX7_readWay 22 = .ok (.aload_n 0, 1) := by decide +kernel
theorem dX7_readWay_23 : decode cX7_readWay 23 = .ok (.iconst 1, 1) := by decide +kernel
theorem dX7_readWay_24 : decode cX7_readWay 24 = .ok (.sipush 999, 3) := by decide +kernel
theorem dX7_readWay_27 : decode cX7_readWay 27 = .ok (.invokevirtual 85, 3) := by decide +kernel
theorem dX7_readWay_30 : decode cX7_readWay 30 = .ok (.ifCond .ne 5, 3) := by decide +kernel
theorem dX7_readWay_33 : decode cX7_readWay 33 = .ok (.iconst 0, 1) := by decide +kernel
theorem dX7_readWay_34 : decode cX7_readWay 34 = .ok (.ireturn, 1) := by decide +kernel
theorem dX7_readWay_35 : decode cX7_readWay 35 = .ok (.aload_n 0, 1) := by decide +kernel
theorem dX7_readWay_36 : decode cX7_readWay 36 = .ok (.getfield 28, 3) := by decide +kernel
theorem dX7_readWay_39 : decode cX7_readWay 39 = .ok (.getfield 88, 3) := by decide +kernel
theorem dX7_readWay_42 : decode cX7_readWay 42 = .ok (.aload_n 0, 1) := by decide +kernel
theorem dX7_readWay_43 : decode cX7_readWay 43 = .ok (.getfield 28, 3) := by decide +kernel
theorem dX7_readWay_46 : decode cX7_readWay 46 = .ok (.getfield 78, 3) := by decide +kernel
theorem dX7_readWay_49 : decode cX7_readWay 49 = .ok (.aload_n 0, 1) := by decide +kernel
theorem dX7_readWay_50 : decode cX7_readWay 50 = .ok (.getfield 36, 3) := by decide +kernel
theorem dX7_readWay_53 : decode cX7_readWay 53 = .ok (.iastore, 1) := by decide +kernel
theorem dX7_readWay_54 : decode cX7_readWay 54 = .ok (.aload_n 0, 1) := by decide +kernel
theorem dX7_readWay_55 : decode cX7_readWay 55 = .ok (.getfield 28, 3) := by decide +kernel
theorem dX7_readWay_58 : decode cX7_readWay 58 = .ok (.dup, 1) := by decide +kernel
theorem dX7_readWay_59 : decode cX7_readWay 59 = .ok (.getfield 78, 3) := by decide +kernel
theorem dX7_readWay_62 : decode cX7_readWay 62 = .ok (.iconst 1, 1) := by decide +kernel
theorem dX7_readWay_63 : decode cX7_readWay 63 = .ok (.iadd, 1) := by decide +kernel
theorem dX7_readWay_64 : decode cX7_readWay 64 = .ok (.putfield 78, 3) := by decide +kernel
theorem dX7_readWay_67 : decode cX7_readWay 67 = .ok (.iconst 1, 1) := by decide +kernel
theorem dX7_readWay_68 : decode cX7_readWay 68 = .ok (.ireturn, 1) := by decide +kernel
theorem dX7_readClause_0 : decode cX7_readClause 0 = .ok (.aload_n 0, 1) := by decide +kernel
theorem dX7_readClause_1 : decode cX7_readClause 1 = .ok (.invokevirtual 74, 3) := by decide +kernel
theorem dX7_readClause_4 : decode cX7_readClause 4 = .ok (.tableswitch 73 112 119 #[68, 73, 73, 63, 58, 73, 73, 48], 48) := by decide +kernel
theorem dX7_readClause_52 : decode cX7_readClause 52 = .ok (.aload_n 0, 1) := by decide +kernel
theorem dX7_readClause_53 : decode cX7_readClause 53 = .ok (.iconst 3, 1) := by decide +kernel
theorem dX7_readClause_54 : decode cX7_readClause 54 = .ok (.aload_n 0, 1) := by decide +kernel
theorem dX7_readClause_55 : decode cX7_readClause 55 = .ok (.getfield 22, 3) := by decide +kernel
theorem dX7_readClause_58 : decode cX7_readClause 58 = .ok (.invokevirtual 81, 3) := by decide +kernel
theorem dX7_readClause_61 : decode cX7_readClause 61 = .ok (.ireturn, 1) := by decide +kernel
theorem dX7_readClause_62 : decode cX7_readClause 62 = .ok (.aload_n 0, 1) := by decide +kernel
theorem dX7_readClause_63 : decode cX7_readClause 63 = .ok (.invokevirtual 91, 3) := by decide +kernel
theorem dX7_readClause_66 : decode cX7_readClause 66 = .ok (.ireturn, 1) := by decide +kernel
theorem dX7_readClause_67 : decode cX7_readClause 67 = .ok (.aload_n 0, 1) := by decide +kernel
theorem dX7_readClause_68 : decode cX7_readClause 68 = .ok (.invokevirtual 94, 3) := by decide +kernel
theorem dX7_readClause_71 : decode cX7_readClause 71 = .ok (.ireturn, 1) := by decide +kernel
theorem dX7_readClause_72 : decode cX7_readClause 72 = .ok (.aload_n 0, 1) := by decide +kernel
theorem dX7_readClause_73 : decode cX7_readClause 73 = .ok (.invokevirtual 97, 3) := by decide +kernel
theorem dX7_readClause_76 : decode cX7_readClause 76 = .ok (.ireturn, 1) := by decide +kernel
theorem dX7_readClause_77 : decode cX7_readClause 77 = .ok (.aload_n 0, 1) := by decide +kernel
theorem dX7_readClause_78 : decode cX7_readClause 78 = .ok (.iconst 1, 1) := by decide +kernel
theorem dX7_readClause_79 : decode cX7_readClause 79 = .ok (.aload_n 0, 1) := by decide +kernel
theorem dX7_readClause_80 : decode cX7_readClause 80 = .ok (.getfield 22, 3) := by decide +kernel
theorem dX7_readClause_83 : decode cX7_readClause 83 = .ok (.invokevirtual 81, 3) := by decide +kernel
theorem dX7_readClause_86 : decode cX7_readClause 86 = .ok (.ireturn, 1) := by decide +kernel
theorem dX7_readTest_0 : decode cX7_readTest 0 = .ok (.aload_n 0, 1) := by decide +kernel
theorem dX7_readTest_1 : decode cX7_readTest 1 = .ok (.getfield 28, 3) := by decide +kernel
theorem dX7_readTest_4 : decode cX7_readTest 4 = .ok (.getfield 100, 3) := by decide +kernel
theorem dX7_readTest_7 : decode cX7_readTest 7 = .ok (.istore_n 1, 1) := by decide +kernel
theorem dX7_readTest_8 : decode cX7_readTest 8 = .ok (.iload_n 1, 1) := by decide +kernel
theorem dX7_readTest_9 : decode cX7_readTest 9 = .ok (.bipush 6, 2) := by decide +kernel
theorem dX7_readTest_11 : decode cX7_readTest 11 = .ok (.if_icmp .lt 13, 3) := by decide +kernel
theorem dX7_readTest_14 : decode cX7_readTest 14 = .ok (.aload_n 0, 1) := by decide +kernel
theorem dX7_readTest_15 : decode cX7_readTest 15 = .ok (.iconst 3, 1) := by decide +kernel
theorem dX7_readTest_16 : decode cX7_readTest 16 = .ok (.aload_n 0, 1) := by decide +kernel
theorem dX7_readTest_17 : decode cX7_readTest 17 = .ok (.getfield 22, 3) := by decide +kernel
theorem dX7_readTest_20 : decode cX7_readTest 20 = .ok (.invokevirtual 81, 3) := by decide +kernel
theorem dX7_readTest_23 : decode cX7_readTest 23 = .ok (.ireturn, 1) := by decide +kernel
theorem dX7_readTest_24 : decode cX7_readTest 24 = .ok (.aload_n 0, 1) := by decide +kernel
theorem dX7_readTest_25 : decode cX7_readTest 25 = .ok (.bipush 116, 2) := by decide +kernel
theorem dX7_readTest_27 : decode cX7_readTest 27 = .ok (.invokevirtual 67, 3) := by decide +kernel
theorem dX7_readTest_30 : decode cX7_readTest 30 = .ok (.ifCond .eq 11, 3) := by decide +kernel
theorem dX7_readTest_33 : decode cX7_readTest 33 = .ok (.aload_n 0, 1) := by decide +kernel
theorem dX7_readTest_34 : decode cX7_readTest 34 = .ok (.iconst 0, 1) := by decide +kernel
theorem dX7_readTest_35 : decode cX7_readTest 35 = .ok (.invokevirtual 103, 3) := by decide +kernel
theorem dX7_readTest_38 : decode cX7_readTest 38 = .ok (.ifCond .ne 5, 3) := by decide +kernel
theorem dX7_readTest_41 : decode cX7_readTest 41 = .ok (.iconst 0, 1) := by decide +kernel
theorem dX7_readTest_42 : decode cX7_readTest 42 = .ok (.ireturn, 1) := by decide +kernel
theorem dX7_readTest_43 : decode cX7_readTest 43 = .ok (.aload_n 0, 1) := by decide +kernel
theorem dX7_readTest_44 : decode cX7_readTest 44 = .ok (.getfield 36, 3) := by decide +kernel
theorem dX7_readTest_47 : decode cX7_readTest 47 = .ok (.iconst 0, 1) := by decide +kernel
theorem dX7_readTest_48 : decode cX7_readTest 48 = .ok (.invokestatic 106, 3) := by decide +kernel
theorem dX7_readTest_51 : decode cX7_readTest 51 = .ok (.ifCond .eq 13, 3) := by decide +kernel
theorem dX7_readTest_54 : decode cX7_readTest 54 = .ok (.aload_n 0, 1) := by decide +kernel
theorem dX7_readTest_55 : decode cX7_readTest 55 = .ok (.iconst 2, 1) := by decide +kernel
theorem dX7_readTest_56 : decode cX7_readTest 56 = .ok (.aload_n 0, 1) := by decide +kernel
theorem dX7_readTest_57 : decode cX7_readTest 57 = .ok (.getfield 39, 3) := by decide +kernel
theorem dX7_readTest_60 : decode cX7_readTest 60 = .ok (.invokevirtual 81, 3) := by decide +kernel
theorem dX7_readTest_63 : decode cX7_readTest 63 = .ok (.ireturn, 1) := by decide +kernel
theorem dX7_readTest_64 : decode cX7_readTest 64 = .ok (.aload_n 0, 1) := by decide +kernel
theorem dX7_readTest_65 : decode cX7_readTest 65 = .ok (.getfield 28, 3) := by decide +kernel
theorem dX7_readTest_68 : decode cX7_readTest 68 = .ok (.getfield 109, 3) := by decide +kernel
theorem dX7_readTest_71 : decode cX7_readTest 71 = .ok (.iload_n 1, 1) := by decide +kernel
theorem dX7_readTest_72 : decode cX7_readTest 72 = .ok (.aload_n 0, 1) := by decide +kernel
theorem dX7_readTest_73 : decode cX7_readTest 73 = .ok (.getfield 36, 3) := by decide +kernel
theorem dX7_readTest_76 : decode cX7_readTest 76 = .ok (.iastore, 1) := by decide +kernel
theorem dX7_readTest_77 : decode cX7_readTest 77 = .ok (.aload_n 0, 1) := by decide +kernel
theorem dX7_readTest_78 : decode cX7_readTest 78 = .ok (.iconst 0, 1) := by decide +kernel
theorem dX7_readTest_79 : decode cX7_readTest 79 = .ok (.bipush 63, 2) := by decide +kernel
theorem dX7_readTest_81 : decode cX7_readTest 81 = .ok (.invokevirtual 85, 3) := by decide +kernel
theorem dX7_readTest_84 : decode cX7_readTest 84 = .ok (.ifCond .ne 5, 3) := by decide +kernel
theorem dX7_readTest_87 : decode cX7_readTest 87 = .ok (.iconst 0, 1) := by decide +kernel
theorem dX7_readTest_88 : decode cX7_readTest 88 = .ok (.ireturn, 1) := by decide +kernel
theorem dX7_readTest_89 : decode cX7_readTest 89 = .ok (.aload_n 0, 1) := by decide +kernel
theorem dX7_readTest_90 : decode cX7_readTest 90 = .ok (.getfield 28, 3) := by decide +kernel
theorem dX7_readTest_93 : decode cX7_readTest 93 = .ok (.getfield 112, 3) := by decide +kernel
theorem dX7_readTest_96 : decode cX7_readTest 96 = .ok (.iload_n 1, 1) := by decide +kernel
theorem dX7_readTest_97 : decode cX7_readTest 97 = .ok (.aload_n 0, 1) := by decide +kernel
theorem dX7_readTest_98 : decode cX7_readTest 98 = .ok (.getfield 36, 3) := by decide +kernel
theorem dX7_readTest_101 : decode cX7_readTest 101 = .ok (.iastore, 1) := by decide +kernel
theorem dX7_readTest_102 : decode cX7_readTest 102 = .ok (.aload_n 0, 1) := by decide +kernel
theorem dX7_readTest_103 : decode cX7_readTest 103 = .ok (.iconst 0, 1) := by decide +kernel
theorem dX7_readTest_104 : decode cX7_readTest 104 = .ok (.sipush 999, 3) := by decide +kernel
theorem dX7_readTest_107 : decode cX7_readTest 107 = .ok (.invokevirtual 85, 3) := by decide +kernel
theorem dX7_readTest_110 : decode cX7_readTest 110 = .ok (.ifCond .ne 5, 3) := by decide +kernel
theorem dX7_readTest_113 : decode cX7_readTest 113 = .ok (.iconst 0, 1) := by decide +kernel
theorem dX7_readTest_114 : decode cX7_readTest 114 = .ok (.ireturn, 1) := by decide +kernel
theorem dX7_readTest_115 : decode cX7_readTest 115 = .ok (.aload_n 0, 1) := by decide +kernel
theorem dX7_readTest_116 : decode cX7_readTest 116 = .ok (.getfield 28, 3) := by decide +kernel
theorem dX7_readTest_119 : decode cX7_readTest 119 = .ok (.getfield 115, 3) := by decide +kernel
theorem dX7_readTest_122 : decode cX7_readTest 122 = .ok (.iload_n 1, 1) := by decide +kernel
theorem dX7_readTest_123 : decode cX7_readTest 123 = .ok (.aload_n 0, 1) := by decide +kernel
theorem dX7_readTest_124 : decode cX7_readTest 124 = .ok (.getfield 36, 3) := by decide +kernel
theorem dX7_readTest_127 : decode cX7_readTest 127 = .ok (.iastore, 1) := by decide +kernel
theorem dX7_readTest_128 : decode cX7_readTest 128 = .ok (.aload_n 0, 1) := by decide +kernel
theorem dX7_readTest_129 : decode cX7_readTest 129 = .ok (.getfield 28, 3) := by decide +kernel
theorem dX7_readTest_132 : decode cX7_readTest 132 = .ok (.iload_n 1, 1) := by decide +kernel
theorem dX7_readTest_133 : decode cX7_readTest 133 = .ok (.iconst 1, 1) := by decide +kernel
theorem dX7_readTest_134 : decode cX7_readTest 134 = .ok (.iadd, 1) := by decide +kernel
theorem dX7_readTest_135 : decode cX7_readTest 135 = .ok (.putfield 100, 3) := by decide +kernel
theorem dX7_readTest_138 : decode cX7_readTest 138 = .ok (.aload_n 0, 1) := by decide +kernel
theorem dX7_readTest_139 : decode cX7_readTest 139 = .ok (.bipush 59, 2) := by decide +kernel
theorem dX7_readTest_141 : decode cX7_readTest 141 = .ok (.invokevirtual 67, 3) := by decide +kernel
theorem dX7_readTest_144 : decode cX7_readTest 144 = .ok (.ireturn, 1) := by decide +kernel
theorem dX7_readServant_0 : decode cX7_readServant 0 = .ok (.aload_n 0, 1) := by decide +kernel
theorem dX7_readServant_1 : decode cX7_readServant 1 = .ok (.getfield 28, 3) := by decide +kernel
theorem dX7_readServant_4 : decode cX7_readServant 4 = .ok (.getfield 118, 3) := by decide +kernel
theorem dX7_readServant_7 : decode cX7_readServant 7 = .ok (.istore_n 1, 1) := by decide +kernel
theorem dX7_readServant_8 : decode cX7_readServant 8 = .ok (.iload_n 1, 1) := by decide +kernel
theorem dX7_readServant_9 : decode cX7_readServant 9 = .ok (.iconst 5, 1) := by decide +kernel
theorem dX7_readServant_10 : decode cX7_readServant 10 = .ok (.if_icmp .lt 13, 3) := by decide +kernel
theorem dX7_readServant_13 : decode cX7_readServant 13 = .ok (.aload_n 0, 1) := by decide +kernel
theorem dX7_readServant_14 : decode cX7_readServant 14 = .ok (.iconst 3, 1) := by decide +kernel
theorem dX7_readServant_15 : decode cX7_readServant 15 = .ok (.aload_n 0, 1) := by decide +kernel
theorem dX7_readServant_16 : decode cX7_readServant 16 = .ok (.getfield 22, 3) := by decide +kernel
theorem dX7_readServant_19 : decode cX7_readServant 19 = .ok (.invokevirtual 81, 3) := by decide +kernel
theorem dX7_readServant_22 : decode cX7_readServant 22 = .ok (.ireturn, 1) := by decide +kernel
theorem dX7_readServant_23 : decode cX7_readServant 23 = .ok (.aload_n 0, 1) := by decide +kernel
theorem dX7_readServant_24 : decode cX7_readServant 24 = .ok (.bipush 115, 2) := by decide +kernel
theorem dX7_readServant_26 : decode cX7_readServant 26 = .ok (.invokevirtual 67, 3) := by decide +kernel
theorem dX7_readServant_29 : decode cX7_readServant 29 = .ok (.ifCond .eq 11, 3) := by decide +kernel
theorem dX7_readServant_32 : decode cX7_readServant 32 = .ok (.aload_n 0, 1) := by decide +kernel
theorem dX7_readServant_33 : decode cX7_readServant 33 = .ok (.iconst 1, 1) := by decide +kernel
theorem dX7_readServant_34 : decode cX7_readServant 34 = .ok (.invokevirtual 103, 3) := by decide +kernel
theorem dX7_readServant_37 : decode cX7_readServant 37 = .ok (.ifCond .ne 5, 3) := by decide +kernel
theorem dX7_readServant_40 : decode cX7_readServant 40 = .ok (.iconst 0, 1) := by decide +kernel
theorem dX7_readServant_41 : decode cX7_readServant 41 = .ok (.ireturn, 1) := by decide +kernel
theorem dX7_readServant_42 : decode cX7_readServant 42 = .ok (.aload_n 0, 1) := by decide +kernel
theorem dX7_readServant_43 : decode cX7_readServant 43 = .ok (.getfield 28, 3) := by decide +kernel
theorem dX7_readServant_46 : decode cX7_readServant 46 = .ok (.getfield 121, 3) := by decide +kernel
theorem dX7_readServant_49 : decode cX7_readServant 49 = .ok (.iload_n 1, 1) := by decide +kernel
theorem dX7_readServant_50 : decode cX7_readServant 50 = .ok (.aload_n 0, 1) := by decide +kernel
theorem dX7_readServant_51 : decode cX7_readServant 51 = .ok (.getfield 36, 3) := by decide +kernel
theorem dX7_readServant_54 : decode cX7_readServant 54 = .ok (.iastore, 1) := by decide +kernel
theorem dX7_readServant_55 : decode cX7_readServant 55 = .ok (.aload_n 0, 1) := by decide +kernel
theorem dX7_readServant_56 : decode cX7_readServant 56 = .ok (.iconst 0, 1) := by decide +kernel
theorem dX7_readServant_57 : decode cX7_readServant 57 = .ok (.sipush 999, 3) := by decide +kernel
theorem dX7_readServant_60 : decode cX7_readServant 60 = .ok (.invokevirtual 85, 3) := by decide +kernel
theorem dX7_readServant_63 : decode cX7_readServant 63 = .ok (.ifCond .ne 5, 3) := by decide +kernel
theorem dX7_readServant_66 : decode cX7_readServant 66 = .ok (.iconst 0, 1) := by decide +kernel
theorem dX7_readServant_67 : decode cX7_readServant 67 = .ok (.ireturn, 1) := by decide +kernel
theorem dX7_readServant_68 : decode cX7_readServant 68 = .ok (.aload_n 0, 1) := by decide +kernel
theorem dX7_readServant_69 : decode cX7_readServant 69 = .ok (.getfield 28, 3) := by decide +kernel
theorem dX7_readServant_72 : decode cX7_readServant 72 = .ok (.getfield 124, 3) := by decide +kernel
theorem dX7_readServant_75 : decode cX7_readServant 75 = .ok (.iload_n 1, 1) := by decide +kernel
theorem dX7_readServant_76 : decode cX7_readServant 76 = .ok (.aload_n 0, 1) := by decide +kernel
theorem dX7_readServant_77 : decode cX7_readServant 77 = .ok (.getfield 36, 3) := by decide +kernel
theorem dX7_readServant_80 : decode cX7_readServant 80 = .ok (.iastore, 1) := by decide +kernel
theorem dX7_readServant_81 : decode cX7_readServant 81 = .ok (.aload_n 0, 1) := by decide +kernel
theorem dX7_readServant_82 : decode cX7_readServant 82 = .ok (.getfield 28, 3) := by decide +kernel
theorem dX7_readServant_85 : decode cX7_readServant 85 = .ok (.iload_n 1, 1) := by decide +kernel
theorem dX7_readServant_86 : decode cX7_readServant 86 = .ok (.iconst 1, 1) := by decide +kernel
theorem dX7_readServant_87 : decode cX7_readServant 87 = .ok (.iadd, 1) := by decide +kernel
theorem dX7_readServant_88 : decode cX7_readServant 88 = .ok (.putfield 118, 3) := by decide +kernel
theorem dX7_readServant_91 : decode cX7_readServant 91 = .ok (.aload_n 0, 1) := by decide +kernel
theorem dX7_readServant_92 : decode cX7_readServant 92 = .ok (.bipush 59, 2) := by decide +kernel
theorem dX7_readServant_94 : decode cX7_readServant 94 = .ok (.invokevirtual 67, 3) := by decide +kernel
theorem dX7_readServant_97 : decode cX7_readServant 97 = .ok (.ireturn, 1) := by decide +kernel
theorem dX7_readPay_0 : decode cX7_readPay 0 = .ok (.aload_n 0, 1) := by decide +kernel
theorem dX7_readPay_1 : decode cX7_readPay 1 = .ok (.getfield 32, 3) := by decide +kernel
theorem dX7_readPay_4 : decode cX7_readPay 4 = .ok (.ifCond .eq 13, 3) := by decide +kernel
theorem dX7_readPay_7 : decode cX7_readPay 7 = .ok (.aload_n 0, 1) := by decide +kernel
theorem dX7_readPay_8 : decode cX7_readPay 8 = .ok (.iconst 3, 1) := by decide +kernel
theorem dX7_readPay_9 : decode cX7_readPay 9 = .ok (.aload_n 0, 1) := by decide +kernel
theorem dX7_readPay_10 : decode cX7_readPay 10 = .ok (.getfield 22, 3) := by decide +kernel
theorem dX7_readPay_13 : decode cX7_readPay 13 = .ok (.invokevirtual 81, 3) := by decide +kernel
theorem dX7_readPay_16 : decode cX7_readPay 16 = .ok (.ireturn, 1) := by decide +kernel
theorem dX7_readPay_17 : decode cX7_readPay 17 = .ok (.aload_n 0, 1) := by decide +kernel
theorem dX7_readPay_18 : decode cX7_readPay 18 = .ok (.iconst 1, 1) := by decide +kernel
theorem dX7_readPay_19 : decode cX7_readPay 19 = .ok (.putfield 32, 3) := by decide +kernel
theorem dX7_readPay_22 : decode cX7_readPay 22 = .ok (.aload_n 0, 1) := by decide +kernel
theorem dX7_readPay_23 : decode cX7_readPay 23 = .ok (.bipush 112, 2) := by decide +kernel
theorem dX7_readPay_25 : decode cX7_readPay 25 = .ok (.invokevirtual 67, 3) := by decide +kernel
theorem dX7_readPay_28 : decode cX7_readPay 28 = .ok (.ifCond .eq 13, 3) := by decide +kernel
theorem dX7_readPay_31 : decode cX7_readPay 31 = .ok (.aload_n 0, 1) := by decide +kernel
theorem dX7_readPay_32 : decode cX7_readPay 32 = .ok (.iconst 1, 1) := by decide +kernel
theorem dX7_readPay_33 : decode cX7_readPay 33 = .ok (.bipush 99, 2) := by decide +kernel
theorem dX7_readPay_35 : decode cX7_readPay 35 = .ok (.invokevirtual 85, 3) := by decide +kernel
theorem dX7_readPay_38 : decode cX7_readPay 38 = .ok (.ifCond .ne 5, 3) := by decide +kernel
theorem dX7_readPay_41 : decode cX7_readPay 41 = .ok (.iconst 0, 1) := by decide +kernel
theorem dX7_readPay_42 : decode cX7_readPay 42 = .ok (.ireturn, 1) := by decide +kernel
theorem dX7_readPay_43 : decode cX7_readPay 43 = .ok (.aload_n 0, 1) := by decide +kernel
theorem dX7_readPay_44 : decode cX7_readPay 44 = .ok (.getfield 28, 3) := by decide +kernel
theorem dX7_readPay_47 : decode cX7_readPay 47 = .ok (.aload_n 0, 1) := by decide +kernel
theorem dX7_readPay_48 : decode cX7_readPay 48 = .ok (.getfield 36, 3) := by decide +kernel
theorem dX7_readPay_51 : decode cX7_readPay 51 = .ok (.putfield 54, 3) := by decide +kernel
theorem dX7_readPay_54 : decode cX7_readPay 54 = .ok (.aload_n 0, 1) := by decide +kernel
theorem dX7_readPay_55 : decode cX7_readPay 55 = .ok (.iconst 1, 1) := by decide +kernel
theorem dX7_readPay_56 : decode cX7_readPay 56 = .ok (.bipush 30, 2) := by decide +kernel
theorem dX7_readPay_58 : decode cX7_readPay 58 = .ok (.invokevirtual 85, 3) := by decide +kernel
theorem dX7_readPay_61 : decode cX7_readPay 61 = .ok (.ifCond .ne 5, 3) := by decide +kernel
theorem dX7_readPay_64 : decode cX7_readPay 64 = .ok (.iconst 0, 1) := by decide +kernel
theorem dX7_readPay_65 : decode cX7_readPay 65 = .ok (.ireturn, 1) := by decide +kernel
theorem dX7_readPay_66 : decode cX7_readPay 66 = .ok (.aload_n 0, 1) := by decide +kernel
theorem dX7_readPay_67 : decode cX7_readPay 67 = .ok (.getfield 28, 3) := by decide +kernel
theorem dX7_readPay_70 : decode cX7_readPay 70 = .ok (.aload_n 0, 1) := by decide +kernel
theorem dX7_readPay_71 : decode cX7_readPay 71 = .ok (.getfield 36, 3) := by decide +kernel
theorem dX7_readPay_74 : decode cX7_readPay 74 = .ok (.putfield 57, 3) := by decide +kernel
theorem dX7_readPay_77 : decode cX7_readPay 77 = .ok (.aload_n 0, 1) := by decide +kernel
theorem dX7_readPay_78 : decode cX7_readPay 78 = .ok (.bipush 59, 2) := by decide +kernel
theorem dX7_readPay_80 : decode cX7_readPay 80 = .ok (.invokevirtual 67, 3) := by decide +kernel
theorem dX7_readPay_83 : decode cX7_readPay 83 = .ok (.ireturn, 1) := by decide +kernel
theorem dX7_readWaySet_0 : decode cX7_readWaySet 0 = .ok (.aload_n 0, 1) := by decide +kernel
theorem dX7_readWaySet_1 : decode cX7_readWaySet 1 = .ok (.iload_n 1, 1) := by decide +kernel
theorem dX7_readWaySet_2 : decode cX7_readWaySet 2 = .ok (.sipush 255, 3) := by decide +kernel
theorem dX7_readWaySet_5 : decode cX7_readWaySet 5 = .ok (.invokevirtual 85, 3) := by decide +kernel
theorem dX7_readWaySet_8 : decode cX7_readWaySet 8 = .ok (.ifCond .ne 5, 3) := by decide +kernel
theorem dX7_readWaySet_11 : decode cX7_readWaySet 11 = .ok (.iconst 0, 1) := by decide +kernel
theorem dX7_readWaySet_12 : decode cX7_readWaySet 12 = .ok (.ireturn, 1) := by decide +kernel
theorem dX7_readWaySet_13 : decode cX7_readWaySet 13 = .ok (.aload_n 0, 1) := by decide +kernel
theorem dX7_readWaySet_14 : decode cX7_readWaySet 14 = .ok (.getfield 28, 3) := by decide +kernel
theorem dX7_readWaySet_17 : decode cX7_readWaySet 17 = .ok (.aload_n 0, 1) := by decide +kernel
theorem dX7_readWaySet_18 : decode cX7_readWaySet 18 = .ok (.getfield 36, 3) := by decide +kernel
theorem dX7_readWaySet_21 : decode cX7_readWaySet 21 = .ok (.invokevirtual 127, 3) := by decide +kernel
theorem dX7_readWaySet_24 : decode cX7_readWaySet 24 = .ok (.ifCond .ne 15, 3) := by decide +kernel
theorem dX7_readWaySet_27 : decode cX7_readWaySet 27 = .ok (.aload_n 0, 1) := by decide +kernel
theorem dX7_readWaySet_28 : decode cX7_readWaySet 28 = .ok (.iconst 2, 1) := by decide +kernel
theorem dX7_readWaySet_29 : decode cX7_readWaySet 29 = .ok (.aload_n 0, 1) := by decide +kernel
theorem dX7_readWaySet_30 : decode cX7_readWaySet 30 = .ok (.getfield 39, 3) := by decide +kernel
theorem dX7_readWaySet_33 : decode cX7_readWaySet 33 = .ok (.invokevirtual 81, 3) := by decide +kernel
theorem dX7_readWaySet_36 : decode cX7_readWaySet 36 = .ok (.ifCond .eq 7, 3) := by decide +kernel
theorem dX7_readWaySet_39 : decode cX7_readWaySet 39 = .ok (.iconst 1, 1) := by decide +kernel
theorem dX7_readWaySet_40 : decode cX7_readWaySet 40 = .ok (.goto 4, 3) := by decide +kernel
theorem dX7_readWaySet_43 : decode cX7_readWaySet 43 = .ok (.iconst 0, 1) := by decide +kernel
theorem dX7_readWaySet_44 : decode cX7_readWaySet 44 = .ok (.ireturn, 1) := by decide +kernel
theorem dX7_readNumber_0 : decode cX7_readNumber 0 = .ok (.aload_n 0, 1) := by decide +kernel
theorem dX7_readNumber_1 : decode cX7_readNumber 1 = .ok (.invokevirtual 74, 3) := by decide +kernel
theorem dX7_readNumber_4 : decode cX7_readNumber 4 = .ok (.invokestatic 130, 3) := by decide +kernel
theorem dX7_readNumber_7 : decode cX7_readNumber 7 = .ok (.ifCond .ne 13, 3) := by decide +kernel
theorem dX7_readNumber_10 : decode cX7_readNumber 10 = .ok (.aload_n 0, 1) := by decide +kernel
theorem dX7_readNumber_11 : decode cX7_readNumber 11 = .ok (.iconst 1, 1) := by decide +kernel
theorem dX7_readNumber_12 : decode cX7_readNumber 12 = .ok (.aload_n 0, 1) := by decide +kernel
theorem dX7_readNumber_13 : decode cX7_readNumber 13 = .ok (.getfield 22, 3) := by decide +kernel
theorem dX7_readNumber_16 : decode cX7_readNumber 16 = .ok (.invokevirtual 81, 3) := by decide +kernel
theorem dX7_readNumber_19 : decode cX7_readNumber 19 = .ok (.ireturn, 1) := by decide +kernel
theorem dX7_readNumber_20 : decode cX7_readNumber 20 = .ok (.aload_n 0, 1) := by decide +kernel
theorem dX7_readNumber_21 : decode cX7_readNumber 21 = .ok (.aload_n 0, 1) := by decide +kernel
theorem dX7_readNumber_22 : decode cX7_readNumber 22 = .ok (.getfield 22, 3) := by decide +kernel
theorem dX7_readNumber_25 : decode cX7_readNumber 25 = .ok (.putfield 39, 3) := by decide +kernel
theorem dX7_readNumber_28 : decode cX7_readNumber 28 = .ok (.aload_n 0, 1) := by decide +kernel
theorem dX7_readNumber_29 : decode cX7_readNumber 29 = .ok (.iconst 0, 1) := by decide +kernel
theorem dX7_readNumber_30 : decode cX7_readNumber 30 = .ok (.putfield 36, 3) := by decide +kernel
theorem dX7_readNumber_33 : decode cX7_readNumber 33 = .ok (.aload_n 0, 1) := by decide +kernel
theorem dX7_readNumber_34 : decode cX7_readNumber 34 = .ok (.getfield 22, 3) := by decide +kernel
theorem dX7_readNumber_37 : decode cX7_readNumber 37 = .ok (.aload_n 0, 1) := by decide +kernel
theorem dX7_readNumber_38 : decode cX7_readNumber 38 = .ok (.getfield 19, 3) := by decide +kernel
theorem dX7_readNumber_41 : decode cX7_readNumber 41 = .ok (.if_icmp .ge 68, 3) := by decide +kernel
theorem dX7_readNumber_44 : decode cX7_readNumber 44 = .ok (.aload_n 0, 1) := by decide +kernel
theorem dX7_readNumber_45 : decode cX7_readNumber 45 = .ok (.getfield 9, 3) := by decide +kernel
theorem dX7_readNumber_48 : decode cX7_readNumber 48 = .ok (.aload_n 0, 1) := by decide +kernel
theorem dX7_readNumber_49 : decode cX7_readNumber 49 = .ok (.getfield 22, 3) := by decide +kernel
theorem dX7_readNumber_52 : decode cX7_readNumber 52 = .ok (.iaload, 1) := by decide +kernel
theorem dX7_readNumber_53 : decode cX7_readNumber 53 = .ok (.invokestatic 130, 3) := by decide +kernel
theorem dX7_readNumber_56 : decode cX7_readNumber 56 = .ok (.ifCond .eq 53, 3) := by decide +kernel
theorem dX7_readNumber_59 : decode cX7_readNumber 59 = .ok (.aload_n 0, 1) := by decide +kernel
theorem dX7_readNumber_60 : decode cX7_readNumber 60 = .ok (.getfield 22, 3) := by decide +kernel
theorem dX7_readNumber_63 : decode cX7_readNumber 63 = .ok (.aload_n 0, 1) := by decide +kernel
theorem dX7_readNumber_64 : decode cX7_readNumber 64 = .ok (.getfield 39, 3) := by decide +kernel
theorem dX7_readNumber_67 : decode cX7_readNumber 67 = .ok (.isub, 1) := by decide +kernel
theorem dX7_readNumber_68 : decode cX7_readNumber 68 = .ok (.iconst 3, 1) := by decide +kernel
theorem dX7_readNumber_69 : decode cX7_readNumber 69 = .ok (.if_icmp .gt 27, 3) := by decide +kernel
theorem dX7_readNumber_72 : decode cX7_readNumber 72 = .ok (.aload_n 0, 1) := by decide +kernel
theorem dX7_readNumber_73 : decode cX7_readNumber 73 = .ok (.aload_n 0, 1) := by decide +kernel
theorem dX7_readNumber_74 : decode cX7_readNumber 74 = .ok (.getfield 36, 3) := by decide +kernel
theorem dX7_readNumber_77 : decode cX7_readNumber 77 = .ok (.bipush 10, 2) := by decide +kernel
theorem dX7_readNumber_79 : decode cX7_readNumber 79 = .ok (.imul, 1) := by decide +kernel
theorem dX7_readNumber_80 : decode cX7_readNumber 80 = .ok (.aload_n 0, 1) := by decide +kernel
theorem dX7_readNumber_81 : decode cX7_readNumber 81 = .ok (.getfield 9, 3) := by decide +kernel
theorem dX7_readNumber_84 : decode cX7_readNumber 84 = .ok (.aload_n 0, 1) := by decide +kernel
theorem dX7_readNumber_85 : decode cX7_readNumber 85 = .ok (.getfield 22, 3) := by decide +kernel
theorem dX7_readNumber_88 : decode cX7_readNumber 88 = .ok (.iaload, 1) := by decide +kernel
theorem dX7_readNumber_89 : decode cX7_readNumber 89 = .ok (.iadd, 1) := by decide +kernel
theorem dX7_readNumber_90 : decode cX7_readNumber 90 = .ok (.bipush 48, 2) := by decide +kernel
theorem dX7_readNumber_92 : decode cX7_readNumber 92 = .ok (.isub, 1) := by decide +kernel
theorem dX7_readNumber_93 : decode cX7_readNumber 93 = .ok (.putfield 36, 3) := by decide +kernel
theorem dX7_readNumber_96 : decode cX7_readNumber 96 = .ok (.aload_n 0, 1) := by decide +kernel
theorem dX7_readNumber_97 : decode cX7_readNumber 97 = .ok (.dup, 1) := by decide +kernel
theorem dX7_readNumber_98 : decode cX7_readNumber 98 = .ok (.getfield 22, 3) := by decide +kernel
theorem dX7_readNumber_101 : decode cX7_readNumber 101 = .ok (.iconst 1, 1) := by decide +kernel
theorem dX7_readNumber_102 : decode cX7_readNumber 102 = .ok (.iadd, 1) := by decide +kernel
theorem dX7_readNumber_103 : decode cX7_readNumber 103 = .ok (.putfield 22, 3) := by decide +kernel
theorem dX7_readNumber_106 : decode cX7_readNumber 106 = .ok (.goto (-73), 3) := by decide +kernel
theorem dX7_readNumber_109 : decode cX7_readNumber 109 = .ok (.aload_n 0, 1) := by decide +kernel
theorem dX7_readNumber_110 : decode cX7_readNumber 110 = .ok (.getfield 22, 3) := by decide +kernel
theorem dX7_readNumber_113 : decode cX7_readNumber 113 = .ok (.aload_n 0, 1) := by decide +kernel
theorem dX7_readNumber_114 : decode cX7_readNumber 114 = .ok (.getfield 39, 3) := by decide +kernel
theorem dX7_readNumber_117 : decode cX7_readNumber 117 = .ok (.isub, 1) := by decide +kernel
theorem dX7_readNumber_118 : decode cX7_readNumber 118 = .ok (.iconst 3, 1) := by decide +kernel
theorem dX7_readNumber_119 : decode cX7_readNumber 119 = .ok (.if_icmp .gt 15, 3) := by decide +kernel
theorem dX7_readNumber_122 : decode cX7_readNumber 122 = .ok (.aload_n 0, 1) := by decide +kernel
theorem dX7_readNumber_123 : decode cX7_readNumber 123 = .ok (.getfield 36, 3) := by decide +kernel
theorem dX7_readNumber_126 : decode cX7_readNumber 126 = .ok (.iload_n 1, 1) := by decide +kernel
theorem dX7_readNumber_127 : decode cX7_readNumber 127 = .ok (.iload_n 2, 1) := by decide +kernel
theorem dX7_readNumber_128 : decode cX7_readNumber 128 = .ok (.invokestatic 133, 3) := by decide +kernel
theorem dX7_readNumber_131 : decode cX7_readNumber 131 = .ok (.ifCond .ne 13, 3) := by decide +kernel
theorem dX7_readNumber_134 : decode cX7_readNumber 134 = .ok (.aload_n 0, 1) := by decide +kernel
theorem dX7_readNumber_135 : decode cX7_readNumber 135 = .ok (.iconst 2, 1) := by decide +kernel
theorem dX7_readNumber_136 : decode cX7_readNumber 136 = .ok (.aload_n 0, 1) := by decide +kernel
theorem dX7_readNumber_137 : decode cX7_readNumber 137 = .ok (.getfield 39, 3) := by decide +kernel
theorem dX7_readNumber_140 : decode cX7_readNumber 140 = .ok (.invokevirtual 81, 3) := by decide +kernel
theorem dX7_readNumber_143 : decode cX7_readNumber 143 = .ok (.ireturn, 1) := by decide +kernel
theorem dX7_readNumber_144 : decode cX7_readNumber 144 = .ok (.aload_n 0, 1) := by decide +kernel
theorem dX7_readNumber_145 : decode cX7_readNumber 145 = .ok (.invokevirtual 51, 3) := by decide +kernel
theorem dX7_readNumber_148 : decode cX7_readNumber 148 = .ok (.iconst 1, 1) := by decide +kernel
theorem dX7_readNumber_149 : decode cX7_readNumber 149 = .ok (.ireturn, 1) := by decide +kernel
theorem dX7_take_0 : decode cX7_take 0 = .ok (.aload_n 0, 1) := by decide +kernel
theorem dX7_take_1 : decode cX7_take 1 = .ok (.invokevirtual 74, 3) := by decide +kernel
theorem dX7_take_4 : decode cX7_take 4 = .ok (.iload_n 1, 1) := by decide +kernel
theorem dX7_take_5 : decode cX7_take 5 = .ok (.if_icmp .eq 13, 3) := by decide +kernel
theorem dX7_take_8 : decode cX7_take 8 = .ok (.aload_n 0, 1) := by decide +kernel
theorem dX7_take_9 : decode cX7_take 9 = .ok (.iconst 1, 1) := by decide +kernel
theorem dX7_take_10 : decode cX7_take 10 = .ok (.aload_n 0, 1) := by decide +kernel
theorem dX7_take_11 : decode cX7_take 11 = .ok (.getfield 22, 3) := by decide +kernel
theorem dX7_take_14 : decode cX7_take 14 = .ok (.invokevirtual 81, 3) := by decide +kernel
theorem dX7_take_17 : decode cX7_take 17 = .ok (.ireturn, 1) := by decide +kernel
theorem dX7_take_18 : decode cX7_take 18 = .ok (.aload_n 0, 1) := by decide +kernel
theorem dX7_take_19 : decode cX7_take 19 = .ok (.dup, 1) := by decide +kernel
theorem dX7_take_20 : decode cX7_take 20 = .ok (.getfield 22, 3) := by decide +kernel
theorem dX7_take_23 : decode cX7_take 23 = .ok (.iconst 1, 1) := by decide +kernel
theorem dX7_take_24 : decode cX7_take 24 = .ok (.iadd, 1) := by decide +kernel
theorem dX7_take_25 : decode cX7_take 25 = .ok (.putfield 22, 3) := by decide +kernel
theorem dX7_take_28 : decode cX7_take 28 = .ok (.aload_n 0, 1) := by decide +kernel
theorem dX7_take_29 : decode cX7_take 29 = .ok (.invokevirtual 51, 3) := by decide +kernel
theorem dX7_take_32 : decode cX7_take 32 = .ok (.iconst 1, 1) := by decide +kernel
theorem dX7_take_33 : decode cX7_take 33 = .ok (.ireturn, 1) := by decide +kernel
theorem dX7_letter_0 : decode cX7_letter 0 = .ok (.aload_n 0, 1) := by decide +kernel
theorem dX7_letter_1 : decode cX7_letter 1 = .ok (.getfield 22, 3) := by decide +kernel
theorem dX7_letter_4 : decode cX7_letter 4 = .ok (.aload_n 0, 1) := by decide +kernel
theorem dX7_letter_5 : decode cX7_letter 5 = .ok (.getfield 19, 3) := by decide +kernel
theorem dX7_letter_8 : decode cX7_letter 8 = .ok (.if_icmp .ge 15, 3) := by decide +kernel
theorem dX7_letter_11 : decode cX7_letter 11 = .ok (.aload_n 0, 1) := by decide +kernel
theorem dX7_letter_12 : decode cX7_letter 12 = .ok (.getfield 9, 3) := by decide +kernel
theorem dX7_letter_15 : decode cX7_letter 15 = .ok (.aload_n 0, 1) := by decide +kernel
theorem dX7_letter_16 : decode cX7_letter 16 = .ok (.getfield 22, 3) := by decide +kernel
theorem dX7_letter_19 : decode cX7_letter 19 = .ok (.iaload, 1) := by decide +kernel
theorem dX7_letter_20 : decode cX7_letter 20 = .ok (.goto 4, 3) := by decide +kernel
theorem dX7_letter_23 : decode cX7_letter 23 = .ok (.iconst (-1), 1) := by decide +kernel
theorem dX7_letter_24 : decode cX7_letter 24 = .ok (.ireturn, 1) := by decide +kernel
theorem dX7_skipBlanks_0 : decode cX7_skipBlanks 0 = .ok (.aload_n 0, 1) := by decide +kernel
theorem dX7_skipBlanks_1 : decode cX7_skipBlanks 1 = .ok (.getfield 22, 3) := by decide +kernel
theorem dX7_skipBlanks_4 : decode cX7_skipBlanks 4 = .ok (.aload_n 0, 1) := by decide +kernel
theorem dX7_skipBlanks_5 : decode cX7_skipBlanks 5 = .ok (.getfield 19, 3) := by decide +kernel
theorem dX7_skipBlanks_8 : decode cX7_skipBlanks 8 = .ok (.if_icmp .ge 30, 3) := by decide +kernel
theorem dX7_skipBlanks_11 : decode cX7_skipBlanks 11 = .ok (.aload_n 0, 1) := by decide +kernel
theorem dX7_skipBlanks_12 : decode cX7_skipBlanks 12 = .ok (.getfield 9, 3) := by decide +kernel
theorem dX7_skipBlanks_15 : decode cX7_skipBlanks 15 = .ok (.aload_n 0, 1) := by decide +kernel
theorem dX7_skipBlanks_16 : decode cX7_skipBlanks 16 = .ok (.getfield 22, 3) := by decide +kernel
theorem dX7_skipBlanks_19 : decode cX7_skipBlanks 19 = .ok (.iaload, 1) := by decide +kernel
theorem dX7_skipBlanks_20 : decode cX7_skipBlanks 20 = .ok (.bipush 32, 2) := by decide +kernel
theorem dX7_skipBlanks_22 : decode cX7_skipBlanks 22 = .ok (.if_icmp .ne 16, 3) := by decide +kernel
theorem dX7_skipBlanks_25 : decode cX7_skipBlanks 25 = .ok (.aload_n 0, 1) := by decide +kernel
theorem dX7_skipBlanks_26 : decode cX7_skipBlanks 26 = .ok (.dup, 1) := by decide +kernel
theorem dX7_skipBlanks_27 : decode cX7_skipBlanks 27 = .ok (.getfield 22, 3) := by decide +kernel
theorem dX7_skipBlanks_30 : decode cX7_skipBlanks 30 = .ok (.iconst 1, 1) := by decide +kernel
theorem dX7_skipBlanks_31 : decode cX7_skipBlanks 31 = .ok (.iadd, 1) := by decide +kernel
theorem dX7_skipBlanks_32 : decode cX7_skipBlanks 32 = .ok (.putfield 22, 3) := by decide +kernel
theorem dX7_skipBlanks_35 : decode cX7_skipBlanks 35 = .ok (.goto (-35), 3) := by decide +kernel
theorem dX7_skipBlanks_38 : decode cX7_skipBlanks 38 = .ok (.return_, 1) := by decide +kernel
theorem dX7_isFigure_0 : decode cX7_isFigure 0 = .ok (.iload_n 0, 1) := by decide +kernel
theorem dX7_isFigure_1 : decode cX7_isFigure 1 = .ok (.bipush 48, 2) := by decide +kernel
theorem dX7_isFigure_3 : decode cX7_isFigure 3 = .ok (.if_icmp .lt 13, 3) := by decide +kernel
theorem dX7_isFigure_6 : decode cX7_isFigure 6 = .ok (.iload_n 0, 1) := by decide +kernel
theorem dX7_isFigure_7 : decode cX7_isFigure 7 = .ok (.bipush 57, 2) := by decide +kernel
theorem dX7_isFigure_9 : decode cX7_isFigure 9 = .ok (.if_icmp .gt 7, 3) := by decide +kernel
theorem dX7_isFigure_12 : decode cX7_isFigure 12 = .ok (.iconst 1, 1) := by decide +kernel
theorem dX7_isFigure_13 : decode cX7_isFigure 13 = .ok (.goto 4, 3) := by decide +kernel
theorem dX7_isFigure_16 : decode cX7_isFigure 16 = .ok (.iconst 0, 1) := by decide +kernel
theorem dX7_isFigure_17 : decode cX7_isFigure 17 = .ok (.ireturn, 1) := by decide +kernel
theorem dX7_refuse_0 : decode cX7_refuse 0 = .ok (.aload_n 0, 1) := by decide +kernel
theorem dX7_refuse_1 : decode cX7_refuse 1 = .ok (.iload_n 1, 1) := by decide +kernel
theorem dX7_refuse_2 : decode cX7_refuse 2 = .ok (.putfield 42, 3) := by decide +kernel
theorem dX7_refuse_5 : decode cX7_refuse 5 = .ok (.aload_n 0, 1) := by decide +kernel
theorem dX7_refuse_6 : decode cX7_refuse 6 = .ok (.iload_n 2, 1) := by decide +kernel
theorem dX7_refuse_7 : decode cX7_refuse 7 = .ok (.putfield 45, 3) := by decide +kernel
theorem dX7_refuse_10 : decode cX7_refuse 10 = .ok (.iconst 0, 1) := by decide +kernel
theorem dX7_refuse_11 : decode cX7_refuse 11 = .ok (.ireturn, 1) := by decide +kernel
theorem dX8_init_0 : decode cX8_init 0 = .ok (.aload_n 0, 1) := by decide +kernel
theorem dX8_init_1 : decode cX8_init 1 = .ok (.invokespecial 1, 3) := by decide +kernel
theorem dX8_init_4 : decode cX8_init 4 = .ok (.aload_n 0, 1) := by decide +kernel
theorem dX8_init_5 : decode cX8_init 5 = .ok (.iconst (-1), 1) := by decide +kernel
theorem dX8_init_6 : decode cX8_init 6 = .ok (.putfield 9, 3) := by decide +kernel
theorem dX8_init_9 : decode cX8_init 9 = .ok (.aload_n 0, 1) := by decide +kernel
theorem dX8_init_10 : decode cX8_init 10 = .ok (.new 13, 3) := by decide +kernel
theorem dX8_init_13 : decode cX8_init 13 = .ok (.dup, 1) := by decide +kernel
theorem dX8_init_14 : decode cX8_init 14 = .ok (.invokespecial 15, 3) := by decide +kernel
theorem dX8_init_17 : decode cX8_init 17 = .ok (.putfield 16, 3) := by decide +kernel
theorem dX8_init_20 : decode cX8_init 20 = .ok (.aload_n 0, 1) := by decide +kernel
theorem dX8_init_21 : decode cX8_init 21 = .ok (.new 20, 3) := by decide +kernel
theorem dX8_init_24 : decode cX8_init 24 = .ok (.dup, 1) := by decide +kernel
theorem dX8_init_25 : decode cX8_init 25 = .ok (.invokespecial 22, 3) := by decide +kernel
theorem dX8_init_28 : decode cX8_init 28 = .ok (.putfield 23, 3) := by decide +kernel
theorem dX8_init_31 : decode cX8_init 31 = .ok (.aload_n 0, 1) := by decide +kernel
theorem dX8_init_32 : decode cX8_init 32 = .ok (.new 27, 3) := by decide +kernel
theorem dX8_init_35 : decode cX8_init 35 = .ok (.dup, 1) := by decide +kernel
theorem dX8_init_36 : decode cX8_init 36 = .ok (.invokespecial 29, 3) := by decide +kernel
theorem dX8_init_39 : decode cX8_init 39 = .ok (.putfield 30, 3) := by decide +kernel
theorem dX8_init_42 : decode cX8_init 42 = .ok (.aload_n 0, 1) := by decide +kernel
theorem dX8_init_43 : decode cX8_init 43 = .ok (.new 34, 3) := by decide +kernel
theorem dX8_init_46 : decode cX8_init 46 = .ok (.dup, 1) := by decide +kernel
theorem dX8_init_47 : decode cX8_init 47 = .ok (.invokespecial 36, 3) := by decide +kernel
theorem dX8_init_50 : decode cX8_init 50 = .ok (.putfield 37, 3) := by decide +kernel
theorem dX8_init_53 : decode cX8_init 53 = .ok (.aload_n 0, 1) := by decide +kernel
theorem dX8_init_54 : decode cX8_init 54 = .ok (.new 41, 3) := by decide +kernel
theorem dX8_init_57 : decode cX8_init 57 = .ok (.dup, 1) := by decide +kernel
theorem dX8_init_58 : decode cX8_init 58 = .ok (.invokespecial 43, 3) := by decide +kernel
theorem dX8_init_61 : decode cX8_init 61 = .ok (.putfield 44, 3) := by decide +kernel
theorem dX8_init_64 : decode cX8_init 64 = .ok (.aload_n 0, 1) := by decide +kernel
theorem dX8_init_65 : decode cX8_init 65 = .ok (.new 48, 3) := by decide +kernel
theorem dX8_init_68 : decode cX8_init 68 = .ok (.dup, 1) := by decide +kernel
theorem dX8_init_69 : decode cX8_init 69 = .ok (.invokespecial 50, 3) := by decide +kernel
theorem dX8_init_72 : decode cX8_init 72 = .ok (.putfield 51, 3) := by decide +kernel
theorem dX8_init_75 : decode cX8_init 75 = .ok (.aload_n 0, 1) := by decide +kernel
theorem dX8_init_76 : decode cX8_init 76 = .ok (.new 55, 3) := by decide +kernel
theorem dX8_init_79 : decode cX8_init 79 = .ok (.dup, 1) := by decide +kernel
theorem dX8_init_80 : decode cX8_init 80 = .ok (.invokespecial 57, 3) := by decide +kernel
theorem dX8_init_83 : decode cX8_init 83 = .ok (.putfield 58, 3) := by decide +kernel
theorem dX8_init_86 : decode cX8_init 86 = .ok (.aload_n 0, 1) := by decide +kernel
theorem dX8_init_87 : decode cX8_init 87 = .ok (.iconst 2, 1) := by decide +kernel
theorem dX8_init_88 : decode cX8_init 88 = .ok (.anewarray 62, 3) := by decide +kernel
theorem dX8_init_91 : decode cX8_init 91 = .ok (.putfield 64, 3) := by decide +kernel
theorem dX8_init_94 : decode cX8_init 94 = .ok (.iconst 0, 1) := by decide +kernel
theorem dX8_init_95 : decode cX8_init 95 = .ok (.istore_n 1, 1) := by decide +kernel
theorem dX8_init_96 : decode cX8_init 96 = .ok (.iload_n 1, 1) := by decide +kernel
theorem dX8_init_97 : decode cX8_init 97 = .ok (.iconst 2, 1) := by decide +kernel
theorem dX8_init_98 : decode cX8_init 98 = .ok (.if_icmp .ge 22, 3) := by decide +kernel
theorem dX8_init_101 : decode cX8_init 101 = .ok (.aload_n 0, 1) := by decide +kernel
theorem dX8_init_102 : decode cX8_init 102 = .ok (.getfield 64, 3) := by decide +kernel
theorem dX8_init_105 : decode cX8_init 105 = .ok (.iload_n 1, 1) := by decide +kernel
theorem dX8_init_106 : decode cX8_init 106 = .ok (.new 62, 3) := by decide +kernel
theorem dX8_init_109 : decode cX8_init 109 = .ok (.dup, 1) := by decide +kernel
theorem dX8_init_110 : decode cX8_init 110 = .ok (.invokespecial 68, 3) := by decide +kernel
theorem dX8_init_113 : decode cX8_init 113 = .ok (.aastore, 1) := by decide +kernel
theorem dX8_init_114 : decode cX8_init 114 = .ok (.iinc 1 1, 3) := by decide +kernel
theorem dX8_init_117 : decode cX8_init 117 = .ok (.goto (-21), 3) := by decide +kernel
theorem dX8_init_120 : decode cX8_init 120 = .ok (.return_, 1) := by decide +kernel
theorem dX8_feed_0 : decode cX8_feed 0 = .ok (.iload_n 1, 1) := by decide +kernel
theorem dX8_feed_1 : decode cX8_feed 1 = .ok (.iconst 0, 1) := by decide +kernel
theorem dX8_feed_2 : decode cX8_feed 2 = .ok (.sipush 255, 3) := by decide +kernel
theorem dX8_feed_5 : decode cX8_feed 5 = .ok (.invokestatic 69, 3) := by decide +kernel
theorem dX8_feed_8 : decode cX8_feed 8 = .ok (.ifCond .ne 6, 3) := by decide +kernel
theorem dX8_feed_11 : decode cX8_feed 11 = .ok (.ldc 73, 2) := by decide +kernel
theorem dX8_feed_13 : decode cX8_feed 13 = .ok (.ireturn, 1) := by decide +kernel
theorem dX8_feed_14 : decode cX8_feed 14 = .ok (.aload_n 0, 1) := by decide +kernel
theorem dX8_feed_15 : decode cX8_feed 15 = .ok (.getfield 16, 3) := by decide +kernel
theorem dX8_feed_18 : decode cX8_feed 18 = .ok (.iload_n 1, 1) := by decide +kernel
theorem dX8_feed_19 : decode cX8_feed 19 = .ok (.invokevirtual 74, 3) := by decide +kernel
theorem dX8_feed_22 : decode cX8_feed 22 = .ok (.ifCond .eq 13, 3) := by decide +kernel
theorem dX8_feed_25 : decode cX8_feed 25 = .ok (.aload_n 0, 1) := by decide +kernel
theorem dX8_feed_26 : decode cX8_feed 26 = .ok (.getfield 16, 3) := by decide +kernel
theorem dX8_feed_29 : decode cX8_feed 29 = .ok (.getfield 78, 3) := by decide +kernel
theorem dX8_feed_32 : decode cX8_feed 32 = .ok (.goto 5, 3) := by decide +kernel
theorem dX8_feed_35 : decode cX8_feed 35 = .ok (.ldc 81, 2) := by decide +kernel
theorem dX8_feed_37 : decode cX8_feed 37 = .ok (.ireturn, 1) := by decide +kernel
theorem dX8_castle_0 : decode cX8_castle 0 = .ok (.aload_n 0, 1) := by decide +kernel
theorem dX8_castle_1 : decode cX8_castle 1 = .ok (.getfield 16, 3) := by decide +kernel
theorem dX8_castle_4 : decode cX8_castle 4 = .ok (.invokevirtual 82, 3) := by decide +kernel
theorem dX8_castle_7 : decode cX8_castle 7 = .ok (.istore_n 1, 1) := by decide +kernel
theorem dX8_castle_8 : decode cX8_castle 8 = .ok (.iload_n 1, 1) := by decide +kernel
theorem dX8_castle_9 : decode cX8_castle 9 = .ok (.ifCond .eq 19, 3) := by decide +kernel
theorem dX8_castle_12 : decode cX8_castle 12 = .ok (.aload_n 0, 1) := by decide +kernel
theorem dX8_castle_13 : decode cX8_castle 13 = .ok (.aload_n 0, 1) := by decide +kernel
theorem dX8_castle_14 : decode cX8_castle 14 = .ok (.getfield 16, 3) := by decide +kernel
theorem dX8_castle_17 : decode cX8_castle 17 = .ok (.getfield 86, 3) := by decide +kernel
theorem dX8_castle_20 : decode cX8_castle 20 = .ok (.putfield 9, 3) := by decide +kernel
theorem dX8_castle_23 : decode cX8_castle 23 = .ok (.bipush (-10), 2) := by decide +kernel
theorem dX8_castle_25 : decode cX8_castle 25 = .ok (.iload_n 1, 1) := by decide +kernel
theorem dX8_castle_26 : decode cX8_castle 26 = .ok (.isub, 1) := by decide +kernel
theorem dX8_castle_27 : decode cX8_castle 27 = .ok (.ireturn, 1) := by decide +kernel
theorem dX8_castle_28 : decode cX8_castle 28 = .ok (.aload_n 0, 1) := by decide +kernel
theorem dX8_castle_29 : decode cX8_castle 29 = .ok (.iconst (-1), 1) := by decide +kernel
theorem dX8_castle_30 : decode cX8_castle 30 = .ok (.putfield 9, 3) := by decide +kernel
theorem dX8_castle_33 : decode cX8_castle 33 = .ok (.aload_n 0, 1) := by decide +kernel
theorem dX8_castle_34 : decode cX8_castle 34 = .ok (.aload_n 0, 1) := by decide +kernel
theorem dX8_castle_35 : decode cX8_castle 35 = .ok (.getfield 16, 3) := by decide +kernel
theorem dX8_castle_38 : decode cX8_castle 38 = .ok (.aload_n 0, 1) := by decide +kernel
theorem dX8_castle_39 : decode cX8_castle 39 = .ok (.getfield 23, 3) := by decide +kernel
theorem dX8_castle_42 : decode cX8_castle 42 = .ok (.invokevirtual 89, 3) := by decide +kernel
theorem dX8_castle_45 : decode cX8_castle 45 = .ok (.putfield 23, 3) := by decide +kernel
theorem dX8_castle_48 : decode cX8_castle 48 = .ok (.aload_n 0, 1) := by decide +kernel
theorem dX8_castle_49 : decode cX8_castle 49 = .ok (.invokevirtual 93, 3) := by decide +kernel
theorem dX8_castle_52 : decode cX8_castle 52 = .ok (.aload_n 0, 1) := by decide +kernel
theorem dX8_castle_53 : decode cX8_castle 53 = .ok (.getfield 23, 3) := by decide +kernel
theorem dX8_castle_56 : decode cX8_castle 56 = .ok (.getfield 96, 3) := by decide +kernel
theorem dX8_castle_59 : decode cX8_castle 59 = .ok (.ireturn, 1) := by decide +kernel
theorem dX8_fault_0 : decode cX8_fault 0 = .ok (.aload_n 0, 1) := by decide +kernel
theorem dX8_fault_1 : decode cX8_fault 1 = .ok (.getfield 9, 3) := by decide +kernel
theorem dX8_fault_4 : decode cX8_fault 4 = .ok (.ireturn, 1) := by decide +kernel
theorem dX8_told_0 : decode cX8_told 0 = .ok (.iload_n 1, 1) := by decide +kernel
theorem dX8_told_1 : decode cX8_told 1 = .ok (.tableswitch 248 0 17 #[87, 95, 103, 111, 119, 127, 135, 143, 151, 167, 183, 191, 196, 211, 219, 224, 232, 240], 87) := by decide +kernel
theorem dX8_told_88 : decode cX8_told 88 = .ok (.aload_n 0, 1) := by decide +kernel
theorem dX8_told_89 : decode cX8_told 89 = .ok (.getfield 23, 3) := by decide +kernel
theorem dX8_told_92 : decode cX8_told 92 = .ok (.getfield 96, 3) := by decide +kernel
theorem dX8_told_95 : decode cX8_told 95 = .ok (.ireturn, 1) := by decide +kernel
theorem dX8_told_96 : decode cX8_told 96 = .ok (.aload_n 0, 1) := by decide +kernel
theorem dX8_told_97 : decode cX8_told 97 = .ok (.getfield 23, 3) := by decide +kernel
theorem dX8_told_100 : decode cX8_told 100 = .ok (.getfield 99, 3) := by decide +kernel
theorem dX8_told_103 : decode cX8_told 103 = .ok (.ireturn, 1) := by decide +kernel
theorem dX8_told_104 : decode cX8_told 104 = .ok (.aload_n 0, 1) := by decide +kernel
theorem dX8_told_105 : decode cX8_told 105 = .ok (.getfield 23, 3) := by decide +kernel
theorem dX8_told_108 : decode cX8_told 108 = .ok (.getfield 102, 3) := by decide +kernel
theorem dX8_told_111 : decode cX8_told 111 = .ok (.ireturn, 1) := by decide +kernel
theorem dX8_told_112 : decode cX8_told 112 = .ok (.aload_n 0, 1) := by decide +kernel
theorem dX8_told_113 : decode cX8_told 113 = .ok (.getfield 16, 3) := by decide +kernel
theorem dX8_told_116 : decode cX8_told 116 = .ok (.getfield 78, 3) := by decide +kernel
theorem dX8_told_119 : decode cX8_told 119 = .ok (.ireturn, 1) := by decide +kernel
theorem dX8_told_120 : decode cX8_told 120 = .ok (.aload_n 0, 1) := by decide +kernel
theorem dX8_told_121 : decode cX8_told 121 = .ok (.getfield 23, 3) := by decide +kernel
theorem dX8_told_124 : decode cX8_told 124 = .ok (.getfield 105, 3) := by decide +kernel
theorem dX8_told_127 : decode cX8_told 127 = .ok (.ireturn, 1) := by decide +kernel
theorem dX8_told_128 : decode cX8_told 128 = .ok (.aload_n 0, 1) := by decide +kernel
theorem dX8_told_129 : decode cX8_told 129 = .ok (.getfield 23, 3) := by decide +kernel
theorem dX8_told_132 : decode cX8_told 132 = .ok (.getfield 108, 3) := by decide +kernel
theorem dX8_told_135 : decode cX8_told 135 = .ok (.ireturn, 1) := by decide +kernel
theorem dX8_told_136 : decode cX8_told 136 = .ok (.aload_n 0, 1) := by decide +kernel
theorem dX8_told_137 : decode cX8_told 137 = .ok (.getfield 30, 3) := by decide +kernel
theorem dX8_told_140 : decode cX8_told 140 = .ok (.getfield 111, 3) := by decide +kernel
theorem dX8_told_143 : decode cX8_told 143 = .ok (.ireturn, 1) := by decide +kernel
theorem dX8_told_144 : decode cX8_told 144 = .ok (.aload_n 0, 1) := by decide +kernel
theorem dX8_told_145 : decode cX8_told 145 = .ok (.getfield 30, 3) := by decide +kernel
theorem dX8_told_148 : decode cX8_told 148 = .ok (.getfield 114, 3) := by decide +kernel
theorem dX8_told_151 : decode cX8_told 151 = .ok (.ireturn, 1) := by decide +kernel
theorem dX8_told_152 : decode cX8_told 152 = .ok (.aload_n 0, 1) := by decide +kernel
theorem dX8_told_153 : decode cX8_told 153 = .ok (.getfield 30, 3) := by decide +kernel
theorem dX8_told_156 : decode cX8_told 156 = .ok (.getfield 117, 3) := by decide +kernel
theorem dX8_told_159 : decode cX8_told 159 = .ok (.ifCond .eq 7, 3) := by decide +kernel
theorem dX8_told_162 : decode cX8_told 162 = .ok (.iconst 1, 1) := by decide +kernel
theorem dX8_told_163 : decode cX8_told 163 = .ok (.goto 4, 3) := by decide +kernel
theorem dX8_told_166 : decode cX8_told 166 = .ok (.iconst 0, 1) := by decide +kernel
theorem dX8_told_167 : decode cX8_told 167 = .ok (.ireturn, 1) := by decide +kernel
theorem dX8_told_168 : decode cX8_told 168 = .ok (.aload_n 0, 1) := by decide +kernel
theorem dX8_told_169 : decode cX8_told 169 = .ok (.getfield 30, 3) := by decide +kernel
theorem dX8_told_172 : decode cX8_told 172 = .ok (.getfield 121, 3) := by decide +kernel
theorem dX8_told_175 : decode cX8_told 175 = .ok (.ifCond .eq 7, 3) := by decide +kernel
theorem dX8_told_178 : decode cX8_told 178 = .ok (.iconst 1, 1) := by decide +kernel
theorem dX8_told_179 : decode cX8_told 179 = .ok (.goto 4, 3) := by decide +kernel
theorem dX8_told_182 : decode cX8_told 182 = .ok (.iconst 0, 1) := by decide +kernel
theorem dX8_told_183 : decode cX8_told 183 = .ok (.ireturn, 1) := by decide +kernel
theorem dX8_told_184 : decode cX8_told 184 = .ok (.aload_n 0, 1) := by decide +kernel
theorem dX8_told_185 : decode cX8_told 185 = .ok (.getfield 30, 3) := by decide +kernel
theorem dX8_told_188 : decode cX8_told 188 = .ok (.getfield 124, 3) := by decide +kernel
theorem dX8_told_191 : decode cX8_told 191 = .ok (.ireturn, 1) := by decide +kernel
theorem dX8_told_192 : decode cX8_told 192 = .ok (.aload_n 0, 1) := by decide +kernel
theorem dX8_told_193 : decode cX8_told 193 = .ok (.invokevirtual 127, 3) := by decide +kernel
theorem dX8_told_196 : decode cX8_told 196 = .ok (.ireturn, 1) := by decide +kernel
theorem dX8_told_197 : decode cX8_told 197 = .ok (.aload_n 0, 1) := by decide +kernel
theorem dX8_told_198 : decode cX8_told 198 = .ok (.getfield 23, 3) := by decide +kernel
theorem dX8_told_201 : decode cX8_told 201 = .ok (.aload_n 0, 1) := by decide +kernel
theorem dX8_told_202 : decode cX8_told 202 = .ok (.getfield 30, 3) := by decide +kernel
theorem dX8_told_205 : decode cX8_told 205 = .ok (.getfield 124, 3) := by decide +kernel
theorem dX8_told_208 : decode cX8_told 208 = .ok (.invokevirtual 130, 3) := by decide +kernel
theorem dX8_told_211 : decode cX8_told 211 = .ok (.ireturn, 1) := by decide +kernel
theorem dX8_told_212 : decode cX8_told 212 = .ok (.aload_n 0, 1) := by decide +kernel
theorem dX8_told_213 : decode cX8_told 213 = .ok (.getfield 30, 3) := by decide +kernel
theorem dX8_told_216 : decode cX8_told 216 = .ok (.getfield 134, 3) := by decide +kernel
theorem dX8_told_219 : decode cX8_told 219 = .ok (.ireturn, 1) := by decide +kernel
theorem dX8_told_220 : decode cX8_told 220 = .ok (.aload_n 0, 1) := by decide +kernel
theorem dX8_told_221 : decode cX8_told 221 = .ok (.invokevirtual 137, 3) := by decide +kernel
theorem dX8_told_224 : decode cX8_told 224 = .ok (.ireturn, 1) := by decide +kernel
theorem dX8_told_225 : decode cX8_told 225 = .ok (.aload_n 0, 1) := by decide +kernel
theorem dX8_told_226 : decode cX8_told 226 = .ok (.getfield 44, 3) := by decide +kernel
theorem dX8_told_229 : decode cX8_told 229 = .ok (.getfield 140, 3) := by decide +kernel
theorem dX8_told_232 : decode cX8_told 232 = .ok (.ireturn, 1) := by decide +kernel
theorem dX8_told_233 : decode cX8_told 233 = .ok (.aload_n 0, 1) := by decide +kernel
theorem dX8_told_234 : decode cX8_told 234 = .ok (.getfield 51, 3) := by decide +kernel
theorem dX8_told_237 : decode cX8_told 237 = .ok (.getfield 141, 3) := by decide +kernel
theorem dX8_told_240 : decode cX8_told 240 = .ok (.ireturn, 1) := by decide +kernel
theorem dX8_told_241 : decode cX8_told 241 = .ok (.aload_n 0, 1) := by decide +kernel
theorem dX8_told_242 : decode cX8_told 242 = .ok (.getfield 37, 3) := by decide +kernel
theorem dX8_told_245 : decode cX8_told 245 = .ok (.getfield 142, 3) := by decide +kernel
theorem dX8_told_248 : decode cX8_told 248 = .ok (.ireturn, 1) := by decide +kernel
theorem dX8_told_249 : decode cX8_told 249 = .ok (.ldc 73, 2) := by decide +kernel
theorem dX8_told_251 : decode cX8_told 251 = .ok (.ireturn, 1) := by decide +kernel
theorem dX8_likely_0 : decode cX8_likely 0 = .ok (.aload_n 0, 1) := by decide +kernel
theorem dX8_likely_1 : decode cX8_likely 1 = .ok (.getfield 23, 3) := by decide +kernel
theorem dX8_likely_4 : decode cX8_likely 4 = .ok (.iload_n 1, 1) := by decide +kernel
theorem dX8_likely_5 : decode cX8_likely 5 = .ok (.invokevirtual 143, 3) := by decide +kernel
theorem dX8_likely_8 : decode cX8_likely 8 = .ok (.ifCond .eq 15, 3) := by decide +kernel
theorem dX8_likely_11 : decode cX8_likely 11 = .ok (.aload_n 0, 1) := by decide +kernel
theorem dX8_likely_12 : decode cX8_likely 12 = .ok (.getfield 23, 3) := by decide +kernel
theorem dX8_likely_15 : decode cX8_likely 15 = .ok (.getfield 146, 3) := by decide +kernel
theorem dX8_likely_18 : decode cX8_likely 18 = .ok (.iload_n 1, 1) := by decide +kernel
theorem dX8_likely_19 : decode cX8_likely 19 = .ok (.iaload, 1) := by decide +kernel
theorem dX8_likely_20 : decode cX8_likely 20 = .ok (.goto 5, 3) := by decide +kernel
theorem dX8_likely_23 : decode cX8_likely 23 = .ok (.ldc 150, 2) := by decide +kernel
theorem dX8_likely_25 : decode cX8_likely 25 = .ok (.ireturn, 1) := by decide +kernel
theorem dX8_test_0 : decode cX8_test 0 = .ok (.aload_n 0, 1) := by decide +kernel
theorem dX8_test_1 : decode cX8_test 1 = .ok (.getfield 23, 3) := by decide +kernel
theorem dX8_test_4 : decode cX8_test 4 = .ok (.iload_n 1, 1) := by decide +kernel
theorem dX8_test_5 : decode cX8_test 5 = .ok (.invokevirtual 151, 3) := by decide +kernel
theorem dX8_test_8 : decode cX8_test 8 = .ok (.ifCond .ne 6, 3) := by decide +kernel
theorem dX8_test_11 : decode cX8_test 11 = .ok (.ldc 150, 2) := by decide +kernel
theorem dX8_test_13 : decode cX8_test 13 = .ok (.ireturn, 1) := by decide +kernel
theorem dX8_test_14 : decode cX8_test 14 = .ok (.iload_n 2, 1) := by decide +kernel
theorem dX8_test_15 : decode cX8_test 15 = .ok (.tableswitch 79 0 3 #[29, 39, 49, 59], 29) := by decide +kernel
theorem dX8_test_44 : decode cX8_test 44 = .ok (.aload_n 0, 1) := by decide +kernel
theorem dX8_test_45 : decode cX8_test 45 = .ok (.getfield 23, 3) := by decide +kernel
theorem dX8_test_48 : decode cX8_test 48 = .ok (.getfield 154, 3) := by decide +kernel
theorem dX8_test_51 : decode cX8_test 51 = .ok (.iload_n 1, 1) := by decide +kernel
theorem dX8_test_52 : decode cX8_test 52 = .ok (.iaload, 1) := by decide +kernel
theorem dX8_test_53 : decode cX8_test 53 = .ok (.ireturn, 1) := by decide +kernel
theorem dX8_test_54 : decode cX8_test 54 = .ok (.aload_n 0, 1) := by decide +kernel
theorem dX8_test_55 : decode cX8_test 55 = .ok (.getfield 23, 3) := by decide +kernel
theorem dX8_test_58 : decode cX8_test 58 = .ok (.getfield 157, 3) := by decide +kernel
theorem dX8_test_61 : decode cX8_test 61 = .ok (.iload_n 1, 1) := by decide +kernel
theorem dX8_test_62 : decode cX8_test 62 = .ok (.iaload, 1) := by decide +kernel
theorem dX8_test_63 : decode cX8_test 63 = .ok (.ireturn, 1) := by decide +kernel
theorem dX8_test_64 : decode cX8_test 64 = .ok (.aload_n 0, 1) := by decide +kernel
theorem dX8_test_65 : decode cX8_test 65 = .ok (.getfield 23, 3) := by decide +kernel
theorem dX8_test_68 : decode cX8_test 68 = .ok (.getfield 160, 3) := by decide +kernel
theorem dX8_test_71 : decode cX8_test 71 = .ok (.iload_n 1, 1) := by decide +kernel
theorem dX8_test_72 : decode cX8_test 72 = .ok (.iaload, 1) := by decide +kernel
theorem dX8_test_73 : decode cX8_test 73 = .ok (.ireturn, 1) := by decide +kernel
theorem dX8_test_74 : decode cX8_test 74 = .ok (.aload_n 0, 1) := by decide +kernel
theorem dX8_test_75 : decode cX8_test 75 = .ok (.getfield 30, 3) := by decide +kernel
theorem dX8_test_78 : decode cX8_test 78 = .ok (.getfield 124, 3) := by decide +kernel
theorem dX8_test_81 : decode cX8_test 81 = .ok (.iload_n 1, 1) := by decide +kernel
theorem dX8_test_82 : decode cX8_test 82 = .ok (.invokestatic 163, 3) := by decide +kernel
theorem dX8_test_85 : decode cX8_test 85 = .ok (.ifCond .eq 7, 3) := by decide +kernel
theorem dX8_test_88 : decode cX8_test 88 = .ok (.iconst 1, 1) := by decide +kernel
theorem dX8_test_89 : decode cX8_test 89 = .ok (.goto 4, 3) := by decide +kernel
theorem dX8_test_92 : decode cX8_test 92 = .ok (.iconst 0, 1) := by decide +kernel
theorem dX8_test_93 : decode cX8_test 93 = .ok (.ireturn, 1) := by decide +kernel
theorem dX8_test_94 : decode cX8_test 94 = .ok (.ldc 73, 2) := by decide +kernel
theorem dX8_test_96 : decode cX8_test 96 = .ok (.ireturn, 1) := by decide +kernel
theorem dX8_servant_0 : decode cX8_servant 0 = .ok (.aload_n 0, 1) := by decide +kernel
theorem dX8_servant_1 : decode cX8_servant 1 = .ok (.getfield 23, 3) := by decide +kernel
theorem dX8_servant_4 : decode cX8_servant 4 = .ok (.iload_n 1, 1) := by decide +kernel
theorem dX8_servant_5 : decode cX8_servant 5 = .ok (.invokevirtual 167, 3) := by decide +kernel
theorem dX8_servant_8 : decode cX8_servant 8 = .ok (.ifCond .ne 6, 3) := by decide +kernel
theorem dX8_servant_11 : decode cX8_servant 11 = .ok (.ldc 150, 2) := by decide +kernel
theorem dX8_servant_13 : decode cX8_servant 13 = .ok (.ireturn, 1) := by decide +kernel
theorem dX8_servant_14 : decode cX8_servant 14 = .ok (.iload_n 2, 1) := by decide +kernel
theorem dX8_servant_15 : decode cX8_servant 15 = .ok (.tableswitch 87 0 3 #[29, 39, 49, 59], 29) := by decide +kernel
theorem dX8_servant_44 : decode cX8_servant 44 = .ok (.aload_n 0, 1) := by decide +kernel
theorem dX8_servant_45 : decode cX8_servant 45 = .ok (.getfield 30, 3) := by decide +kernel
theorem dX8_servant_48 : decode cX8_servant 48 = .ok (.getfield 170, 3) := by decide +kernel
theorem dX8_servant_51 : decode cX8_servant 51 = .ok (.iload_n 1, 1) := by decide +kernel
theorem dX8_servant_52 : decode cX8_servant 52 = .ok (.iaload, 1) := by decide +kernel
theorem dX8_servant_53 : decode cX8_servant 53 = .ok (.ireturn, 1) := by decide +kernel
theorem dX8_servant_54 : decode cX8_servant 54 = .ok (.aload_n 0, 1) := by decide +kernel
theorem dX8_servant_55 : decode cX8_servant 55 = .ok (.getfield 23, 3) := by decide +kernel
theorem dX8_servant_58 : decode cX8_servant 58 = .ok (.getfield 173, 3) := by decide +kernel
theorem dX8_servant_61 : decode cX8_servant 61 = .ok (.iload_n 1, 1) := by decide +kernel
theorem dX8_servant_62 : decode cX8_servant 62 = .ok (.iaload, 1) := by decide +kernel
theorem dX8_servant_63 : decode cX8_servant 63 = .ok (.ireturn, 1) := by decide +kernel
theorem dX8_servant_64 : decode cX8_servant 64 = .ok (.aload_n 0, 1) := by decide +kernel
theorem dX8_servant_65 : decode cX8_servant 65 = .ok (.getfield 30, 3) := by decide +kernel
theorem dX8_servant_68 : decode cX8_servant 68 = .ok (.getfield 176, 3) := by decide +kernel
theorem dX8_servant_71 : decode cX8_servant 71 = .ok (.iload_n 1, 1) := by decide +kernel
theorem dX8_servant_72 : decode cX8_servant 72 = .ok (.iaload, 1) := by decide +kernel
theorem dX8_servant_73 : decode cX8_servant 73 = .ok (.ireturn, 1) := by decide +kernel
theorem dX8_servant_74 : decode cX8_servant 74 = .ok (.aload_n 0, 1) := by decide +kernel
theorem dX8_servant_75 : decode cX8_servant 75 = .ok (.getfield 30, 3) := by decide +kernel
theorem dX8_servant_78 : decode cX8_servant 78 = .ok (.getfield 134, 3) := by decide +kernel
theorem dX8_servant_81 : decode cX8_servant 81 = .ok (.iload_n 1, 1) := by decide +kernel
theorem dX8_servant_82 : decode cX8_servant 82 = .ok (.invokestatic 163, 3) := by decide +kernel
theorem dX8_servant_85 : decode cX8_servant 85 = .ok (.ifCond .eq 15, 3) := by decide +kernel
theorem dX8_servant_88 : decode cX8_servant 88 = .ok (.aload_n 0, 1) := by decide +kernel
theorem dX8_servant_89 : decode cX8_servant 89 = .ok (.getfield 30, 3) := by decide +kernel
theorem dX8_servant_92 : decode cX8_servant 92 = .ok (.getfield 179, 3) := by decide +kernel
theorem dX8_servant_95 : decode cX8_servant 95 = .ok (.iload_n 1, 1) := by decide +kernel
theorem dX8_servant_96 : decode cX8_servant 96 = .ok (.iaload, 1) := by decide +kernel
theorem dX8_servant_97 : decode cX8_servant 97 = .ok (.goto 4, 3) := by decide +kernel
theorem dX8_servant_100 : decode cX8_servant 100 = .ok (.iconst (-1), 1) := by decide +kernel
theorem dX8_servant_101 : decode cX8_servant 101 = .ok (.ireturn, 1) := by decide +kernel
theorem dX8_servant_102 : decode cX8_servant 102 = .ok (.ldc 73, 2) := by decide +kernel
theorem dX8_servant_104 : decode cX8_servant 104 = .ok (.ireturn, 1) := by decide +kernel
theorem dX8_day_0 : decode cX8_day 0 = .ok (.aload_n 0, 1) := by decide +kernel
theorem dX8_day_1 : decode cX8_day 1 = .ok (.iload_n 1, 1) := by decide +kernel
theorem dX8_day_2 : decode cX8_day 2 = .ok (.invokevirtual 182, 3) := by decide +kernel
theorem dX8_day_5 : decode cX8_day 5 = .ok (.istore_n 2, 1) := by decide +kernel
theorem dX8_day_6 : decode cX8_day 6 = .ok (.iload_n 2, 1) := by decide +kernel
theorem dX8_day_7 : decode cX8_day 7 = .ok (.ifCond .eq 5, 3) := by decide +kernel
theorem dX8_day_10 : decode cX8_day 10 = .ok (.iload_n 2, 1) := by decide +kernel
theorem dX8_day_11 : decode cX8_day 11 = .ok (.ireturn, 1) := by decide +kernel
theorem dX8_day_12 : decode cX8_day 12 = .ok (.aload_n 0, 1) := by decide +kernel
theorem dX8_day_13 : decode cX8_day 13 = .ok (.getfield 37, 3) := by decide +kernel
theorem dX8_day_16 : decode cX8_day 16 = .ok (.aload_n 0, 1) := by decide +kernel
theorem dX8_day_17 : decode cX8_day 17 = .ok (.getfield 30, 3) := by decide +kernel
theorem dX8_day_20 : decode cX8_day 20 = .ok (.invokevirtual 185, 3) := by decide +kernel
theorem dX8_day_23 : decode cX8_day 23 = .ok (.iconst 0, 1) := by decide +kernel
theorem dX8_day_24 : decode cX8_day 24 = .ok (.istore_n 3, 1) := by decide +kernel
theorem dX8_day_25 : decode cX8_day 25 = .ok (.iload_n 3, 1) := by decide +kernel
theorem dX8_day_26 : decode cX8_day 26 = .ok (.iload_n 1, 1) := by decide +kernel
theorem dX8_day_27 : decode cX8_day 27 = .ok (.if_icmp .ge 20, 3) := by decide +kernel
theorem dX8_day_30 : decode cX8_day 30 = .ok (.aload_n 0, 1) := by decide +kernel
theorem dX8_day_31 : decode cX8_day 31 = .ok (.getfield 30, 3) := by decide +kernel
theorem dX8_day_34 : decode cX8_day 34 = .ok (.aload_n 0, 1) := by decide +kernel
theorem dX8_day_35 : decode cX8_day 35 = .ok (.getfield 23, 3) := by decide +kernel
theorem dX8_day_38 : decode cX8_day 38 = .ok (.invokevirtual 189, 3) := by decide +kernel
theorem dX8_day_41 : decode cX8_day 41 = .ok (.iinc 3 1, 3) := by decide +kernel
theorem dX8_day_44 : decode cX8_day 44 = .ok (.goto (-19), 3) := by decide +kernel
theorem dX8_day_47 : decode cX8_day 47 = .ok (.aload_n 0, 1) := by decide +kernel
theorem dX8_day_48 : decode cX8_day 48 = .ok (.getfield 30, 3) := by decide +kernel
theorem dX8_day_51 : decode cX8_day 51 = .ok (.getfield 111, 3) := by decide +kernel
theorem dX8_day_54 : decode cX8_day 54 = .ok (.ireturn, 1) := by decide +kernel
theorem dX8_make_0 : decode cX8_make 0 = .ok (.aload_n 0, 1) := by decide +kernel
theorem dX8_make_1 : decode cX8_make 1 = .ok (.getfield 23, 3) := by decide +kernel
theorem dX8_make_4 : decode cX8_make 4 = .ok (.iload_n 1, 1) := by decide +kernel
theorem dX8_make_5 : decode cX8_make 5 = .ok (.invokevirtual 151, 3) := by decide +kernel
theorem dX8_make_8 : decode cX8_make 8 = .ok (.ifCond .ne 6, 3) := by decide +kernel
theorem dX8_make_11 : decode cX8_make 11 = .ok (.ldc 150, 2) := by decide +kernel
theorem dX8_make_13 : decode cX8_make 13 = .ok (.ireturn, 1) := by decide +kernel
theorem dX8_make_14 : decode cX8_make 14 = .ok (.aload_n 0, 1) := by decide +kernel
theorem dX8_make_15 : decode cX8_make 15 = .ok (.getfield 30, 3) := by decide +kernel
theorem dX8_make_18 : decode cX8_make 18 = .ok (.aload_n 0, 1) := by decide +kernel
theorem dX8_make_19 : decode cX8_make 19 = .ok (.getfield 23, 3) := by decide +kernel
theorem dX8_make_22 : decode cX8_make 22 = .ok (.iload_n 1, 1) := by decide +kernel
theorem dX8_make_23 : decode cX8_make 23 = .ok (.invokevirtual 193, 3) := by decide +kernel
theorem dX8_make_26 : decode cX8_make 26 = .ok (.ifCond .ne 6, 3) := by decide +kernel
theorem dX8_make_29 : decode cX8_make 29 = .ok (.ldc 197, 2) := by decide +kernel
theorem dX8_make_31 : decode cX8_make 31 = .ok (.ireturn, 1) := by decide +kernel
theorem dX8_make_32 : decode cX8_make 32 = .ok (.aload_n 0, 1) := by decide +kernel
theorem dX8_make_33 : decode cX8_make 33 = .ok (.getfield 37, 3) := by decide +kernel
theorem dX8_make_36 : decode cX8_make 36 = .ok (.aload_n 0, 1) := by decide +kernel
theorem dX8_make_37 : decode cX8_make 37 = .ok (.getfield 30, 3) := by decide +kernel
theorem dX8_make_40 : decode cX8_make 40 = .ok (.invokevirtual 185, 3) := by decide +kernel
theorem dX8_make_43 : decode cX8_make 43 = .ok (.aload_n 0, 1) := by decide +kernel
theorem dX8_make_44 : decode cX8_make 44 = .ok (.getfield 30, 3) := by decide +kernel
theorem dX8_make_47 : decode cX8_make 47 = .ok (.dup, 1) := by decide +kernel
theorem dX8_make_48 : decode cX8_make 48 = .ok (.getfield 124, 3) := by decide +kernel
theorem dX8_make_51 : decode cX8_make 51 = .ok (.iconst 1, 1) := by decide +kernel
theorem dX8_make_52 : decode cX8_make 52 = .ok (.iload_n 1, 1) := by decide +kernel
theorem dX8_make_53 : decode cX8_make 53 = .ok (.ishl, 1) := by decide +kernel
theorem dX8_make_54 : decode cX8_make 54 = .ok (.ior, 1) := by decide +kernel
theorem dX8_make_55 : decode cX8_make 55 = .ok (.putfield 124, 3) := by decide +kernel
theorem dX8_make_58 : decode cX8_make 58 = .ok (.aload_n 0, 1) := by decide +kernel
theorem dX8_make_59 : decode cX8_make 59 = .ok (.invokevirtual 127, 3) := by decide +kernel
theorem dX8_make_62 : decode cX8_make 62 = .ok (.ireturn, 1) := by decide +kernel
theorem dX8_seal_0 : decode cX8_seal 0 = .ok (.aload_n 0, 1) := by decide +kernel
theorem dX8_seal_1 : decode cX8_seal 1 = .ok (.getfield 23, 3) := by decide +kernel
theorem dX8_seal_4 : decode cX8_seal 4 = .ok (.invokevirtual 198, 3) := by decide +kernel
theorem dX8_seal_7 : decode cX8_seal 7 = .ok (.ifCond .ne 6, 3) := by decide +kernel
theorem dX8_seal_10 : decode cX8_seal 10 = .ok (.ldc 197, 2) := by decide +kernel
theorem dX8_seal_12 : decode cX8_seal 12 = .ok (.ireturn, 1) := by decide +kernel
theorem dX8_seal_13 : decode cX8_seal 13 = .ok (.aload_n 0, 1) := by decide +kernel
theorem dX8_seal_14 : decode cX8_seal 14 = .ok (.getfield 37, 3) := by decide +kernel
theorem dX8_seal_17 : decode cX8_seal 17 = .ok (.aload_n 0, 1) := by decide +kernel
theorem dX8_seal_18 : decode cX8_seal 18 = .ok (.getfield 30, 3) := by decide +kernel
theorem dX8_seal_21 : decode cX8_seal 21 = .ok (.invokevirtual 185, 3) := by decide +kernel
theorem dX8_seal_24 : decode cX8_seal 24 = .ok (.aload_n 0, 1) := by decide +kernel
theorem dX8_seal_25 : decode cX8_seal 25 = .ok (.getfield 30, 3) := by decide +kernel
theorem dX8_seal_28 : decode cX8_seal 28 = .ok (.getfield 121, 3) := by decide +kernel
theorem dX8_seal_31 : decode cX8_seal 31 = .ok (.ifCond .eq 7, 3) := by decide +kernel
theorem dX8_seal_34 : decode cX8_seal 34 = .ok (.iconst 1, 1) := by decide +kernel
theorem dX8_seal_35 : decode cX8_seal 35 = .ok (.goto 4, 3) := by decide +kernel
theorem dX8_seal_38 : decode cX8_seal 38 = .ok (.iconst 0, 1) := by decide +kernel
theorem dX8_seal_39 : decode cX8_seal 39 = .ok (.istore_n 2, 1) := by decide +kernel
theorem dX8_seal_40 : decode cX8_seal 40 = .ok (.aload_n 0, 1) := by decide +kernel
theorem dX8_seal_41 : decode cX8_seal 41 = .ok (.getfield 30, 3) := by decide +kernel
theorem dX8_seal_44 : decode cX8_seal 44 = .ok (.iload_n 1, 1) := by decide +kernel
theorem dX8_seal_45 : decode cX8_seal 45 = .ok (.putfield 121, 3) := by decide +kernel
theorem dX8_seal_48 : decode cX8_seal 48 = .ok (.iload_n 2, 1) := by decide +kernel
theorem dX8_seal_49 : decode cX8_seal 49 = .ok (.ireturn, 1) := by decide +kernel
theorem dX8_smash_0 : decode cX8_smash 0 = .ok (.aload_n 0, 1) := by decide +kernel
theorem dX8_smash_1 : decode cX8_smash 1 = .ok (.getfield 23, 3) := by decide +kernel
theorem dX8_smash_4 : decode cX8_smash 4 = .ok (.invokevirtual 198, 3) := by decide +kernel
theorem dX8_smash_7 : decode cX8_smash 7 = .ok (.ifCond .eq 13, 3) := by decide +kernel
theorem dX8_smash_10 : decode cX8_smash 10 = .ok (.aload_n 0, 1) := by decide +kernel
theorem dX8_smash_11 : decode cX8_smash 11 = .ok (.getfield 30, 3) := by decide +kernel
theorem dX8_smash_14 : decode cX8_smash 14 = .ok (.getfield 117, 3) := by decide +kernel
theorem dX8_smash_17 : decode cX8_smash 17 = .ok (.ifCond .ne 6, 3) := by decide +kernel
theorem dX8_smash_20 : decode cX8_smash 20 = .ok (.ldc 197, 2) := by decide +kernel
theorem dX8_smash_22 : decode cX8_smash 22 = .ok (.ireturn, 1) := by decide +kernel
theorem dX8_smash_23 : decode cX8_smash 23 = .ok (.aload_n 0, 1) := by decide +kernel
theorem dX8_smash_24 : decode cX8_smash 24 = .ok (.getfield 37, 3) := by decide +kernel
theorem dX8_smash_27 : decode cX8_smash 27 = .ok (.aload_n 0, 1) := by decide +kernel
theorem dX8_smash_28 : decode cX8_smash 28 = .ok (.getfield 30, 3) := by decide +kernel
theorem dX8_smash_31 : decode cX8_smash 31 = .ok (.invokevirtual 185, 3) := by decide +kernel
theorem dX8_smash_34 : decode cX8_smash 34 = .ok (.aload_n 0, 1) := by decide +kernel
theorem dX8_smash_35 : decode cX8_smash 35 = .ok (.getfield 30, 3) := by decide +kernel
theorem dX8_smash_38 : decode cX8_smash 38 = .ok (.iconst 0, 1) := by decide +kernel
theorem dX8_smash_39 : decode cX8_smash 39 = .ok (.putfield 117, 3) := by decide +kernel
theorem dX8_smash_42 : decode cX8_smash 42 = .ok (.aload_n 0, 1) := by decide +kernel
theorem dX8_smash_43 : decode cX8_smash 43 = .ok (.getfield 30, 3) := by decide +kernel
theorem dX8_smash_46 : decode cX8_smash 46 = .ok (.getfield 114, 3) := by decide +kernel
theorem dX8_smash_49 : decode cX8_smash 49 = .ok (.ireturn, 1) := by decide +kernel
theorem dX8_hire_0 : decode cX8_hire 0 = .ok (.aload_n 0, 1) := by decide +kernel
theorem dX8_hire_1 : decode cX8_hire 1 = .ok (.getfield 23, 3) := by decide +kernel
theorem dX8_hire_4 : decode cX8_hire 4 = .ok (.iload_n 1, 1) := by decide +kernel
theorem dX8_hire_5 : decode cX8_hire 5 = .ok (.invokevirtual 167, 3) := by decide +kernel
theorem dX8_hire_8 : decode cX8_hire 8 = .ok (.ifCond .ne 6, 3) := by decide +kernel
theorem dX8_hire_11 : decode cX8_hire 11 = .ok (.ldc 150, 2) := by decide +kernel
theorem dX8_hire_13 : decode cX8_hire 13 = .ok (.ireturn, 1) := by decide +kernel
theorem dX8_hire_14 : decode cX8_hire 14 = .ok (.aload_n 0, 1) := by decide +kernel
theorem dX8_hire_15 : decode cX8_hire 15 = .ok (.getfield 37, 3) := by decide +kernel
theorem dX8_hire_18 : decode cX8_hire 18 = .ok (.aload_n 0, 1) := by decide +kernel
theorem dX8_hire_19 : decode cX8_hire 19 = .ok (.getfield 30, 3) := by decide +kernel
theorem dX8_hire_22 : decode cX8_hire 22 = .ok (.invokevirtual 185, 3) := by decide +kernel
theorem dX8_hire_25 : decode cX8_hire 25 = .ok (.aload_n 0, 1) := by decide +kernel
theorem dX8_hire_26 : decode cX8_hire 26 = .ok (.getfield 30, 3) := by decide +kernel
theorem dX8_hire_29 : decode cX8_hire 29 = .ok (.getfield 134, 3) := by decide +kernel
theorem dX8_hire_32 : decode cX8_hire 32 = .ok (.iload_n 1, 1) := by decide +kernel
theorem dX8_hire_33 : decode cX8_hire 33 = .ok (.invokestatic 163, 3) := by decide +kernel
theorem dX8_hire_36 : decode cX8_hire 36 = .ok (.ifCond .eq 7, 3) := by decide +kernel
theorem dX8_hire_39 : decode cX8_hire 39 = .ok (.iconst 1, 1) := by decide +kernel
theorem dX8_hire_40 : decode cX8_hire 40 = .ok (.goto 4, 3) := by decide +kernel
theorem dX8_hire_43 : decode cX8_hire 43 = .ok (.iconst 0, 1) := by decide +kernel
theorem dX8_hire_44 : decode cX8_hire 44 = .ok (.istore_n 3, 1) := by decide +kernel
theorem dX8_hire_45 : decode cX8_hire 45 = .ok (.aload_n 0, 1) := by decide +kernel
theorem dX8_hire_46 : decode cX8_hire 46 = .ok (.getfield 30, 3) := by decide +kernel
theorem dX8_hire_49 : decode cX8_hire 49 = .ok (.iload_n 1, 1) := by decide +kernel
theorem dX8_hire_50 : decode cX8_hire 50 = .ok (.iload_n 2, 1) := by decide +kernel
theorem dX8_hire_51 : decode cX8_hire 51 = .ok (.invokevirtual 202, 3) := by decide +kernel
theorem dX8_hire_54 : decode cX8_hire 54 = .ok (.iload_n 3, 1) := by decide +kernel
theorem dX8_hire_55 : decode cX8_hire 55 = .ok (.ireturn, 1) := by decide +kernel
theorem dX8_buy_0 : decode cX8_buy 0 = .ok (.aload_n 0, 1) := by decide +kernel
theorem dX8_buy_1 : decode cX8_buy 1 = .ok (.getfield 23, 3) := by decide +kernel
theorem dX8_buy_4 : decode cX8_buy 4 = .ok (.iload_n 1, 1) := by decide +kernel
theorem dX8_buy_5 : decode cX8_buy 5 = .ok (.invokevirtual 167, 3) := by decide +kernel
theorem dX8_buy_8 : decode cX8_buy 8 = .ok (.ifCond .eq 18, 3) := by decide +kernel
theorem dX8_buy_11 : decode cX8_buy 11 = .ok (.aload_n 0, 1) := by decide +kernel
theorem dX8_buy_12 : decode cX8_buy 12 = .ok (.getfield 23, 3) := by decide +kernel
theorem dX8_buy_15 : decode cX8_buy 15 = .ok (.iload_n 2, 1) := by decide +kernel
theorem dX8_buy_16 : decode cX8_buy 16 = .ok (.invokevirtual 206, 3) := by decide +kernel
theorem dX8_buy_19 : decode cX8_buy 19 = .ok (.ifCond .eq 7, 3) := by decide +kernel
theorem dX8_buy_22 : decode cX8_buy 22 = .ok (.iload_n 2, 1) := by decide +kernel
theorem dX8_buy_23 : decode cX8_buy 23 = .ok (.ifCond .ne 6, 3) := by decide +kernel
theorem dX8_buy_26 : decode cX8_buy 26 = .ok (.ldc 150, 2) := by decide +kernel
theorem dX8_buy_28 : decode cX8_buy 28 = .ok (.ireturn, 1) := by decide +kernel
theorem dX8_buy_29 : decode cX8_buy 29 = .ok (.iload_n 3, 1) := by decide +kernel
theorem dX8_buy_30 : decode cX8_buy 30 = .ok (.iconst 0, 1) := by decide +kernel
theorem dX8_buy_31 : decode cX8_buy 31 = .ok (.sipush 9999, 3) := by decide +kernel
theorem dX8_buy_34 : decode cX8_buy 34 = .ok (.invokestatic 69, 3) := by decide +kernel
theorem dX8_buy_37 : decode cX8_buy 37 = .ok (.ifCond .ne 6, 3) := by decide +kernel
theorem dX8_buy_40 : decode cX8_buy 40 = .ok (.ldc 73, 2) := by decide +kernel
theorem dX8_buy_42 : decode cX8_buy 42 = .ok (.ireturn, 1) := by decide +kernel
theorem dX8_buy_43 : decode cX8_buy 43 = .ok (.iload_n 3, 1) := by decide +kernel
theorem dX8_buy_44 : decode cX8_buy 44 = .ok (.aload_n 0, 1) := by decide +kernel
theorem dX8_buy_45 : decode cX8_buy 45 = .ok (.getfield 23, 3) := by decide +kernel
theorem dX8_buy_48 : decode cX8_buy 48 = .ok (.getfield 173, 3) := by decide +kernel
theorem dX8_buy_51 : decode cX8_buy 51 = .ok (.iload_n 1, 1) := by decide +kernel
theorem dX8_buy_52 : decode cX8_buy 52 = .ok (.iaload, 1) := by decide +kernel
theorem dX8_buy_53 : decode cX8_buy 53 = .ok (.if_icmp .ge 6, 3) := by decide +kernel
theorem dX8_buy_56 : decode cX8_buy 56 = .ok (.ldc 197, 2) := by decide +kernel
theorem dX8_buy_58 : decode cX8_buy 58 = .ok (.ireturn, 1) := by decide +kernel
theorem dX8_buy_59 : decode cX8_buy 59 = .ok (.aload_n 0, 1) := by decide +kernel
theorem dX8_buy_60 : decode cX8_buy 60 = .ok (.getfield 37, 3) := by decide +kernel
theorem dX8_buy_63 : decode cX8_buy 63 = .ok (.aload_n 0, 1) := by decide +kernel
theorem dX8_buy_64 : decode cX8_buy 64 = .ok (.getfield 30, 3) := by decide +kernel
theorem dX8_buy_67 : decode cX8_buy 67 = .ok (.invokevirtual 185, 3) := by decide +kernel
theorem dX8_buy_70 : decode cX8_buy 70 = .ok (.aload_n 0, 1) := by decide +kernel
theorem dX8_buy_71 : decode cX8_buy 71 = .ok (.getfield 30, 3) := by decide +kernel
theorem dX8_buy_74 : decode cX8_buy 74 = .ok (.getfield 170, 3) := by decide +kernel
theorem dX8_buy_77 : decode cX8_buy 77 = .ok (.iload_n 1, 1) := by decide +kernel
theorem dX8_buy_78 : decode cX8_buy 78 = .ok (.iload_n 2, 1) := by decide +kernel
theorem dX8_buy_79 : decode cX8_buy 79 = .ok (.iastore, 1) := by decide +kernel
theorem dX8_buy_80 : decode cX8_buy 80 = .ok (.aload_n 0, 1) := by decide +kernel
theorem dX8_buy_81 : decode cX8_buy 81 = .ok (.getfield 30, 3) := by decide +kernel
theorem dX8_buy_84 : decode cX8_buy 84 = .ok (.iload_n 1, 1) := by decide +kernel
theorem dX8_buy_85 : decode cX8_buy 85 = .ok (.iload_n 3, 1) := by decide +kernel
theorem dX8_buy_86 : decode cX8_buy 86 = .ok (.invokevirtual 209, 3) := by decide +kernel
theorem dX8_buy_89 : decode cX8_buy 89 = .ok (.aload_n 0, 1) := by decide +kernel
theorem dX8_buy_90 : decode cX8_buy 90 = .ok (.getfield 30, 3) := by decide +kernel
theorem dX8_buy_93 : decode cX8_buy 93 = .ok (.getfield 176, 3) := by decide +kernel
theorem dX8_buy_96 : decode cX8_buy 96 = .ok (.iload_n 1, 1) := by decide +kernel
theorem dX8_buy_97 : decode cX8_buy 97 = .ok (.iaload, 1) := by decide +kernel
theorem dX8_buy_98 : decode cX8_buy 98 = .ok (.ireturn, 1) := by decide +kernel
theorem dX8_drift_0 : decode cX8_drift 0 = .ok (.aload_n 0, 1) := by decide +kernel
theorem dX8_drift_1 : decode cX8_drift 1 = .ok (.iload_n 1, 1) := by decide +kernel
theorem dX8_drift_2 : decode cX8_drift 2 = .ok (.invokevirtual 182, 3) := by decide +kernel
theorem dX8_drift_5 : decode cX8_drift 5 = .ok (.istore_n 2, 1) := by decide +kernel
theorem dX8_drift_6 : decode cX8_drift 6 = .ok (.iload_n 2, 1) := by decide +kernel
theorem dX8_drift_7 : decode cX8_drift 7 = .ok (.ifCond .eq 5, 3) := by decide +kernel
theorem dX8_drift_10 : decode cX8_drift 10 = .ok (.iload_n 2, 1) := by decide +kernel
theorem dX8_drift_11 : decode cX8_drift 11 = .ok (.ireturn, 1) := by decide +kernel
theorem dX8_drift_12 : decode cX8_drift 12 = .ok (.aload_n 0, 1) := by decide +kernel
theorem dX8_drift_13 : decode cX8_drift 13 = .ok (.getfield 37, 3) := by decide +kernel
theorem dX8_drift_16 : decode cX8_drift 16 = .ok (.aload_n 0, 1) := by decide +kernel
theorem dX8_drift_17 : decode cX8_drift 17 = .ok (.getfield 30, 3) := by decide +kernel
theorem dX8_drift_20 : decode cX8_drift 20 = .ok (.invokevirtual 185, 3) := by decide +kernel
theorem dX8_drift_23 : decode cX8_drift 23 = .ok (.iconst 0, 1) := by decide +kernel
theorem dX8_drift_24 : decode cX8_drift 24 = .ok (.istore_n 3, 1) := by decide +kernel
theorem dX8_drift_25 : decode cX8_drift 25 = .ok (.iload_n 3, 1) := by decide +kernel
theorem dX8_drift_26 : decode cX8_drift 26 = .ok (.iload_n 1, 1) := by decide +kernel
theorem dX8_drift_27 : decode cX8_drift 27 = .ok (.if_icmp .ge 24, 3) := by decide +kernel
theorem dX8_drift_30 : decode cX8_drift 30 = .ok (.aload_n 0, 1) := by decide +kernel
theorem dX8_drift_31 : decode cX8_drift 31 = .ok (.invokevirtual 213, 3) := by decide +kernel
theorem dX8_drift_34 : decode cX8_drift 34 = .ok (.aload_n 0, 1) := by decide +kernel
theorem dX8_drift_35 : decode cX8_drift 35 = .ok (.getfield 30, 3) := by decide +kernel
theorem dX8_drift_38 : decode cX8_drift 38 = .ok (.aload_n 0, 1) := by decide +kernel
theorem dX8_drift_39 : decode cX8_drift 39 = .ok (.getfield 23, 3) := by decide +kernel
theorem dX8_drift_42 : decode cX8_drift 42 = .ok (.invokevirtual 189, 3) := by decide +kernel
theorem dX8_drift_45 : decode cX8_drift 45 = .ok (.iinc 3 1, 3) := by decide +kernel
theorem dX8_drift_48 : decode cX8_drift 48 = .ok (.goto (-23), 3) := by decide +kernel
theorem dX8_drift_51 : decode cX8_drift 51 = .ok (.aload_n 0, 1) := by decide +kernel
theorem dX8_drift_52 : decode cX8_drift 52 = .ok (.invokevirtual 127, 3) := by decide +kernel
theorem dX8_drift_55 : decode cX8_drift 55 = .ok (.ireturn, 1) := by decide +kernel
theorem dX8_undo_0 : decode cX8_undo 0 = .ok (.aload_n 0, 1) := by decide +kernel
theorem dX8_undo_1 : decode cX8_undo 1 = .ok (.getfield 37, 3) := by decide +kernel
theorem dX8_undo_4 : decode cX8_undo 4 = .ok (.getfield 142, 3) := by decide +kernel
theorem dX8_undo_7 : decode cX8_undo 7 = .ok (.ifCond .ne 6, 3) := by decide +kernel
theorem dX8_undo_10 : decode cX8_undo 10 = .ok (.ldc 197, 2) := by decide +kernel
theorem dX8_undo_12 : decode cX8_undo 12 = .ok (.ireturn, 1) := by decide +kernel
theorem dX8_undo_13 : decode cX8_undo 13 = .ok (.aload_n 0, 1) := by decide +kernel
theorem dX8_undo_14 : decode cX8_undo 14 = .ok (.getfield 37, 3) := by decide +kernel
theorem dX8_undo_17 : decode cX8_undo 17 = .ok (.aload_n 0, 1) := by decide +kernel
theorem dX8_undo_18 : decode cX8_undo 18 = .ok (.getfield 30, 3) := by decide +kernel
theorem dX8_undo_21 : decode cX8_undo 21 = .ok (.invokevirtual 216, 3) := by decide +kernel
theorem dX8_undo_24 : decode cX8_undo 24 = .ok (.aload_n 0, 1) := by decide +kernel
theorem dX8_undo_25 : decode cX8_undo 25 = .ok (.getfield 37, 3) := by decide +kernel
theorem dX8_undo_28 : decode cX8_undo 28 = .ok (.getfield 142, 3) := by decide +kernel
theorem dX8_undo_31 : decode cX8_undo 31 = .ok (.ireturn, 1) := by decide +kernel
theorem dX8_belief_0 : decode cX8_belief 0 = .ok (.aload_n 0, 1) := by decide +kernel
theorem dX8_belief_1 : decode cX8_belief 1 = .ok (.getfield 23, 3) := by decide +kernel
theorem dX8_belief_4 : decode cX8_belief 4 = .ok (.iload_n 1, 1) := by decide +kernel
theorem dX8_belief_5 : decode cX8_belief 5 = .ok (.invokevirtual 143, 3) := by decide +kernel
theorem dX8_belief_8 : decode cX8_belief 8 = .ok (.ifCond .eq 18, 3) := by decide +kernel
theorem dX8_belief_11 : decode cX8_belief 11 = .ok (.aload_n 0, 1) := by decide +kernel
theorem dX8_belief_12 : decode cX8_belief 12 = .ok (.getfield 23, 3) := by decide +kernel
theorem dX8_belief_15 : decode cX8_belief 15 = .ok (.iload_n 1, 1) := by decide +kernel
theorem dX8_belief_16 : decode cX8_belief 16 = .ok (.aload_n 0, 1) := by decide +kernel
theorem dX8_belief_17 : decode cX8_belief 17 = .ok (.invokevirtual 127, 3) := by decide +kernel
theorem dX8_belief_20 : decode cX8_belief 20 = .ok (.invokevirtual 219, 3) := by decide +kernel
theorem dX8_belief_23 : decode cX8_belief 23 = .ok (.goto 5, 3) := by decide +kernel
theorem dX8_belief_26 : decode cX8_belief 26 = .ok (.ldc 150, 2) := by decide +kernel
theorem dX8_belief_28 : decode cX8_belief 28 = .ok (.ireturn, 1) := by decide +kernel
theorem dX8_liars_0 : decode cX8_liars 0 = .ok (.aload_n 0, 1) := by decide +kernel
theorem dX8_liars_1 : decode cX8_liars 1 = .ok (.getfield 23, 3) := by decide +kernel
theorem dX8_liars_4 : decode cX8_liars 4 = .ok (.iload_n 1, 1) := by decide +kernel
theorem dX8_liars_5 : decode cX8_liars 5 = .ok (.invokevirtual 143, 3) := by decide +kernel
theorem dX8_liars_8 : decode cX8_liars 8 = .ok (.ifCond .eq 11, 3) := by decide +kernel
theorem dX8_liars_11 : decode cX8_liars 11 = .ok (.aload_n 0, 1) := by decide +kernel
theorem dX8_liars_12 : decode cX8_liars 12 = .ok (.iload_n 1, 1) := by decide +kernel
theorem dX8_liars_13 : decode cX8_liars 13 = .ok (.invokevirtual 223, 3) := by decide +kernel
theorem dX8_liars_16 : decode cX8_liars 16 = .ok (.goto 5, 3) := by decide +kernel
theorem dX8_liars_19 : decode cX8_liars 19 = .ok (.ldc 150, 2) := by decide +kernel
theorem dX8_liars_21 : decode cX8_liars 21 = .ok (.ireturn, 1) := by decide +kernel
theorem dX8_leastLiars_0 : decode cX8_leastLiars 0 = .ok (.iload_n 1, 1) := by decide +kernel
theorem dX8_leastLiars_1 : decode cX8_leastLiars 1 = .ok (.iconst 0, 1) := by decide +kernel
theorem dX8_leastLiars_2 : decode cX8_leastLiars 2 = .ok (.iconst 1, 1) := by decide +kernel
theorem dX8_leastLiars_3 : decode cX8_leastLiars 3 = .ok (.invokestatic 69, 3) := by decide +kernel
theorem dX8_leastLiars_6 : decode cX8_leastLiars 6 = .ok (.ifCond .ne 6, 3) := by decide +kernel
theorem dX8_leastLiars_9 : decode cX8_leastLiars 9 = .ok (.ldc 73, 2) := by decide +kernel
theorem dX8_leastLiars_11 : decode cX8_leastLiars 11 = .ok (.ireturn, 1) := by decide +kernel
theorem dX8_leastLiars_12 : decode cX8_leastLiars 12 = .ok (.aload_n 0, 1) := by decide +kernel
theorem dX8_leastLiars_13 : decode cX8_leastLiars 13 = .ok (.getfield 23, 3) := by decide +kernel
theorem dX8_leastLiars_16 : decode cX8_leastLiars 16 = .ok (.invokevirtual 198, 3) := by decide +kernel
theorem dX8_leastLiars_19 : decode cX8_leastLiars 19 = .ok (.ifCond .ne 6, 3) := by decide +kernel
theorem dX8_leastLiars_22 : decode cX8_leastLiars 22 = .ok (.ldc 197, 2) := by decide +kernel
theorem dX8_leastLiars_24 : decode cX8_leastLiars 24 = .ok (.ireturn, 1) := by decide +kernel
theorem dX8_leastLiars_25 : decode cX8_leastLiars 25 = .ok (.aload_n 0, 1) := by decide +kernel
theorem dX8_leastLiars_26 : decode cX8_leastLiars 26 = .ok (.invokevirtual 226, 3) := by decide +kernel
theorem dX8_leastLiars_29 : decode cX8_leastLiars 29 = .ok (.istore_n 2, 1) := by decide +kernel
theorem dX8_leastLiars_30 : decode cX8_leastLiars 30 = .ok (.iload_n 1, 1) := by decide +kernel
theorem dX8_leastLiars_31 : decode cX8_leastLiars 31 = .ok (.ifCond .ne 7, 3) := by decide +kernel
theorem dX8_leastLiars_34 : decode cX8_leastLiars 34 = .ok (.iload_n 2, 1) := by decide +kernel
theorem dX8_leastLiars_35 : decode cX8_leastLiars 35 = .ok (.goto 11, 3) := by decide +kernel
theorem dX8_leastLiars_38 : decode cX8_leastLiars 38 = .ok (.aload_n 0, 1) := by decide +kernel
theorem dX8_leastLiars_39 : decode cX8_leastLiars 39 = .ok (.iload_n 2, 1) := by decide +kernel
theorem dX8_leastLiars_40 : decode cX8_leastLiars 40 = .ok (.invokevirtual 223, 3) := by decide +kernel
theorem dX8_leastLiars_43 : decode cX8_leastLiars 43 = .ok (.invokestatic 229, 3) := by decide +kernel
theorem dX8_leastLiars_46 : decode cX8_leastLiars 46 = .ok (.ireturn, 1) := by decide +kernel
theorem dX8_ruleOut_0 : decode cX8_ruleOut 0 = .ok (.aload_n 0, 1) := by decide +kernel
theorem dX8_ruleOut_1 : decode cX8_ruleOut 1 = .ok (.getfield 23, 3) := by decide +kernel
theorem dX8_ruleOut_4 : decode cX8_ruleOut 4 = .ok (.iload_n 1, 1) := by decide +kernel
theorem dX8_ruleOut_5 : decode cX8_ruleOut 5 = .ok (.invokevirtual 206, 3) := by decide +kernel
theorem dX8_ruleOut_8 : decode cX8_ruleOut 8 = .ok (.ifCond .eq 21, 3) := by decide +kernel
theorem dX8_ruleOut_11 : decode cX8_ruleOut 11 = .ok (.iload_n 1, 1) := by decide +kernel
theorem dX8_ruleOut_12 : decode cX8_ruleOut 12 = .ok (.iconst 0, 1) := by decide +kernel
theorem dX8_ruleOut_13 : decode cX8_ruleOut 13 = .ok (.invokestatic 163, 3) := by decide +kernel
theorem dX8_ruleOut_16 : decode cX8_ruleOut 16 = .ok (.ifCond .ne 13, 3) := by decide +kernel
theorem dX8_ruleOut_19 : decode cX8_ruleOut 19 = .ok (.iload_n 2, 1) := by decide +kernel
theorem dX8_ruleOut_20 : decode cX8_ruleOut 20 = .ok (.iconst 0, 1) := by decide +kernel
theorem dX8_ruleOut_21 : decode cX8_ruleOut 21 = .ok (.bipush 63, 2) := by decide +kernel
theorem dX8_ruleOut_23 : decode cX8_ruleOut 23 = .ok (.invokestatic 69, 3) := by decide +kernel
theorem dX8_ruleOut_26 : decode cX8_ruleOut 26 = .ok (.ifCond .ne 6, 3) := by decide +kernel
theorem dX8_ruleOut_29 : decode cX8_ruleOut 29 = .ok (.ldc 150, 2) := by decide +kernel
theorem dX8_ruleOut_31 : decode cX8_ruleOut 31 = .ok (.ireturn, 1) := by decide +kernel
theorem dX8_ruleOut_32 : decode cX8_ruleOut 32 = .ok (.iload_n 3, 1) := by decide +kernel
theorem dX8_ruleOut_33 : decode cX8_ruleOut 33 = .ok (.iconst 0, 1) := by decide +kernel
theorem dX8_ruleOut_34 : decode cX8_ruleOut 34 = .ok (.iconst 1, 1) := by decide +kernel
theorem dX8_ruleOut_35 : decode cX8_ruleOut 35 = .ok (.invokestatic 69, 3) := by decide +kernel
theorem dX8_ruleOut_38 : decode cX8_ruleOut 38 = .ok (.ifCond .ne 6, 3) := by decide +kernel
theorem dX8_ruleOut_41 : decode cX8_ruleOut 41 = .ok (.ldc 73, 2) := by decide +kernel
theorem dX8_ruleOut_43 : decode cX8_ruleOut 43 = .ok (.ireturn, 1) := by decide +kernel
theorem dX8_ruleOut_44 : decode cX8_ruleOut 44 = .ok (.aload_n 0, 1) := by decide +kernel
theorem dX8_ruleOut_45 : decode cX8_ruleOut 45 = .ok (.iload_n 1, 1) := by decide +kernel
theorem dX8_ruleOut_46 : decode cX8_ruleOut 46 = .ok (.iload_n 2, 1) := by decide +kernel
theorem dX8_ruleOut_47 : decode cX8_ruleOut 47 = .ok (.invokevirtual 234, 3) := by decide +kernel
theorem dX8_ruleOut_50 : decode cX8_ruleOut 50 = .ok (.istore 4, 2) := by decide +kernel
theorem dX8_ruleOut_52 : decode cX8_ruleOut 52 = .ok (.iload 4, 2) := by decide +kernel
theorem dX8_ruleOut_54 : decode cX8_ruleOut 54 = .ok (.iconst (-1), 1) := by decide +kernel
theorem dX8_ruleOut_55 : decode cX8_ruleOut 55 = .ok (.if_icmp .eq 7, 3) := by decide +kernel
theorem dX8_ruleOut_58 : decode cX8_ruleOut 58 = .ok (.iload_n 3, 1) := by decide +kernel
theorem dX8_ruleOut_59 : decode cX8_ruleOut 59 = .ok (.ifCond .ne 6, 3) := by decide +kernel
theorem dX8_ruleOut_62 : decode cX8_ruleOut 62 = .ok (.iload 4, 2) := by decide +kernel
theorem dX8_ruleOut_64 : decode cX8_ruleOut 64 = .ok (.ireturn, 1) := by decide +kernel
theorem dX8_ruleOut_65 : decode cX8_ruleOut 65 = .ok (.aload_n 0, 1) := by decide +kernel
theorem dX8_ruleOut_66 : decode cX8_ruleOut 66 = .ok (.iload 4, 2) := by decide +kernel
theorem dX8_ruleOut_68 : decode cX8_ruleOut 68 = .ok (.invokevirtual 237, 3) := by decide +kernel
theorem dX8_ruleOut_71 : decode cX8_ruleOut 71 = .ok (.ireturn, 1) := by decide +kernel
theorem dX8_next_0 : decode cX8_next 0 = .ok (.aload_n 0, 1) := by decide +kernel
theorem dX8_next_1 : decode cX8_next 1 = .ok (.invokevirtual 127, 3) := by decide +kernel
theorem dX8_next_4 : decode cX8_next 4 = .ok (.istore_n 1, 1) := by decide +kernel
theorem dX8_next_5 : decode cX8_next 5 = .ok (.iconst (-1), 1) := by decide +kernel
theorem dX8_next_6 : decode cX8_next 6 = .ok (.istore_n 2, 1) := by decide +kernel
theorem dX8_next_7 : decode cX8_next 7 = .ok (.aload_n 0, 1) := by decide +kernel
theorem dX8_next_8 : decode cX8_next 8 = .ok (.getfield 23, 3) := by decide +kernel
theorem dX8_next_11 : decode cX8_next 11 = .ok (.iload_n 1, 1) := by decide +kernel
theorem dX8_next_12 : decode cX8_next 12 = .ok (.invokevirtual 240, 3) := by decide +kernel
theorem dX8_next_15 : decode cX8_next 15 = .ok (.istore_n 3, 1) := by decide +kernel
theorem dX8_next_16 : decode cX8_next 16 = .ok (.iconst 0, 1) := by decide +kernel
theorem dX8_next_17 : decode cX8_next 17 = .ok (.istore 4, 2) := by decide +kernel
theorem dX8_next_19 : decode cX8_next 19 = .ok (.iload 4, 2) := by decide +kernel
theorem dX8_next_21 : decode cX8_next 21 = .ok (.aload_n 0, 1) := by decide +kernel
theorem dX8_next_22 : decode cX8_next 22 = .ok (.getfield 23, 3) := by decide +kernel
theorem dX8_next_25 : decode cX8_next 25 = .ok (.getfield 99, 3) := by decide +kernel
theorem dX8_next_28 : decode cX8_next 28 = .ok (.if_icmp .ge 107, 3) := by decide +kernel
theorem dX8_next_31 : decode cX8_next 31 = .ok (.aload_n 0, 1) := by decide +kernel
theorem dX8_next_32 : decode cX8_next 32 = .ok (.getfield 30, 3) := by decide +kernel
theorem dX8_next_35 : decode cX8_next 35 = .ok (.getfield 124, 3) := by decide +kernel
theorem dX8_next_38 : decode cX8_next 38 = .ok (.iload 4, 2) := by decide +kernel
theorem dX8_next_40 : decode cX8_next 40 = .ok (.invokestatic 163, 3) := by decide +kernel
theorem dX8_next_43 : decode cX8_next 43 = .ok (.ifCond .eq 6, 3) := by decide +kernel
theorem dX8_next_46 : decode cX8_next 46 = .ok (.goto 83, 3) := by decide +kernel
theorem dX8_next_49 : decode cX8_next 49 = .ok (.aload_n 0, 1) := by decide +kernel
theorem dX8_next_50 : decode cX8_next 50 = .ok (.getfield 23, 3) := by decide +kernel
theorem dX8_next_53 : decode cX8_next 53 = .ok (.iload_n 1, 1) := by decide +kernel
theorem dX8_next_54 : decode cX8_next 54 = .ok (.aload_n 0, 1) := by decide +kernel
theorem dX8_next_55 : decode cX8_next 55 = .ok (.getfield 23, 3) := by decide +kernel
theorem dX8_next_58 : decode cX8_next 58 = .ok (.getfield 154, 3) := by decide +kernel
theorem dX8_next_61 : decode cX8_next 61 = .ok (.iload 4, 2) := by decide +kernel
theorem dX8_next_63 : decode cX8_next 63 = .ok (.iaload, 1) := by decide +kernel
theorem dX8_next_64 : decode cX8_next 64 = .ok (.iconst (-1), 1) := by decide +kernel
theorem dX8_next_65 : decode cX8_next 65 = .ok (.ixor, 1) := by decide +kernel
theorem dX8_next_66 : decode cX8_next 66 = .ok (.iand, 1) := by decide +kernel
theorem dX8_next_67 : decode cX8_next 67 = .ok (.invokevirtual 240, 3) := by decide +kernel
theorem dX8_next_70 : decode cX8_next 70 = .ok (.istore 5, 2) := by decide +kernel
theorem dX8_next_72 : decode cX8_next 72 = .ok (.iload_n 2, 1) := by decide +kernel
theorem dX8_next_73 : decode cX8_next 73 = .ok (.iconst (-1), 1) := by decide +kernel
theorem dX8_next_74 : decode cX8_next 74 = .ok (.if_icmp .eq 35, 3) := by decide +kernel
theorem dX8_next_77 : decode cX8_next 77 = .ok (.iload 5, 2) := by decide +kernel
theorem dX8_next_79 : decode cX8_next 79 = .ok (.iload_n 3, 1) := by decide +kernel
theorem dX8_next_80 : decode cX8_next 80 = .ok (.if_icmp .ne 29, 3) := by decide +kernel
theorem dX8_next_83 : decode cX8_next 83 = .ok (.aload_n 0, 1) := by decide +kernel
theorem dX8_next_84 : decode cX8_next 84 = .ok (.getfield 23, 3) := by decide +kernel
theorem dX8_next_87 : decode cX8_next 87 = .ok (.getfield 160, 3) := by decide +kernel
theorem dX8_next_90 : decode cX8_next 90 = .ok (.iload 4, 2) := by decide +kernel
theorem dX8_next_92 : decode cX8_next 92 = .ok (.iaload, 1) := by decide +kernel
theorem dX8_next_93 : decode cX8_next 93 = .ok (.aload_n 0, 1) := by decide +kernel
theorem dX8_next_94 : decode cX8_next 94 = .ok (.getfield 23, 3) := by decide +kernel
theorem dX8_next_97 : decode cX8_next 97 = .ok (.getfield 160, 3) := by decide +kernel
theorem dX8_next_100 : decode cX8_next 100 = .ok (.iload_n 2, 1) := by decide +kernel
theorem dX8_next_101 : decode cX8_next 101 = .ok (.iaload, 1) := by decide +kernel
theorem dX8_next_102 : decode cX8_next 102 = .ok (.if_icmp .ge 7, 3) := by decide +kernel
theorem dX8_next_105 : decode cX8_next 105 = .ok (.iconst 1, 1) := by decide +kernel
theorem dX8_next_106 : decode cX8_next 106 = .ok (.goto 4, 3) := by decide +kernel
theorem dX8_next_109 : decode cX8_next 109 = .ok (.iconst 0, 1) := by decide +kernel
theorem dX8_next_110 : decode cX8_next 110 = .ok (.istore 6, 2) := by decide +kernel
theorem dX8_next_112 : decode cX8_next 112 = .ok (.iload 5, 2) := by decide +kernel
theorem dX8_next_114 : decode cX8_next 114 = .ok (.iload_n 3, 1) := by decide +kernel
theorem dX8_next_115 : decode cX8_next 115 = .ok (.if_icmp .lt 8, 3) := by decide +kernel
theorem dX8_next_118 : decode cX8_next 118 = .ok (.iload 6, 2) := by decide +kernel
theorem dX8_next_120 : decode cX8_next 120 = .ok (.ifCond .eq 9, 3) := by decide +kernel
theorem dX8_next_123 : decode cX8_next 123 = .ok (.iload 4, 2) := by decide +kernel
theorem dX8_next_125 : decode cX8_next 125 = .ok (.istore_n 2, 1) := by decide +kernel
theorem dX8_next_126 : decode cX8_next 126 = .ok (.iload 5, 2) := by decide +kernel
theorem dX8_next_128 : decode cX8_next 128 = .ok (.istore_n 3, 1) := by decide +kernel
theorem dX8_next_129 : decode cX8_next 129 = .ok (.iinc 4 1, 3) := by decide +kernel
theorem dX8_next_132 : decode cX8_next 132 = .ok (.goto (-113), 3) := by decide +kernel
theorem dX8_next_135 : decode cX8_next 135 = .ok (.iload_n 2, 1) := by decide +kernel
theorem dX8_next_136 : decode cX8_next 136 = .ok (.ireturn, 1) := by decide +kernel
theorem dX8_offer_0 : decode cX8_offer 0 = .ok (.iload_n 1, 1) := by decide +kernel
theorem dX8_offer_1 : decode cX8_offer 1 = .ok (.iconst 0, 1) := by decide +kernel
theorem dX8_offer_2 : decode cX8_offer 2 = .ok (.sipush 9999, 3) := by decide +kernel
theorem dX8_offer_5 : decode cX8_offer 5 = .ok (.invokestatic 69, 3) := by decide +kernel
theorem dX8_offer_8 : decode cX8_offer 8 = .ok (.ifCond .eq 14, 3) := by decide +kernel
theorem dX8_offer_11 : decode cX8_offer 11 = .ok (.iload_n 2, 1) := by decide +kernel
theorem dX8_offer_12 : decode cX8_offer 12 = .ok (.iconst 0, 1) := by decide +kernel
theorem dX8_offer_13 : decode cX8_offer 13 = .ok (.sipush 9999, 3) := by decide +kernel
theorem dX8_offer_16 : decode cX8_offer 16 = .ok (.invokestatic 69, 3) := by decide +kernel
theorem dX8_offer_19 : decode cX8_offer 19 = .ok (.ifCond .ne 6, 3) := by decide +kernel
theorem dX8_offer_22 : decode cX8_offer 22 = .ok (.ldc 73, 2) := by decide +kernel
theorem dX8_offer_24 : decode cX8_offer 24 = .ok (.ireturn, 1) := by decide +kernel
theorem dX8_offer_25 : decode cX8_offer 25 = .ok (.aload_n 0, 1) := by decide +kernel
theorem dX8_offer_26 : decode cX8_offer 26 = .ok (.getfield 23, 3) := by decide +kernel
theorem dX8_offer_29 : decode cX8_offer 29 = .ok (.invokevirtual 198, 3) := by decide +kernel
theorem dX8_offer_32 : decode cX8_offer 32 = .ok (.ifCond .ne 6, 3) := by decide +kernel
theorem dX8_offer_35 : decode cX8_offer 35 = .ok (.ldc 197, 2) := by decide +kernel
theorem dX8_offer_37 : decode cX8_offer 37 = .ok (.ireturn, 1) := by decide +kernel
theorem dX8_offer_38 : decode cX8_offer 38 = .ok (.aload_n 0, 1) := by decide +kernel
theorem dX8_offer_39 : decode cX8_offer 39 = .ok (.iload_n 1, 1) := by decide +kernel
theorem dX8_offer_40 : decode cX8_offer 40 = .ok (.iload_n 2, 1) := by decide +kernel
theorem dX8_offer_41 : decode cX8_offer 41 = .ok (.aload_n 0, 1) := by decide +kernel
theorem dX8_offer_42 : decode cX8_offer 42 = .ok (.invokevirtual 127, 3) := by decide +kernel
theorem dX8_offer_45 : decode cX8_offer 45 = .ok (.invokevirtual 243, 3) := by decide +kernel
theorem dX8_offer_48 : decode cX8_offer 48 = .ok (.ireturn, 1) := by decide +kernel
theorem dX8_both_0 : decode cX8_both 0 = .ok (.iload_n 1, 1) := by decide +kernel
theorem dX8_both_1 : decode cX8_both 1 = .ok (.iconst 0, 1) := by decide +kernel
theorem dX8_both_2 : decode cX8_both 2 = .ok (.sipush 9999, 3) := by decide +kernel
theorem dX8_both_5 : decode cX8_both 5 = .ok (.invokestatic 69, 3) := by decide +kernel
theorem dX8_both_8 : decode cX8_both 8 = .ok (.ifCond .eq 25, 3) := by decide +kernel
theorem dX8_both_11 : decode cX8_both 11 = .ok (.iload_n 2, 1) := by decide +kernel
theorem dX8_both_12 : decode cX8_both 12 = .ok (.iconst 0, 1) := by decide +kernel
theorem dX8_both_13 : decode cX8_both 13 = .ok (.sipush 9999, 3) := by decide +kernel
theorem dX8_both_16 : decode cX8_both 16 = .ok (.invokestatic 69, 3) := by decide +kernel
theorem dX8_both_19 : decode cX8_both 19 = .ok (.ifCond .eq 14, 3) := by decide +kernel
theorem dX8_both_22 : decode cX8_both 22 = .ok (.iload_n 3, 1) := by decide +kernel
theorem dX8_both_23 : decode cX8_both 23 = .ok (.iconst 0, 1) := by decide +kernel
theorem dX8_both_24 : decode cX8_both 24 = .ok (.sipush 9999, 3) := by decide +kernel
theorem dX8_both_27 : decode cX8_both 27 = .ok (.invokestatic 69, 3) := by decide +kernel
theorem dX8_both_30 : decode cX8_both 30 = .ok (.ifCond .ne 6, 3) := by decide +kernel
theorem dX8_both_33 : decode cX8_both 33 = .ok (.ldc 73, 2) := by decide +kernel
theorem dX8_both_35 : decode cX8_both 35 = .ok (.ireturn, 1) := by decide +kernel
theorem dX8_both_36 : decode cX8_both 36 = .ok (.aload_n 0, 1) := by decide +kernel
theorem dX8_both_37 : decode cX8_both 37 = .ok (.getfield 23, 3) := by decide +kernel
theorem dX8_both_40 : decode cX8_both 40 = .ok (.invokevirtual 198, 3) := by decide +kernel
theorem dX8_both_43 : decode cX8_both 43 = .ok (.ifCond .ne 6, 3) := by decide +kernel
theorem dX8_both_46 : decode cX8_both 46 = .ok (.ldc 197, 2) := by decide +kernel
theorem dX8_both_48 : decode cX8_both 48 = .ok (.ireturn, 1) := by decide +kernel
theorem dX8_both_49 : decode cX8_both 49 = .ok (.aload_n 0, 1) := by decide +kernel
theorem dX8_both_50 : decode cX8_both 50 = .ok (.iload_n 1, 1) := by decide +kernel
theorem dX8_both_51 : decode cX8_both 51 = .ok (.iload_n 2, 1) := by decide +kernel
theorem dX8_both_52 : decode cX8_both 52 = .ok (.aload_n 0, 1) := by decide +kernel
theorem dX8_both_53 : decode cX8_both 53 = .ok (.invokevirtual 127, 3) := by decide +kernel
theorem dX8_both_56 : decode cX8_both 56 = .ok (.invokevirtual 243, 3) := by decide +kernel
theorem dX8_both_59 : decode cX8_both 59 = .ok (.istore 4, 2) := by decide +kernel
theorem dX8_both_61 : decode cX8_both 61 = .ok (.iload 4, 2) := by decide +kernel
theorem dX8_both_63 : decode cX8_both 63 = .ok (.iload_n 3, 1) := by decide +kernel
theorem dX8_both_64 : decode cX8_both 64 = .ok (.if_icmp .le 12, 3) := by decide +kernel
theorem dX8_both_67 : decode cX8_both 67 = .ok (.iload 4, 2) := by decide +kernel
theorem dX8_both_69 : decode cX8_both 69 = .ok (.iload_n 3, 1) := by decide +kernel
theorem dX8_both_70 : decode cX8_both 70 = .ok (.isub, 1) := by decide +kernel
theorem dX8_both_71 : decode cX8_both 71 = .ok (.iconst 2, 1) := by decide +kernel
theorem dX8_both_72 : decode cX8_both 72 = .ok (.idiv, 1) := by decide +kernel
theorem dX8_both_73 : decode cX8_both 73 = .ok (.goto 4, 3) := by decide +kernel
theorem dX8_both_76 : decode cX8_both 76 = .ok (.iconst 0, 1) := by decide +kernel
theorem dX8_both_77 : decode cX8_both 77 = .ok (.ireturn, 1) := by decide +kernel
theorem dX8_worth_0 : decode cX8_worth 0 = .ok (.aload_n 0, 1) := by decide +kernel
theorem dX8_worth_1 : decode cX8_worth 1 = .ok (.getfield 23, 3) := by decide +kernel
theorem dX8_worth_4 : decode cX8_worth 4 = .ok (.iload_n 1, 1) := by decide +kernel
theorem dX8_worth_5 : decode cX8_worth 5 = .ok (.invokevirtual 151, 3) := by decide +kernel
theorem dX8_worth_8 : decode cX8_worth 8 = .ok (.ifCond .ne 6, 3) := by decide +kernel
theorem dX8_worth_11 : decode cX8_worth 11 = .ok (.ldc 150, 2) := by decide +kernel
theorem dX8_worth_13 : decode cX8_worth 13 = .ok (.ireturn, 1) := by decide +kernel
theorem dX8_worth_14 : decode cX8_worth 14 = .ok (.iload_n 2, 1) := by decide +kernel
theorem dX8_worth_15 : decode cX8_worth 15 = .ok (.iconst 0, 1) := by decide +kernel
theorem dX8_worth_16 : decode cX8_worth 16 = .ok (.sipush 9999, 3) := by decide +kernel
theorem dX8_worth_19 : decode cX8_worth 19 = .ok (.invokestatic 69, 3) := by decide +kernel
theorem dX8_worth_22 : decode cX8_worth 22 = .ok (.ifCond .ne 6, 3) := by decide +kernel
theorem dX8_worth_25 : decode cX8_worth 25 = .ok (.ldc 73, 2) := by decide +kernel
theorem dX8_worth_27 : decode cX8_worth 27 = .ok (.ireturn, 1) := by decide +kernel
theorem dX8_worth_28 : decode cX8_worth 28 = .ok (.aload_n 0, 1) := by decide +kernel
theorem dX8_worth_29 : decode cX8_worth 29 = .ok (.invokevirtual 127, 3) := by decide +kernel
theorem dX8_worth_32 : decode cX8_worth 32 = .ok (.istore_n 3, 1) := by decide +kernel
theorem dX8_worth_33 : decode cX8_worth 33 = .ok (.aload_n 0, 1) := by decide +kernel
theorem dX8_worth_34 : decode cX8_worth 34 = .ok (.iload_n 2, 1) := by decide +kernel
theorem dX8_worth_35 : decode cX8_worth 35 = .ok (.iconst 0, 1) := by decide +kernel
theorem dX8_worth_36 : decode cX8_worth 36 = .ok (.iload_n 3, 1) := by decide +kernel
theorem dX8_worth_37 : decode cX8_worth 37 = .ok (.aload_n 0, 1) := by decide +kernel
theorem dX8_worth_38 : decode cX8_worth 38 = .ok (.getfield 23, 3) := by decide +kernel
theorem dX8_worth_41 : decode cX8_worth 41 = .ok (.getfield 154, 3) := by decide +kernel
theorem dX8_worth_44 : decode cX8_worth 44 = .ok (.iload_n 1, 1) := by decide +kernel
theorem dX8_worth_45 : decode cX8_worth 45 = .ok (.iaload, 1) := by decide +kernel
theorem dX8_worth_46 : decode cX8_worth 46 = .ok (.iconst (-1), 1) := by decide +kernel
theorem dX8_worth_47 : decode cX8_worth 47 = .ok (.ixor, 1) := by decide +kernel
theorem dX8_worth_48 : decode cX8_worth 48 = .ok (.iand, 1) := by decide +kernel
theorem dX8_worth_49 : decode cX8_worth 49 = .ok (.invokevirtual 243, 3) := by decide +kernel
theorem dX8_worth_52 : decode cX8_worth 52 = .ok (.istore 4, 2) := by decide +kernel
theorem dX8_worth_54 : decode cX8_worth 54 = .ok (.iload 4, 2) := by decide +kernel
theorem dX8_worth_56 : decode cX8_worth 56 = .ok (.aload_n 0, 1) := by decide +kernel
theorem dX8_worth_57 : decode cX8_worth 57 = .ok (.iload_n 2, 1) := by decide +kernel
theorem dX8_worth_58 : decode cX8_worth 58 = .ok (.iconst 0, 1) := by decide +kernel
theorem dX8_worth_59 : decode cX8_worth 59 = .ok (.iload_n 3, 1) := by decide +kernel
theorem dX8_worth_60 : decode cX8_worth 60 = .ok (.invokevirtual 243, 3) := by decide +kernel
theorem dX8_worth_63 : decode cX8_worth 63 = .ok (.isub, 1) := by decide +kernel
theorem dX8_worth_64 : decode cX8_worth 64 = .ok (.aload_n 0, 1) := by decide +kernel
theorem dX8_worth_65 : decode cX8_worth 65 = .ok (.getfield 23, 3) := by decide +kernel
theorem dX8_worth_68 : decode cX8_worth 68 = .ok (.getfield 160, 3) := by decide +kernel
theorem dX8_worth_71 : decode cX8_worth 71 = .ok (.iload_n 1, 1) := by decide +kernel
theorem dX8_worth_72 : decode cX8_worth 72 = .ok (.iaload, 1) := by decide +kernel
theorem dX8_worth_73 : decode cX8_worth 73 = .ok (.isub, 1) := by decide +kernel
theorem dX8_worth_74 : decode cX8_worth 74 = .ok (.ldc 247, 2) := by decide +kernel
theorem dX8_worth_76 : decode cX8_worth 76 = .ok (.iadd, 1) := by decide +kernel
theorem dX8_worth_77 : decode cX8_worth 77 = .ok (.ireturn, 1) := by decide +kernel
theorem dX8_secret_0 : decode cX8_secret 0 = .ok (.iload_n 1, 1) := by decide +kernel
theorem dX8_secret_1 : decode cX8_secret 1 = .ok (.iconst 0, 1) := by decide +kernel
theorem dX8_secret_2 : decode cX8_secret 2 = .ok (.bipush 60, 2) := by decide +kernel
theorem dX8_secret_4 : decode cX8_secret 4 = .ok (.invokestatic 69, 3) := by decide +kernel
theorem dX8_secret_7 : decode cX8_secret 7 = .ok (.ifCond .eq 13, 3) := by decide +kernel
theorem dX8_secret_10 : decode cX8_secret 10 = .ok (.iload_n 2, 1) := by decide +kernel
theorem dX8_secret_11 : decode cX8_secret 11 = .ok (.iconst 0, 1) := by decide +kernel
theorem dX8_secret_12 : decode cX8_secret 12 = .ok (.bipush 100, 2) := by decide +kernel
theorem dX8_secret_14 : decode cX8_secret 14 = .ok (.invokestatic 69, 3) := by decide +kernel
theorem dX8_secret_17 : decode cX8_secret 17 = .ok (.ifCond .ne 6, 3) := by decide +kernel
theorem dX8_secret_20 : decode cX8_secret 20 = .ok (.ldc 73, 2) := by decide +kernel
theorem dX8_secret_22 : decode cX8_secret 22 = .ok (.ireturn, 1) := by decide +kernel
theorem dX8_secret_23 : decode cX8_secret 23 = .ok (.ldc 248, 2) := by decide +kernel
theorem dX8_secret_25 : decode cX8_secret 25 = .ok (.istore_n 3, 1) := by decide +kernel
theorem dX8_secret_26 : decode cX8_secret 26 = .ok (.iconst 0, 1) := by decide +kernel
theorem dX8_secret_27 : decode cX8_secret 27 = .ok (.istore 4, 2) := by decide +kernel
theorem dX8_secret_29 : decode cX8_secret 29 = .ok (.iload 4, 2) := by decide +kernel
theorem dX8_secret_31 : decode cX8_secret 31 = .ok (.iload_n 1, 1) := by decide +kernel
theorem dX8_secret_32 : decode cX8_secret 32 = .ok (.if_icmp .ge 19, 3) := by decide +kernel
theorem dX8_secret_35 : decode cX8_secret 35 = .ok (.iload_n 3, 1) := by decide +kernel
theorem dX8_secret_36 : decode cX8_secret 36 = .ok (.bipush 100, 2) := by decide +kernel
theorem dX8_secret_38 : decode cX8_secret 38 = .ok (.iload_n 2, 1) := by decide +kernel
theorem dX8_secret_39 : decode cX8_secret 39 = .ok (.isub, 1) := by decide +kernel
theorem dX8_secret_40 : decode cX8_secret 40 = .ok (.imul, 1) := by decide +kernel
theorem dX8_secret_41 : decode cX8_secret 41 = .ok (.bipush 100, 2) := by decide +kernel
theorem dX8_secret_43 : decode cX8_secret 43 = .ok (.idiv, 1) := by decide +kernel
theorem dX8_secret_44 : decode cX8_secret 44 = .ok (.istore_n 3, 1) := by decide +kernel
theorem dX8_secret_45 : decode cX8_secret 45 = .ok (.iinc 4 1, 3) := by decide +kernel
theorem dX8_secret_48 : decode cX8_secret 48 = .ok (.goto (-19), 3) := by decide +kernel
theorem dX8_secret_51 : decode cX8_secret 51 = .ok (.iload_n 3, 1) := by decide +kernel
theorem dX8_secret_52 : decode cX8_secret 52 = .ok (.ireturn, 1) := by decide +kernel
theorem dX8_hear_0 : decode cX8_hear 0 = .ok (.iload_n 1, 1) := by decide +kernel
theorem dX8_hear_1 : decode cX8_hear 1 = .ok (.iconst 0, 1) := by decide +kernel
theorem dX8_hear_2 : decode cX8_hear 2 = .ok (.bipush 59, 2) := by decide +kernel
theorem dX8_hear_4 : decode cX8_hear 4 = .ok (.invokestatic 69, 3) := by decide +kernel
theorem dX8_hear_7 : decode cX8_hear 7 = .ok (.ifCond .ne 6, 3) := by decide +kernel
theorem dX8_hear_10 : decode cX8_hear 10 = .ok (.ldc 73, 2) := by decide +kernel
theorem dX8_hear_12 : decode cX8_hear 12 = .ok (.ireturn, 1) := by decide +kernel
theorem dX8_hear_13 : decode cX8_hear 13 = .ok (.aload_n 0, 1) := by decide +kernel
theorem dX8_hear_14 : decode cX8_hear 14 = .ok (.getfield 23, 3) := by decide +kernel
theorem dX8_hear_17 : decode cX8_hear 17 = .ok (.invokevirtual 198, 3) := by decide +kernel
theorem dX8_hear_20 : decode cX8_hear 20 = .ok (.ifCond .ne 6, 3) := by decide +kernel
theorem dX8_hear_23 : decode cX8_hear 23 = .ok (.ldc 197, 2) := by decide +kernel
theorem dX8_hear_25 : decode cX8_hear 25 = .ok (.ireturn, 1) := by decide +kernel
theorem dX8_hear_26 : decode cX8_hear 26 = .ok (.aload_n 0, 1) := by decide +kernel
theorem dX8_hear_27 : decode cX8_hear 27 = .ok (.getfield 44, 3) := by decide +kernel
theorem dX8_hear_30 : decode cX8_hear 30 = .ok (.iload_n 1, 1) := by decide +kernel
theorem dX8_hear_31 : decode cX8_hear 31 = .ok (.iload_n 2, 1) := by decide +kernel
theorem dX8_hear_32 : decode cX8_hear 32 = .ok (.invokevirtual 249, 3) := by decide +kernel
theorem dX8_hear_35 : decode cX8_hear 35 = .ok (.ifCond .eq 13, 3) := by decide +kernel
theorem dX8_hear_38 : decode cX8_hear 38 = .ok (.aload_n 0, 1) := by decide +kernel
theorem dX8_hear_39 : decode cX8_hear 39 = .ok (.getfield 44, 3) := by decide +kernel
theorem dX8_hear_42 : decode cX8_hear 42 = .ok (.getfield 140, 3) := by decide +kernel
theorem dX8_hear_45 : decode cX8_hear 45 = .ok (.goto 5, 3) := by decide +kernel
theorem dX8_hear_48 : decode cX8_hear 48 = .ok (.ldc 81, 2) := by decide +kernel
theorem dX8_hear_50 : decode cX8_hear 50 = .ok (.ireturn, 1) := by decide +kernel
theorem dX8_paid_0 : decode cX8_paid 0 = .ok (.aload_n 0, 1) := by decide +kernel
theorem dX8_paid_1 : decode cX8_paid 1 = .ok (.getfield 23, 3) := by decide +kernel
theorem dX8_paid_4 : decode cX8_paid 4 = .ok (.invokevirtual 198, 3) := by decide +kernel
theorem dX8_paid_7 : decode cX8_paid 7 = .ok (.ifCond .eq 20, 3) := by decide +kernel
theorem dX8_paid_10 : decode cX8_paid 10 = .ok (.aload_n 0, 1) := by decide +kernel
theorem dX8_paid_11 : decode cX8_paid 11 = .ok (.getfield 44, 3) := by decide +kernel
theorem dX8_paid_14 : decode cX8_paid 14 = .ok (.aload_n 0, 1) := by decide +kernel
theorem dX8_paid_15 : decode cX8_paid 15 = .ok (.getfield 23, 3) := by decide +kernel
theorem dX8_paid_18 : decode cX8_paid 18 = .ok (.getfield 108, 3) := by decide +kernel
theorem dX8_paid_21 : decode cX8_paid 21 = .ok (.invokevirtual 252, 3) := by decide +kernel
theorem dX8_paid_24 : decode cX8_paid 24 = .ok (.goto 5, 3) := by decide +kernel
theorem dX8_paid_27 : decode cX8_paid 27 = .ok (.ldc 197, 2) := by decide +kernel
theorem dX8_paid_29 : decode cX8_paid 29 = .ok (.ireturn, 1) := by decide +kernel
theorem dX8_ask_0 : decode cX8_ask 0 = .ok (.aload_n 0, 1) := by decide +kernel
theorem dX8_ask_1 : decode cX8_ask 1 = .ok (.getfield 23, 3) := by decide +kernel
theorem dX8_ask_4 : decode cX8_ask 4 = .ok (.invokevirtual 198, 3) := by decide +kernel
theorem dX8_ask_7 : decode cX8_ask 7 = .ok (.ifCond .eq 20, 3) := by decide +kernel
theorem dX8_ask_10 : decode cX8_ask 10 = .ok (.aload_n 0, 1) := by decide +kernel
theorem dX8_ask_11 : decode cX8_ask 11 = .ok (.getfield 44, 3) := by decide +kernel
theorem dX8_ask_14 : decode cX8_ask 14 = .ok (.aload_n 0, 1) := by decide +kernel
theorem dX8_ask_15 : decode cX8_ask 15 = .ok (.getfield 23, 3) := by decide +kernel
theorem dX8_ask_18 : decode cX8_ask 18 = .ok (.getfield 108, 3) := by decide +kernel
theorem dX8_ask_21 : decode cX8_ask 21 = .ok (.invokevirtual 255, 3) := by decide +kernel
theorem dX8_ask_24 : decode cX8_ask 24 = .ok (.goto 5, 3) := by decide +kernel
theorem dX8_ask_27 : decode cX8_ask 27 = .ok (.ldc 197, 2) := by decide +kernel
theorem dX8_ask_29 : decode cX8_ask 29 = .ok (.ireturn, 1) := by decide +kernel
theorem dX8_write_0 : decode cX8_write 0 = .ok (.aload_n 0, 1) := by decide +kernel
theorem dX8_write_1 : decode cX8_write 1 = .ok (.getfield 23, 3) := by decide +kernel
theorem dX8_write_4 : decode cX8_write 4 = .ok (.iload_n 1, 1) := by decide +kernel
theorem dX8_write_5 : decode cX8_write 5 = .ok (.invokevirtual 206, 3) := by decide +kernel
theorem dX8_write_8 : decode cX8_write 8 = .ok (.ifCond .ne 6, 3) := by decide +kernel
theorem dX8_write_11 : decode cX8_write 11 = .ok (.ldc 150, 2) := by decide +kernel
theorem dX8_write_13 : decode cX8_write 13 = .ok (.ireturn, 1) := by decide +kernel
theorem dX8_write_14 : decode cX8_write 14 = .ok (.aload_n 0, 1) := by decide +kernel
theorem dX8_write_15 : decode cX8_write 15 = .ok (.getfield 51, 3) := by decide +kernel
theorem dX8_write_18 : decode cX8_write 18 = .ok (.iload_n 1, 1) := by decide +kernel
theorem dX8_write_19 : decode cX8_write 19 = .ok (.invokevirtual 258, 3) := by decide +kernel
theorem dX8_write_22 : decode cX8_write 22 = .ok (.ifCond .eq 13, 3) := by decide +kernel
theorem dX8_write_25 : decode cX8_write 25 = .ok (.aload_n 0, 1) := by decide +kernel
theorem dX8_write_26 : decode cX8_write 26 = .ok (.getfield 51, 3) := by decide +kernel
theorem dX8_write_29 : decode cX8_write 29 = .ok (.getfield 141, 3) := by decide +kernel
theorem dX8_write_32 : decode cX8_write 32 = .ok (.goto 5, 3) := by decide +kernel
theorem dX8_write_35 : decode cX8_write 35 = .ok (.ldc 81, 2) := by decide +kernel
theorem dX8_write_37 : decode cX8_write 37 = .ok (.ireturn, 1) := by decide +kernel
theorem dX8_tear_0 : decode cX8_tear 0 = .ok (.aload_n 0, 1) := by decide +kernel
theorem dX8_tear_1 : decode cX8_tear 1 = .ok (.getfield 44, 3) := by decide +kernel
theorem dX8_tear_4 : decode cX8_tear 4 = .ok (.getfield 140, 3) := by decide +kernel
theorem dX8_tear_7 : decode cX8_tear 7 = .ok (.aload_n 0, 1) := by decide +kernel
theorem dX8_tear_8 : decode cX8_tear 8 = .ok (.getfield 51, 3) := by decide +kernel
theorem dX8_tear_11 : decode cX8_tear 11 = .ok (.getfield 141, 3) := by decide +kernel
theorem dX8_tear_14 : decode cX8_tear 14 = .ok (.iadd, 1) := by decide +kernel
theorem dX8_tear_15 : decode cX8_tear 15 = .ok (.istore_n 1, 1) := by decide +kernel
theorem dX8_tear_16 : decode cX8_tear 16 = .ok (.aload_n 0, 1) := by decide +kernel
theorem dX8_tear_17 : decode cX8_tear 17 = .ok (.getfield 44, 3) := by decide +kernel
theorem dX8_tear_20 : decode cX8_tear 20 = .ok (.iconst 0, 1) := by decide +kernel
theorem dX8_tear_21 : decode cX8_tear 21 = .ok (.putfield 140, 3) := by decide +kernel
theorem dX8_tear_24 : decode cX8_tear 24 = .ok (.aload_n 0, 1) := by decide +kernel
theorem dX8_tear_25 : decode cX8_tear 25 = .ok (.getfield 51, 3) := by decide +kernel
theorem dX8_tear_28 : decode cX8_tear 28 = .ok (.iconst 0, 1) := by decide +kernel
theorem dX8_tear_29 : decode cX8_tear 29 = .ok (.putfield 141, 3) := by decide +kernel
theorem dX8_tear_32 : decode cX8_tear 32 = .ok (.iload_n 1, 1) := by decide +kernel
theorem dX8_tear_33 : decode cX8_tear 33 = .ok (.ireturn, 1) := by decide +kernel
theorem dX8_judge_0 : decode cX8_judge 0 = .ok (.aload_n 0, 1) := by decide +kernel
theorem dX8_judge_1 : decode cX8_judge 1 = .ok (.getfield 51, 3) := by decide +kernel
theorem dX8_judge_4 : decode cX8_judge 4 = .ok (.aload_n 0, 1) := by decide +kernel
theorem dX8_judge_5 : decode cX8_judge 5 = .ok (.invokevirtual 127, 3) := by decide +kernel
theorem dX8_judge_8 : decode cX8_judge 8 = .ok (.invokevirtual 259, 3) := by decide +kernel
theorem dX8_judge_11 : decode cX8_judge 11 = .ok (.ireturn, 1) := by decide +kernel
theorem dX8_seed_0 : decode cX8_seed 0 = .ok (.iload_n 1, 1) := by decide +kernel
theorem dX8_seed_1 : decode cX8_seed 1 = .ok (.ifCond .ge 6, 3) := by decide +kernel
theorem dX8_seed_4 : decode cX8_seed 4 = .ok (.ldc 73, 2) := by decide +kernel
theorem dX8_seed_6 : decode cX8_seed 6 = .ok (.ireturn, 1) := by decide +kernel
theorem dX8_seed_7 : decode cX8_seed 7 = .ok (.aload_n 0, 1) := by decide +kernel
theorem dX8_seed_8 : decode cX8_seed 8 = .ok (.getfield 58, 3) := by decide +kernel
theorem dX8_seed_11 : decode cX8_seed 11 = .ok (.getfield 262, 3) := by decide +kernel
theorem dX8_seed_14 : decode cX8_seed 14 = .ok (.istore_n 2, 1) := by decide +kernel
theorem dX8_seed_15 : decode cX8_seed 15 = .ok (.aload_n 0, 1) := by decide +kernel
theorem dX8_seed_16 : decode cX8_seed 16 = .ok (.getfield 58, 3) := by decide +kernel
theorem dX8_seed_19 : decode cX8_seed 19 = .ok (.iload_n 1, 1) := by decide +kernel
theorem dX8_seed_20 : decode cX8_seed 20 = .ok (.putfield 262, 3) := by decide +kernel
theorem dX8_seed_23 : decode cX8_seed 23 = .ok (.iload_n 2, 1) := by decide +kernel
theorem dX8_seed_24 : decode cX8_seed 24 = .ok (.ireturn, 1) := by decide +kernel
theorem dX8_keep_0 : decode cX8_keep 0 = .ok (.iload_n 1, 1) := by decide +kernel
theorem dX8_keep_1 : decode cX8_keep 1 = .ok (.iconst 0, 1) := by decide +kernel
theorem dX8_keep_2 : decode cX8_keep 2 = .ok (.iconst 1, 1) := by decide +kernel
theorem dX8_keep_3 : decode cX8_keep 3 = .ok (.invokestatic 69, 3) := by decide +kernel
theorem dX8_keep_6 : decode cX8_keep 6 = .ok (.ifCond .ne 6, 3) := by decide +kernel
theorem dX8_keep_9 : decode cX8_keep 9 = .ok (.ldc 150, 2) := by decide +kernel
theorem dX8_keep_11 : decode cX8_keep 11 = .ok (.ireturn, 1) := by decide +kernel
theorem dX8_keep_12 : decode cX8_keep 12 = .ok (.aload_n 0, 1) := by decide +kernel
theorem dX8_keep_13 : decode cX8_keep 13 = .ok (.getfield 64, 3) := by decide +kernel
theorem dX8_keep_16 : decode cX8_keep 16 = .ok (.iload_n 1, 1) := by decide +kernel
theorem dX8_keep_17 : decode cX8_keep 17 = .ok (.aaload, 1) := by decide +kernel
theorem dX8_keep_18 : decode cX8_keep 18 = .ok (.iconst 1, 1) := by decide +kernel
theorem dX8_keep_19 : decode cX8_keep 19 = .ok (.putfield 265, 3) := by decide +kernel
theorem dX8_keep_22 : decode cX8_keep 22 = .ok (.aload_n 0, 1) := by decide +kernel
theorem dX8_keep_23 : decode cX8_keep 23 = .ok (.getfield 64, 3) := by decide +kernel
theorem dX8_keep_26 : decode cX8_keep 26 = .ok (.iload_n 1, 1) := by decide +kernel
theorem dX8_keep_27 : decode cX8_keep 27 = .ok (.aaload, 1) := by decide +kernel
theorem dX8_keep_28 : decode cX8_keep 28 = .ok (.getfield 268, 3) := by decide +kernel
theorem dX8_keep_31 : decode cX8_keep 31 = .ok (.aload_n 0, 1) := by decide +kernel
theorem dX8_keep_32 : decode cX8_keep 32 = .ok (.getfield 30, 3) := by decide +kernel
theorem dX8_keep_35 : decode cX8_keep 35 = .ok (.invokevirtual 271, 3) := by decide +kernel
theorem dX8_keep_38 : decode cX8_keep 38 = .ok (.aload_n 0, 1) := by decide +kernel
theorem dX8_keep_39 : decode cX8_keep 39 = .ok (.getfield 64, 3) := by decide +kernel
theorem dX8_keep_42 : decode cX8_keep 42 = .ok (.iload_n 1, 1) := by decide +kernel
theorem dX8_keep_43 : decode cX8_keep 43 = .ok (.aaload, 1) := by decide +kernel
theorem dX8_keep_44 : decode cX8_keep 44 = .ok (.aload_n 0, 1) := by decide +kernel
theorem dX8_keep_45 : decode cX8_keep 45 = .ok (.getfield 58, 3) := by decide +kernel
theorem dX8_keep_48 : decode cX8_keep 48 = .ok (.getfield 262, 3) := by decide +kernel
theorem dX8_keep_51 : decode cX8_keep 51 = .ok (.putfield 274, 3) := by decide +kernel
theorem dX8_keep_54 : decode cX8_keep 54 = .ok (.aload_n 0, 1) := by decide +kernel
theorem dX8_keep_55 : decode cX8_keep 55 = .ok (.getfield 37, 3) := by decide +kernel
theorem dX8_keep_58 : decode cX8_keep 58 = .ok (.invokevirtual 277, 3) := by decide +kernel
theorem dX8_keep_61 : decode cX8_keep 61 = .ok (.iconst 1, 1) := by decide +kernel
theorem dX8_keep_62 : decode cX8_keep 62 = .ok (.ireturn, 1) := by decide +kernel
theorem dX8_goBack_0 : decode cX8_goBack 0 = .ok (.iload_n 1, 1) := by decide +kernel
theorem dX8_goBack_1 : decode cX8_goBack 1 = .ok (.iconst 0, 1) := by decide +kernel
theorem dX8_goBack_2 : decode cX8_goBack 2 = .ok (.iconst 1, 1) := by decide +kernel
theorem dX8_goBack_3 : decode cX8_goBack 3 = .ok (.invokestatic 69, 3) := by decide +kernel
theorem dX8_goBack_6 : decode cX8_goBack 6 = .ok (.ifCond .ne 6, 3) := by decide +kernel
theorem dX8_goBack_9 : decode cX8_goBack 9 = .ok (.ldc 150, 2) := by decide +kernel
theorem dX8_goBack_11 : decode cX8_goBack 11 = .ok (.ireturn, 1) := by decide +kernel
theorem dX8_goBack_12 : decode cX8_goBack 12 = .ok (.aload_n 0, 1) := by decide +kernel
theorem dX8_goBack_13 : decode cX8_goBack 13 = .ok (.getfield 64, 3) := by decide +kernel
theorem dX8_goBack_16 : decode cX8_goBack 16 = .ok (.iload_n 1, 1) := by decide +kernel
theorem dX8_goBack_17 : decode cX8_goBack 17 = .ok (.aaload, 1) := by decide +kernel
theorem dX8_goBack_18 : decode cX8_goBack 18 = .ok (.getfield 265, 3) := by decide +kernel
theorem dX8_goBack_21 : decode cX8_goBack 21 = .ok (.ifCond .ne 6, 3) := by decide +kernel
theorem dX8_goBack_24 : decode cX8_goBack 24 = .ok (.ldc 197, 2) := by decide +kernel
theorem dX8_goBack_26 : decode cX8_goBack 26 = .ok (.ireturn, 1) := by decide +kernel
theorem dX8_goBack_27 : decode cX8_goBack 27 = .ok (.aload_n 0, 1) := by decide +kernel
theorem dX8_goBack_28 : decode cX8_goBack 28 = .ok (.getfield 30, 3) := by decide +kernel
theorem dX8_goBack_31 : decode cX8_goBack 31 = .ok (.aload_n 0, 1) := by decide +kernel
theorem dX8_goBack_32 : decode cX8_goBack 32 = .ok (.getfield 64, 3) := by decide +kernel
theorem dX8_goBack_35 : decode cX8_goBack 35 = .ok (.iload_n 1, 1) := by decide +kernel
theorem dX8_goBack_36 : decode cX8_goBack 36 = .ok (.aaload, 1) := by decide +kernel
theorem dX8_goBack_37 : decode cX8_goBack 37 = .ok (.getfield 268, 3) := by decide +kernel
theorem dX8_goBack_40 : decode cX8_goBack 40 = .ok (.invokevirtual 271, 3) := by decide +kernel
theorem dX8_goBack_43 : decode cX8_goBack 43 = .ok (.aload_n 0, 1) := by decide +kernel
theorem dX8_goBack_44 : decode cX8_goBack 44 = .ok (.getfield 58, 3) := by decide +kernel
theorem dX8_goBack_47 : decode cX8_goBack 47 = .ok (.aload_n 0, 1) := by decide +kernel
theorem dX8_goBack_48 : decode cX8_goBack 48 = .ok (.getfield 64, 3) := by decide +kernel
theorem dX8_goBack_51 : decode cX8_goBack 51 = .ok (.iload_n 1, 1) := by decide +kernel
theorem dX8_goBack_52 : decode cX8_goBack 52 = .ok (.aaload, 1) := by decide +kernel
theorem dX8_goBack_53 : decode cX8_goBack 53 = .ok (.getfield 274, 3) := by decide +kernel
theorem dX8_goBack_56 : decode cX8_goBack 56 = .ok (.putfield 262, 3) := by decide +kernel
theorem dX8_goBack_59 : decode cX8_goBack 59 = .ok (.aload_n 0, 1) := by decide +kernel
theorem dX8_goBack_60 : decode cX8_goBack 60 = .ok (.getfield 37, 3) := by decide +kernel
theorem dX8_goBack_63 : decode cX8_goBack 63 = .ok (.invokevirtual 277, 3) := by decide +kernel
theorem dX8_goBack_66 : decode cX8_goBack 66 = .ok (.iconst 1, 1) := by decide +kernel
theorem dX8_goBack_67 : decode cX8_goBack 67 = .ok (.ireturn, 1) := by decide +kernel
theorem dX8_within_0 : decode cX8_within 0 = .ok (.iload_n 0, 1) := by decide +kernel
theorem dX8_within_1 : decode cX8_within 1 = .ok (.iload_n 1, 1) := by decide +kernel
theorem dX8_within_2 : decode cX8_within 2 = .ok (.if_icmp .lt 12, 3) := by decide +kernel
theorem dX8_within_5 : decode cX8_within 5 = .ok (.iload_n 0, 1) := by decide +kernel
theorem dX8_within_6 : decode cX8_within 6 = .ok (.iload_n 2, 1) := by decide +kernel
theorem dX8_within_7 : decode cX8_within 7 = .ok (.if_icmp .gt 7, 3) := by decide +kernel
theorem dX8_within_10 : decode cX8_within 10 = .ok (.iconst 1, 1) := by decide +kernel
theorem dX8_within_11 : decode cX8_within 11 = .ok (.goto 4, 3) := by decide +kernel
theorem dX8_within_14 : decode cX8_within 14 = .ok (.iconst 0, 1) := by decide +kernel
theorem dX8_within_15 : decode cX8_within 15 = .ok (.ireturn, 1) := by decide +kernel
theorem dX8_has_0 : decode cX8_has 0 = .ok (.iload_n 0, 1) := by decide +kernel
theorem dX8_has_1 : decode cX8_has 1 = .ok (.iload_n 1, 1) := by decide +kernel
theorem dX8_has_2 : decode cX8_has 2 = .ok (.ishr, 1) := by decide +kernel
theorem dX8_has_3 : decode cX8_has 3 = .ok (.iconst 1, 1) := by decide +kernel
theorem dX8_has_4 : decode cX8_has 4 = .ok (.iand, 1) := by decide +kernel
theorem dX8_has_5 : decode cX8_has 5 = .ok (.iconst 1, 1) := by decide +kernel
theorem dX8_has_6 : decode cX8_has 6 = .ok (.if_icmp .ne 7, 3) := by decide +kernel
theorem dX8_has_9 : decode cX8_has 9 = .ok (.iconst 1, 1) := by decide +kernel
theorem dX8_has_10 : decode cX8_has 10 = .ok (.goto 4, 3) := by decide +kernel
theorem dX8_has_13 : decode cX8_has 13 = .ok (.iconst 0, 1) := by decide +kernel
theorem dX8_has_14 : decode cX8_has 14 = .ok (.ireturn, 1) := by decide +kernel
theorem dX8_beginAnew_0 : decode cX8_beginAnew 0 = .ok (.aload_n 0, 1) := by decide +kernel
theorem dX8_beginAnew_1 : decode cX8_beginAnew 1 = .ok (.getfield 30, 3) := by decide +kernel
theorem dX8_beginAnew_4 : decode cX8_beginAnew 4 = .ok (.aload_n 0, 1) := by decide +kernel
theorem dX8_beginAnew_5 : decode cX8_beginAnew 5 = .ok (.getfield 23, 3) := by decide +kernel
theorem dX8_beginAnew_8 : decode cX8_beginAnew 8 = .ok (.invokevirtual 280, 3) := by decide +kernel
theorem dX8_beginAnew_11 : decode cX8_beginAnew 11 = .ok (.aload_n 0, 1) := by decide +kernel
theorem dX8_beginAnew_12 : decode cX8_beginAnew 12 = .ok (.getfield 37, 3) := by decide +kernel
theorem dX8_beginAnew_15 : decode cX8_beginAnew 15 = .ok (.invokevirtual 277, 3) := by decide +kernel
theorem dX8_beginAnew_18 : decode cX8_beginAnew 18 = .ok (.aload_n 0, 1) := by decide +kernel
theorem dX8_beginAnew_19 : decode cX8_beginAnew 19 = .ok (.getfield 44, 3) := by decide +kernel
theorem dX8_beginAnew_22 : decode cX8_beginAnew 22 = .ok (.iconst 0, 1) := by decide +kernel
theorem dX8_beginAnew_23 : decode cX8_beginAnew 23 = .ok (.putfield 140, 3) := by decide +kernel
theorem dX8_beginAnew_26 : decode cX8_beginAnew 26 = .ok (.aload_n 0, 1) := by decide +kernel
theorem dX8_beginAnew_27 : decode cX8_beginAnew 27 = .ok (.getfield 51, 3) := by decide +kernel
theorem dX8_beginAnew_30 : decode cX8_beginAnew 30 = .ok (.iconst 0, 1) := by decide +kernel
theorem dX8_beginAnew_31 : decode cX8_beginAnew 31 = .ok (.putfield 141, 3) := by decide +kernel
theorem dX8_beginAnew_34 : decode cX8_beginAnew 34 = .ok (.iconst 0, 1) := by decide +kernel
theorem dX8_beginAnew_35 : decode cX8_beginAnew 35 = .ok (.istore_n 1, 1) := by decide +kernel
theorem dX8_beginAnew_36 : decode cX8_beginAnew 36 = .ok (.iload_n 1, 1) := by decide +kernel
theorem dX8_beginAnew_37 : decode cX8_beginAnew 37 = .ok (.iconst 2, 1) := by decide +kernel
theorem dX8_beginAnew_38 : decode cX8_beginAnew 38 = .ok (.if_icmp .ge 19, 3) := by decide +kernel
theorem dX8_beginAnew_41 : decode cX8_beginAnew 41 = .ok (.aload_n 0, 1) := by decide +kernel
theorem dX8_beginAnew_42 : decode cX8_beginAnew 42 = .ok (.getfield 64, 3) := by decide +kernel
theorem dX8_beginAnew_45 : decode cX8_beginAnew 45 = .ok (.iload_n 1, 1) := by decide +kernel
theorem dX8_beginAnew_46 : decode cX8_beginAnew 46 = .ok (.aaload, 1) := by decide +kernel
theorem dX8_beginAnew_47 : decode cX8_beginAnew 47 = .ok (.iconst 0, 1) := by decide +kernel
theorem dX8_beginAnew_48 : decode cX8_beginAnew 48 = .ok (.putfield 265, 3) := by decide +kernel
theorem dX8_beginAnew_51 : decode cX8_beginAnew 51 = .ok (.iinc 1 1, 3) := by decide +kernel
theorem dX8_beginAnew_54 : decode cX8_beginAnew 54 = .ok (.goto (-18), 3) := by decide +kernel
theorem dX8_beginAnew_57 : decode cX8_beginAnew 57 = .ok (.return_, 1) := by decide +kernel
theorem dX8_waysLeft_0 : decode cX8_waysLeft 0 = .ok (.aload_n 0, 1) := by decide +kernel
theorem dX8_waysLeft_1 : decode cX8_waysLeft 1 = .ok (.getfield 23, 3) := by decide +kernel
theorem dX8_waysLeft_4 : decode cX8_waysLeft 4 = .ok (.aload_n 0, 1) := by decide +kernel
theorem dX8_waysLeft_5 : decode cX8_waysLeft 5 = .ok (.getfield 30, 3) := by decide +kernel
theorem dX8_waysLeft_8 : decode cX8_waysLeft 8 = .ok (.getfield 124, 3) := by decide +kernel
theorem dX8_waysLeft_11 : decode cX8_waysLeft 11 = .ok (.invokevirtual 283, 3) := by decide +kernel
theorem dX8_waysLeft_14 : decode cX8_waysLeft 14 = .ok (.ireturn, 1) := by decide +kernel
theorem dX8_spent_0 : decode cX8_spent 0 = .ok (.aload_n 0, 1) := by decide +kernel
theorem dX8_spent_1 : decode cX8_spent 1 = .ok (.getfield 23, 3) := by decide +kernel
theorem dX8_spent_4 : decode cX8_spent 4 = .ok (.aload_n 0, 1) := by decide +kernel
theorem dX8_spent_5 : decode cX8_spent 5 = .ok (.getfield 30, 3) := by decide +kernel
theorem dX8_spent_8 : decode cX8_spent 8 = .ok (.getfield 124, 3) := by decide +kernel
theorem dX8_spent_11 : decode cX8_spent 11 = .ok (.invokevirtual 286, 3) := by decide +kernel
theorem dX8_spent_14 : decode cX8_spent 14 = .ok (.istore_n 1, 1) := by decide +kernel
theorem dX8_spent_15 : decode cX8_spent 15 = .ok (.iconst 0, 1) := by decide +kernel
theorem dX8_spent_16 : decode cX8_spent 16 = .ok (.istore_n 2, 1) := by decide +kernel
theorem dX8_spent_17 : decode cX8_spent 17 = .ok (.iload_n 2, 1) := by decide +kernel
theorem dX8_spent_18 : decode cX8_spent 18 = .ok (.aload_n 0, 1) := by decide +kernel
theorem dX8_spent_19 : decode cX8_spent 19 = .ok (.getfield 23, 3) := by decide +kernel
theorem dX8_spent_22 : decode cX8_spent 22 = .ok (.getfield 102, 3) := by decide +kernel
theorem dX8_spent_25 : decode cX8_spent 25 = .ok (.if_icmp .ge 21, 3) := by decide +kernel
theorem dX8_spent_28 : decode cX8_spent 28 = .ok (.iload_n 1, 1) := by decide +kernel
theorem dX8_spent_29 : decode cX8_spent 29 = .ok (.aload_n 0, 1) := by decide +kernel
theorem dX8_spent_30 : decode cX8_spent 30 = .ok (.getfield 30, 3) := by decide +kernel
theorem dX8_spent_33 : decode cX8_spent 33 = .ok (.getfield 176, 3) := by decide +kernel
theorem dX8_spent_36 : decode cX8_spent 36 = .ok (.iload_n 2, 1) := by decide +kernel
theorem dX8_spent_37 : decode cX8_spent 37 = .ok (.iaload, 1) := by decide +kernel
theorem dX8_spent_38 : decode cX8_spent 38 = .ok (.iadd, 1) := by decide +kernel
theorem dX8_spent_39 : decode cX8_spent 39 = .ok (.istore_n 1, 1) := by decide +kernel
theorem dX8_spent_40 : decode cX8_spent 40 = .ok (.iinc 2 1, 3) := by decide +kernel
theorem dX8_spent_43 : decode cX8_spent 43 = .ok (.goto (-26), 3) := by decide +kernel
theorem dX8_spent_46 : decode cX8_spent 46 = .ok (.iload_n 1, 1) := by decide +kernel
theorem dX8_spent_47 : decode cX8_spent 47 = .ok (.ldc_w 289, 3) := by decide +kernel
theorem dX8_spent_50 : decode cX8_spent 50 = .ok (.invokestatic 290, 3) := by decide +kernel
theorem dX8_spent_53 : decode cX8_spent 53 = .ok (.ireturn, 1) := by decide +kernel
theorem dX8_refusalOfDays_0 : decode cX8_refusalOfDays 0 = .ok (.iload_n 1, 1) := by decide +kernel
theorem dX8_refusalOfDays_1 : decode cX8_refusalOfDays 1 = .ok (.iconst 1, 1) := by decide +kernel
theorem dX8_refusalOfDays_2 : decode cX8_refusalOfDays 2 = .ok (.bipush 60, 2) := by decide +kernel
theorem dX8_refusalOfDays_4 : decode cX8_refusalOfDays 4 = .ok (.invokestatic 69, 3) := by decide +kernel
theorem dX8_refusalOfDays_7 : decode cX8_refusalOfDays 7 = .ok (.ifCond .ne 6, 3) := by decide +kernel
theorem dX8_refusalOfDays_10 : decode cX8_refusalOfDays 10 = .ok (.ldc 73, 2) := by decide +kernel
theorem dX8_refusalOfDays_12 : decode cX8_refusalOfDays 12 = .ok (.ireturn, 1) := by decide +kernel
theorem dX8_refusalOfDays_13 : decode cX8_refusalOfDays 13 = .ok (.aload_n 0, 1) := by decide +kernel
theorem dX8_refusalOfDays_14 : decode cX8_refusalOfDays 14 = .ok (.getfield 23, 3) := by decide +kernel
theorem dX8_refusalOfDays_17 : decode cX8_refusalOfDays 17 = .ok (.invokevirtual 198, 3) := by decide +kernel
theorem dX8_refusalOfDays_20 : decode cX8_refusalOfDays 20 = .ok (.ifCond .ne 6, 3) := by decide +kernel
theorem dX8_refusalOfDays_23 : decode cX8_refusalOfDays 23 = .ok (.ldc 197, 2) := by decide +kernel
theorem dX8_refusalOfDays_25 : decode cX8_refusalOfDays 25 = .ok (.ireturn, 1) := by decide +kernel
theorem dX8_refusalOfDays_26 : decode cX8_refusalOfDays 26 = .ok (.aload_n 0, 1) := by decide +kernel
theorem dX8_refusalOfDays_27 : decode cX8_refusalOfDays 27 = .ok (.getfield 30, 3) := by decide +kernel
theorem dX8_refusalOfDays_30 : decode cX8_refusalOfDays 30 = .ok (.getfield 111, 3) := by decide +kernel
theorem dX8_refusalOfDays_33 : decode cX8_refusalOfDays 33 = .ok (.sipush 9000, 3) := by decide +kernel
theorem dX8_refusalOfDays_36 : decode cX8_refusalOfDays 36 = .ok (.if_icmp .le 8, 3) := by decide +kernel
theorem dX8_refusalOfDays_39 : decode cX8_refusalOfDays 39 = .ok (.ldc 81, 2) := by decide +kernel
theorem dX8_refusalOfDays_41 : decode cX8_refusalOfDays 41 = .ok (.goto 4, 3) := by decide +kernel
theorem dX8_refusalOfDays_44 : decode cX8_refusalOfDays 44 = .ok (.iconst 0, 1) := by decide +kernel
theorem dX8_refusalOfDays_45 : decode cX8_refusalOfDays 45 = .ok (.ireturn, 1) := by decide +kernel
theorem dX8_doByDraw_0 : decode cX8_doByDraw 0 = .ok (.aload_n 0, 1) := by decide +kernel
theorem dX8_doByDraw_1 : decode cX8_doByDraw 1 = .ok (.getfield 58, 3) := by decide +kernel
theorem dX8_doByDraw_4 : decode cX8_doByDraw 4 = .ok (.bipush 8, 2) := by decide +kernel
theorem dX8_doByDraw_6 : decode cX8_doByDraw 6 = .ok (.invokevirtual 295, 3) := by decide +kernel
theorem dX8_doByDraw_9 : decode cX8_doByDraw 9 = .ok (.istore_n 1, 1) := by decide +kernel
theorem dX8_doByDraw_10 : decode cX8_doByDraw 10 = .ok (.iload_n 1, 1) := by decide +kernel
theorem dX8_doByDraw_11 : decode cX8_doByDraw 11 = .ok (.ifCond .ne 61, 3) := by decide +kernel
theorem dX8_doByDraw_14 : decode cX8_doByDraw 14 = .ok (.aload_n 0, 1) := by decide +kernel
theorem dX8_doByDraw_15 : decode cX8_doByDraw 15 = .ok (.getfield 23, 3) := by decide +kernel
theorem dX8_doByDraw_18 : decode cX8_doByDraw 18 = .ok (.getfield 99, 3) := by decide +kernel
theorem dX8_doByDraw_21 : decode cX8_doByDraw 21 = .ok (.ifCond .le 51, 3) := by decide +kernel
theorem dX8_doByDraw_24 : decode cX8_doByDraw 24 = .ok (.aload_n 0, 1) := by decide +kernel
theorem dX8_doByDraw_25 : decode cX8_doByDraw 25 = .ok (.getfield 58, 3) := by decide +kernel
theorem dX8_doByDraw_28 : decode cX8_doByDraw 28 = .ok (.aload_n 0, 1) := by decide +kernel
theorem dX8_doByDraw_29 : decode cX8_doByDraw 29 = .ok (.getfield 23, 3) := by decide +kernel
theorem dX8_doByDraw_32 : decode cX8_doByDraw 32 = .ok (.getfield 99, 3) := by decide +kernel
theorem dX8_doByDraw_35 : decode cX8_doByDraw 35 = .ok (.invokevirtual 295, 3) := by decide +kernel
theorem dX8_doByDraw_38 : decode cX8_doByDraw 38 = .ok (.istore_n 2, 1) := by decide +kernel
theorem dX8_doByDraw_39 : decode cX8_doByDraw 39 = .ok (.aload_n 0, 1) := by decide +kernel
theorem dX8_doByDraw_40 : decode cX8_doByDraw 40 = .ok (.getfield 30, 3) := by decide +kernel
theorem dX8_doByDraw_43 : decode cX8_doByDraw 43 = .ok (.aload_n 0, 1) := by decide +kernel
theorem dX8_doByDraw_44 : decode cX8_doByDraw 44 = .ok (.getfield 23, 3) := by decide +kernel
theorem dX8_doByDraw_47 : decode cX8_doByDraw 47 = .ok (.iload_n 2, 1) := by decide +kernel
theorem dX8_doByDraw_48 : decode cX8_doByDraw 48 = .ok (.invokevirtual 193, 3) := by decide +kernel
theorem dX8_doByDraw_51 : decode cX8_doByDraw 51 = .ok (.ifCond .eq 18, 3) := by decide +kernel
theorem dX8_doByDraw_54 : decode cX8_doByDraw 54 = .ok (.aload_n 0, 1) := by decide +kernel
theorem dX8_doByDraw_55 : decode cX8_doByDraw 55 = .ok (.getfield 30, 3) := by decide +kernel
theorem dX8_doByDraw_58 : decode cX8_doByDraw 58 = .ok (.dup, 1) := by decide +kernel
theorem dX8_doByDraw_59 : decode cX8_doByDraw 59 = .ok (.getfield 124, 3) := by decide +kernel
theorem dX8_doByDraw_62 : decode cX8_doByDraw 62 = .ok (.iconst 1, 1) := by decide +kernel
theorem dX8_doByDraw_63 : decode cX8_doByDraw 63 = .ok (.iload_n 2, 1) := by decide +kernel
theorem dX8_doByDraw_64 : decode cX8_doByDraw 64 = .ok (.ishl, 1) := by decide +kernel
theorem dX8_doByDraw_65 : decode cX8_doByDraw 65 = .ok (.ior, 1) := by decide +kernel
theorem dX8_doByDraw_66 : decode cX8_doByDraw 66 = .ok (.putfield 124, 3) := by decide +kernel
theorem dX8_doByDraw_69 : decode cX8_doByDraw 69 = .ok (.goto 90, 3) := by decide +kernel
theorem dX8_doByDraw_72 : decode cX8_doByDraw 72 = .ok (.iload_n 1, 1) := by decide +kernel
theorem dX8_doByDraw_73 : decode cX8_doByDraw 73 = .ok (.iconst 1, 1) := by decide +kernel
theorem dX8_doByDraw_74 : decode cX8_doByDraw 74 = .ok (.if_icmp .ne 58, 3) := by decide +kernel
theorem dX8_doByDraw_77 : decode cX8_doByDraw 77 = .ok (.aload_n 0, 1) := by decide +kernel
theorem dX8_doByDraw_78 : decode cX8_doByDraw 78 = .ok (.getfield 23, 3) := by decide +kernel
theorem dX8_doByDraw_81 : decode cX8_doByDraw 81 = .ok (.getfield 102, 3) := by decide +kernel
theorem dX8_doByDraw_84 : decode cX8_doByDraw 84 = .ok (.ifCond .le 48, 3) := by decide +kernel
theorem dX8_doByDraw_87 : decode cX8_doByDraw 87 = .ok (.aload_n 0, 1) := by decide +kernel
theorem dX8_doByDraw_88 : decode cX8_doByDraw 88 = .ok (.getfield 58, 3) := by decide +kernel
theorem dX8_doByDraw_91 : decode cX8_doByDraw 91 = .ok (.aload_n 0, 1) := by decide +kernel
theorem dX8_doByDraw_92 : decode cX8_doByDraw 92 = .ok (.getfield 23, 3) := by decide +kernel
theorem dX8_doByDraw_95 : decode cX8_doByDraw 95 = .ok (.getfield 102, 3) := by decide +kernel
theorem dX8_doByDraw_98 : decode cX8_doByDraw 98 = .ok (.invokevirtual 295, 3) := by decide +kernel
theorem dX8_doByDraw_101 : decode cX8_doByDraw 101 = .ok (.istore_n 2, 1) := by decide +kernel
theorem dX8_doByDraw_102 : decode cX8_doByDraw 102 = .ok (.aload_n 0, 1) := by decide +kernel
theorem dX8_doByDraw_103 : decode cX8_doByDraw 103 = .ok (.getfield 30, 3) := by decide +kernel
theorem dX8_doByDraw_106 : decode cX8_doByDraw 106 = .ok (.iload_n 2, 1) := by decide +kernel
theorem dX8_doByDraw_107 : decode cX8_doByDraw 107 = .ok (.aload_n 0, 1) := by decide +kernel
theorem dX8_doByDraw_108 : decode cX8_doByDraw 108 = .ok (.getfield 30, 3) := by decide +kernel
theorem dX8_doByDraw_111 : decode cX8_doByDraw 111 = .ok (.getfield 134, 3) := by decide +kernel
theorem dX8_doByDraw_114 : decode cX8_doByDraw 114 = .ok (.iload_n 2, 1) := by decide +kernel
theorem dX8_doByDraw_115 : decode cX8_doByDraw 115 = .ok (.invokestatic 163, 3) := by decide +kernel
theorem dX8_doByDraw_118 : decode cX8_doByDraw 118 = .ok (.ifCond .ne 7, 3) := by decide +kernel
theorem dX8_doByDraw_121 : decode cX8_doByDraw 121 = .ok (.iconst 1, 1) := by decide +kernel
theorem dX8_doByDraw_122 : decode cX8_doByDraw 122 = .ok (.goto 4, 3) := by decide +kernel
theorem dX8_doByDraw_125 : decode cX8_doByDraw 125 = .ok (.iconst 0, 1) := by decide +kernel
theorem dX8_doByDraw_126 : decode cX8_doByDraw 126 = .ok (.invokevirtual 202, 3) := by decide +kernel
theorem dX8_doByDraw_129 : decode cX8_doByDraw 129 = .ok (.goto 30, 3) := by decide +kernel
theorem dX8_doByDraw_132 : decode cX8_doByDraw 132 = .ok (.iload_n 1, 1) := by decide +kernel
theorem dX8_doByDraw_133 : decode cX8_doByDraw 133 = .ok (.iconst 2, 1) := by decide +kernel
theorem dX8_doByDraw_134 : decode cX8_doByDraw 134 = .ok (.if_icmp .ne 25, 3) := by decide +kernel
theorem dX8_doByDraw_137 : decode cX8_doByDraw 137 = .ok (.aload_n 0, 1) := by decide +kernel
theorem dX8_doByDraw_138 : decode cX8_doByDraw 138 = .ok (.getfield 30, 3) := by decide +kernel
theorem dX8_doByDraw_141 : decode cX8_doByDraw 141 = .ok (.aload_n 0, 1) := by decide +kernel
theorem dX8_doByDraw_142 : decode cX8_doByDraw 142 = .ok (.getfield 30, 3) := by decide +kernel
theorem dX8_doByDraw_145 : decode cX8_doByDraw 145 = .ok (.getfield 121, 3) := by decide +kernel
theorem dX8_doByDraw_148 : decode cX8_doByDraw 148 = .ok (.ifCond .ne 7, 3) := by decide +kernel
theorem dX8_doByDraw_151 : decode cX8_doByDraw 151 = .ok (.iconst 1, 1) := by decide +kernel
theorem dX8_doByDraw_152 : decode cX8_doByDraw 152 = .ok (.goto 4, 3) := by decide +kernel
theorem dX8_doByDraw_155 : decode cX8_doByDraw 155 = .ok (.iconst 0, 1) := by decide +kernel
theorem dX8_doByDraw_156 : decode cX8_doByDraw 156 = .ok (.putfield 121, 3) := by decide +kernel
theorem dX8_doByDraw_159 : decode cX8_doByDraw 159 = .ok (.return_, 1) := by decide +kernel
theorem dX8_liarsBy_0 : decode cX8_liarsBy 0 = .ok (.iconst 0, 1) := by decide +kernel
theorem dX8_liarsBy_1 : decode cX8_liarsBy 1 = .ok (.istore_n 2, 1) := by decide +kernel
theorem dX8_liarsBy_2 : decode cX8_liarsBy 2 = .ok (.iconst 0, 1) := by decide +kernel
theorem dX8_liarsBy_3 : decode cX8_liarsBy 3 = .ok (.istore_n 3, 1) := by decide +kernel
theorem dX8_liarsBy_4 : decode cX8_liarsBy 4 = .ok (.iload_n 3, 1) := by decide +kernel
theorem dX8_liarsBy_5 : decode cX8_liarsBy 5 = .ok (.aload_n 0, 1) := by decide +kernel
theorem dX8_liarsBy_6 : decode cX8_liarsBy 6 = .ok (.getfield 23, 3) := by decide +kernel
theorem dX8_liarsBy_9 : decode cX8_liarsBy 9 = .ok (.getfield 102, 3) := by decide +kernel
theorem dX8_liarsBy_12 : decode cX8_liarsBy 12 = .ok (.if_icmp .ge 31, 3) := by decide +kernel
theorem dX8_liarsBy_15 : decode cX8_liarsBy 15 = .ok (.aload_n 0, 1) := by decide +kernel
theorem dX8_liarsBy_16 : decode cX8_liarsBy 16 = .ok (.getfield 30, 3) := by decide +kernel
theorem dX8_liarsBy_19 : decode cX8_liarsBy 19 = .ok (.getfield 170, 3) := by decide +kernel
theorem dX8_liarsBy_22 : decode cX8_liarsBy 22 = .ok (.iload_n 3, 1) := by decide +kernel
theorem dX8_liarsBy_23 : decode cX8_liarsBy 23 = .ok (.iaload, 1) := by decide +kernel
theorem dX8_liarsBy_24 : decode cX8_liarsBy 24 = .ok (.iload_n 1, 1) := by decide +kernel
theorem dX8_liarsBy_25 : decode cX8_liarsBy 25 = .ok (.invokestatic 163, 3) := by decide +kernel
theorem dX8_liarsBy_28 : decode cX8_liarsBy 28 = .ok (.ifCond .ne 9, 3) := by decide +kernel
theorem dX8_liarsBy_31 : decode cX8_liarsBy 31 = .ok (.iload_n 2, 1) := by decide +kernel
theorem dX8_liarsBy_32 : decode cX8_liarsBy 32 = .ok (.iconst 1, 1) := by decide +kernel
theorem dX8_liarsBy_33 : decode cX8_liarsBy 33 = .ok (.iload_n 3, 1) := by decide +kernel
theorem dX8_liarsBy_34 : decode cX8_liarsBy 34 = .ok (.ishl, 1) := by decide +kernel
theorem dX8_liarsBy_35 : decode cX8_liarsBy 35 = .ok (.ior, 1) := by decide +kernel
theorem dX8_liarsBy_36 : decode cX8_liarsBy 36 = .ok (.istore_n 2, 1) := by decide +kernel
theorem dX8_liarsBy_37 : decode cX8_liarsBy 37 = .ok (.iinc 3 1, 3) := by decide +kernel
theorem dX8_liarsBy_40 : decode cX8_liarsBy 40 = .ok (.goto (-36), 3) := by decide +kernel
theorem dX8_liarsBy_43 : decode cX8_liarsBy 43 = .ok (.iload_n 2, 1) := by decide +kernel
theorem dX8_liarsBy_44 : decode cX8_liarsBy 44 = .ok (.ireturn, 1) := by decide +kernel
theorem dX8_wayOfFewestLiars_0 : decode cX8_wayOfFewestLiars 0 = .ok (.aload_n 0, 1) := by decide +kernel
theorem dX8_wayOfFewestLiars_1 : decode cX8_wayOfFewestLiars 1 = .ok (.invokevirtual 127, 3) := by decide +kernel
theorem dX8_wayOfFewestLiars_4 : decode cX8_wayOfFewestLiars 4 = .ok (.istore_n 1, 1) := by decide +kernel
theorem dX8_wayOfFewestLiars_5 : decode cX8_wayOfFewestLiars 5 = .ok (.iconst 0, 1) := by decide +kernel
theorem dX8_wayOfFewestLiars_6 : decode cX8_wayOfFewestLiars 6 = .ok (.istore_n 2, 1) := by decide +kernel
theorem dX8_wayOfFewestLiars_7 : decode cX8_wayOfFewestLiars 7 = .ok (.bipush 6, 2) := by decide +kernel
theorem dX8_wayOfFewestLiars_9 : decode cX8_wayOfFewestLiars 9 = .ok (.istore_n 3, 1) := by decide +kernel
theorem dX8_wayOfFewestLiars_10 : decode cX8_wayOfFewestLiars 10 = .ok (.iconst 0, 1) := by decide +kernel
theorem dX8_wayOfFewestLiars_11 : decode cX8_wayOfFewestLiars 11 = .ok (.istore 4, 2) := by decide +kernel
theorem dX8_wayOfFewestLiars_13 : decode cX8_wayOfFewestLiars 13 = .ok (.iload 4, 2) := by decide +kernel
theorem dX8_wayOfFewestLiars_15 : decode cX8_wayOfFewestLiars 15 = .ok (.aload_n 0, 1) := by decide +kernel
theorem dX8_wayOfFewestLiars_16 : decode cX8_wayOfFewestLiars 16 = .ok (.getfield 23, 3) := by decide +kernel
theorem dX8_wayOfFewestLiars_19 : decode cX8_wayOfFewestLiars 19 = .ok (.getfield 96, 3) := by decide +kernel
theorem dX8_wayOfFewestLiars_22 : decode cX8_wayOfFewestLiars 22 = .ok (.if_icmp .ge 41, 3) := by decide +kernel
theorem dX8_wayOfFewestLiars_25 : decode cX8_wayOfFewestLiars 25 = .ok (.aload_n 0, 1) := by decide +kernel
theorem dX8_wayOfFewestLiars_26 : decode cX8_wayOfFewestLiars 26 = .ok (.iload 4, 2) := by decide +kernel
theorem dX8_wayOfFewestLiars_28 : decode cX8_wayOfFewestLiars 28 = .ok (.invokevirtual 223, 3) := by decide +kernel
theorem dX8_wayOfFewestLiars_31 : decode cX8_wayOfFewestLiars 31 = .ok (.invokestatic 229, 3) := by decide +kernel
theorem dX8_wayOfFewestLiars_34 : decode cX8_wayOfFewestLiars 34 = .ok (.istore 5, 2) := by decide +kernel
theorem dX8_wayOfFewestLiars_36 : decode cX8_wayOfFewestLiars 36 = .ok (.iload_n 1, 1) := by decide +kernel
theorem dX8_wayOfFewestLiars_37 : decode cX8_wayOfFewestLiars 37 = .ok (.iload 4, 2) := by decide +kernel
theorem dX8_wayOfFewestLiars_39 : decode cX8_wayOfFewestLiars 39 = .ok (.invokestatic 163, 3) := by decide +kernel
theorem dX8_wayOfFewestLiars_42 : decode cX8_wayOfFewestLiars 42 = .ok (.ifCond .eq 15, 3) := by decide +kernel
theorem dX8_wayOfFewestLiars_45 : decode cX8_wayOfFewestLiars 45 = .ok (.iload 5, 2) := by decide +kernel
theorem dX8_wayOfFewestLiars_47 : decode cX8_wayOfFewestLiars 47 = .ok (.iload_n 3, 1) := by decide +kernel
theorem dX8_wayOfFewestLiars_48 : decode cX8_wayOfFewestLiars 48 = .ok (.if_icmp .ge 9, 3) := by decide +kernel
theorem dX8_wayOfFewestLiars_51 : decode cX8_wayOfFewestLiars 51 = .ok (.iload 4, 2) := by decide +kernel
theorem dX8_wayOfFewestLiars_53 : decode cX8_wayOfFewestLiars 53 = .ok (.istore_n 2, 1) := by decide +kernel
theorem dX8_wayOfFewestLiars_54 : decode cX8_wayOfFewestLiars 54 = .ok (.iload 5, 2) := by decide +kernel
theorem dX8_wayOfFewestLiars_56 : decode cX8_wayOfFewestLiars 56 = .ok (.istore_n 3, 1) := by decide +kernel
theorem dX8_wayOfFewestLiars_57 : decode cX8_wayOfFewestLiars 57 = .ok (.iinc 4 1, 3) := by decide +kernel
theorem dX8_wayOfFewestLiars_60 : decode cX8_wayOfFewestLiars 60 = .ok (.goto (-47), 3) := by decide +kernel
theorem dX8_wayOfFewestLiars_63 : decode cX8_wayOfFewestLiars 63 = .ok (.iload_n 2, 1) := by decide +kernel
theorem dX8_wayOfFewestLiars_64 : decode cX8_wayOfFewestLiars 64 = .ok (.ireturn, 1) := by decide +kernel
theorem dX8_cheapestTests_0 : decode cX8_cheapestTests 0 = .ok (.iconst (-1), 1) := by decide +kernel
theorem dX8_cheapestTests_1 : decode cX8_cheapestTests 1 = .ok (.istore_n 3, 1) := by decide +kernel
theorem dX8_cheapestTests_2 : decode cX8_cheapestTests 2 = .ok (.iconst 0, 1) := by decide +kernel
theorem dX8_cheapestTests_3 : decode cX8_cheapestTests 3 = .ok (.istore 4, 2) := by decide +kernel
theorem dX8_cheapestTests_5 : decode cX8_cheapestTests 5 = .ok (.iconst 0, 1) := by decide +kernel
theorem dX8_cheapestTests_6 : decode cX8_cheapestTests 6 = .ok (.istore 5, 2) := by decide +kernel
theorem dX8_cheapestTests_8 : decode cX8_cheapestTests 8 = .ok (.iload 5, 2) := by decide +kernel
theorem dX8_cheapestTests_10 : decode cX8_cheapestTests 10 = .ok (.iconst 1, 1) := by decide +kernel
theorem dX8_cheapestTests_11 : decode cX8_cheapestTests 11 = .ok (.aload_n 0, 1) := by decide +kernel
theorem dX8_cheapestTests_12 : decode cX8_cheapestTests 12 = .ok (.getfield 23, 3) := by decide +kernel
theorem dX8_cheapestTests_15 : decode cX8_cheapestTests 15 = .ok (.getfield 99, 3) := by decide +kernel
theorem dX8_cheapestTests_18 : decode cX8_cheapestTests 18 = .ok (.ishl, 1) := by decide +kernel
theorem dX8_cheapestTests_19 : decode cX8_cheapestTests 19 = .ok (.if_icmp .ge 90, 3) := by decide +kernel
theorem dX8_cheapestTests_22 : decode cX8_cheapestTests 22 = .ok (.iload_n 1, 1) := by decide +kernel
theorem dX8_cheapestTests_23 : decode cX8_cheapestTests 23 = .ok (.aload_n 0, 1) := by decide +kernel
theorem dX8_cheapestTests_24 : decode cX8_cheapestTests 24 = .ok (.getfield 23, 3) := by decide +kernel
theorem dX8_cheapestTests_27 : decode cX8_cheapestTests 27 = .ok (.iload 5, 2) := by decide +kernel
theorem dX8_cheapestTests_29 : decode cX8_cheapestTests 29 = .ok (.invokevirtual 283, 3) := by decide +kernel
theorem dX8_cheapestTests_32 : decode cX8_cheapestTests 32 = .ok (.iand, 1) := by decide +kernel
theorem dX8_cheapestTests_33 : decode cX8_cheapestTests 33 = .ok (.ifCond .ne 7, 3) := by decide +kernel
theorem dX8_cheapestTests_36 : decode cX8_cheapestTests 36 = .ok (.iconst 1, 1) := by decide +kernel
theorem dX8_cheapestTests_37 : decode cX8_cheapestTests 37 = .ok (.goto 4, 3) := by decide +kernel
theorem dX8_cheapestTests_40 : decode cX8_cheapestTests 40 = .ok (.iconst 0, 1) := by decide +kernel
theorem dX8_cheapestTests_41 : decode cX8_cheapestTests 41 = .ok (.istore 6, 2) := by decide +kernel
theorem dX8_cheapestTests_43 : decode cX8_cheapestTests 43 = .ok (.aload_n 0, 1) := by decide +kernel
theorem dX8_cheapestTests_44 : decode cX8_cheapestTests 44 = .ok (.getfield 23, 3) := by decide +kernel
theorem dX8_cheapestTests_47 : decode cX8_cheapestTests 47 = .ok (.iload 5, 2) := by decide +kernel
theorem dX8_cheapestTests_49 : decode cX8_cheapestTests 49 = .ok (.invokevirtual 130, 3) := by decide +kernel
theorem dX8_cheapestTests_52 : decode cX8_cheapestTests 52 = .ok (.iload_n 2, 1) := by decide +kernel
theorem dX8_cheapestTests_53 : decode cX8_cheapestTests 53 = .ok (.iconst (-1), 1) := by decide +kernel
theorem dX8_cheapestTests_54 : decode cX8_cheapestTests 54 = .ok (.ixor, 1) := by decide +kernel
theorem dX8_cheapestTests_55 : decode cX8_cheapestTests 55 = .ok (.iand, 1) := by decide +kernel
theorem dX8_cheapestTests_56 : decode cX8_cheapestTests 56 = .ok (.ifCond .ne 7, 3) := by decide +kernel
theorem dX8_cheapestTests_59 : decode cX8_cheapestTests 59 = .ok (.iconst 1, 1) := by decide +kernel
theorem dX8_cheapestTests_60 : decode cX8_cheapestTests 60 = .ok (.goto 4, 3) := by decide +kernel
theorem dX8_cheapestTests_63 : decode cX8_cheapestTests 63 = .ok (.iconst 0, 1) := by decide +kernel
theorem dX8_cheapestTests_64 : decode cX8_cheapestTests 64 = .ok (.istore 7, 2) := by decide +kernel
theorem dX8_cheapestTests_66 : decode cX8_cheapestTests 66 = .ok (.aload_n 0, 1) := by decide +kernel
theorem dX8_cheapestTests_67 : decode cX8_cheapestTests 67 = .ok (.iload 5, 2) := by decide +kernel
theorem dX8_cheapestTests_69 : decode cX8_cheapestTests 69 = .ok (.invokevirtual 237, 3) := by decide +kernel
theorem dX8_cheapestTests_72 : decode cX8_cheapestTests 72 = .ok (.istore 8, 2) := by decide +kernel
theorem dX8_cheapestTests_74 : decode cX8_cheapestTests 74 = .ok (.iload 6, 2) := by decide +kernel
theorem dX8_cheapestTests_76 : decode cX8_cheapestTests 76 = .ok (.ifCond .eq 27, 3) := by decide +kernel
theorem dX8_cheapestTests_79 : decode cX8_cheapestTests 79 = .ok (.iload 7, 2) := by decide +kernel
theorem dX8_cheapestTests_81 : decode cX8_cheapestTests 81 = .ok (.ifCond .eq 22, 3) := by decide +kernel
theorem dX8_cheapestTests_84 : decode cX8_cheapestTests 84 = .ok (.iload_n 3, 1) := by decide +kernel
theorem dX8_cheapestTests_85 : decode cX8_cheapestTests 85 = .ok (.iconst (-1), 1) := by decide +kernel
theorem dX8_cheapestTests_86 : decode cX8_cheapestTests 86 = .ok (.if_icmp .eq 10, 3) := by decide +kernel
theorem dX8_cheapestTests_89 : decode cX8_cheapestTests 89 = .ok (.iload 8, 2) := by decide +kernel
theorem dX8_cheapestTests_91 : decode cX8_cheapestTests 91 = .ok (.iload 4, 2) := by decide +kernel
theorem dX8_cheapestTests_93 : decode cX8_cheapestTests 93 = .ok (.if_icmp .ge 10, 3) := by decide +kernel
theorem dX8_cheapestTests_96 : decode cX8_cheapestTests 96 = .ok (.iload 5, 2) := by decide +kernel
theorem dX8_cheapestTests_98 : decode cX8_cheapestTests 98 = .ok (.istore_n 3, 1) := by decide +kernel
theorem dX8_cheapestTests_99 : decode cX8_cheapestTests 99 = .ok (.iload 8, 2) := by decide +kernel
theorem dX8_cheapestTests_101 : decode cX8_cheapestTests 101 = .ok (.istore 4, 2) := by decide +kernel
theorem dX8_cheapestTests_103 : decode cX8_cheapestTests 103 = .ok (.iinc 5 1, 3) := by decide +kernel
theorem dX8_cheapestTests_106 : decode cX8_cheapestTests 106 = .ok (.goto (-98), 3) := by decide +kernel
theorem dX8_cheapestTests_109 : decode cX8_cheapestTests 109 = .ok (.iload_n 3, 1) := by decide +kernel
theorem dX8_cheapestTests_110 : decode cX8_cheapestTests 110 = .ok (.ireturn, 1) := by decide +kernel
theorem dX8_costYet_0 : decode cX8_costYet 0 = .ok (.aload_n 0, 1) := by decide +kernel
theorem dX8_costYet_1 : decode cX8_costYet 1 = .ok (.getfield 23, 3) := by decide +kernel
theorem dX8_costYet_4 : decode cX8_costYet 4 = .ok (.iload_n 1, 1) := by decide +kernel
theorem dX8_costYet_5 : decode cX8_costYet 5 = .ok (.aload_n 0, 1) := by decide +kernel
theorem dX8_costYet_6 : decode cX8_costYet 6 = .ok (.getfield 30, 3) := by decide +kernel
theorem dX8_costYet_9 : decode cX8_costYet 9 = .ok (.getfield 124, 3) := by decide +kernel
theorem dX8_costYet_12 : decode cX8_costYet 12 = .ok (.iconst (-1), 1) := by decide +kernel
theorem dX8_costYet_13 : decode cX8_costYet 13 = .ok (.ixor, 1) := by decide +kernel
theorem dX8_costYet_14 : decode cX8_costYet 14 = .ok (.iand, 1) := by decide +kernel
theorem dX8_costYet_15 : decode cX8_costYet 15 = .ok (.invokevirtual 286, 3) := by decide +kernel
theorem dX8_costYet_18 : decode cX8_costYet 18 = .ok (.ireturn, 1) := by decide +kernel
theorem dX8_offerFor_0 : decode cX8_offerFor 0 = .ok (.iload_n 1, 1) := by decide +kernel
theorem dX8_offerFor_1 : decode cX8_offerFor 1 = .ok (.i2l, 1) := by decide +kernel
theorem dX8_offerFor_2 : decode cX8_offerFor 2 = .ok (.aload_n 0, 1) := by decide +kernel
theorem dX8_offerFor_3 : decode cX8_offerFor 3 = .ok (.getfield 23, 3) := by decide +kernel
theorem dX8_offerFor_6 : decode cX8_offerFor 6 = .ok (.iconst 0, 1) := by decide +kernel
theorem dX8_offerFor_7 : decode cX8_offerFor 7 = .ok (.iload_n 3, 1) := by decide +kernel
theorem dX8_offerFor_8 : decode cX8_offerFor 8 = .ok (.invokevirtual 219, 3) := by decide +kernel
theorem dX8_offerFor_11 : decode cX8_offerFor 11 = .ok (.i2l, 1) := by decide +kernel
theorem dX8_offerFor_12 : decode cX8_offerFor 12 = .ok (.lmul, 1) := by decide +kernel
theorem dX8_offerFor_13 : decode cX8_offerFor 13 = .ok (.ldc2_w 298, 3) := by decide +kernel
theorem dX8_offerFor_16 : decode cX8_offerFor 16 = .ok (.ldiv, 1) := by decide +kernel
theorem dX8_offerFor_17 : decode cX8_offerFor 17 = .ok (.lstore 4, 2) := by decide +kernel
theorem dX8_offerFor_19 : decode cX8_offerFor 19 = .ok (.lload 4, 2) := by decide +kernel
theorem dX8_offerFor_21 : decode cX8_offerFor 21 = .ok (.l2i, 1) := by decide +kernel
theorem dX8_offerFor_22 : decode cX8_offerFor 22 = .ok (.iload_n 2, 1) := by decide +kernel
theorem dX8_offerFor_23 : decode cX8_offerFor 23 = .ok (.isub, 1) := by decide +kernel
theorem dX8_offerFor_24 : decode cX8_offerFor 24 = .ok (.iconst 0, 1) := by decide +kernel
theorem dX8_offerFor_25 : decode cX8_offerFor 25 = .ok (.invokestatic 300, 3) := by decide +kernel
theorem dX8_offerFor_28 : decode cX8_offerFor 28 = .ok (.ireturn, 1) := by decide +kernel
theorem dJ6_bitCount_0f7a4_0 : decode cJ6_bitCount_0f7a4 0 = .ok (.iload_n 0, 1) := by decide +kernel
theorem dJ6_bitCount_0f7a4_1 : decode cJ6_bitCount_0f7a4 1 = .ok (.iload_n 0, 1) := by decide +kernel
theorem dJ6_bitCount_0f7a4_2 : decode cJ6_bitCount_0f7a4 2 = .ok (.iconst 1, 1) := by decide +kernel
theorem dJ6_bitCount_0f7a4_3 : decode cJ6_bitCount_0f7a4 3 = .ok (.iushr, 1) := by decide +kernel
theorem dJ6_bitCount_0f7a4_4 : decode cJ6_bitCount_0f7a4 4 = .ok (.ldc_w 265, 3) := by decide +kernel
theorem dJ6_bitCount_0f7a4_7 : decode cJ6_bitCount_0f7a4 7 = .ok (.iand, 1) := by decide +kernel
theorem dJ6_bitCount_0f7a4_8 : decode cJ6_bitCount_0f7a4 8 = .ok (.isub, 1) := by decide +kernel
theorem dJ6_bitCount_0f7a4_9 : decode cJ6_bitCount_0f7a4 9 = .ok (.istore_n 0, 1) := by decide +kernel
theorem dJ6_bitCount_0f7a4_10 : decode cJ6_bitCount_0f7a4 10 = .ok (.iload_n 0, 1) := by decide +kernel
theorem dJ6_bitCount_0f7a4_11 : decode cJ6_bitCount_0f7a4 11 = .ok (.ldc_w 266, 3) := by decide +kernel
theorem dJ6_bitCount_0f7a4_14 : decode cJ6_bitCount_0f7a4 14 = .ok (.iand, 1) := by decide +kernel
theorem dJ6_bitCount_0f7a4_15 : decode cJ6_bitCount_0f7a4 15 = .ok (.iload_n 0, 1) := by decide +kernel
theorem dJ6_bitCount_0f7a4_16 : decode cJ6_bitCount_0f7a4 16 = .ok (.iconst 2, 1) := by decide +kernel
theorem dJ6_bitCount_0f7a4_17 : decode cJ6_bitCount_0f7a4 17 = .ok (.iushr, 1) := by decide +kernel
theorem dJ6_bitCount_0f7a4_18 : decode cJ6_bitCount_0f7a4 18 = .ok (.ldc_w 266, 3) := by decide +kernel
theorem dJ6_bitCount_0f7a4_21 : decode cJ6_bitCount_0f7a4 21 = .ok (.iand, 1) := by decide +kernel
theorem dJ6_bitCount_0f7a4_22 : decode cJ6_bitCount_0f7a4 22 = .ok (.iadd, 1) := by decide +kernel
theorem dJ6_bitCount_0f7a4_23 : decode cJ6_bitCount_0f7a4 23 = .ok (.istore_n 0, 1) := by decide +kernel
theorem dJ6_bitCount_0f7a4_24 : decode cJ6_bitCount_0f7a4 24 = .ok (.iload_n 0, 1) := by decide +kernel
theorem dJ6_bitCount_0f7a4_25 : decode cJ6_bitCount_0f7a4 25 = .ok (.iload_n 0, 1) := by decide +kernel
theorem dJ6_bitCount_0f7a4_26 : decode cJ6_bitCount_0f7a4 26 = .ok (.iconst 4, 1) := by decide +kernel
theorem dJ6_bitCount_0f7a4_27 : decode cJ6_bitCount_0f7a4 27 = .ok (.iushr, 1) := by decide +kernel
theorem dJ6_bitCount_0f7a4_28 : decode cJ6_bitCount_0f7a4 28 = .ok (.iadd, 1) := by decide +kernel
theorem dJ6_bitCount_0f7a4_29 : decode cJ6_bitCount_0f7a4 29 = .ok (.ldc_w 267, 3) := by decide +kernel
theorem dJ6_bitCount_0f7a4_32 : decode cJ6_bitCount_0f7a4 32 = .ok (.iand, 1) := by decide +kernel
theorem dJ6_bitCount_0f7a4_33 : decode cJ6_bitCount_0f7a4 33 = .ok (.istore_n 0, 1) := by decide +kernel
theorem dJ6_bitCount_0f7a4_34 : decode cJ6_bitCount_0f7a4 34 = .ok (.iload_n 0, 1) := by decide +kernel
theorem dJ6_bitCount_0f7a4_35 : decode cJ6_bitCount_0f7a4 35 = .ok (.iload_n 0, 1) := by decide +kernel
theorem dJ6_bitCount_0f7a4_36 : decode cJ6_bitCount_0f7a4 36 = .ok (.bipush 8, 2) := by decide +kernel
theorem dJ6_bitCount_0f7a4_38 : decode cJ6_bitCount_0f7a4 38 = .ok (.iushr, 1) := by decide +kernel
theorem dJ6_bitCount_0f7a4_39 : decode cJ6_bitCount_0f7a4 39 = .ok (.iadd, 1) := by decide +kernel
theorem dJ6_bitCount_0f7a4_40 : decode cJ6_bitCount_0f7a4 40 = .ok (.istore_n 0, 1) := by decide +kernel
theorem dJ6_bitCount_0f7a4_41 : decode cJ6_bitCount_0f7a4 41 = .ok (.iload_n 0, 1) := by decide +kernel
theorem dJ6_bitCount_0f7a4_42 : decode cJ6_bitCount_0f7a4 42 = .ok (.iload_n 0, 1) := by decide +kernel
theorem dJ6_bitCount_0f7a4_43 : decode cJ6_bitCount_0f7a4 43 = .ok (.bipush 16, 2) := by decide +kernel
theorem dJ6_bitCount_0f7a4_45 : decode cJ6_bitCount_0f7a4 45 = .ok (.iushr, 1) := by decide +kernel
theorem dJ6_bitCount_0f7a4_46 : decode cJ6_bitCount_0f7a4 46 = .ok (.iadd, 1) := by decide +kernel
theorem dJ6_bitCount_0f7a4_47 : decode cJ6_bitCount_0f7a4 47 = .ok (.istore_n 0, 1) := by decide +kernel
theorem dJ6_bitCount_0f7a4_48 : decode cJ6_bitCount_0f7a4 48 = .ok (.iload_n 0, 1) := by decide +kernel
theorem dJ6_bitCount_0f7a4_49 : decode cJ6_bitCount_0f7a4 49 = .ok (.bipush 63, 2) := by decide +kernel
theorem dJ6_bitCount_0f7a4_51 : decode cJ6_bitCount_0f7a4 51 = .ok (.iand, 1) := by decide +kernel
theorem dJ6_bitCount_0f7a4_52 : decode cJ6_bitCount_0f7a4 52 = .ok (.ireturn, 1) := by decide +kernel
theorem dJ9_max_7cf53_0 : decode cJ9_max_7cf53 0 = .ok (.iload_n 0, 1) := by decide +kernel
theorem dJ9_max_7cf53_1 : decode cJ9_max_7cf53 1 = .ok (.iload_n 1, 1) := by decide +kernel
theorem dJ9_max_7cf53_2 : decode cJ9_max_7cf53 2 = .ok (.if_icmp .lt 7, 3) := by decide +kernel
theorem dJ9_max_7cf53_5 : decode cJ9_max_7cf53 5 = .ok (.iload_n 0, 1) := by decide +kernel
theorem dJ9_max_7cf53_6 : decode cJ9_max_7cf53 6 = .ok (.goto 4, 3) := by decide +kernel
theorem dJ9_max_7cf53_9 : decode cJ9_max_7cf53 9 = .ok (.iload_n 1, 1) := by decide +kernel
theorem dJ9_max_7cf53_10 : decode cJ9_max_7cf53 10 = .ok (.ireturn, 1) := by decide +kernel
theorem dJ9_min_7cf53_0 : decode cJ9_min_7cf53 0 = .ok (.iload_n 0, 1) := by decide +kernel
theorem dJ9_min_7cf53_1 : decode cJ9_min_7cf53 1 = .ok (.iload_n 1, 1) := by decide +kernel
theorem dJ9_min_7cf53_2 : decode cJ9_min_7cf53 2 = .ok (.if_icmp .gt 7, 3) := by decide +kernel
theorem dJ9_min_7cf53_5 : decode cJ9_min_7cf53 5 = .ok (.iload_n 0, 1) := by decide +kernel
theorem dJ9_min_7cf53_6 : decode cJ9_min_7cf53 6 = .ok (.goto 4, 3) := by decide +kernel
theorem dJ9_min_7cf53_9 : decode cJ9_min_7cf53 9 = .ok (.iload_n 1, 1) := by decide +kernel
theorem dJ9_min_7cf53_10 : decode cJ9_min_7cf53 10 = .ok (.ireturn, 1) := by decide +kernel
