theorem dX0_init_0 : decode cX0_init 0 = .ok (.aload_n 0, 1) := by decide +kernel
theorem dX0_init_1 : decode cX0_init 1 = .ok (.invokespecial 3, 3) := by decide +kernel
theorem dX0_init_4 : decode cX0_init 4 = .ok (.aload_n 0, 1) := by decide +kernel
theorem dX0_init_5 : decode cX0_init 5 = .ok (.bipush 50, 2) := by decide +kernel
theorem dX0_init_7 : decode cX0_init 7 = .ok (.newarray .int, 2) := by decide +kernel
theorem dX0_init_9 : decode cX0_init 9 = .ok (.putfield 9, 3) := by decide +kernel
theorem dX0_init_12 : decode cX0_init 12 = .ok (.aload_n 0, 1) := by decide +kernel
theorem dX0_init_13 : decode cX0_init 13 = .ok (.bipush 24, 2) := by decide +kernel
theorem dX0_init_15 : decode cX0_init 15 = .ok (.newarray .int, 2) := by decide +kernel
theorem dX0_init_17 : decode cX0_init 17 = .ok (.putfield 15, 3) := by decide +kernel
theorem dX0_init_20 : decode cX0_init 20 = .ok (.return_, 1) := by decide +kernel
theorem dX0_add_0 : decode cX0_add 0 = .ok (.aload_n 0, 1) := by decide +kernel
theorem dX0_add_1 : decode cX0_add 1 = .ok (.getfield 9, 3) := by decide +kernel
theorem dX0_add_4 : decode cX0_add 4 = .ok (.aload_n 0, 1) := by decide +kernel
theorem dX0_add_5 : decode cX0_add 5 = .ok (.getfield 18, 3) := by decide +kernel
theorem dX0_add_8 : decode cX0_add 8 = .ok (.iload_n 1, 1) := by decide +kernel
theorem dX0_add_9 : decode cX0_add 9 = .ok (.iastore, 1) := by decide +kernel
theorem dX0_add_10 : decode cX0_add 10 = .ok (.aload_n 0, 1) := by decide +kernel
theorem dX0_add_11 : decode cX0_add 11 = .ok (.dup, 1) := by decide +kernel
theorem dX0_add_12 : decode cX0_add 12 = .ok (.getfield 18, 3) := by decide +kernel
theorem dX0_add_15 : decode cX0_add 15 = .ok (.iconst 1, 1) := by decide +kernel
theorem dX0_add_16 : decode cX0_add 16 = .ok (.iadd, 1) := by decide +kernel
theorem dX0_add_17 : decode cX0_add 17 = .ok (.putfield 18, 3) := by decide +kernel
theorem dX0_add_20 : decode cX0_add 20 = .ok (.aload_n 0, 1) := by decide +kernel
theorem dX0_add_21 : decode cX0_add 21 = .ok (.getfield 18, 3) := by decide +kernel
theorem dX0_add_24 : decode cX0_add 24 = .ok (.iconst 1, 1) := by decide +kernel
theorem dX0_add_25 : decode cX0_add 25 = .ok (.isub, 1) := by decide +kernel
theorem dX0_add_26 : decode cX0_add 26 = .ok (.ireturn, 1) := by decide +kernel
theorem dX0_isBody_0 : decode cX0_isBody 0 = .ok (.iload_n 1, 1) := by decide +kernel
theorem dX0_isBody_1 : decode cX0_isBody 1 = .ok (.iconst 0, 1) := by decide +kernel
theorem dX0_isBody_2 : decode cX0_isBody 2 = .ok (.aload_n 0, 1) := by decide +kernel
theorem dX0_isBody_3 : decode cX0_isBody 3 = .ok (.getfield 18, 3) := by decide +kernel
theorem dX0_isBody_6 : decode cX0_isBody 6 = .ok (.iconst 1, 1) := by decide +kernel
theorem dX0_isBody_7 : decode cX0_isBody 7 = .ok (.isub, 1) := by decide +kernel
theorem dX0_isBody_8 : decode cX0_isBody 8 = .ok (.invokestatic 22, 3) := by decide +kernel
theorem dX0_isBody_11 : decode cX0_isBody 11 = .ok (.ireturn, 1) := by decide +kernel
theorem dX0_isUnder_0 : decode cX0_isUnder 0 = .ok (.iload_n 0, 1) := by decide +kernel
theorem dX0_isUnder_1 : decode cX0_isUnder 1 = .ok (.istore_n 2, 1) := by decide +kernel
theorem dX0_isUnder_2 : decode cX0_isUnder 2 = .ok (.iconst 0, 1) := by decide +kernel
theorem dX0_isUnder_3 : decode cX0_isUnder 3 = .ok (.istore_n 3, 1) := by decide +kernel
theorem dX0_isUnder_4 : decode cX0_isUnder 4 = .ok (.iload_n 3, 1) := by decide +kernel
theorem dX0_isUnder_5 : decode cX0_isUnder 5 = .ok (.bipush 8, 2) := by decide +kernel
theorem dX0_isUnder_7 : decode cX0_isUnder 7 = .ok (.if_icmp .ge 24, 3) := by decide +kernel
theorem dX0_isUnder_10 : decode cX0_isUnder 10 = .ok (.iload_n 2, 1) := by decide +kernel
theorem dX0_isUnder_11 : decode cX0_isUnder 11 = .ok (.ifCond .le 20, 3) := by decide +kernel
theorem dX0_isUnder_14 : decode cX0_isUnder 14 = .ok (.iload_n 2, 1) := by decide +kernel
theorem dX0_isUnder_15 : decode cX0_isUnder 15 = .ok (.iload_n 1, 1) := by decide +kernel
theorem dX0_isUnder_16 : decode cX0_isUnder 16 = .ok (.if_icmp .eq 15, 3) := by decide +kernel
theorem dX0_isUnder_19 : decode cX0_isUnder 19 = .ok (.getstatic 26, 3) := by decide +kernel
theorem dX0_isUnder_22 : decode cX0_isUnder 22 = .ok (.iload_n 2, 1) := by decide +kernel
theorem dX0_isUnder_23 : decode cX0_isUnder 23 = .ok (.iaload, 1) := by decide +kernel
theorem dX0_isUnder_24 : decode cX0_isUnder 24 = .ok (.istore_n 2, 1) := by decide +kernel
theorem dX0_isUnder_25 : decode cX0_isUnder 25 = .ok (.iinc 3 1, 3) := by decide +kernel
theorem dX0_isUnder_28 : decode cX0_isUnder 28 = .ok (.goto (-24), 3) := by decide +kernel
theorem dX0_isUnder_31 : decode cX0_isUnder 31 = .ok (.iload_n 2, 1) := by decide +kernel
theorem dX0_isUnder_32 : decode cX0_isUnder 32 = .ok (.iload_n 1, 1) := by decide +kernel
theorem dX0_isUnder_33 : decode cX0_isUnder 33 = .ok (.if_icmp .ne 7, 3) := by decide +kernel
theorem dX0_isUnder_36 : decode cX0_isUnder 36 = .ok (.iconst 1, 1) := by decide +kernel
theorem dX0_isUnder_37 : decode cX0_isUnder 37 = .ok (.goto 4, 3) := by decide +kernel
theorem dX0_isUnder_40 : decode cX0_isUnder 40 = .ok (.iconst 0, 1) := by decide +kernel
theorem dX0_isUnder_41 : decode cX0_isUnder 41 = .ok (.ireturn, 1) := by decide +kernel
theorem dX0_perform_0 : decode cX0_perform 0 = .ok (.aload_n 0, 1) := by decide +kernel
theorem dX0_perform_1 : decode cX0_perform 1 = .ok (.iload_n 1, 1) := by decide +kernel
theorem dX0_perform_2 : decode cX0_perform 2 = .ok (.putfield 29, 3) := by decide +kernel
theorem dX0_perform_5 : decode cX0_perform 5 = .ok (.aload_n 0, 1) := by decide +kernel
theorem dX0_perform_6 : decode cX0_perform 6 = .ok (.iload_n 2, 1) := by decide +kernel
theorem dX0_perform_7 : decode cX0_perform 7 = .ok (.iload_n 3, 1) := by decide +kernel
theorem dX0_perform_8 : decode cX0_perform 8 = .ok (.iconst 0, 1) := by decide +kernel
theorem dX0_perform_9 : decode cX0_perform 9 = .ok (.invokevirtual 32, 3) := by decide +kernel
theorem dX0_perform_12 : decode cX0_perform 12 = .ok (.ireturn, 1) := by decide +kernel
theorem dX0_own_0 : decode cX0_own 0 = .ok (.aload_n 0, 1) := by decide +kernel
theorem dX0_own_1 : decode cX0_own 1 = .ok (.aload_n 0, 1) := by decide +kernel
theorem dX0_own_2 : decode cX0_own 2 = .ok (.getfield 9, 3) := by decide +kernel
theorem dX0_own_5 : decode cX0_own 5 = .ok (.aload_n 0, 1) := by decide +kernel
theorem dX0_own_6 : decode cX0_own 6 = .ok (.getfield 29, 3) := by decide +kernel
theorem dX0_own_9 : decode cX0_own 9 = .ok (.iaload, 1) := by decide +kernel
theorem dX0_own_10 : decode cX0_own 10 = .ok (.iload_n 1, 1) := by decide +kernel
theorem dX0_own_11 : decode cX0_own 11 = .ok (.iload_n 2, 1) := by decide +kernel
theorem dX0_own_12 : decode cX0_own 12 = .ok (.iload_n 3, 1) := by decide +kernel
theorem dX0_own_13 : decode cX0_own 13 = .ok (.invokevirtual 36, 3) := by decide +kernel
theorem dX0_own_16 : decode cX0_own 16 = .ok (.ireturn, 1) := by decide +kernel
theorem dX0_from_0 : decode cX0_from 0 = .ok (.iload_n 1, 1) := by decide +kernel
theorem dX0_from_1 : decode cX0_from 1 = .ok (.istore 5, 2) := by decide +kernel
theorem dX0_from_3 : decode cX0_from 3 = .ok (.iconst 0, 1) := by decide +kernel
theorem dX0_from_4 : decode cX0_from 4 = .ok (.istore 6, 2) := by decide +kernel
theorem dX0_from_6 : decode cX0_from 6 = .ok (.iload 6, 2) := by decide +kernel
theorem dX0_from_8 : decode cX0_from 8 = .ok (.bipush 8, 2) := by decide +kernel
theorem dX0_from_10 : decode cX0_from 10 = .ok (.if_icmp .ge 35, 3) := by decide +kernel
theorem dX0_from_13 : decode cX0_from 13 = .ok (.iload 5, 2) := by decide +kernel
theorem dX0_from_15 : decode cX0_from 15 = .ok (.ifCond .le 30, 3) := by decide +kernel
theorem dX0_from_18 : decode cX0_from 18 = .ok (.getstatic 40, 3) := by decide +kernel
theorem dX0_from_21 : decode cX0_from 21 = .ok (.iload 5, 2) := by decide +kernel
theorem dX0_from_23 : decode cX0_from 23 = .ok (.iconst 4, 1) := by decide +kernel
theorem dX0_from_24 : decode cX0_from 24 = .ok (.imul, 1) := by decide +kernel
theorem dX0_from_25 : decode cX0_from 25 = .ok (.iload_n 2, 1) := by decide +kernel
theorem dX0_from_26 : decode cX0_from 26 = .ok (.iadd, 1) := by decide +kernel
theorem dX0_from_27 : decode cX0_from 27 = .ok (.iaload, 1) := by decide +kernel
theorem dX0_from_28 : decode cX0_from 28 = .ok (.ifCond .ne 17, 3) := by decide +kernel
theorem dX0_from_31 : decode cX0_from 31 = .ok (.getstatic 26, 3) := by decide +kernel
theorem dX0_from_34 : decode cX0_from 34 = .ok (.iload 5, 2) := by decide +kernel
theorem dX0_from_36 : decode cX0_from 36 = .ok (.iaload, 1) := by decide +kernel
theorem dX0_from_37 : decode cX0_from 37 = .ok (.istore 5, 2) := by decide +kernel
theorem dX0_from_39 : decode cX0_from 39 = .ok (.iinc 6 1, 3) := by decide +kernel
theorem dX0_from_42 : decode cX0_from 42 = .ok (.goto (-36), 3) := by decide +kernel
theorem dX0_from_45 : decode cX0_from 45 = .ok (.iload 5, 2) := by decide +kernel
theorem dX0_from_47 : decode cX0_from 47 = .ok (.ifCond .lt 10, 3) := by decide +kernel
theorem dX0_from_50 : decode cX0_from 50 = .ok (.iload 4, 2) := by decide +kernel
theorem dX0_from_52 : decode cX0_from 52 = .ok (.bipush 40, 2) := by decide +kernel
theorem dX0_from_54 : decode cX0_from 54 = .ok (.if_icmp .le 5, 3) := by decide +kernel
theorem dX0_from_57 : decode cX0_from 57 = .ok (.iconst 0, 1) := by decide +kernel
theorem dX0_from_58 : decode cX0_from 58 = .ok (.ireturn, 1) := by decide +kernel
theorem dX0_from_59 : decode cX0_from 59 = .ok (.getstatic 40, 3) := by decide +kernel
theorem dX0_from_62 : decode cX0_from 62 = .ok (.iload 5, 2) := by decide +kernel
theorem dX0_from_64 : decode cX0_from 64 = .ok (.iconst 4, 1) := by decide +kernel
theorem dX0_from_65 : decode cX0_from 65 = .ok (.imul, 1) := by decide +kernel
theorem dX0_from_66 : decode cX0_from 66 = .ok (.iload_n 2, 1) := by decide +kernel
theorem dX0_from_67 : decode cX0_from 67 = .ok (.iadd, 1) := by decide +kernel
theorem dX0_from_68 : decode cX0_from 68 = .ok (.iaload, 1) := by decide +kernel
theorem dX0_from_69 : decode cX0_from 69 = .ok (.istore 6, 2) := by decide +kernel
theorem dX0_from_71 : decode cX0_from 71 = .ok (.aload_n 0, 1) := by decide +kernel
theorem dX0_from_72 : decode cX0_from 72 = .ok (.iload 6, 2) := by decide +kernel
theorem dX0_from_74 : decode cX0_from 74 = .ok (.invokevirtual 43, 3) := by decide +kernel
theorem dX0_from_77 : decode cX0_from 77 = .ok (.iload 5, 2) := by decide +kernel
theorem dX0_from_79 : decode cX0_from 79 = .ok (.ifCond .ne 17, 3) := by decide +kernel
theorem dX0_from_82 : decode cX0_from 82 = .ok (.aload_n 0, 1) := by decide +kernel
theorem dX0_from_83 : decode cX0_from 83 = .ok (.iload 6, 2) := by decide +kernel
theorem dX0_from_85 : decode cX0_from 85 = .ok (.iload_n 3, 1) := by decide +kernel
theorem dX0_from_86 : decode cX0_from 86 = .ok (.iload 4, 2) := by decide +kernel
theorem dX0_from_88 : decode cX0_from 88 = .ok (.iconst 1, 1) := by decide +kernel
theorem dX0_from_89 : decode cX0_from 89 = .ok (.iadd, 1) := by decide +kernel
theorem dX0_from_90 : decode cX0_from 90 = .ok (.invokevirtual 47, 3) := by decide +kernel
theorem dX0_from_93 : decode cX0_from 93 = .ok (.goto 20, 3) := by decide +kernel
theorem dX0_from_96 : decode cX0_from 96 = .ok (.aload_n 0, 1) := by decide +kernel
theorem dX0_from_97 : decode cX0_from 97 = .ok (.iload 6, 2) := by decide +kernel
theorem dX0_from_99 : decode cX0_from 99 = .ok (.getstatic 26, 3) := by decide +kernel
theorem dX0_from_102 : decode cX0_from 102 = .ok (.iload 5, 2) := by decide +kernel
theorem dX0_from_104 : decode cX0_from 104 = .ok (.iaload, 1) := by decide +kernel
theorem dX0_from_105 : decode cX0_from 105 = .ok (.iload_n 3, 1) := by decide +kernel
theorem dX0_from_106 : decode cX0_from 106 = .ok (.iload 4, 2) := by decide +kernel
theorem dX0_from_108 : decode cX0_from 108 = .ok (.iconst 1, 1) := by decide +kernel
theorem dX0_from_109 : decode cX0_from 109 = .ok (.iadd, 1) := by decide +kernel
theorem dX0_from_110 : decode cX0_from 110 = .ok (.invokevirtual 50, 3) := by decide +kernel
theorem dX0_from_113 : decode cX0_from 113 = .ok (.ireturn, 1) := by decide +kernel
theorem dX0_note_0 : decode cX0_note 0 = .ok (.aload_n 0, 1) := by decide +kernel
theorem dX0_note_1 : decode cX0_note 1 = .ok (.getfield 53, 3) := by decide +kernel
theorem dX0_note_4 : decode cX0_note 4 = .ok (.bipush 24, 2) := by decide +kernel
theorem dX0_note_6 : decode cX0_note 6 = .ok (.if_icmp .ge 13, 3) := by decide +kernel
theorem dX0_note_9 : decode cX0_note 9 = .ok (.aload_n 0, 1) := by decide +kernel
theorem dX0_note_10 : decode cX0_note 10 = .ok (.getfield 15, 3) := by decide +kernel
theorem dX0_note_13 : decode cX0_note 13 = .ok (.aload_n 0, 1) := by decide +kernel
theorem dX0_note_14 : decode cX0_note 14 = .ok (.getfield 53, 3) := by decide +kernel
theorem dX0_note_17 : decode cX0_note 17 = .ok (.iload_n 1, 1) := by decide +kernel
theorem dX0_note_18 : decode cX0_note 18 = .ok (.iastore, 1) := by decide +kernel
theorem dX0_note_19 : decode cX0_note 19 = .ok (.aload_n 0, 1) := by decide +kernel
theorem dX0_note_20 : decode cX0_note 20 = .ok (.dup, 1) := by decide +kernel
theorem dX0_note_21 : decode cX0_note 21 = .ok (.getfield 53, 3) := by decide +kernel
theorem dX0_note_24 : decode cX0_note 24 = .ok (.iconst 1, 1) := by decide +kernel
theorem dX0_note_25 : decode cX0_note 25 = .ok (.iadd, 1) := by decide +kernel
theorem dX0_note_26 : decode cX0_note 26 = .ok (.putfield 53, 3) := by decide +kernel
theorem dX0_note_29 : decode cX0_note 29 = .ok (.return_, 1) := by decide +kernel
theorem dX0_runOfDay_0 : decode cX0_runOfDay 0 = .ok (.iload_n 1, 1) := by decide +kernel
theorem dX0_runOfDay_1 : decode cX0_runOfDay 1 = .ok (.lookupswitch 68 #[(1, 35), (2, 42), (10, 58)], 35) := by decide +kernel
theorem dX0_runOfDay_36 : decode cX0_runOfDay 36 = .ok (.iload_n 2, 1) := by decide +kernel
theorem dX0_runOfDay_37 : decode cX0_runOfDay 37 = .ok (.aload_n 0, 1) := by decide +kernel
theorem dX0_runOfDay_38 : decode cX0_runOfDay 38 = .ok (.getfield 29, 3) := by decide +kernel
theorem dX0_runOfDay_41 : decode cX0_runOfDay 41 = .ok (.iadd, 1) := by decide +kernel
theorem dX0_runOfDay_42 : decode cX0_runOfDay 42 = .ok (.ireturn, 1) := by decide +kernel
theorem dX0_runOfDay_43 : decode cX0_runOfDay 43 = .ok (.aload_n 0, 1) := by decide +kernel
theorem dX0_runOfDay_44 : decode cX0_runOfDay 44 = .ok (.iconst 1, 1) := by decide +kernel
theorem dX0_runOfDay_45 : decode cX0_runOfDay 45 = .ok (.iload_n 2, 1) := by decide +kernel
theorem dX0_runOfDay_46 : decode cX0_runOfDay 46 = .ok (.iload_n 3, 1) := by decide +kernel
theorem dX0_runOfDay_47 : decode cX0_runOfDay 47 = .ok (.invokevirtual 32, 3) := by decide +kernel
theorem dX0_runOfDay_50 : decode cX0_runOfDay 50 = .ok (.aload_n 0, 1) := by decide +kernel
theorem dX0_runOfDay_51 : decode cX0_runOfDay 51 = .ok (.iconst 2, 1) := by decide +kernel
theorem dX0_runOfDay_52 : decode cX0_runOfDay 52 = .ok (.iconst 1, 1) := by decide +kernel
theorem dX0_runOfDay_53 : decode cX0_runOfDay 53 = .ok (.iload_n 3, 1) := by decide +kernel
theorem dX0_runOfDay_54 : decode cX0_runOfDay 54 = .ok (.invokevirtual 32, 3) := by decide +kernel
theorem dX0_runOfDay_57 : decode cX0_runOfDay 57 = .ok (.isub, 1) := by decide +kernel
theorem dX0_runOfDay_58 : decode cX0_runOfDay 58 = .ok (.ireturn, 1) := by decide +kernel
theorem dX0_runOfDay_59 : decode cX0_runOfDay 59 = .ok (.aload_n 0, 1) := by decide +kernel
theorem dX0_runOfDay_60 : decode cX0_runOfDay 60 = .ok (.iconst 0, 1) := by decide +kernel
theorem dX0_runOfDay_61 : decode cX0_runOfDay 61 = .ok (.iload_n 2, 1) := by decide +kernel
theorem dX0_runOfDay_62 : decode cX0_runOfDay 62 = .ok (.iload_n 3, 1) := by decide +kernel
theorem dX0_runOfDay_63 : decode cX0_runOfDay 63 = .ok (.invokevirtual 32, 3) := by decide +kernel
theorem dX0_runOfDay_66 : decode cX0_runOfDay 66 = .ok (.iconst 2, 1) := by decide +kernel
theorem dX0_runOfDay_67 : decode cX0_runOfDay 67 = .ok (.imul, 1) := by decide +kernel
theorem dX0_runOfDay_68 : decode cX0_runOfDay 68 = .ok (.ireturn, 1) := by decide +kernel
theorem dX0_runOfDay_69 : decode cX0_runOfDay 69 = .ok (.iload_n 2, 1) := by decide +kernel
theorem dX0_runOfDay_70 : decode cX0_runOfDay 70 = .ok (.aload_n 0, 1) := by decide +kernel
theorem dX0_runOfDay_71 : decode cX0_runOfDay 71 = .ok (.getfield 29, 3) := by decide +kernel
theorem dX0_runOfDay_74 : decode cX0_runOfDay 74 = .ok (.ixor, 1) := by decide +kernel
theorem dX0_runOfDay_75 : decode cX0_runOfDay 75 = .ok (.ireturn, 1) := by decide +kernel
theorem dX0_runUnderDay_0 : decode cX0_runUnderDay 0 = .ok (.iload_n 1, 1) := by decide +kernel
theorem dX0_runUnderDay_1 : decode cX0_runUnderDay 1 = .ok (.lookupswitch 184 #[(20, 75), (30, 87), (40, 98), (41, 110), (50, 122), (60, 141), (70, 153), (80, 165)], 75) := by decide +kernel
theorem dX0_runUnderDay_76 : decode cX0_runUnderDay 76 = .ok (.aload_n 0, 1) := by decide +kernel
theorem dX0_runUnderDay_77 : decode cX0_runUnderDay 77 = .ok (.iload_n 2, 1) := by decide +kernel
theorem dX0_runUnderDay_78 : decode cX0_runUnderDay 78 = .ok (.iconst 0, 1) := by decide +kernel
theorem dX0_runUnderDay_79 : decode cX0_runUnderDay 79 = .ok (.iload_n 3, 1) := by decide +kernel
theorem dX0_runUnderDay_80 : decode cX0_runUnderDay 80 = .ok (.iload 4, 2) := by decide +kernel
theorem dX0_runUnderDay_82 : decode cX0_runUnderDay 82 = .ok (.invokevirtual 36, 3) := by decide +kernel
theorem dX0_runUnderDay_85 : decode cX0_runUnderDay 85 = .ok (.iconst 3, 1) := by decide +kernel
theorem dX0_runUnderDay_86 : decode cX0_runUnderDay 86 = .ok (.iadd, 1) := by decide +kernel
theorem dX0_runUnderDay_87 : decode cX0_runUnderDay 87 = .ok (.ireturn, 1) := by decide +kernel
theorem dX0_runUnderDay_88 : decode cX0_runUnderDay 88 = .ok (.aload_n 0, 1) := by decide +kernel
theorem dX0_runUnderDay_89 : decode cX0_runUnderDay 89 = .ok (.iload_n 2, 1) := by decide +kernel
theorem dX0_runUnderDay_90 : decode cX0_runUnderDay 90 = .ok (.iconst 1, 1) := by decide +kernel
theorem dX0_runUnderDay_91 : decode cX0_runUnderDay 91 = .ok (.iload_n 3, 1) := by decide +kernel
theorem dX0_runUnderDay_92 : decode cX0_runUnderDay 92 = .ok (.iload 4, 2) := by decide +kernel
theorem dX0_runUnderDay_94 : decode cX0_runUnderDay 94 = .ok (.invokevirtual 36, 3) := by decide +kernel
theorem dX0_runUnderDay_97 : decode cX0_runUnderDay 97 = .ok (.ineg, 1) := by decide +kernel
theorem dX0_runUnderDay_98 : decode cX0_runUnderDay 98 = .ok (.ireturn, 1) := by decide +kernel
theorem dX0_runUnderDay_99 : decode cX0_runUnderDay 99 = .ok (.aload_n 0, 1) := by decide +kernel
theorem dX0_runUnderDay_100 : decode cX0_runUnderDay 100 = .ok (.iload_n 2, 1) := by decide +kernel
theorem dX0_runUnderDay_101 : decode cX0_runUnderDay 101 = .ok (.iconst 2, 1) := by decide +kernel
theorem dX0_runUnderDay_102 : decode cX0_runUnderDay 102 = .ok (.iload_n 3, 1) := by decide +kernel
theorem dX0_runUnderDay_103 : decode cX0_runUnderDay 103 = .ok (.iload 4, 2) := by decide +kernel
theorem dX0_runUnderDay_105 : decode cX0_runUnderDay 105 = .ok (.invokevirtual 36, 3) := by decide +kernel
theorem dX0_runUnderDay_108 : decode cX0_runUnderDay 108 = .ok (.iconst 3, 1) := by decide +kernel
theorem dX0_runUnderDay_109 : decode cX0_runUnderDay 109 = .ok (.imul, 1) := by decide +kernel
theorem dX0_runUnderDay_110 : decode cX0_runUnderDay 110 = .ok (.ireturn, 1) := by decide +kernel
theorem dX0_runUnderDay_111 : decode cX0_runUnderDay 111 = .ok (.aload_n 0, 1) := by decide +kernel
theorem dX0_runUnderDay_112 : decode cX0_runUnderDay 112 = .ok (.iload_n 2, 1) := by decide +kernel
theorem dX0_runUnderDay_113 : decode cX0_runUnderDay 113 = .ok (.iconst 1, 1) := by decide +kernel
theorem dX0_runUnderDay_114 : decode cX0_runUnderDay 114 = .ok (.iload_n 3, 1) := by decide +kernel
theorem dX0_runUnderDay_115 : decode cX0_runUnderDay 115 = .ok (.iconst 1, 1) := by decide +kernel
theorem dX0_runUnderDay_116 : decode cX0_runUnderDay 116 = .ok (.iadd, 1) := by decide +kernel
theorem dX0_runUnderDay_117 : decode cX0_runUnderDay 117 = .ok (.iload 4, 2) := by decide +kernel
theorem dX0_runUnderDay_119 : decode cX0_runUnderDay 119 = .ok (.invokevirtual 36, 3) := by decide +kernel
theorem dX0_runUnderDay_122 : decode cX0_runUnderDay 122 = .ok (.ireturn, 1) := by decide +kernel
theorem dX0_runUnderDay_123 : decode cX0_runUnderDay 123 = .ok (.aload_n 0, 1) := by decide +kernel
theorem dX0_runUnderDay_124 : decode cX0_runUnderDay 124 = .ok (.iload_n 2, 1) := by decide +kernel
theorem dX0_runUnderDay_125 : decode cX0_runUnderDay 125 = .ok (.iconst 2, 1) := by decide +kernel
theorem dX0_runUnderDay_126 : decode cX0_runUnderDay 126 = .ok (.iload_n 3, 1) := by decide +kernel
theorem dX0_runUnderDay_127 : decode cX0_runUnderDay 127 = .ok (.iload 4, 2) := by decide +kernel
theorem dX0_runUnderDay_129 : decode cX0_runUnderDay 129 = .ok (.invokevirtual 36, 3) := by decide +kernel
theorem dX0_runUnderDay_132 : decode cX0_runUnderDay 132 = .ok (.aload_n 0, 1) := by decide +kernel
theorem dX0_runUnderDay_133 : decode cX0_runUnderDay 133 = .ok (.iconst 0, 1) := by decide +kernel
theorem dX0_runUnderDay_134 : decode cX0_runUnderDay 134 = .ok (.iconst 2, 1) := by decide +kernel
theorem dX0_runUnderDay_135 : decode cX0_runUnderDay 135 = .ok (.iload 4, 2) := by decide +kernel
theorem dX0_runUnderDay_137 : decode cX0_runUnderDay 137 = .ok (.invokevirtual 32, 3) := by decide +kernel
theorem dX0_runUnderDay_140 : decode cX0_runUnderDay 140 = .ok (.isub, 1) := by decide +kernel
theorem dX0_runUnderDay_141 : decode cX0_runUnderDay 141 = .ok (.ireturn, 1) := by decide +kernel
theorem dX0_runUnderDay_142 : decode cX0_runUnderDay 142 = .ok (.aload_n 0, 1) := by decide +kernel
theorem dX0_runUnderDay_143 : decode cX0_runUnderDay 143 = .ok (.iload_n 2, 1) := by decide +kernel
theorem dX0_runUnderDay_144 : decode cX0_runUnderDay 144 = .ok (.iconst 3, 1) := by decide +kernel
theorem dX0_runUnderDay_145 : decode cX0_runUnderDay 145 = .ok (.iload_n 3, 1) := by decide +kernel
theorem dX0_runUnderDay_146 : decode cX0_runUnderDay 146 = .ok (.iload 4, 2) := by decide +kernel
theorem dX0_runUnderDay_148 : decode cX0_runUnderDay 148 = .ok (.invokevirtual 36, 3) := by decide +kernel
theorem dX0_runUnderDay_151 : decode cX0_runUnderDay 151 = .ok (.iconst 5, 1) := by decide +kernel
theorem dX0_runUnderDay_152 : decode cX0_runUnderDay 152 = .ok (.ixor, 1) := by decide +kernel
theorem dX0_runUnderDay_153 : decode cX0_runUnderDay 153 = .ok (.ireturn, 1) := by decide +kernel
theorem dX0_runUnderDay_154 : decode cX0_runUnderDay 154 = .ok (.aload_n 0, 1) := by decide +kernel
theorem dX0_runUnderDay_155 : decode cX0_runUnderDay 155 = .ok (.iload_n 2, 1) := by decide +kernel
theorem dX0_runUnderDay_156 : decode cX0_runUnderDay 156 = .ok (.iconst 0, 1) := by decide +kernel
theorem dX0_runUnderDay_157 : decode cX0_runUnderDay 157 = .ok (.iload_n 3, 1) := by decide +kernel
theorem dX0_runUnderDay_158 : decode cX0_runUnderDay 158 = .ok (.iload 4, 2) := by decide +kernel
theorem dX0_runUnderDay_160 : decode cX0_runUnderDay 160 = .ok (.invokevirtual 36, 3) := by decide +kernel
theorem dX0_runUnderDay_163 : decode cX0_runUnderDay 163 = .ok (.iconst 2, 1) := by decide +kernel
theorem dX0_runUnderDay_164 : decode cX0_runUnderDay 164 = .ok (.imul, 1) := by decide +kernel
theorem dX0_runUnderDay_165 : decode cX0_runUnderDay 165 = .ok (.ireturn, 1) := by decide +kernel
theorem dX0_runUnderDay_166 : decode cX0_runUnderDay 166 = .ok (.aload_n 0, 1) := by decide +kernel
theorem dX0_runUnderDay_167 : decode cX0_runUnderDay 167 = .ok (.iload_n 2, 1) := by decide +kernel
theorem dX0_runUnderDay_168 : decode cX0_runUnderDay 168 = .ok (.iconst 1, 1) := by decide +kernel
theorem dX0_runUnderDay_169 : decode cX0_runUnderDay 169 = .ok (.iload_n 3, 1) := by decide +kernel
theorem dX0_runUnderDay_170 : decode cX0_runUnderDay 170 = .ok (.iload 4, 2) := by decide +kernel
theorem dX0_runUnderDay_172 : decode cX0_runUnderDay 172 = .ok (.invokevirtual 36, 3) := by decide +kernel
theorem dX0_runUnderDay_175 : decode cX0_runUnderDay 175 = .ok (.aload_n 0, 1) := by decide +kernel
theorem dX0_runUnderDay_176 : decode cX0_runUnderDay 176 = .ok (.iconst 2, 1) := by decide +kernel
theorem dX0_runUnderDay_177 : decode cX0_runUnderDay 177 = .ok (.iconst 2, 1) := by decide +kernel
theorem dX0_runUnderDay_178 : decode cX0_runUnderDay 178 = .ok (.iload 4, 2) := by decide +kernel
theorem dX0_runUnderDay_180 : decode cX0_runUnderDay 180 = .ok (.invokevirtual 32, 3) := by decide +kernel
theorem dX0_runUnderDay_183 : decode cX0_runUnderDay 183 = .ok (.iadd, 1) := by decide +kernel
theorem dX0_runUnderDay_184 : decode cX0_runUnderDay 184 = .ok (.ireturn, 1) := by decide +kernel
theorem dX0_runUnderDay_185 : decode cX0_runUnderDay 185 = .ok (.aload_n 0, 1) := by decide +kernel
theorem dX0_runUnderDay_186 : decode cX0_runUnderDay 186 = .ok (.iload_n 2, 1) := by decide +kernel
theorem dX0_runUnderDay_187 : decode cX0_runUnderDay 187 = .ok (.iconst 3, 1) := by decide +kernel
theorem dX0_runUnderDay_188 : decode cX0_runUnderDay 188 = .ok (.iload_n 3, 1) := by decide +kernel
theorem dX0_runUnderDay_189 : decode cX0_runUnderDay 189 = .ok (.iload 4, 2) := by decide +kernel
theorem dX0_runUnderDay_191 : decode cX0_runUnderDay 191 = .ok (.invokevirtual 36, 3) := by decide +kernel
theorem dX0_runUnderDay_194 : decode cX0_runUnderDay 194 = .ok (.iconst 1, 1) := by decide +kernel
theorem dX0_runUnderDay_195 : decode cX0_runUnderDay 195 = .ok (.isub, 1) := by decide +kernel
theorem dX0_runUnderDay_196 : decode cX0_runUnderDay 196 = .ok (.ireturn, 1) := by decide +kernel
theorem dX1_init_0 : decode cX1_init 0 = .ok (.aload_n 0, 1) := by decide +kernel
theorem dX1_init_1 : decode cX1_init 1 = .ok (.invokespecial 3, 3) := by decide +kernel
theorem dX1_init_4 : decode cX1_init 4 = .ok (.aload_n 0, 1) := by decide +kernel
theorem dX1_init_5 : decode cX1_init 5 = .ok (.bipush 40, 2) := by decide +kernel
theorem dX1_init_7 : decode cX1_init 7 = .ok (.newarray .int, 2) := by decide +kernel
theorem dX1_init_9 : decode cX1_init 9 = .ok (.putfield 9, 3) := by decide +kernel
theorem dX1_init_12 : decode cX1_init 12 = .ok (.aload_n 0, 1) := by decide +kernel
theorem dX1_init_13 : decode cX1_init 13 = .ok (.bipush 40, 2) := by decide +kernel
theorem dX1_init_15 : decode cX1_init 15 = .ok (.newarray .int, 2) := by decide +kernel
theorem dX1_init_17 : decode cX1_init 17 = .ok (.putfield 15, 3) := by decide +kernel
theorem dX1_init_20 : decode cX1_init 20 = .ok (.aload_n 0, 1) := by decide +kernel
theorem dX1_init_21 : decode cX1_init 21 = .ok (.bipush 40, 2) := by decide +kernel
theorem dX1_init_23 : decode cX1_init 23 = .ok (.newarray .int, 2) := by decide +kernel
theorem dX1_init_25 : decode cX1_init 25 = .ok (.putfield 18, 3) := by decide +kernel
theorem dX1_init_28 : decode cX1_init 28 = .ok (.aload_n 0, 1) := by decide +kernel
theorem dX1_init_29 : decode cX1_init 29 = .ok (.bipush 40, 2) := by decide +kernel
theorem dX1_init_31 : decode cX1_init 31 = .ok (.newarray .int, 2) := by decide +kernel
theorem dX1_init_33 : decode cX1_init 33 = .ok (.putfield 21, 3) := by decide +kernel
theorem dX1_init_36 : decode cX1_init 36 = .ok (.return_, 1) := by decide +kernel
theorem dX1_note_0 : decode cX1_note 0 = .ok (.aload_n 0, 1) := by decide +kernel
theorem dX1_note_1 : decode cX1_note 1 = .ok (.getfield 24, 3) := by decide +kernel
theorem dX1_note_4 : decode cX1_note 4 = .ok (.bipush 40, 2) := by decide +kernel
theorem dX1_note_6 : decode cX1_note 6 = .ok (.if_icmp .lt 7, 3) := by decide +kernel
theorem dX1_note_9 : decode cX1_note 9 = .ok (.aload_n 0, 1) := by decide +kernel
theorem dX1_note_10 : decode cX1_note 10 = .ok (.invokevirtual 28, 3) := by decide +kernel
theorem dX1_note_13 : decode cX1_note 13 = .ok (.aload_n 0, 1) := by decide +kernel
theorem dX1_note_14 : decode cX1_note 14 = .ok (.getfield 9, 3) := by decide +kernel
theorem dX1_note_17 : decode cX1_note 17 = .ok (.aload_n 0, 1) := by decide +kernel
theorem dX1_note_18 : decode cX1_note 18 = .ok (.getfield 24, 3) := by decide +kernel
theorem dX1_note_21 : decode cX1_note 21 = .ok (.iload_n 1, 1) := by decide +kernel
theorem dX1_note_22 : decode cX1_note 22 = .ok (.iastore, 1) := by decide +kernel
theorem dX1_note_23 : decode cX1_note 23 = .ok (.aload_n 0, 1) := by decide +kernel
theorem dX1_note_24 : decode cX1_note 24 = .ok (.getfield 15, 3) := by decide +kernel
theorem dX1_note_27 : decode cX1_note 27 = .ok (.aload_n 0, 1) := by decide +kernel
theorem dX1_note_28 : decode cX1_note 28 = .ok (.getfield 24, 3) := by decide +kernel
theorem dX1_note_31 : decode cX1_note 31 = .ok (.iload_n 2, 1) := by decide +kernel
theorem dX1_note_32 : decode cX1_note 32 = .ok (.iastore, 1) := by decide +kernel
theorem dX1_note_33 : decode cX1_note 33 = .ok (.aload_n 0, 1) := by decide +kernel
theorem dX1_note_34 : decode cX1_note 34 = .ok (.getfield 18, 3) := by decide +kernel
theorem dX1_note_37 : decode cX1_note 37 = .ok (.aload_n 0, 1) := by decide +kernel
theorem dX1_note_38 : decode cX1_note 38 = .ok (.getfield 24, 3) := by decide +kernel
theorem dX1_note_41 : decode cX1_note 41 = .ok (.iload_n 3, 1) := by decide +kernel
theorem dX1_note_42 : decode cX1_note 42 = .ok (.iastore, 1) := by decide +kernel
theorem dX1_note_43 : decode cX1_note 43 = .ok (.aload_n 0, 1) := by decide +kernel
theorem dX1_note_44 : decode cX1_note 44 = .ok (.getfield 21, 3) := by decide +kernel
theorem dX1_note_47 : decode cX1_note 47 = .ok (.aload_n 0, 1) := by decide +kernel
theorem dX1_note_48 : decode cX1_note 48 = .ok (.getfield 24, 3) := by decide +kernel
theorem dX1_note_51 : decode cX1_note 51 = .ok (.iload 4, 2) := by decide +kernel
theorem dX1_note_53 : decode cX1_note 53 = .ok (.iastore, 1) := by decide +kernel
theorem dX1_note_54 : decode cX1_note 54 = .ok (.aload_n 0, 1) := by decide +kernel
theorem dX1_note_55 : decode cX1_note 55 = .ok (.dup, 1) := by decide +kernel
theorem dX1_note_56 : decode cX1_note 56 = .ok (.getfield 24, 3) := by decide +kernel
theorem dX1_note_59 : decode cX1_note 59 = .ok (.iconst 1, 1) := by decide +kernel
theorem dX1_note_60 : decode cX1_note 60 = .ok (.iadd, 1) := by decide +kernel
theorem dX1_note_61 : decode cX1_note 61 = .ok (.putfield 24, 3) := by decide +kernel
theorem dX1_note_64 : decode cX1_note 64 = .ok (.aload_n 0, 1) := by decide +kernel
theorem dX1_note_65 : decode cX1_note 65 = .ok (.iconst 0, 1) := by decide +kernel
theorem dX1_note_66 : decode cX1_note 66 = .ok (.putfield 31, 3) := by decide +kernel
theorem dX1_note_69 : decode cX1_note 69 = .ok (.return_, 1) := by decide +kernel
theorem dX1_forgetOldest_0 : decode cX1_forgetOldest 0 = .ok (.aload_n 0, 1) := by decide +kernel
theorem dX1_forgetOldest_1 : decode cX1_forgetOldest 1 = .ok (.getfield 9, 3) := by decide +kernel
theorem dX1_forgetOldest_4 : decode cX1_forgetOldest 4 = .ok (.iconst 1, 1) := by decide +kernel
theorem dX1_forgetOldest_5 : decode cX1_forgetOldest 5 = .ok (.aload_n 0, 1) := by decide +kernel
theorem dX1_forgetOldest_6 : decode cX1_forgetOldest 6 = .ok (.getfield 9, 3) := by decide +kernel
theorem dX1_forgetOldest_9 : decode cX1_forgetOldest 9 = .ok (.iconst 0, 1) := by decide +kernel
theorem dX1_forgetOldest_10 : decode cX1_forgetOldest 10 = .ok (.bipush 39, 2) := by decide +kernel
theorem dX1_forgetOldest_12 : decode cX1_forgetOldest 12 = .ok (.invokestatic 34, 3) := by decide +kernel
theorem dX1_forgetOldest_15 : decode cX1_forgetOldest 15 = .ok (.aload_n 0, 1) := by decide +kernel
theorem dX1_forgetOldest_16 : decode cX1_forgetOldest 16 = .ok (.getfield 15, 3) := by decide +kernel
theorem dX1_forgetOldest_19 : decode cX1_forgetOldest 19 = .ok (.iconst 1, 1) := by decide +kernel
theorem dX1_forgetOldest_20 : decode cX1_forgetOldest 20 = .ok (.aload_n 0, 1) := by decide +kernel
theorem dX1_forgetOldest_21 : decode cX1_forgetOldest 21 = .ok (.getfield 15, 3) := by decide +kernel
theorem dX1_forgetOldest_24 : decode cX1_forgetOldest 24 = .ok (.iconst 0, 1) := by decide +kernel
theorem dX1_forgetOldest_25 : decode cX1_forgetOldest 25 = .ok (.bipush 39, 2) := by decide +kernel
theorem dX1_forgetOldest_27 : decode cX1_forgetOldest 27 = .ok (.invokestatic 34, 3) := by decide +kernel
theorem dX1_forgetOldest_30 : decode cX1_forgetOldest 30 = .ok (.aload_n 0, 1) := by decide +kernel
theorem dX1_forgetOldest_31 : decode cX1_forgetOldest 31 = .ok (.getfield 18, 3) := by decide +kernel
theorem dX1_forgetOldest_34 : decode cX1_forgetOldest 34 = .ok (.iconst 1, 1) := by decide +kernel
theorem dX1_forgetOldest_35 : decode cX1_forgetOldest 35 = .ok (.aload_n 0, 1) := by decide +kernel
theorem dX1_forgetOldest_36 : decode cX1_forgetOldest 36 = .ok (.getfield 18, 3) := by decide +kernel
theorem dX1_forgetOldest_39 : decode cX1_forgetOldest 39 = .ok (.iconst 0, 1) := by decide +kernel
theorem dX1_forgetOldest_40 : decode cX1_forgetOldest 40 = .ok (.bipush 39, 2) := by decide +kernel
theorem dX1_forgetOldest_42 : decode cX1_forgetOldest 42 = .ok (.invokestatic 34, 3) := by decide +kernel
theorem dX1_forgetOldest_45 : decode cX1_forgetOldest 45 = .ok (.aload_n 0, 1) := by decide +kernel
theorem dX1_forgetOldest_46 : decode cX1_forgetOldest 46 = .ok (.getfield 21, 3) := by decide +kernel
theorem dX1_forgetOldest_49 : decode cX1_forgetOldest 49 = .ok (.iconst 1, 1) := by decide +kernel
theorem dX1_forgetOldest_50 : decode cX1_forgetOldest 50 = .ok (.aload_n 0, 1) := by decide +kernel
theorem dX1_forgetOldest_51 : decode cX1_forgetOldest 51 = .ok (.getfield 21, 3) := by decide +kernel
theorem dX1_forgetOldest_54 : decode cX1_forgetOldest 54 = .ok (.iconst 0, 1) := by decide +kernel
theorem dX1_forgetOldest_55 : decode cX1_forgetOldest 55 = .ok (.bipush 39, 2) := by decide +kernel
theorem dX1_forgetOldest_57 : decode cX1_forgetOldest 57 = .ok (.invokestatic 34, 3) := by decide +kernel
theorem dX1_forgetOldest_60 : decode cX1_forgetOldest 60 = .ok (.aload_n 0, 1) := by decide +kernel
theorem dX1_forgetOldest_61 : decode cX1_forgetOldest 61 = .ok (.bipush 39, 2) := by decide +kernel
theorem dX1_forgetOldest_63 : decode cX1_forgetOldest 63 = .ok (.putfield 24, 3) := by decide +kernel
theorem dX1_forgetOldest_66 : decode cX1_forgetOldest 66 = .ok (.return_, 1) := by decide +kernel
theorem dX1_takeBack_0 : decode cX1_takeBack 0 = .ok (.aload_n 0, 1) := by decide +kernel
theorem dX1_takeBack_1 : decode cX1_takeBack 1 = .ok (.dup, 1) := by decide +kernel
theorem dX1_takeBack_2 : decode cX1_takeBack 2 = .ok (.getfield 24, 3) := by decide +kernel
theorem dX1_takeBack_5 : decode cX1_takeBack 5 = .ok (.iconst 1, 1) := by decide +kernel
theorem dX1_takeBack_6 : decode cX1_takeBack 6 = .ok (.isub, 1) := by decide +kernel
theorem dX1_takeBack_7 : decode cX1_takeBack 7 = .ok (.putfield 24, 3) := by decide +kernel
theorem dX1_takeBack_10 : decode cX1_takeBack 10 = .ok (.aload_n 0, 1) := by decide +kernel
theorem dX1_takeBack_11 : decode cX1_takeBack 11 = .ok (.dup, 1) := by decide +kernel
theorem dX1_takeBack_12 : decode cX1_takeBack 12 = .ok (.getfield 31, 3) := by decide +kernel
theorem dX1_takeBack_15 : decode cX1_takeBack 15 = .ok (.iconst 1, 1) := by decide +kernel
theorem dX1_takeBack_16 : decode cX1_takeBack 16 = .ok (.iadd, 1) := by decide +kernel
theorem dX1_takeBack_17 : decode cX1_takeBack 17 = .ok (.putfield 31, 3) := by decide +kernel
theorem dX1_takeBack_20 : decode cX1_takeBack 20 = .ok (.aload_n 1, 1) := by decide +kernel
theorem dX1_takeBack_21 : decode cX1_takeBack 21 = .ok (.aload_n 0, 1) := by decide +kernel
theorem dX1_takeBack_22 : decode cX1_takeBack 22 = .ok (.getfield 9, 3) := by decide +kernel
theorem dX1_takeBack_25 : decode cX1_takeBack 25 = .ok (.aload_n 0, 1) := by decide +kernel
theorem dX1_takeBack_26 : decode cX1_takeBack 26 = .ok (.getfield 24, 3) := by decide +kernel
theorem dX1_takeBack_29 : decode cX1_takeBack 29 = .ok (.iaload, 1) := by decide +kernel
theorem dX1_takeBack_30 : decode cX1_takeBack 30 = .ok (.aload_n 0, 1) := by decide +kernel
theorem dX1_takeBack_31 : decode cX1_takeBack 31 = .ok (.getfield 15, 3) := by decide +kernel
theorem dX1_takeBack_34 : decode cX1_takeBack 34 = .ok (.aload_n 0, 1) := by decide +kernel
theorem dX1_takeBack_35 : decode cX1_takeBack 35 = .ok (.getfield 24, 3) := by decide +kernel
theorem dX1_takeBack_38 : decode cX1_takeBack 38 = .ok (.iaload, 1) := by decide +kernel
theorem dX1_takeBack_39 : decode cX1_takeBack 39 = .ok (.aload_n 0, 1) := by decide +kernel
theorem dX1_takeBack_40 : decode cX1_takeBack 40 = .ok (.getfield 18, 3) := by decide +kernel
theorem dX1_takeBack_43 : decode cX1_takeBack 43 = .ok (.aload_n 0, 1) := by decide +kernel
theorem dX1_takeBack_44 : decode cX1_takeBack 44 = .ok (.getfield 24, 3) := by decide +kernel
theorem dX1_takeBack_47 : decode cX1_takeBack 47 = .ok (.iaload, 1) := by decide +kernel
theorem dX1_takeBack_48 : decode cX1_takeBack 48 = .ok (.invokevirtual 40, 3) := by decide +kernel
theorem dX1_takeBack_51 : decode cX1_takeBack 51 = .ok (.aload_n 0, 1) := by decide +kernel
theorem dX1_takeBack_52 : decode cX1_takeBack 52 = .ok (.getfield 24, 3) := by decide +kernel
theorem dX1_takeBack_55 : decode cX1_takeBack 55 = .ok (.ireturn, 1) := by decide +kernel
theorem dX1_doAgain_0 : decode cX1_doAgain 0 = .ok (.aload_n 1, 1) := by decide +kernel
theorem dX1_doAgain_1 : decode cX1_doAgain 1 = .ok (.aload_n 0, 1) := by decide +kernel
theorem dX1_doAgain_2 : decode cX1_doAgain 2 = .ok (.getfield 9, 3) := by decide +kernel
theorem dX1_doAgain_5 : decode cX1_doAgain 5 = .ok (.aload_n 0, 1) := by decide +kernel
theorem dX1_doAgain_6 : decode cX1_doAgain 6 = .ok (.getfield 24, 3) := by decide +kernel
theorem dX1_doAgain_9 : decode cX1_doAgain 9 = .ok (.iaload, 1) := by decide +kernel
theorem dX1_doAgain_10 : decode cX1_doAgain 10 = .ok (.aload_n 0, 1) := by decide +kernel
theorem dX1_doAgain_11 : decode cX1_doAgain 11 = .ok (.getfield 15, 3) := by decide +kernel
theorem dX1_doAgain_14 : decode cX1_doAgain 14 = .ok (.aload_n 0, 1) := by decide +kernel
theorem dX1_doAgain_15 : decode cX1_doAgain 15 = .ok (.getfield 24, 3) := by decide +kernel
theorem dX1_doAgain_18 : decode cX1_doAgain 18 = .ok (.iaload, 1) := by decide +kernel
theorem dX1_doAgain_19 : decode cX1_doAgain 19 = .ok (.aload_n 0, 1) := by decide +kernel
theorem dX1_doAgain_20 : decode cX1_doAgain 20 = .ok (.getfield 21, 3) := by decide +kernel
theorem dX1_doAgain_23 : decode cX1_doAgain 23 = .ok (.aload_n 0, 1) := by decide +kernel
theorem dX1_doAgain_24 : decode cX1_doAgain 24 = .ok (.getfield 24, 3) := by decide +kernel
theorem dX1_doAgain_27 : decode cX1_doAgain 27 = .ok (.iaload, 1) := by decide +kernel
theorem dX1_doAgain_28 : decode cX1_doAgain 28 = .ok (.invokevirtual 40, 3) := by decide +kernel
theorem dX1_doAgain_31 : decode cX1_doAgain 31 = .ok (.aload_n 0, 1) := by decide +kernel
theorem dX1_doAgain_32 : decode cX1_doAgain 32 = .ok (.dup, 1) := by decide +kernel
theorem dX1_doAgain_33 : decode cX1_doAgain 33 = .ok (.getfield 24, 3) := by decide +kernel
theorem dX1_doAgain_36 : decode cX1_doAgain 36 = .ok (.iconst 1, 1) := by decide +kernel
theorem dX1_doAgain_37 : decode cX1_doAgain 37 = .ok (.iadd, 1) := by decide +kernel
theorem dX1_doAgain_38 : decode cX1_doAgain 38 = .ok (.putfield 24, 3) := by decide +kernel
theorem dX1_doAgain_41 : decode cX1_doAgain 41 = .ok (.aload_n 0, 1) := by decide +kernel
theorem dX1_doAgain_42 : decode cX1_doAgain 42 = .ok (.dup, 1) := by decide +kernel
theorem dX1_doAgain_43 : decode cX1_doAgain 43 = .ok (.getfield 31, 3) := by decide +kernel
theorem dX1_doAgain_46 : decode cX1_doAgain 46 = .ok (.iconst 1, 1) := by decide +kernel
theorem dX1_doAgain_47 : decode cX1_doAgain 47 = .ok (.isub, 1) := by decide +kernel
theorem dX1_doAgain_48 : decode cX1_doAgain 48 = .ok (.putfield 31, 3) := by decide +kernel
theorem dX1_doAgain_51 : decode cX1_doAgain 51 = .ok (.aload_n 0, 1) := by decide +kernel
theorem dX1_doAgain_52 : decode cX1_doAgain 52 = .ok (.getfield 31, 3) := by decide +kernel
theorem dX1_doAgain_55 : decode cX1_doAgain 55 = .ok (.ireturn, 1) := by decide +kernel
theorem dX2_init_0 : decode cX2_init 0 = .ok (.aload_n 0, 1) := by decide +kernel
theorem dX2_init_1 : decode cX2_init 1 = .ok (.invokespecial 3, 3) := by decide +kernel
theorem dX2_init_4 : decode cX2_init 4 = .ok (.aload_n 0, 1) := by decide +kernel
theorem dX2_init_5 : decode cX2_init 5 = .ok (.bipush 30, 2) := by decide +kernel
theorem dX2_init_7 : decode cX2_init 7 = .ok (.newarray .int, 2) := by decide +kernel
theorem dX2_init_9 : decode cX2_init 9 = .ok (.putfield 9, 3) := by decide +kernel
theorem dX2_init_12 : decode cX2_init 12 = .ok (.aload_n 0, 1) := by decide +kernel
theorem dX2_init_13 : decode cX2_init 13 = .ok (.bipush 30, 2) := by decide +kernel
theorem dX2_init_15 : decode cX2_init 15 = .ok (.newarray .int, 2) := by decide +kernel
theorem dX2_init_17 : decode cX2_init 17 = .ok (.putfield 15, 3) := by decide +kernel
theorem dX2_init_20 : decode cX2_init 20 = .ok (.aload_n 0, 1) := by decide +kernel
theorem dX2_init_21 : decode cX2_init 21 = .ok (.bipush 30, 2) := by decide +kernel
theorem dX2_init_23 : decode cX2_init 23 = .ok (.newarray .boolean, 2) := by decide +kernel
theorem dX2_init_25 : decode cX2_init 25 = .ok (.putfield 18, 3) := by decide +kernel
theorem dX2_init_28 : decode cX2_init 28 = .ok (.aload_n 0, 1) := by decide +kernel
theorem dX2_init_29 : decode cX2_init 29 = .ok (.sipush 384, 3) := by decide +kernel
theorem dX2_init_32 : decode cX2_init 32 = .ok (.newarray .int, 2) := by decide +kernel
theorem dX2_init_34 : decode cX2_init 34 = .ok (.putfield 22, 3) := by decide +kernel
theorem dX2_init_37 : decode cX2_init 37 = .ok (.aload_n 0, 1) := by decide +kernel
theorem dX2_init_38 : decode cX2_init 38 = .ok (.sipush 384, 3) := by decide +kernel
theorem dX2_init_41 : decode cX2_init 41 = .ok (.newarray .int, 2) := by decide +kernel
theorem dX2_init_43 : decode cX2_init 43 = .ok (.putfield 25, 3) := by decide +kernel
theorem dX2_init_46 : decode cX2_init 46 = .ok (.aload_n 0, 1) := by decide +kernel
theorem dX2_init_47 : decode cX2_init 47 = .ok (.bipush 8, 2) := by decide +kernel
theorem dX2_init_49 : decode cX2_init 49 = .ok (.newarray .int, 2) := by decide +kernel
theorem dX2_init_51 : decode cX2_init 51 = .ok (.putfield 28, 3) := by decide +kernel
theorem dX2_init_54 : decode cX2_init 54 = .ok (.iconst 0, 1) := by decide +kernel
theorem dX2_init_55 : decode cX2_init 55 = .ok (.istore_n 1, 1) := by decide +kernel
theorem dX2_init_56 : decode cX2_init 56 = .ok (.iload_n 1, 1) := by decide +kernel
theorem dX2_init_57 : decode cX2_init 57 = .ok (.sipush 384, 3) := by decide +kernel
theorem dX2_init_60 : decode cX2_init 60 = .ok (.if_icmp .ge 25, 3) := by decide +kernel
theorem dX2_init_63 : decode cX2_init 63 = .ok (.aload_n 0, 1) := by decide +kernel
theorem dX2_init_64 : decode cX2_init 64 = .ok (.getfield 22, 3) := by decide +kernel
theorem dX2_init_67 : decode cX2_init 67 = .ok (.iload_n 1, 1) := by decide +kernel
theorem dX2_init_68 : decode cX2_init 68 = .ok (.bipush (-2), 2) := by decide +kernel
theorem dX2_init_70 : decode cX2_init 70 = .ok (.iastore, 1) := by decide +kernel
theorem dX2_init_71 : decode cX2_init 71 = .ok (.aload_n 0, 1) := by decide +kernel
theorem dX2_init_72 : decode cX2_init 72 = .ok (.getfield 25, 3) := by decide +kernel
theorem dX2_init_75 : decode cX2_init 75 = .ok (.iload_n 1, 1) := by decide +kernel
theorem dX2_init_76 : decode cX2_init 76 = .ok (.bipush (-2), 2) := by decide +kernel
theorem dX2_init_78 : decode cX2_init 78 = .ok (.iastore, 1) := by decide +kernel
theorem dX2_init_79 : decode cX2_init 79 = .ok (.iinc 1 1, 3) := by decide +kernel
theorem dX2_init_82 : decode cX2_init 82 = .ok (.goto (-26), 3) := by decide +kernel
theorem dX2_init_85 : decode cX2_init 85 = .ok (.return_, 1) := by decide +kernel
theorem dX2_place_0 : decode cX2_place 0 = .ok (.iload_n 0, 1) := by decide +kernel
theorem dX2_place_1 : decode cX2_place 1 = .ok (.bipush 8, 2) := by decide +kernel
theorem dX2_place_3 : decode cX2_place 3 = .ok (.imul, 1) := by decide +kernel
theorem dX2_place_4 : decode cX2_place 4 = .ok (.iload_n 1, 1) := by decide +kernel
theorem dX2_place_5 : decode cX2_place 5 = .ok (.iadd, 1) := by decide +kernel
theorem dX2_place_6 : decode cX2_place 6 = .ok (.ireturn, 1) := by decide +kernel
theorem dX2_copyFrom_0 : decode cX2_copyFrom 0 = .ok (.aload_n 1, 1) := by decide +kernel
theorem dX2_copyFrom_1 : decode cX2_copyFrom 1 = .ok (.getfield 9, 3) := by decide +kernel
theorem dX2_copyFrom_4 : decode cX2_copyFrom 4 = .ok (.iconst 0, 1) := by decide +kernel
theorem dX2_copyFrom_5 : decode cX2_copyFrom 5 = .ok (.aload_n 0, 1) := by decide +kernel
theorem dX2_copyFrom_6 : decode cX2_copyFrom 6 = .ok (.getfield 9, 3) := by decide +kernel
theorem dX2_copyFrom_9 : decode cX2_copyFrom 9 = .ok (.iconst 0, 1) := by decide +kernel
theorem dX2_copyFrom_10 : decode cX2_copyFrom 10 = .ok (.bipush 30, 2) := by decide +kernel
theorem dX2_copyFrom_12 : decode cX2_copyFrom 12 = .ok (.invokestatic 31, 3) := by decide +kernel
theorem dX2_copyFrom_15 : decode cX2_copyFrom 15 = .ok (.aload_n 1, 1) := by decide +kernel
theorem dX2_copyFrom_16 : decode cX2_copyFrom 16 = .ok (.getfield 15, 3) := by decide +kernel
theorem dX2_copyFrom_19 : decode cX2_copyFrom 19 = .ok (.iconst 0, 1) := by decide +kernel
theorem dX2_copyFrom_20 : decode cX2_copyFrom 20 = .ok (.aload_n 0, 1) := by decide +kernel
theorem dX2_copyFrom_21 : decode cX2_copyFrom 21 = .ok (.getfield 15, 3) := by decide +kernel
theorem dX2_copyFrom_24 : decode cX2_copyFrom 24 = .ok (.iconst 0, 1) := by decide +kernel
theorem dX2_copyFrom_25 : decode cX2_copyFrom 25 = .ok (.bipush 30, 2) := by decide +kernel
theorem dX2_copyFrom_27 : decode cX2_copyFrom 27 = .ok (.invokestatic 31, 3) := by decide +kernel
theorem dX2_copyFrom_30 : decode cX2_copyFrom 30 = .ok (.aload_n 1, 1) := by decide +kernel
theorem dX2_copyFrom_31 : decode cX2_copyFrom 31 = .ok (.getfield 18, 3) := by decide +kernel
theorem dX2_copyFrom_34 : decode cX2_copyFrom 34 = .ok (.iconst 0, 1) := by decide +kernel
theorem dX2_copyFrom_35 : decode cX2_copyFrom 35 = .ok (.aload_n 0, 1) := by decide +kernel
theorem dX2_copyFrom_36 : decode cX2_copyFrom 36 = .ok (.getfield 18, 3) := by decide +kernel
theorem dX2_copyFrom_39 : decode cX2_copyFrom 39 = .ok (.iconst 0, 1) := by decide +kernel
theorem dX2_copyFrom_40 : decode cX2_copyFrom 40 = .ok (.bipush 30, 2) := by decide +kernel
theorem dX2_copyFrom_42 : decode cX2_copyFrom 42 = .ok (.invokestatic 31, 3) := by decide +kernel
theorem dX2_copyFrom_45 : decode cX2_copyFrom 45 = .ok (.aload_n 1, 1) := by decide +kernel
theorem dX2_copyFrom_46 : decode cX2_copyFrom 46 = .ok (.getfield 22, 3) := by decide +kernel
theorem dX2_copyFrom_49 : decode cX2_copyFrom 49 = .ok (.iconst 0, 1) := by decide +kernel
theorem dX2_copyFrom_50 : decode cX2_copyFrom 50 = .ok (.aload_n 0, 1) := by decide +kernel
theorem dX2_copyFrom_51 : decode cX2_copyFrom 51 = .ok (.getfield 22, 3) := by decide +kernel
theorem dX2_copyFrom_54 : decode cX2_copyFrom 54 = .ok (.iconst 0, 1) := by decide +kernel
theorem dX2_copyFrom_55 : decode cX2_copyFrom 55 = .ok (.sipush 384, 3) := by decide +kernel
theorem dX2_copyFrom_58 : decode cX2_copyFrom 58 = .ok (.invokestatic 31, 3) := by decide +kernel
theorem dX2_copyFrom_61 : decode cX2_copyFrom 61 = .ok (.aload_n 1, 1) := by decide +kernel
theorem dX2_copyFrom_62 : decode cX2_copyFrom 62 = .ok (.getfield 25, 3) := by decide +kernel
theorem dX2_copyFrom_65 : decode cX2_copyFrom 65 = .ok (.iconst 0, 1) := by decide +kernel
theorem dX2_copyFrom_66 : decode cX2_copyFrom 66 = .ok (.aload_n 0, 1) := by decide +kernel
theorem dX2_copyFrom_67 : decode cX2_copyFrom 67 = .ok (.getfield 25, 3) := by decide +kernel
theorem dX2_copyFrom_70 : decode cX2_copyFrom 70 = .ok (.iconst 0, 1) := by decide +kernel
theorem dX2_copyFrom_71 : decode cX2_copyFrom 71 = .ok (.sipush 384, 3) := by decide +kernel
theorem dX2_copyFrom_74 : decode cX2_copyFrom 74 = .ok (.invokestatic 31, 3) := by decide +kernel
theorem dX2_copyFrom_77 : decode cX2_copyFrom 77 = .ok (.aload_n 1, 1) := by decide +kernel
theorem dX2_copyFrom_78 : decode cX2_copyFrom 78 = .ok (.getfield 28, 3) := by decide +kernel
theorem dX2_copyFrom_81 : decode cX2_copyFrom 81 = .ok (.iconst 0, 1) := by decide +kernel
theorem dX2_copyFrom_82 : decode cX2_copyFrom 82 = .ok (.aload_n 0, 1) := by decide +kernel
theorem dX2_copyFrom_83 : decode cX2_copyFrom 83 = .ok (.getfield 28, 3) := by decide +kernel
theorem dX2_copyFrom_86 : decode cX2_copyFrom 86 = .ok (.iconst 0, 1) := by decide +kernel
theorem dX2_copyFrom_87 : decode cX2_copyFrom 87 = .ok (.bipush 8, 2) := by decide +kernel
theorem dX2_copyFrom_89 : decode cX2_copyFrom 89 = .ok (.invokestatic 31, 3) := by decide +kernel
theorem dX2_copyFrom_92 : decode cX2_copyFrom 92 = .ok (.aload_n 0, 1) := by decide +kernel
theorem dX2_copyFrom_93 : decode cX2_copyFrom 93 = .ok (.aload_n 1, 1) := by decide +kernel
theorem dX2_copyFrom_94 : decode cX2_copyFrom 94 = .ok (.getfield 37, 3) := by decide +kernel
theorem dX2_copyFrom_97 : decode cX2_copyFrom 97 = .ok (.putfield 37, 3) := by decide +kernel
theorem dX2_copyFrom_100 : decode cX2_copyFrom 100 = .ok (.aload_n 0, 1) := by decide +kernel
theorem dX2_copyFrom_101 : decode cX2_copyFrom 101 = .ok (.aload_n 1, 1) := by decide +kernel
theorem dX2_copyFrom_102 : decode cX2_copyFrom 102 = .ok (.getfield 41, 3) := by decide +kernel
theorem dX2_copyFrom_105 : decode cX2_copyFrom 105 = .ok (.putfield 41, 3) := by decide +kernel
theorem dX2_copyFrom_108 : decode cX2_copyFrom 108 = .ok (.return_, 1) := by decide +kernel
theorem dX2_isAsk_0 : decode cX2_isAsk 0 = .ok (.iload_n 1, 1) := by decide +kernel
theorem dX2_isAsk_1 : decode cX2_isAsk 1 = .ok (.iconst 0, 1) := by decide +kernel
theorem dX2_isAsk_2 : decode cX2_isAsk 2 = .ok (.aload_n 0, 1) := by decide +kernel
theorem dX2_isAsk_3 : decode cX2_isAsk 3 = .ok (.getfield 37, 3) := by decide +kernel
theorem dX2_isAsk_6 : decode cX2_isAsk 6 = .ok (.iconst 1, 1) := by decide +kernel
theorem dX2_isAsk_7 : decode cX2_isAsk 7 = .ok (.isub, 1) := by decide +kernel
theorem dX2_isAsk_8 : decode cX2_isAsk 8 = .ok (.invokestatic 44, 3) := by decide +kernel
theorem dX2_isAsk_11 : decode cX2_isAsk 11 = .ok (.ireturn, 1) := by decide +kernel
theorem dX2_addAsk_0 : decode cX2_addAsk 0 = .ok (.aload_n 0, 1) := by decide +kernel
theorem dX2_addAsk_1 : decode cX2_addAsk 1 = .ok (.getfield 9, 3) := by decide +kernel
theorem dX2_addAsk_4 : decode cX2_addAsk 4 = .ok (.aload_n 0, 1) := by decide +kernel
theorem dX2_addAsk_5 : decode cX2_addAsk 5 = .ok (.getfield 37, 3) := by decide +kernel
theorem dX2_addAsk_8 : decode cX2_addAsk 8 = .ok (.iload_n 1, 1) := by decide +kernel
theorem dX2_addAsk_9 : decode cX2_addAsk 9 = .ok (.iastore, 1) := by decide +kernel
theorem dX2_addAsk_10 : decode cX2_addAsk 10 = .ok (.aload_n 0, 1) := by decide +kernel
theorem dX2_addAsk_11 : decode cX2_addAsk 11 = .ok (.getfield 15, 3) := by decide +kernel
theorem dX2_addAsk_14 : decode cX2_addAsk 14 = .ok (.aload_n 0, 1) := by decide +kernel
theorem dX2_addAsk_15 : decode cX2_addAsk 15 = .ok (.getfield 37, 3) := by decide +kernel
theorem dX2_addAsk_18 : decode cX2_addAsk 18 = .ok (.iload_n 2, 1) := by decide +kernel
theorem dX2_addAsk_19 : decode cX2_addAsk 19 = .ok (.iastore, 1) := by decide +kernel
theorem dX2_addAsk_20 : decode cX2_addAsk 20 = .ok (.aload_n 0, 1) := by decide +kernel
theorem dX2_addAsk_21 : decode cX2_addAsk 21 = .ok (.getfield 18, 3) := by decide +kernel
theorem dX2_addAsk_24 : decode cX2_addAsk 24 = .ok (.aload_n 0, 1) := by decide +kernel
theorem dX2_addAsk_25 : decode cX2_addAsk 25 = .ok (.getfield 37, 3) := by decide +kernel
theorem dX2_addAsk_28 : decode cX2_addAsk 28 = .ok (.iconst 0, 1) := by decide +kernel
theorem dX2_addAsk_29 : decode cX2_addAsk 29 = .ok (.bastore, 1) := by decide +kernel
theorem dX2_addAsk_30 : decode cX2_addAsk 30 = .ok (.aload_n 0, 1) := by decide +kernel
theorem dX2_addAsk_31 : decode cX2_addAsk 31 = .ok (.dup, 1) := by decide +kernel
theorem dX2_addAsk_32 : decode cX2_addAsk 32 = .ok (.getfield 37, 3) := by decide +kernel
theorem dX2_addAsk_35 : decode cX2_addAsk 35 = .ok (.iconst 1, 1) := by decide +kernel
theorem dX2_addAsk_36 : decode cX2_addAsk 36 = .ok (.iadd, 1) := by decide +kernel
theorem dX2_addAsk_37 : decode cX2_addAsk 37 = .ok (.putfield 37, 3) := by decide +kernel
theorem dX2_addAsk_40 : decode cX2_addAsk 40 = .ok (.aload_n 0, 1) := by decide +kernel
theorem dX2_addAsk_41 : decode cX2_addAsk 41 = .ok (.getfield 37, 3) := by decide +kernel
theorem dX2_addAsk_44 : decode cX2_addAsk 44 = .ok (.iconst 1, 1) := by decide +kernel
theorem dX2_addAsk_45 : decode cX2_addAsk 45 = .ok (.isub, 1) := by decide +kernel
theorem dX2_addAsk_46 : decode cX2_addAsk 46 = .ok (.ireturn, 1) := by decide +kernel
theorem dX2_waiting_0 : decode cX2_waiting 0 = .ok (.iconst 0, 1) := by decide +kernel
theorem dX2_waiting_1 : decode cX2_waiting 1 = .ok (.istore_n 1, 1) := by decide +kernel
theorem dX2_waiting_2 : decode cX2_waiting 2 = .ok (.iconst 0, 1) := by decide +kernel
theorem dX2_waiting_3 : decode cX2_waiting 3 = .ok (.istore_n 2, 1) := by decide +kernel
theorem dX2_waiting_4 : decode cX2_waiting 4 = .ok (.iload_n 2, 1) := by decide +kernel
theorem dX2_waiting_5 : decode cX2_waiting 5 = .ok (.aload_n 0, 1) := by decide +kernel
theorem dX2_waiting_6 : decode cX2_waiting 6 = .ok (.getfield 37, 3) := by decide +kernel
theorem dX2_waiting_9 : decode cX2_waiting 9 = .ok (.if_icmp .ge 21, 3) := by decide +kernel
theorem dX2_waiting_12 : decode cX2_waiting 12 = .ok (.aload_n 0, 1) := by decide +kernel
theorem dX2_waiting_13 : decode cX2_waiting 13 = .ok (.getfield 18, 3) := by decide +kernel
theorem dX2_waiting_16 : decode cX2_waiting 16 = .ok (.iload_n 2, 1) := by decide +kernel
theorem dX2_waiting_17 : decode cX2_waiting 17 = .ok (.baload, 1) := by decide +kernel
theorem dX2_waiting_18 : decode cX2_waiting 18 = .ok (.ifCond .ne 6, 3) := by decide +kernel
theorem dX2_waiting_21 : decode cX2_waiting 21 = .ok (.iinc 1 1, 3) := by decide +kernel
theorem dX2_waiting_24 : decode cX2_waiting 24 = .ok (.iinc 2 1, 3) := by decide +kernel
theorem dX2_waiting_27 : decode cX2_waiting 27 = .ok (.goto (-23), 3) := by decide +kernel
theorem dX2_waiting_30 : decode cX2_waiting 30 = .ok (.iload_n 1, 1) := by decide +kernel
theorem dX2_waiting_31 : decode cX2_waiting 31 = .ok (.ireturn, 1) := by decide +kernel
theorem dX2_lead_0 : decode cX2_lead 0 = .ok (.aload_n 0, 1) := by decide +kernel
theorem dX2_lead_1 : decode cX2_lead 1 = .ok (.getfield 41, 3) := by decide +kernel
theorem dX2_lead_4 : decode cX2_lead 4 = .ok (.iload_n 1, 1) := by decide +kernel
theorem dX2_lead_5 : decode cX2_lead 5 = .ok (.invokestatic 48, 3) := by decide +kernel
theorem dX2_lead_8 : decode cX2_lead 8 = .ok (.istore 5, 2) := by decide +kernel
theorem dX2_lead_10 : decode cX2_lead 10 = .ok (.aload_n 0, 1) := by decide +kernel
theorem dX2_lead_11 : decode cX2_lead 11 = .ok (.getfield 22, 3) := by decide +kernel
theorem dX2_lead_14 : decode cX2_lead 14 = .ok (.iload 5, 2) := by decide +kernel
theorem dX2_lead_16 : decode cX2_lead 16 = .ok (.iload_n 2, 1) := by decide +kernel
theorem dX2_lead_17 : decode cX2_lead 17 = .ok (.iastore, 1) := by decide +kernel
theorem dX2_lead_18 : decode cX2_lead 18 = .ok (.aload_n 0, 1) := by decide +kernel
theorem dX2_lead_19 : decode cX2_lead 19 = .ok (.getfield 25, 3) := by decide +kernel
theorem dX2_lead_22 : decode cX2_lead 22 = .ok (.iload 5, 2) := by decide +kernel
theorem dX2_lead_24 : decode cX2_lead 24 = .ok (.iload_n 3, 1) := by decide +kernel
theorem dX2_lead_25 : decode cX2_lead 25 = .ok (.iastore, 1) := by decide +kernel
theorem dX2_lead_26 : decode cX2_lead 26 = .ok (.aload_n 0, 1) := by decide +kernel
theorem dX2_lead_27 : decode cX2_lead 27 = .ok (.getfield 28, 3) := by decide +kernel
theorem dX2_lead_30 : decode cX2_lead 30 = .ok (.iload_n 2, 1) := by decide +kernel
theorem dX2_lead_31 : decode cX2_lead 31 = .ok (.dup2, 1) := by decide +kernel
theorem dX2_lead_32 : decode cX2_lead 32 = .ok (.iaload, 1) := by decide +kernel
theorem dX2_lead_33 : decode cX2_lead 33 = .ok (.iload 4, 2) := by decide +kernel
theorem dX2_lead_35 : decode cX2_lead 35 = .ok (.iadd, 1) := by decide +kernel
theorem dX2_lead_36 : decode cX2_lead 36 = .ok (.iastore, 1) := by decide +kernel
theorem dX2_lead_37 : decode cX2_lead 37 = .ok (.return_, 1) := by decide +kernel
theorem dX2_endDay_0 : decode cX2_endDay 0 = .ok (.iconst 0, 1) := by decide +kernel
theorem dX2_endDay_1 : decode cX2_endDay 1 = .ok (.istore_n 1, 1) := by decide +kernel
theorem dX2_endDay_2 : decode cX2_endDay 2 = .ok (.iload_n 1, 1) := by decide +kernel
theorem dX2_endDay_3 : decode cX2_endDay 3 = .ok (.aload_n 0, 1) := by decide +kernel
theorem dX2_endDay_4 : decode cX2_endDay 4 = .ok (.getfield 37, 3) := by decide +kernel
theorem dX2_endDay_7 : decode cX2_endDay 7 = .ok (.if_icmp .ge 29, 3) := by decide +kernel
theorem dX2_endDay_10 : decode cX2_endDay 10 = .ok (.aload_n 0, 1) := by decide +kernel
theorem dX2_endDay_11 : decode cX2_endDay 11 = .ok (.getfield 15, 3) := by decide +kernel
theorem dX2_endDay_14 : decode cX2_endDay 14 = .ok (.iload_n 1, 1) := by decide +kernel
theorem dX2_endDay_15 : decode cX2_endDay 15 = .ok (.iaload, 1) := by decide +kernel
theorem dX2_endDay_16 : decode cX2_endDay 16 = .ok (.aload_n 0, 1) := by decide +kernel
theorem dX2_endDay_17 : decode cX2_endDay 17 = .ok (.getfield 41, 3) := by decide +kernel
theorem dX2_endDay_20 : decode cX2_endDay 20 = .ok (.if_icmp .ne 10, 3) := by decide +kernel
theorem dX2_endDay_23 : decode cX2_endDay 23 = .ok (.aload_n 0, 1) := by decide +kernel
theorem dX2_endDay_24 : decode cX2_endDay 24 = .ok (.getfield 18, 3) := by decide +kernel
theorem dX2_endDay_27 : decode cX2_endDay 27 = .ok (.iload_n 1, 1) := by decide +kernel
theorem dX2_endDay_28 : decode cX2_endDay 28 = .ok (.iconst 1, 1) := by decide +kernel
theorem dX2_endDay_29 : decode cX2_endDay 29 = .ok (.bastore, 1) := by decide +kernel
theorem dX2_endDay_30 : decode cX2_endDay 30 = .ok (.iinc 1 1, 3) := by decide +kernel
theorem dX2_endDay_33 : decode cX2_endDay 33 = .ok (.goto (-31), 3) := by decide +kernel
theorem dX2_endDay_36 : decode cX2_endDay 36 = .ok (.aload_n 0, 1) := by decide +kernel
theorem dX2_endDay_37 : decode cX2_endDay 37 = .ok (.dup, 1) := by decide +kernel
theorem dX2_endDay_38 : decode cX2_endDay 38 = .ok (.getfield 41, 3) := by decide +kernel
theorem dX2_endDay_41 : decode cX2_endDay 41 = .ok (.iconst 1, 1) := by decide +kernel
theorem dX2_endDay_42 : decode cX2_endDay 42 = .ok (.iadd, 1) := by decide +kernel
theorem dX2_endDay_43 : decode cX2_endDay 43 = .ok (.putfield 41, 3) := by decide +kernel
theorem dX2_endDay_46 : decode cX2_endDay 46 = .ok (.return_, 1) := by decide +kernel
theorem dX3_init_0 : decode cX3_init 0 = .ok (.aload_n 0, 1) := by decide +kernel
theorem dX3_init_1 : decode cX3_init 1 = .ok (.invokespecial 5, 3) := by decide +kernel
theorem dX3_init_4 : decode cX3_init 4 = .ok (.aload_n 0, 1) := by decide +kernel
theorem dX3_init_5 : decode cX3_init 5 = .ok (.bipush 120, 2) := by decide +kernel
theorem dX3_init_7 : decode cX3_init 7 = .ok (.newarray .int, 2) := by decide +kernel
theorem dX3_init_9 : decode cX3_init 9 = .ok (.putfield 11, 3) := by decide +kernel
theorem dX3_init_12 : decode cX3_init 12 = .ok (.aload_n 0, 1) := by decide +kernel
theorem dX3_init_13 : decode cX3_init 13 = .ok (.bipush 121, 2) := by decide +kernel
theorem dX3_init_15 : decode cX3_init 15 = .ok (.newarray .int, 2) := by decide +kernel
theorem dX3_init_17 : decode cX3_init 17 = .ok (.putfield 15, 3) := by decide +kernel
theorem dX3_init_20 : decode cX3_init 20 = .ok (.aload_n 0, 1) := by decide +kernel
theorem dX3_init_21 : decode cX3_init 21 = .ok (.bipush 121, 2) := by decide +kernel
theorem dX3_init_23 : decode cX3_init 23 = .ok (.newarray .int, 2) := by decide +kernel
theorem dX3_init_25 : decode cX3_init 25 = .ok (.putfield 18, 3) := by decide +kernel
theorem dX3_init_28 : decode cX3_init 28 = .ok (.aload_n 0, 1) := by decide +kernel
theorem dX3_init_29 : decode cX3_init 29 = .ok (.bipush 120, 2) := by decide +kernel
theorem dX3_init_31 : decode cX3_init 31 = .ok (.newarray .int, 2) := by decide +kernel
theorem dX3_init_33 : decode cX3_init 33 = .ok (.putfield 21, 3) := by decide +kernel
theorem dX3_init_36 : decode cX3_init 36 = .ok (.aload_n 0, 1) := by decide +kernel
theorem dX3_init_37 : decode cX3_init 37 = .ok (.bipush 121, 2) := by decide +kernel
theorem dX3_init_39 : decode cX3_init 39 = .ok (.newarray .int, 2) := by decide +kernel
theorem dX3_init_41 : decode cX3_init 41 = .ok (.putfield 24, 3) := by decide +kernel
theorem dX3_init_44 : decode cX3_init 44 = .ok (.aload_n 0, 1) := by decide +kernel
theorem dX3_init_45 : decode cX3_init 45 = .ok (.bipush 6, 2) := by decide +kernel
theorem dX3_init_47 : decode cX3_init 47 = .ok (.newarray .int, 2) := by decide +kernel
theorem dX3_init_49 : decode cX3_init 49 = .ok (.putfield 27, 3) := by decide +kernel
theorem dX3_init_52 : decode cX3_init 52 = .ok (.return_, 1) := by decide +kernel
theorem dX3_tapeOn_0 : decode cX3_tapeOn 0 = .ok (.aload_n 0, 1) := by decide +kernel
theorem dX3_tapeOn_1 : decode cX3_tapeOn 1 = .ok (.getfield 11, 3) := by decide +kernel
theorem dX3_tapeOn_4 : decode cX3_tapeOn 4 = .ok (.aload_n 0, 1) := by decide +kernel
theorem dX3_tapeOn_5 : decode cX3_tapeOn 5 = .ok (.getfield 30, 3) := by decide +kernel
theorem dX3_tapeOn_8 : decode cX3_tapeOn 8 = .ok (.iload_n 1, 1) := by decide +kernel
theorem dX3_tapeOn_9 : decode cX3_tapeOn 9 = .ok (.iastore, 1) := by decide +kernel
theorem dX3_tapeOn_10 : decode cX3_tapeOn 10 = .ok (.aload_n 0, 1) := by decide +kernel
theorem dX3_tapeOn_11 : decode cX3_tapeOn 11 = .ok (.dup, 1) := by decide +kernel
theorem dX3_tapeOn_12 : decode cX3_tapeOn 12 = .ok (.getfield 30, 3) := by decide +kernel
theorem dX3_tapeOn_15 : decode cX3_tapeOn 15 = .ok (.iconst 1, 1) := by decide +kernel
theorem dX3_tapeOn_16 : decode cX3_tapeOn 16 = .ok (.iadd, 1) := by decide +kernel
theorem dX3_tapeOn_17 : decode cX3_tapeOn 17 = .ok (.putfield 30, 3) := by decide +kernel
theorem dX3_tapeOn_20 : decode cX3_tapeOn 20 = .ok (.aload_n 0, 1) := by decide +kernel
theorem dX3_tapeOn_21 : decode cX3_tapeOn 21 = .ok (.getfield 30, 3) := by decide +kernel
theorem dX3_tapeOn_24 : decode cX3_tapeOn 24 = .ok (.ireturn, 1) := by decide +kernel
theorem dX3_isGiven_0 : decode cX3_isGiven 0 = .ok (.aload_n 0, 1) := by decide +kernel
theorem dX3_isGiven_1 : decode cX3_isGiven 1 = .ok (.getfield 34, 3) := by decide +kernel
theorem dX3_isGiven_4 : decode cX3_isGiven 4 = .ok (.ifCond .le 7, 3) := by decide +kernel
theorem dX3_isGiven_7 : decode cX3_isGiven 7 = .ok (.iconst 1, 1) := by decide +kernel
theorem dX3_isGiven_8 : decode cX3_isGiven 8 = .ok (.goto 4, 3) := by decide +kernel
theorem dX3_isGiven_11 : decode cX3_isGiven 11 = .ok (.iconst 0, 1) := by decide +kernel
theorem dX3_isGiven_12 : decode cX3_isGiven 12 = .ok (.ireturn, 1) := by decide +kernel
theorem dX3_adoptTape_0 : decode cX3_adoptTape 0 = .ok (.aload_n 0, 1) := by decide +kernel
theorem dX3_adoptTape_1 : decode cX3_adoptTape 1 = .ok (.invokevirtual 37, 3) := by decide +kernel
theorem dX3_adoptTape_4 : decode cX3_adoptTape 4 = .ok (.istore_n 1, 1) := by decide +kernel
theorem dX3_adoptTape_5 : decode cX3_adoptTape 5 = .ok (.aload_n 0, 1) := by decide +kernel
theorem dX3_adoptTape_6 : decode cX3_adoptTape 6 = .ok (.iconst 0, 1) := by decide +kernel
theorem dX3_adoptTape_7 : decode cX3_adoptTape 7 = .ok (.putfield 30, 3) := by decide +kernel
theorem dX3_adoptTape_10 : decode cX3_adoptTape 10 = .ok (.iload_n 1, 1) := by decide +kernel
theorem dX3_adoptTape_11 : decode cX3_adoptTape 11 = .ok (.ifCond .lt 8, 3) := by decide +kernel
theorem dX3_adoptTape_14 : decode cX3_adoptTape 14 = .ok (.bipush (-100), 2) := by decide +kernel
theorem dX3_adoptTape_16 : decode cX3_adoptTape 16 = .ok (.iload_n 1, 1) := by decide +kernel
theorem dX3_adoptTape_17 : decode cX3_adoptTape 17 = .ok (.isub, 1) := by decide +kernel
theorem dX3_adoptTape_18 : decode cX3_adoptTape 18 = .ok (.ireturn, 1) := by decide +kernel
theorem dX3_adoptTape_19 : decode cX3_adoptTape 19 = .ok (.aload_n 0, 1) := by decide +kernel
theorem dX3_adoptTape_20 : decode cX3_adoptTape 20 = .ok (.getfield 18, 3) := by decide +kernel
theorem dX3_adoptTape_23 : decode cX3_adoptTape 23 = .ok (.iconst 0, 1) := by decide +kernel
theorem dX3_adoptTape_24 : decode cX3_adoptTape 24 = .ok (.aload_n 0, 1) := by decide +kernel
theorem dX3_adoptTape_25 : decode cX3_adoptTape 25 = .ok (.getfield 15, 3) := by decide +kernel
theorem dX3_adoptTape_28 : decode cX3_adoptTape 28 = .ok (.iconst 0, 1) := by decide +kernel
theorem dX3_adoptTape_29 : decode cX3_adoptTape 29 = .ok (.aload_n 0, 1) := by decide +kernel
theorem dX3_adoptTape_30 : decode cX3_adoptTape 30 = .ok (.getfield 41, 3) := by decide +kernel
theorem dX3_adoptTape_33 : decode cX3_adoptTape 33 = .ok (.invokestatic 44, 3) := by decide +kernel
theorem dX3_adoptTape_36 : decode cX3_adoptTape 36 = .ok (.aload_n 0, 1) := by decide +kernel
theorem dX3_adoptTape_37 : decode cX3_adoptTape 37 = .ok (.aload_n 0, 1) := by decide +kernel
theorem dX3_adoptTape_38 : decode cX3_adoptTape 38 = .ok (.getfield 41, 3) := by decide +kernel
theorem dX3_adoptTape_41 : decode cX3_adoptTape 41 = .ok (.putfield 34, 3) := by decide +kernel
theorem dX3_adoptTape_44 : decode cX3_adoptTape 44 = .ok (.iconst 1, 1) := by decide +kernel
theorem dX3_adoptTape_45 : decode cX3_adoptTape 45 = .ok (.ireturn, 1) := by decide +kernel
theorem dX3_faultOfTape_0 : decode cX3_faultOfTape 0 = .ok (.aload_n 0, 1) := by decide +kernel
theorem dX3_faultOfTape_1 : decode cX3_faultOfTape 1 = .ok (.iconst 0, 1) := by decide +kernel
theorem dX3_faultOfTape_2 : decode cX3_faultOfTape 2 = .ok (.putfield 41, 3) := by decide +kernel
theorem dX3_faultOfTape_5 : decode cX3_faultOfTape 5 = .ok (.aload_n 0, 1) := by decide +kernel
theorem dX3_faultOfTape_6 : decode cX3_faultOfTape 6 = .ok (.iconst 0, 1) := by decide +kernel
theorem dX3_faultOfTape_7 : decode cX3_faultOfTape 7 = .ok (.putfield 50, 3) := by decide +kernel
theorem dX3_faultOfTape_10 : decode cX3_faultOfTape 10 = .ok (.aload_n 0, 1) := by decide +kernel
theorem dX3_faultOfTape_11 : decode cX3_faultOfTape 11 = .ok (.iconst 0, 1) := by decide +kernel
theorem dX3_faultOfTape_12 : decode cX3_faultOfTape 12 = .ok (.putfield 53, 3) := by decide +kernel
theorem dX3_faultOfTape_15 : decode cX3_faultOfTape 15 = .ok (.aload_n 0, 1) := by decide +kernel
theorem dX3_faultOfTape_16 : decode cX3_faultOfTape 16 = .ok (.iconst 0, 1) := by decide +kernel
theorem dX3_faultOfTape_17 : decode cX3_faultOfTape 17 = .ok (.putfield 56, 3) := by decide +kernel
theorem dX3_faultOfTape_20 : decode cX3_faultOfTape 20 = .ok (.aload_n 0, 1) := by decide +kernel
theorem dX3_faultOfTape_21 : decode cX3_faultOfTape 21 = .ok (.iconst 1, 1) := by decide +kernel
theorem dX3_faultOfTape_22 : decode cX3_faultOfTape 22 = .ok (.putfield 59, 3) := by decide +kernel
theorem dX3_faultOfTape_25 : decode cX3_faultOfTape 25 = .ok (.aload_n 0, 1) := by decide +kernel
theorem dX3_faultOfTape_26 : decode cX3_faultOfTape 26 = .ok (.iconst 0, 1) := by decide +kernel
theorem dX3_faultOfTape_27 : decode cX3_faultOfTape 27 = .ok (.putfield 63, 3) := by decide +kernel
theorem dX3_faultOfTape_30 : decode cX3_faultOfTape 30 = .ok (.iconst 0, 1) := by decide +kernel
theorem dX3_faultOfTape_31 : decode cX3_faultOfTape 31 = .ok (.istore_n 1, 1) := by decide +kernel
theorem dX3_faultOfTape_32 : decode cX3_faultOfTape 32 = .ok (.iload_n 1, 1) := by decide +kernel
theorem dX3_faultOfTape_33 : decode cX3_faultOfTape 33 = .ok (.aload_n 0, 1) := by decide +kernel
theorem dX3_faultOfTape_34 : decode cX3_faultOfTape 34 = .ok (.getfield 30, 3) := by decide +kernel
theorem dX3_faultOfTape_37 : decode cX3_faultOfTape 37 = .ok (.if_icmp .ge 46, 3) := by decide +kernel
theorem dX3_faultOfTape_40 : decode cX3_faultOfTape 40 = .ok (.aload_n 0, 1) := by decide +kernel
theorem dX3_faultOfTape_41 : decode cX3_faultOfTape 41 = .ok (.getfield 59, 3) := by decide +kernel
theorem dX3_faultOfTape_44 : decode cX3_faultOfTape 44 = .ok (.ifCond .eq 16, 3) := by decide +kernel
theorem dX3_faultOfTape_47 : decode cX3_faultOfTape 47 = .ok (.aload_n 0, 1) := by decide +kernel
theorem dX3_faultOfTape_48 : decode cX3_faultOfTape 48 = .ok (.aload_n 0, 1) := by decide +kernel
theorem dX3_faultOfTape_49 : decode cX3_faultOfTape 49 = .ok (.getfield 11, 3) := by decide +kernel
theorem dX3_faultOfTape_52 : decode cX3_faultOfTape 52 = .ok (.iload_n 1, 1) := by decide +kernel
theorem dX3_faultOfTape_53 : decode cX3_faultOfTape 53 = .ok (.iaload, 1) := by decide +kernel
theorem dX3_faultOfTape_54 : decode cX3_faultOfTape 54 = .ok (.invokevirtual 66, 3) := by decide +kernel
theorem dX3_faultOfTape_57 : decode cX3_faultOfTape 57 = .ok (.goto 13, 3) := by decide +kernel
theorem dX3_faultOfTape_60 : decode cX3_faultOfTape 60 = .ok (.aload_n 0, 1) := by decide +kernel
theorem dX3_faultOfTape_61 : decode cX3_faultOfTape 61 = .ok (.aload_n 0, 1) := by decide +kernel
theorem dX3_faultOfTape_62 : decode cX3_faultOfTape 62 = .ok (.getfield 11, 3) := by decide +kernel
theorem dX3_faultOfTape_65 : decode cX3_faultOfTape 65 = .ok (.iload_n 1, 1) := by decide +kernel
theorem dX3_faultOfTape_66 : decode cX3_faultOfTape 66 = .ok (.iaload, 1) := by decide +kernel
theorem dX3_faultOfTape_67 : decode cX3_faultOfTape 67 = .ok (.invokevirtual 70, 3) := by decide +kernel
theorem dX3_faultOfTape_70 : decode cX3_faultOfTape 70 = .ok (.istore_n 2, 1) := by decide +kernel
theorem dX3_faultOfTape_71 : decode cX3_faultOfTape 71 = .ok (.iload_n 2, 1) := by decide +kernel
theorem dX3_faultOfTape_72 : decode cX3_faultOfTape 72 = .ok (.ifCond .ne 5, 3) := by decide +kernel
theorem dX3_faultOfTape_75 : decode cX3_faultOfTape 75 = .ok (.iload_n 1, 1) := by decide +kernel
theorem dX3_faultOfTape_76 : decode cX3_faultOfTape 76 = .ok (.ireturn, 1) := by decide +kernel
theorem dX3_faultOfTape_77 : decode cX3_faultOfTape 77 = .ok (.iinc 1 1, 3) := by decide +kernel
theorem dX3_faultOfTape_80 : decode cX3_faultOfTape 80 = .ok (.goto (-48), 3) := by decide +kernel
theorem dX3_faultOfTape_83 : decode cX3_faultOfTape 83 = .ok (.aload_n 0, 1) := by decide +kernel
theorem dX3_faultOfTape_84 : decode cX3_faultOfTape 84 = .ok (.getfield 59, 3) := by decide +kernel
theorem dX3_faultOfTape_87 : decode cX3_faultOfTape 87 = .ok (.ifCond .ne 10, 3) := by decide +kernel
theorem dX3_faultOfTape_90 : decode cX3_faultOfTape 90 = .ok (.aload_n 0, 1) := by decide +kernel
theorem dX3_faultOfTape_91 : decode cX3_faultOfTape 91 = .ok (.getfield 56, 3) := by decide +kernel
theorem dX3_faultOfTape_94 : decode cX3_faultOfTape 94 = .ok (.ifCond .le 8, 3) := by decide +kernel
theorem dX3_faultOfTape_97 : decode cX3_faultOfTape 97 = .ok (.aload_n 0, 1) := by decide +kernel
theorem dX3_faultOfTape_98 : decode cX3_faultOfTape 98 = .ok (.getfield 30, 3) := by decide +kernel
theorem dX3_faultOfTape_101 : decode cX3_faultOfTape 101 = .ok (.ireturn, 1) := by decide +kernel
theorem dX3_faultOfTape_102 : decode cX3_faultOfTape 102 = .ok (.aload_n 0, 1) := by decide +kernel
theorem dX3_faultOfTape_103 : decode cX3_faultOfTape 103 = .ok (.iconst 1, 1) := by decide +kernel
theorem dX3_faultOfTape_104 : decode cX3_faultOfTape 104 = .ok (.invokevirtual 73, 3) := by decide +kernel
theorem dX3_faultOfTape_107 : decode cX3_faultOfTape 107 = .ok (.aload_n 0, 1) := by decide +kernel
theorem dX3_faultOfTape_108 : decode cX3_faultOfTape 108 = .ok (.sipush 20059, 3) := by decide +kernel
theorem dX3_faultOfTape_111 : decode cX3_faultOfTape 111 = .ok (.invokevirtual 77, 3) := by decide +kernel
theorem dX3_faultOfTape_114 : decode cX3_faultOfTape 114 = .ok (.iconst (-1), 1) := by decide +kernel
theorem dX3_faultOfTape_115 : decode cX3_faultOfTape 115 = .ok (.ireturn, 1) := by decide +kernel
theorem dX3_takeForOperand_0 : decode cX3_takeForOperand 0 = .ok (.iload_n 1, 1) := by decide +kernel
theorem dX3_takeForOperand_1 : decode cX3_takeForOperand 1 = .ok (.invokestatic 80, 3) := by decide +kernel
theorem dX3_takeForOperand_4 : decode cX3_takeForOperand 4 = .ok (.ifCond .eq 14, 3) := by decide +kernel
theorem dX3_takeForOperand_7 : decode cX3_takeForOperand 7 = .ok (.aload_n 0, 1) := by decide +kernel
theorem dX3_takeForOperand_8 : decode cX3_takeForOperand 8 = .ok (.iload_n 1, 1) := by decide +kernel
theorem dX3_takeForOperand_9 : decode cX3_takeForOperand 9 = .ok (.bipush 48, 2) := by decide +kernel
theorem dX3_takeForOperand_11 : decode cX3_takeForOperand 11 = .ok (.isub, 1) := by decide +kernel
theorem dX3_takeForOperand_12 : decode cX3_takeForOperand 12 = .ok (.iconst 3, 1) := by decide +kernel
theorem dX3_takeForOperand_13 : decode cX3_takeForOperand 13 = .ok (.invokevirtual 83, 3) := by decide +kernel
theorem dX3_takeForOperand_16 : decode cX3_takeForOperand 16 = .ok (.iconst 1, 1) := by decide +kernel
theorem dX3_takeForOperand_17 : decode cX3_takeForOperand 17 = .ok (.ireturn, 1) := by decide +kernel
theorem dX3_takeForOperand_18 : decode cX3_takeForOperand 18 = .ok (.iload_n 1, 1) := by decide +kernel
theorem dX3_takeForOperand_19 : decode cX3_takeForOperand 19 = .ok (.invokestatic 87, 3) := by decide +kernel
theorem dX3_takeForOperand_22 : decode cX3_takeForOperand 22 = .ok (.istore_n 2, 1) := by decide +kernel
theorem dX3_takeForOperand_23 : decode cX3_takeForOperand 23 = .ok (.iload_n 2, 1) := by decide +kernel
theorem dX3_takeForOperand_24 : decode cX3_takeForOperand 24 = .ok (.ifCond .lt 15, 3) := by decide +kernel
theorem dX3_takeForOperand_27 : decode cX3_takeForOperand 27 = .ok (.aload_n 0, 1) := by decide +kernel
theorem dX3_takeForOperand_28 : decode cX3_takeForOperand 28 = .ok (.sipush 10000, 3) := by decide +kernel
theorem dX3_takeForOperand_31 : decode cX3_takeForOperand 31 = .ok (.iload_n 2, 1) := by decide +kernel
theorem dX3_takeForOperand_32 : decode cX3_takeForOperand 32 = .ok (.iadd, 1) := by decide +kernel
theorem dX3_takeForOperand_33 : decode cX3_takeForOperand 33 = .ok (.iconst 0, 1) := by decide +kernel
theorem dX3_takeForOperand_34 : decode cX3_takeForOperand 34 = .ok (.invokevirtual 83, 3) := by decide +kernel
theorem dX3_takeForOperand_37 : decode cX3_takeForOperand 37 = .ok (.iconst 1, 1) := by decide +kernel
theorem dX3_takeForOperand_38 : decode cX3_takeForOperand 38 = .ok (.ireturn, 1) := by decide +kernel
theorem dX3_takeForOperand_39 : decode cX3_takeForOperand 39 = .ok (.iload_n 1, 1) := by decide +kernel
theorem dX3_takeForOperand_40 : decode cX3_takeForOperand 40 = .ok (.bipush 40, 2) := by decide +kernel
theorem dX3_takeForOperand_42 : decode cX3_takeForOperand 42 = .ok (.if_icmp .eq 15, 3) := by decide +kernel
theorem dX3_takeForOperand_45 : decode cX3_takeForOperand 45 = .ok (.iload_n 1, 1) := by decide +kernel
theorem dX3_takeForOperand_46 : decode cX3_takeForOperand 46 = .ok (.bipush 33, 2) := by decide +kernel
theorem dX3_takeForOperand_48 : decode cX3_takeForOperand 48 = .ok (.if_icmp .eq 9, 3) := by decide +kernel
theorem dX3_takeForOperand_51 : decode cX3_takeForOperand 51 = .ok (.iload_n 1, 1) := by decide +kernel
theorem dX3_takeForOperand_52 : decode cX3_takeForOperand 52 = .ok (.bipush 45, 2) := by decide +kernel
theorem dX3_takeForOperand_54 : decode cX3_takeForOperand 54 = .ok (.if_icmp .ne 12, 3) := by decide +kernel
theorem dX3_takeForOperand_57 : decode cX3_takeForOperand 57 = .ok (.aload_n 0, 1) := by decide +kernel
theorem dX3_takeForOperand_58 : decode cX3_takeForOperand 58 = .ok (.getfield 53, 3) := by decide +kernel
theorem dX3_takeForOperand_61 : decode cX3_takeForOperand 61 = .ok (.bipush 6, 2) := by decide +kernel
theorem dX3_takeForOperand_63 : decode cX3_takeForOperand 63 = .ok (.if_icmp .lt 5, 3) := by decide +kernel
theorem dX3_takeForOperand_66 : decode cX3_takeForOperand 66 = .ok (.iconst 0, 1) := by decide +kernel
theorem dX3_takeForOperand_67 : decode cX3_takeForOperand 67 = .ok (.ireturn, 1) := by decide +kernel
theorem dX3_takeForOperand_68 : decode cX3_takeForOperand 68 = .ok (.aload_n 0, 1) := by decide +kernel
theorem dX3_takeForOperand_69 : decode cX3_takeForOperand 69 = .ok (.dup, 1) := by decide +kernel
theorem dX3_takeForOperand_70 : decode cX3_takeForOperand 70 = .ok (.getfield 53, 3) := by decide +kernel
theorem dX3_takeForOperand_73 : decode cX3_takeForOperand 73 = .ok (.iconst 1, 1) := by decide +kernel
theorem dX3_takeForOperand_74 : decode cX3_takeForOperand 74 = .ok (.iadd, 1) := by decide +kernel
theorem dX3_takeForOperand_75 : decode cX3_takeForOperand 75 = .ok (.putfield 53, 3) := by decide +kernel
theorem dX3_takeForOperand_78 : decode cX3_takeForOperand 78 = .ok (.iload_n 1, 1) := by decide +kernel
theorem dX3_takeForOperand_79 : decode cX3_takeForOperand 79 = .ok (.bipush 40, 2) := by decide +kernel
theorem dX3_takeForOperand_81 : decode cX3_takeForOperand 81 = .ok (.if_icmp .ne 13, 3) := by decide +kernel
theorem dX3_takeForOperand_84 : decode cX3_takeForOperand 84 = .ok (.aload_n 0, 1) := by decide +kernel
theorem dX3_takeForOperand_85 : decode cX3_takeForOperand 85 = .ok (.dup, 1) := by decide +kernel
theorem dX3_takeForOperand_86 : decode cX3_takeForOperand 86 = .ok (.getfield 56, 3) := by decide +kernel
theorem dX3_takeForOperand_89 : decode cX3_takeForOperand 89 = .ok (.iconst 1, 1) := by decide +kernel
theorem dX3_takeForOperand_90 : decode cX3_takeForOperand 90 = .ok (.iadd, 1) := by decide +kernel
theorem dX3_takeForOperand_91 : decode cX3_takeForOperand 91 = .ok (.putfield 56, 3) := by decide +kernel
theorem dX3_takeForOperand_94 : decode cX3_takeForOperand 94 = .ok (.aload_n 0, 1) := by decide +kernel
theorem dX3_takeForOperand_95 : decode cX3_takeForOperand 95 = .ok (.iload_n 1, 1) := by decide +kernel
theorem dX3_takeForOperand_96 : decode cX3_takeForOperand 96 = .ok (.bipush 45, 2) := by decide +kernel
theorem dX3_takeForOperand_98 : decode cX3_takeForOperand 98 = .ok (.if_icmp .ne 8, 3) := by decide +kernel
theorem dX3_takeForOperand_101 : decode cX3_takeForOperand 101 = .ok (.bipush 126, 2) := by decide +kernel
theorem dX3_takeForOperand_103 : decode cX3_takeForOperand 103 = .ok (.goto 4, 3) := by decide +kernel
theorem dX3_takeForOperand_106 : decode cX3_takeForOperand 106 = .ok (.iload_n 1, 1) := by decide +kernel
theorem dX3_takeForOperand_107 : decode cX3_takeForOperand 107 = .ok (.invokevirtual 91, 3) := by decide +kernel
theorem dX3_takeForOperand_110 : decode cX3_takeForOperand 110 = .ok (.iconst 1, 1) := by decide +kernel
theorem dX3_takeForOperand_111 : decode cX3_takeForOperand 111 = .ok (.ireturn, 1) := by decide +kernel
theorem dX3_endOperand_0 : decode cX3_endOperand 0 = .ok (.aload_n 0, 1) := by decide +kernel
theorem dX3_endOperand_1 : decode cX3_endOperand 1 = .ok (.iload_n 1, 1) := by decide +kernel
theorem dX3_endOperand_2 : decode cX3_endOperand 2 = .ok (.invokevirtual 77, 3) := by decide +kernel
theorem dX3_endOperand_5 : decode cX3_endOperand 5 = .ok (.aload_n 0, 1) := by decide +kernel
theorem dX3_endOperand_6 : decode cX3_endOperand 6 = .ok (.iload_n 2, 1) := by decide +kernel
theorem dX3_endOperand_7 : decode cX3_endOperand 7 = .ok (.putfield 94, 3) := by decide +kernel
theorem dX3_endOperand_10 : decode cX3_endOperand 10 = .ok (.aload_n 0, 1) := by decide +kernel
theorem dX3_endOperand_11 : decode cX3_endOperand 11 = .ok (.iconst 0, 1) := by decide +kernel
theorem dX3_endOperand_12 : decode cX3_endOperand 12 = .ok (.putfield 59, 3) := by decide +kernel
theorem dX3_endOperand_15 : decode cX3_endOperand 15 = .ok (.return_, 1) := by decide +kernel
theorem dX3_takeBehindOperand_0 : decode cX3_takeBehindOperand 0 = .ok (.iload_n 1, 1) := by decide +kernel
theorem dX3_takeBehindOperand_1 : decode cX3_takeBehindOperand 1 = .ok (.invokestatic 80, 3) := by decide +kernel
theorem dX3_takeBehindOperand_4 : decode cX3_takeBehindOperand 4 = .ok (.ifCond .eq 12, 3) := by decide +kernel
theorem dX3_takeBehindOperand_7 : decode cX3_takeBehindOperand 7 = .ok (.aload_n 0, 1) := by decide +kernel
theorem dX3_takeBehindOperand_8 : decode cX3_takeBehindOperand 8 = .ok (.iload_n 1, 1) := by decide +kernel
theorem dX3_takeBehindOperand_9 : decode cX3_takeBehindOperand 9 = .ok (.bipush 48, 2) := by decide +kernel
theorem dX3_takeBehindOperand_11 : decode cX3_takeBehindOperand 11 = .ok (.isub, 1) := by decide +kernel
theorem dX3_takeBehindOperand_12 : decode cX3_takeBehindOperand 12 = .ok (.invokevirtual 97, 3) := by decide +kernel
theorem dX3_takeBehindOperand_15 : decode cX3_takeBehindOperand 15 = .ok (.ireturn, 1) := by decide +kernel
theorem dX3_takeBehindOperand_16 : decode cX3_takeBehindOperand 16 = .ok (.iload_n 1, 1) := by decide +kernel
theorem dX3_takeBehindOperand_17 : decode cX3_takeBehindOperand 17 = .ok (.bipush 41, 2) := by decide +kernel
theorem dX3_takeBehindOperand_19 : decode cX3_takeBehindOperand 19 = .ok (.if_icmp .ne 8, 3) := by decide +kernel
theorem dX3_takeBehindOperand_22 : decode cX3_takeBehindOperand 22 = .ok (.aload_n 0, 1) := by decide +kernel
theorem dX3_takeBehindOperand_23 : decode cX3_takeBehindOperand 23 = .ok (.invokevirtual 100, 3) := by decide +kernel
theorem dX3_takeBehindOperand_26 : decode cX3_takeBehindOperand 26 = .ok (.ireturn, 1) := by decide +kernel
theorem dX3_takeBehindOperand_27 : decode cX3_takeBehindOperand 27 = .ok (.iload_n 1, 1) := by decide +kernel
theorem dX3_takeBehindOperand_28 : decode cX3_takeBehindOperand 28 = .ok (.bipush 59, 2) := by decide +kernel
theorem dX3_takeBehindOperand_30 : decode cX3_takeBehindOperand 30 = .ok (.if_icmp .eq 9, 3) := by decide +kernel
theorem dX3_takeBehindOperand_33 : decode cX3_takeBehindOperand 33 = .ok (.iload_n 1, 1) := by decide +kernel
theorem dX3_takeBehindOperand_34 : decode cX3_takeBehindOperand 34 = .ok (.bipush 63, 2) := by decide +kernel
theorem dX3_takeBehindOperand_36 : decode cX3_takeBehindOperand 36 = .ok (.if_icmp .ne 9, 3) := by decide +kernel
theorem dX3_takeBehindOperand_39 : decode cX3_takeBehindOperand 39 = .ok (.aload_n 0, 1) := by decide +kernel
theorem dX3_takeBehindOperand_40 : decode cX3_takeBehindOperand 40 = .ok (.iload_n 1, 1) := by decide +kernel
theorem dX3_takeBehindOperand_41 : decode cX3_takeBehindOperand 41 = .ok (.invokevirtual 104, 3) := by decide +kernel
theorem dX3_takeBehindOperand_44 : decode cX3_takeBehindOperand 44 = .ok (.ireturn, 1) := by decide +kernel
theorem dX3_takeBehindOperand_45 : decode cX3_takeBehindOperand 45 = .ok (.iload_n 1, 1) := by decide +kernel
theorem dX3_takeBehindOperand_46 : decode cX3_takeBehindOperand 46 = .ok (.invokestatic 107, 3) := by decide +kernel
theorem dX3_takeBehindOperand_49 : decode cX3_takeBehindOperand 49 = .ok (.istore_n 2, 1) := by decide +kernel
theorem dX3_takeBehindOperand_50 : decode cX3_takeBehindOperand 50 = .ok (.iload_n 2, 1) := by decide +kernel
theorem dX3_takeBehindOperand_51 : decode cX3_takeBehindOperand 51 = .ok (.ifCond .eq 9, 3) := by decide +kernel
theorem dX3_takeBehindOperand_54 : decode cX3_takeBehindOperand 54 = .ok (.iload_n 2, 1) := by decide +kernel
theorem dX3_takeBehindOperand_55 : decode cX3_takeBehindOperand 55 = .ok (.bipush 6, 2) := by decide +kernel
theorem dX3_takeBehindOperand_57 : decode cX3_takeBehindOperand 57 = .ok (.if_icmp .ne 5, 3) := by decide +kernel
theorem dX3_takeBehindOperand_60 : decode cX3_takeBehindOperand 60 = .ok (.iconst 0, 1) := by decide +kernel
theorem dX3_takeBehindOperand_61 : decode cX3_takeBehindOperand 61 = .ok (.ireturn, 1) := by decide +kernel
theorem dX3_takeBehindOperand_62 : decode cX3_takeBehindOperand 62 = .ok (.iload_n 2, 1) := by decide +kernel
theorem dX3_takeBehindOperand_63 : decode cX3_takeBehindOperand 63 = .ok (.iconst 3, 1) := by decide +kernel
theorem dX3_takeBehindOperand_64 : decode cX3_takeBehindOperand 64 = .ok (.if_icmp .ne 7, 3) := by decide +kernel
theorem dX3_takeBehindOperand_67 : decode cX3_takeBehindOperand 67 = .ok (.iconst 1, 1) := by decide +kernel
theorem dX3_takeBehindOperand_68 : decode cX3_takeBehindOperand 68 = .ok (.goto 4, 3) := by decide +kernel
theorem dX3_takeBehindOperand_71 : decode cX3_takeBehindOperand 71 = .ok (.iconst 0, 1) := by decide +kernel
theorem dX3_takeBehindOperand_72 : decode cX3_takeBehindOperand 72 = .ok (.istore_n 3, 1) := by decide +kernel
theorem dX3_takeBehindOperand_73 : decode cX3_takeBehindOperand 73 = .ok (.aload_n 0, 1) := by decide +kernel
theorem dX3_takeBehindOperand_74 : decode cX3_takeBehindOperand 74 = .ok (.iload_n 3, 1) := by decide +kernel
theorem dX3_takeBehindOperand_75 : decode cX3_takeBehindOperand 75 = .ok (.ifCond .eq 9, 3) := by decide +kernel
theorem dX3_takeBehindOperand_78 : decode cX3_takeBehindOperand 78 = .ok (.iload_n 2, 1) := by decide +kernel
theorem dX3_takeBehindOperand_79 : decode cX3_takeBehindOperand 79 = .ok (.iconst 1, 1) := by decide +kernel
theorem dX3_takeBehindOperand_80 : decode cX3_takeBehindOperand 80 = .ok (.iadd, 1) := by decide +kernel
theorem dX3_takeBehindOperand_81 : decode cX3_takeBehindOperand 81 = .ok (.goto 4, 3) := by decide +kernel
theorem dX3_takeBehindOperand_84 : decode cX3_takeBehindOperand 84 = .ok (.iload_n 2, 1) := by decide +kernel
theorem dX3_takeBehindOperand_85 : decode cX3_takeBehindOperand 85 = .ok (.invokevirtual 73, 3) := by decide +kernel
theorem dX3_takeBehindOperand_88 : decode cX3_takeBehindOperand 88 = .ok (.iload_n 3, 1) := by decide +kernel
theorem dX3_takeBehindOperand_89 : decode cX3_takeBehindOperand 89 = .ok (.ifCond .eq 30, 3) := by decide +kernel
theorem dX3_takeBehindOperand_92 : decode cX3_takeBehindOperand 92 = .ok (.aload_n 0, 1) := by decide +kernel
theorem dX3_takeBehindOperand_93 : decode cX3_takeBehindOperand 93 = .ok (.getfield 50, 3) := by decide +kernel
theorem dX3_takeBehindOperand_96 : decode cX3_takeBehindOperand 96 = .ok (.ifCond .le 23, 3) := by decide +kernel
theorem dX3_takeBehindOperand_99 : decode cX3_takeBehindOperand 99 = .ok (.aload_n 0, 1) := by decide +kernel
theorem dX3_takeBehindOperand_100 : decode cX3_takeBehindOperand 100 = .ok (.getfield 21, 3) := by decide +kernel
theorem dX3_takeBehindOperand_103 : decode cX3_takeBehindOperand 103 = .ok (.aload_n 0, 1) := by decide +kernel
theorem dX3_takeBehindOperand_104 : decode cX3_takeBehindOperand 104 = .ok (.getfield 50, 3) := by decide +kernel
theorem dX3_takeBehindOperand_107 : decode cX3_takeBehindOperand 107 = .ok (.iconst 1, 1) := by decide +kernel
theorem dX3_takeBehindOperand_108 : decode cX3_takeBehindOperand 108 = .ok (.isub, 1) := by decide +kernel
theorem dX3_takeBehindOperand_109 : decode cX3_takeBehindOperand 109 = .ok (.iaload, 1) := by decide +kernel
theorem dX3_takeBehindOperand_110 : decode cX3_takeBehindOperand 110 = .ok (.invokestatic 107, 3) := by decide +kernel
theorem dX3_takeBehindOperand_113 : decode cX3_takeBehindOperand 113 = .ok (.iload_n 2, 1) := by decide +kernel
theorem dX3_takeBehindOperand_114 : decode cX3_takeBehindOperand 114 = .ok (.if_icmp .ne 5, 3) := by decide +kernel
theorem dX3_takeBehindOperand_117 : decode cX3_takeBehindOperand 117 = .ok (.iconst 0, 1) := by decide +kernel
theorem dX3_takeBehindOperand_118 : decode cX3_takeBehindOperand 118 = .ok (.ireturn, 1) := by decide +kernel
theorem dX3_takeBehindOperand_119 : decode cX3_takeBehindOperand 119 = .ok (.aload_n 0, 1) := by decide +kernel
theorem dX3_takeBehindOperand_120 : decode cX3_takeBehindOperand 120 = .ok (.iload_n 1, 1) := by decide +kernel
theorem dX3_takeBehindOperand_121 : decode cX3_takeBehindOperand 121 = .ok (.invokevirtual 91, 3) := by decide +kernel
theorem dX3_takeBehindOperand_124 : decode cX3_takeBehindOperand 124 = .ok (.aload_n 0, 1) := by decide +kernel
theorem dX3_takeBehindOperand_125 : decode cX3_takeBehindOperand 125 = .ok (.iconst 1, 1) := by decide +kernel
theorem dX3_takeBehindOperand_126 : decode cX3_takeBehindOperand 126 = .ok (.putfield 59, 3) := by decide +kernel
theorem dX3_takeBehindOperand_129 : decode cX3_takeBehindOperand 129 = .ok (.iconst 1, 1) := by decide +kernel
theorem dX3_takeBehindOperand_130 : decode cX3_takeBehindOperand 130 = .ok (.ireturn, 1) := by decide +kernel
theorem dX3_takeNextDigit_0 : decode cX3_takeNextDigit 0 = .ok (.aload_n 0, 1) := by decide +kernel
theorem dX3_takeNextDigit_1 : decode cX3_takeNextDigit 1 = .ok (.getfield 94, 3) := by decide +kernel
theorem dX3_takeNextDigit_4 : decode cX3_takeNextDigit 4 = .ok (.ifCond .le 10, 3) := by decide +kernel
theorem dX3_takeNextDigit_7 : decode cX3_takeNextDigit 7 = .ok (.aload_n 0, 1) := by decide +kernel
theorem dX3_takeNextDigit_8 : decode cX3_takeNextDigit 8 = .ok (.getfield 41, 3) := by decide +kernel
theorem dX3_takeNextDigit_11 : decode cX3_takeNextDigit 11 = .ok (.ifCond .gt 5, 3) := by decide +kernel
theorem dX3_takeNextDigit_14 : decode cX3_takeNextDigit 14 = .ok (.iconst 0, 1) := by decide +kernel
theorem dX3_takeNextDigit_15 : decode cX3_takeNextDigit 15 = .ok (.ireturn, 1) := by decide +kernel
theorem dX3_takeNextDigit_16 : decode cX3_takeNextDigit 16 = .ok (.aload_n 0, 1) := by decide +kernel
theorem dX3_takeNextDigit_17 : decode cX3_takeNextDigit 17 = .ok (.dup, 1) := by decide +kernel
theorem dX3_takeNextDigit_18 : decode cX3_takeNextDigit 18 = .ok (.getfield 94, 3) := by decide +kernel
theorem dX3_takeNextDigit_21 : decode cX3_takeNextDigit 21 = .ok (.iconst 1, 1) := by decide +kernel
theorem dX3_takeNextDigit_22 : decode cX3_takeNextDigit 22 = .ok (.isub, 1) := by decide +kernel
theorem dX3_takeNextDigit_23 : decode cX3_takeNextDigit 23 = .ok (.putfield 94, 3) := by decide +kernel
theorem dX3_takeNextDigit_26 : decode cX3_takeNextDigit 26 = .ok (.aload_n 0, 1) := by decide +kernel
theorem dX3_takeNextDigit_27 : decode cX3_takeNextDigit 27 = .ok (.getfield 18, 3) := by decide +kernel
theorem dX3_takeNextDigit_30 : decode cX3_takeNextDigit 30 = .ok (.aload_n 0, 1) := by decide +kernel
theorem dX3_takeNextDigit_31 : decode cX3_takeNextDigit 31 = .ok (.getfield 41, 3) := by decide +kernel
theorem dX3_takeNextDigit_34 : decode cX3_takeNextDigit 34 = .ok (.iconst 1, 1) := by decide +kernel
theorem dX3_takeNextDigit_35 : decode cX3_takeNextDigit 35 = .ok (.isub, 1) := by decide +kernel
theorem dX3_takeNextDigit_36 : decode cX3_takeNextDigit 36 = .ok (.aload_n 0, 1) := by decide +kernel
theorem dX3_takeNextDigit_37 : decode cX3_takeNextDigit 37 = .ok (.getfield 18, 3) := by decide +kernel
theorem dX3_takeNextDigit_40 : decode cX3_takeNextDigit 40 = .ok (.aload_n 0, 1) := by decide +kernel
theorem dX3_takeNextDigit_41 : decode cX3_takeNextDigit 41 = .ok (.getfield 41, 3) := by decide +kernel
theorem dX3_takeNextDigit_44 : decode cX3_takeNextDigit 44 = .ok (.iconst 1, 1) := by decide +kernel
theorem dX3_takeNextDigit_45 : decode cX3_takeNextDigit 45 = .ok (.isub, 1) := by decide +kernel
theorem dX3_takeNextDigit_46 : decode cX3_takeNextDigit 46 = .ok (.iaload, 1) := by decide +kernel
theorem dX3_takeNextDigit_47 : decode cX3_takeNextDigit 47 = .ok (.bipush 10, 2) := by decide +kernel
theorem dX3_takeNextDigit_49 : decode cX3_takeNextDigit 49 = .ok (.imul, 1) := by decide +kernel
theorem dX3_takeNextDigit_50 : decode cX3_takeNextDigit 50 = .ok (.iload_n 1, 1) := by decide +kernel
theorem dX3_takeNextDigit_51 : decode cX3_takeNextDigit 51 = .ok (.iadd, 1) := by decide +kernel
theorem dX3_takeNextDigit_52 : decode cX3_takeNextDigit 52 = .ok (.iastore, 1) := by decide +kernel
theorem dX3_takeNextDigit_53 : decode cX3_takeNextDigit 53 = .ok (.iconst 1, 1) := by decide +kernel
theorem dX3_takeNextDigit_54 : decode cX3_takeNextDigit 54 = .ok (.ireturn, 1) := by decide +kernel
theorem dX3_takeBracketsEnd_0 : decode cX3_takeBracketsEnd 0 = .ok (.aload_n 0, 1) := by decide +kernel
theorem dX3_takeBracketsEnd_1 : decode cX3_takeBracketsEnd 1 = .ok (.getfield 56, 3) := by decide +kernel
theorem dX3_takeBracketsEnd_4 : decode cX3_takeBracketsEnd 4 = .ok (.ifCond .ne 5, 3) := by decide +kernel
theorem dX3_takeBracketsEnd_7 : decode cX3_takeBracketsEnd 7 = .ok (.iconst 0, 1) := by decide +kernel
theorem dX3_takeBracketsEnd_8 : decode cX3_takeBracketsEnd 8 = .ok (.ireturn, 1) := by decide +kernel
theorem dX3_takeBracketsEnd_9 : decode cX3_takeBracketsEnd 9 = .ok (.aload_n 0, 1) := by decide +kernel
theorem dX3_takeBracketsEnd_10 : decode cX3_takeBracketsEnd 10 = .ok (.iconst 1, 1) := by decide +kernel
theorem dX3_takeBracketsEnd_11 : decode cX3_takeBracketsEnd 11 = .ok (.invokevirtual 73, 3) := by decide +kernel
theorem dX3_takeBracketsEnd_14 : decode cX3_takeBracketsEnd 14 = .ok (.aload_n 0, 1) := by decide +kernel
theorem dX3_takeBracketsEnd_15 : decode cX3_takeBracketsEnd 15 = .ok (.dup, 1) := by decide +kernel
theorem dX3_takeBracketsEnd_16 : decode cX3_takeBracketsEnd 16 = .ok (.getfield 50, 3) := by decide +kernel
theorem dX3_takeBracketsEnd_19 : decode cX3_takeBracketsEnd 19 = .ok (.iconst 1, 1) := by decide +kernel
theorem dX3_takeBracketsEnd_20 : decode cX3_takeBracketsEnd 20 = .ok (.isub, 1) := by decide +kernel
theorem dX3_takeBracketsEnd_21 : decode cX3_takeBracketsEnd 21 = .ok (.putfield 50, 3) := by decide +kernel
theorem dX3_takeBracketsEnd_24 : decode cX3_takeBracketsEnd 24 = .ok (.aload_n 0, 1) := by decide +kernel
theorem dX3_takeBracketsEnd_25 : decode cX3_takeBracketsEnd 25 = .ok (.dup, 1) := by decide +kernel
theorem dX3_takeBracketsEnd_26 : decode cX3_takeBracketsEnd 26 = .ok (.getfield 53, 3) := by decide +kernel
theorem dX3_takeBracketsEnd_29 : decode cX3_takeBracketsEnd 29 = .ok (.iconst 1, 1) := by decide +kernel
theorem dX3_takeBracketsEnd_30 : decode cX3_takeBracketsEnd 30 = .ok (.isub, 1) := by decide +kernel
theorem dX3_takeBracketsEnd_31 : decode cX3_takeBracketsEnd 31 = .ok (.putfield 53, 3) := by decide +kernel
theorem dX3_takeBracketsEnd_34 : decode cX3_takeBracketsEnd 34 = .ok (.aload_n 0, 1) := by decide +kernel
theorem dX3_takeBracketsEnd_35 : decode cX3_takeBracketsEnd 35 = .ok (.dup, 1) := by decide +kernel
theorem dX3_takeBracketsEnd_36 : decode cX3_takeBracketsEnd 36 = .ok (.getfield 56, 3) := by decide +kernel
theorem dX3_takeBracketsEnd_39 : decode cX3_takeBracketsEnd 39 = .ok (.iconst 1, 1) := by decide +kernel
theorem dX3_takeBracketsEnd_40 : decode cX3_takeBracketsEnd 40 = .ok (.isub, 1) := by decide +kernel
theorem dX3_takeBracketsEnd_41 : decode cX3_takeBracketsEnd 41 = .ok (.putfield 56, 3) := by decide +kernel
theorem dX3_takeBracketsEnd_44 : decode cX3_takeBracketsEnd 44 = .ok (.aload_n 0, 1) := by decide +kernel
theorem dX3_takeBracketsEnd_45 : decode cX3_takeBracketsEnd 45 = .ok (.iconst 0, 1) := by decide +kernel
theorem dX3_takeBracketsEnd_46 : decode cX3_takeBracketsEnd 46 = .ok (.putfield 94, 3) := by decide +kernel
theorem dX3_takeBracketsEnd_49 : decode cX3_takeBracketsEnd 49 = .ok (.iconst 1, 1) := by decide +kernel
theorem dX3_takeBracketsEnd_50 : decode cX3_takeBracketsEnd 50 = .ok (.ireturn, 1) := by decide +kernel
theorem dX3_takeExpressionsEnd_0 : decode cX3_takeExpressionsEnd 0 = .ok (.aload_n 0, 1) := by decide +kernel
theorem dX3_takeExpressionsEnd_1 : decode cX3_takeExpressionsEnd 1 = .ok (.getfield 56, 3) := by decide +kernel
theorem dX3_takeExpressionsEnd_4 : decode cX3_takeExpressionsEnd 4 = .ok (.ifCond .gt 16, 3) := by decide +kernel
theorem dX3_takeExpressionsEnd_7 : decode cX3_takeExpressionsEnd 7 = .ok (.iload_n 1, 1) := by decide +kernel
theorem dX3_takeExpressionsEnd_8 : decode cX3_takeExpressionsEnd 8 = .ok (.bipush 63, 2) := by decide +kernel
theorem dX3_takeExpressionsEnd_10 : decode cX3_takeExpressionsEnd 10 = .ok (.if_icmp .ne 12, 3) := by decide +kernel
theorem dX3_takeExpressionsEnd_13 : decode cX3_takeExpressionsEnd 13 = .ok (.aload_n 0, 1) := by decide +kernel
theorem dX3_takeExpressionsEnd_14 : decode cX3_takeExpressionsEnd 14 = .ok (.getfield 63, 3) := by decide +kernel
theorem dX3_takeExpressionsEnd_17 : decode cX3_takeExpressionsEnd 17 = .ok (.ifCond .eq 5, 3) := by decide +kernel
theorem dX3_takeExpressionsEnd_20 : decode cX3_takeExpressionsEnd 20 = .ok (.iconst 0, 1) := by decide +kernel
theorem dX3_takeExpressionsEnd_21 : decode cX3_takeExpressionsEnd 21 = .ok (.ireturn, 1) := by decide +kernel
theorem dX3_takeExpressionsEnd_22 : decode cX3_takeExpressionsEnd 22 = .ok (.aload_n 0, 1) := by decide +kernel
theorem dX3_takeExpressionsEnd_23 : decode cX3_takeExpressionsEnd 23 = .ok (.iconst 1, 1) := by decide +kernel
theorem dX3_takeExpressionsEnd_24 : decode cX3_takeExpressionsEnd 24 = .ok (.invokevirtual 73, 3) := by decide +kernel
theorem dX3_takeExpressionsEnd_27 : decode cX3_takeExpressionsEnd 27 = .ok (.aload_n 0, 1) := by decide +kernel
theorem dX3_takeExpressionsEnd_28 : decode cX3_takeExpressionsEnd 28 = .ok (.sipush 20000, 3) := by decide +kernel
theorem dX3_takeExpressionsEnd_31 : decode cX3_takeExpressionsEnd 31 = .ok (.iload_n 1, 1) := by decide +kernel
theorem dX3_takeExpressionsEnd_32 : decode cX3_takeExpressionsEnd 32 = .ok (.iadd, 1) := by decide +kernel
theorem dX3_takeExpressionsEnd_33 : decode cX3_takeExpressionsEnd 33 = .ok (.invokevirtual 77, 3) := by decide +kernel
theorem dX3_takeExpressionsEnd_36 : decode cX3_takeExpressionsEnd 36 = .ok (.aload_n 0, 1) := by decide +kernel
theorem dX3_takeExpressionsEnd_37 : decode cX3_takeExpressionsEnd 37 = .ok (.iload_n 1, 1) := by decide +kernel
theorem dX3_takeExpressionsEnd_38 : decode cX3_takeExpressionsEnd 38 = .ok (.bipush 63, 2) := by decide +kernel
theorem dX3_takeExpressionsEnd_40 : decode cX3_takeExpressionsEnd 40 = .ok (.if_icmp .ne 7, 3) := by decide +kernel
theorem dX3_takeExpressionsEnd_43 : decode cX3_takeExpressionsEnd 43 = .ok (.iconst 1, 1) := by decide +kernel
theorem dX3_takeExpressionsEnd_44 : decode cX3_takeExpressionsEnd 44 = .ok (.goto 4, 3) := by decide +kernel
theorem dX3_takeExpressionsEnd_47 : decode cX3_takeExpressionsEnd 47 = .ok (.iconst 0, 1) := by decide +kernel
theorem dX3_takeExpressionsEnd_48 : decode cX3_takeExpressionsEnd 48 = .ok (.putfield 63, 3) := by decide +kernel
theorem dX3_takeExpressionsEnd_51 : decode cX3_takeExpressionsEnd 51 = .ok (.aload_n 0, 1) := by decide +kernel
theorem dX3_takeExpressionsEnd_52 : decode cX3_takeExpressionsEnd 52 = .ok (.iconst 1, 1) := by decide +kernel
theorem dX3_takeExpressionsEnd_53 : decode cX3_takeExpressionsEnd 53 = .ok (.putfield 59, 3) := by decide +kernel
theorem dX3_takeExpressionsEnd_56 : decode cX3_takeExpressionsEnd 56 = .ok (.iconst 1, 1) := by decide +kernel
theorem dX3_takeExpressionsEnd_57 : decode cX3_takeExpressionsEnd 57 = .ok (.ireturn, 1) := by decide +kernel
theorem dX3_settle_0 : decode cX3_settle 0 = .ok (.aload_n 0, 1) := by decide +kernel
theorem dX3_settle_1 : decode cX3_settle 1 = .ok (.getfield 50, 3) := by decide +kernel
theorem dX3_settle_4 : decode cX3_settle 4 = .ok (.ifCond .le 78, 3) := by decide +kernel
theorem dX3_settle_7 : decode cX3_settle 7 = .ok (.aload_n 0, 1) := by decide +kernel
theorem dX3_settle_8 : decode cX3_settle 8 = .ok (.getfield 21, 3) := by decide +kernel
theorem dX3_settle_11 : decode cX3_settle 11 = .ok (.aload_n 0, 1) := by decide +kernel
theorem dX3_settle_12 : decode cX3_settle 12 = .ok (.getfield 50, 3) := by decide +kernel
theorem dX3_settle_15 : decode cX3_settle 15 = .ok (.iconst 1, 1) := by decide +kernel
theorem dX3_settle_16 : decode cX3_settle 16 = .ok (.isub, 1) := by decide +kernel
theorem dX3_settle_17 : decode cX3_settle 17 = .ok (.iaload, 1) := by decide +kernel
theorem dX3_settle_18 : decode cX3_settle 18 = .ok (.invokestatic 107, 3) := by decide +kernel
theorem dX3_settle_21 : decode cX3_settle 21 = .ok (.iload_n 1, 1) := by decide +kernel
theorem dX3_settle_22 : decode cX3_settle 22 = .ok (.if_icmp .lt 60, 3) := by decide +kernel
theorem dX3_settle_25 : decode cX3_settle 25 = .ok (.aload_n 0, 1) := by decide +kernel
theorem dX3_settle_26 : decode cX3_settle 26 = .ok (.dup, 1) := by decide +kernel
theorem dX3_settle_27 : decode cX3_settle 27 = .ok (.getfield 50, 3) := by decide +kernel
theorem dX3_settle_30 : decode cX3_settle 30 = .ok (.iconst 1, 1) := by decide +kernel
theorem dX3_settle_31 : decode cX3_settle 31 = .ok (.isub, 1) := by decide +kernel
theorem dX3_settle_32 : decode cX3_settle 32 = .ok (.putfield 50, 3) := by decide +kernel
theorem dX3_settle_35 : decode cX3_settle 35 = .ok (.aload_n 0, 1) := by decide +kernel
theorem dX3_settle_36 : decode cX3_settle 36 = .ok (.getfield 21, 3) := by decide +kernel
theorem dX3_settle_39 : decode cX3_settle 39 = .ok (.aload_n 0, 1) := by decide +kernel
theorem dX3_settle_40 : decode cX3_settle 40 = .ok (.getfield 50, 3) := by decide +kernel
theorem dX3_settle_43 : decode cX3_settle 43 = .ok (.iaload, 1) := by decide +kernel
theorem dX3_settle_44 : decode cX3_settle 44 = .ok (.invokestatic 107, 3) := by decide +kernel
theorem dX3_settle_47 : decode cX3_settle 47 = .ok (.bipush 6, 2) := by decide +kernel
theorem dX3_settle_49 : decode cX3_settle 49 = .ok (.if_icmp .ne 13, 3) := by decide +kernel
theorem dX3_settle_52 : decode cX3_settle 52 = .ok (.aload_n 0, 1) := by decide +kernel
theorem dX3_settle_53 : decode cX3_settle 53 = .ok (.dup, 1) := by decide +kernel
theorem dX3_settle_54 : decode cX3_settle 54 = .ok (.getfield 53, 3) := by decide +kernel
theorem dX3_settle_57 : decode cX3_settle 57 = .ok (.iconst 1, 1) := by decide +kernel
theorem dX3_settle_58 : decode cX3_settle 58 = .ok (.isub, 1) := by decide +kernel
theorem dX3_settle_59 : decode cX3_settle 59 = .ok (.putfield 53, 3) := by decide +kernel
theorem dX3_settle_62 : decode cX3_settle 62 = .ok (.aload_n 0, 1) := by decide +kernel
theorem dX3_settle_63 : decode cX3_settle 63 = .ok (.sipush 20000, 3) := by decide +kernel
theorem dX3_settle_66 : decode cX3_settle 66 = .ok (.aload_n 0, 1) := by decide +kernel
theorem dX3_settle_67 : decode cX3_settle 67 = .ok (.getfield 21, 3) := by decide +kernel
theorem dX3_settle_70 : decode cX3_settle 70 = .ok (.aload_n 0, 1) := by decide +kernel
theorem dX3_settle_71 : decode cX3_settle 71 = .ok (.getfield 50, 3) := by decide +kernel
theorem dX3_settle_74 : decode cX3_settle 74 = .ok (.iaload, 1) := by decide +kernel
theorem dX3_settle_75 : decode cX3_settle 75 = .ok (.iadd, 1) := by decide +kernel
theorem dX3_settle_76 : decode cX3_settle 76 = .ok (.invokevirtual 77, 3) := by decide +kernel
theorem dX3_settle_79 : decode cX3_settle 79 = .ok (.goto (-79), 3) := by decide +kernel
theorem dX3_settle_82 : decode cX3_settle 82 = .ok (.return_, 1) := by decide +kernel
theorem dX3_push_0 : decode cX3_push 0 = .ok (.aload_n 0, 1) := by decide +kernel
theorem dX3_push_1 : decode cX3_push 1 = .ok (.getfield 50, 3) := by decide +kernel
theorem dX3_push_4 : decode cX3_push 4 = .ok (.aload_n 0, 1) := by decide +kernel
theorem dX3_push_5 : decode cX3_push 5 = .ok (.getfield 21, 3) := by decide +kernel
theorem dX3_push_8 : decode cX3_push 8 = .ok (.arraylength, 1) := by decide +kernel
theorem dX3_push_9 : decode cX3_push 9 = .ok (.if_icmp .ge 23, 3) := by decide +kernel
theorem dX3_push_12 : decode cX3_push 12 = .ok (.aload_n 0, 1) := by decide +kernel
theorem dX3_push_13 : decode cX3_push 13 = .ok (.getfield 21, 3) := by decide +kernel
theorem dX3_push_16 : decode cX3_push 16 = .ok (.aload_n 0, 1) := by decide +kernel
theorem dX3_push_17 : decode cX3_push 17 = .ok (.getfield 50, 3) := by decide +kernel
theorem dX3_push_20 : decode cX3_push 20 = .ok (.iload_n 1, 1) := by decide +kernel
theorem dX3_push_21 : decode cX3_push 21 = .ok (.iastore, 1) := by decide +kernel
theorem dX3_push_22 : decode cX3_push 22 = .ok (.aload_n 0, 1) := by decide +kernel
theorem dX3_push_23 : decode cX3_push 23 = .ok (.dup, 1) := by decide +kernel
theorem dX3_push_24 : decode cX3_push 24 = .ok (.getfield 50, 3) := by decide +kernel
theorem dX3_push_27 : decode cX3_push 27 = .ok (.iconst 1, 1) := by decide +kernel
theorem dX3_push_28 : decode cX3_push 28 = .ok (.iadd, 1) := by decide +kernel
theorem dX3_push_29 : decode cX3_push 29 = .ok (.putfield 50, 3) := by decide +kernel
theorem dX3_push_32 : decode cX3_push 32 = .ok (.return_, 1) := by decide +kernel
theorem dX3_emit_0 : decode cX3_emit 0 = .ok (.aload_n 0, 1) := by decide +kernel
theorem dX3_emit_1 : decode cX3_emit 1 = .ok (.getfield 41, 3) := by decide +kernel
theorem dX3_emit_4 : decode cX3_emit 4 = .ok (.aload_n 0, 1) := by decide +kernel
theorem dX3_emit_5 : decode cX3_emit 5 = .ok (.getfield 18, 3) := by decide +kernel
theorem dX3_emit_8 : decode cX3_emit 8 = .ok (.arraylength, 1) := by decide +kernel
theorem dX3_emit_9 : decode cX3_emit 9 = .ok (.if_icmp .ge 23, 3) := by decide +kernel
theorem dX3_emit_12 : decode cX3_emit 12 = .ok (.aload_n 0, 1) := by decide +kernel
theorem dX3_emit_13 : decode cX3_emit 13 = .ok (.getfield 18, 3) := by decide +kernel
theorem dX3_emit_16 : decode cX3_emit 16 = .ok (.aload_n 0, 1) := by decide +kernel
theorem dX3_emit_17 : decode cX3_emit 17 = .ok (.getfield 41, 3) := by decide +kernel
theorem dX3_emit_20 : decode cX3_emit 20 = .ok (.iload_n 1, 1) := by decide +kernel
theorem dX3_emit_21 : decode cX3_emit 21 = .ok (.iastore, 1) := by decide +kernel
theorem dX3_emit_22 : decode cX3_emit 22 = .ok (.aload_n 0, 1) := by decide +kernel
theorem dX3_emit_23 : decode cX3_emit 23 = .ok (.dup, 1) := by decide +kernel
theorem dX3_emit_24 : decode cX3_emit 24 = .ok (.getfield 41, 3) := by decide +kernel
theorem dX3_emit_27 : decode cX3_emit 27 = .ok (.iconst 1, 1) := by decide +kernel
theorem dX3_emit_28 : decode cX3_emit 28 = .ok (.iadd, 1) := by decide +kernel
theorem dX3_emit_29 : decode cX3_emit 29 = .ok (.putfield 41, 3) := by decide +kernel
theorem dX3_emit_32 : decode cX3_emit 32 = .ok (.return_, 1) := by decide +kernel
theorem dX3_isDigit_0 : decode cX3_isDigit 0 = .ok (.iload_n 0, 1) := by decide +kernel
theorem dX3_isDigit_1 : decode cX3_isDigit 1 = .ok (.bipush 48, 2) := by decide +kernel
theorem dX3_isDigit_3 : decode cX3_isDigit 3 = .ok (.bipush 57, 2) := by decide +kernel
theorem dX3_isDigit_5 : decode cX3_isDigit 5 = .ok (.invokestatic 110, 3) := by decide +kernel
theorem dX3_isDigit_8 : decode cX3_isDigit 8 = .ok (.ireturn, 1) := by decide +kernel
theorem dX3_nameOf_0 : decode cX3_nameOf 0 = .ok (.iload_n 0, 1) := by decide +kernel
theorem dX3_nameOf_1 : decode cX3_nameOf 1 = .ok (.tableswitch 91 100 115 #[79, 91, 91, 91, 91, 91, 91, 91, 83, 81, 91, 91, 87, 89, 91, 85], 79) := by decide +kernel
theorem dX3_nameOf_80 : decode cX3_nameOf 80 = .ok (.iconst 0, 1) := by decide +kernel
theorem dX3_nameOf_81 : decode cX3_nameOf 81 = .ok (.ireturn, 1) := by decide +kernel
theorem dX3_nameOf_82 : decode cX3_nameOf 82 = .ok (.iconst 1, 1) := by decide +kernel
theorem dX3_nameOf_83 : decode cX3_nameOf 83 = .ok (.ireturn, 1) := by decide +kernel
theorem dX3_nameOf_84 : decode cX3_nameOf 84 = .ok (.iconst 2, 1) := by decide +kernel
theorem dX3_nameOf_85 : decode cX3_nameOf 85 = .ok (.ireturn, 1) := by decide +kernel
theorem dX3_nameOf_86 : decode cX3_nameOf 86 = .ok (.iconst 3, 1) := by decide +kernel
theorem dX3_nameOf_87 : decode cX3_nameOf 87 = .ok (.ireturn, 1) := by decide +kernel
theorem dX3_nameOf_88 : decode cX3_nameOf 88 = .ok (.iconst 4, 1) := by decide +kernel
theorem dX3_nameOf_89 : decode cX3_nameOf 89 = .ok (.ireturn, 1) := by decide +kernel
theorem dX3_nameOf_90 : decode cX3_nameOf 90 = .ok (.iconst 5, 1) := by decide +kernel
theorem dX3_nameOf_91 : decode cX3_nameOf 91 = .ok (.ireturn, 1) := by decide +kernel
theorem dX3_nameOf_92 : decode cX3_nameOf 92 = .ok (.iconst (-1), 1) := by decide +kernel
theorem dX3_nameOf_93 : decode cX3_nameOf 93 = .ok (.ireturn, 1) := by decide +kernel
theorem dX3_rankOf_0 : decode cX3_rankOf 0 = .ok (.iload_n 0, 1) := by decide +kernel
theorem dX3_rankOf_1 : decode cX3_rankOf 1 = .ok (.lookupswitch 120 #[(33, 107), (37, 110), (38, 116), (42, 110), (43, 112), (45, 112), (47, 110), (60, 114), (61, 114), (62, 114), (124, 118), (126, 107)], 107) := by decide +kernel
theorem dX3_rankOf_108 : decode cX3_rankOf 108 = .ok (.bipush 6, 2) := by decide +kernel
theorem dX3_rankOf_110 : decode cX3_rankOf 110 = .ok (.ireturn, 1) := by decide +kernel
theorem dX3_rankOf_111 : decode cX3_rankOf 111 = .ok (.iconst 5, 1) := by decide +kernel
theorem dX3_rankOf_112 : decode cX3_rankOf 112 = .ok (.ireturn, 1) := by decide +kernel
theorem dX3_rankOf_113 : decode cX3_rankOf 113 = .ok (.iconst 4, 1) := by decide +kernel
theorem dX3_rankOf_114 : decode cX3_rankOf 114 = .ok (.ireturn, 1) := by decide +kernel
theorem dX3_rankOf_115 : decode cX3_rankOf 115 = .ok (.iconst 3, 1) := by decide +kernel
theorem dX3_rankOf_116 : decode cX3_rankOf 116 = .ok (.ireturn, 1) := by decide +kernel
theorem dX3_rankOf_117 : decode cX3_rankOf 117 = .ok (.iconst 2, 1) := by decide +kernel
theorem dX3_rankOf_118 : decode cX3_rankOf 118 = .ok (.ireturn, 1) := by decide +kernel
theorem dX3_rankOf_119 : decode cX3_rankOf 119 = .ok (.iconst 1, 1) := by decide +kernel
theorem dX3_rankOf_120 : decode cX3_rankOf 120 = .ok (.ireturn, 1) := by decide +kernel
theorem dX3_rankOf_121 : decode cX3_rankOf 121 = .ok (.iconst 0, 1) := by decide +kernel
theorem dX3_rankOf_122 : decode cX3_rankOf 122 = .ok (.ireturn, 1) := by decide +kernel
theorem dX3_value_0 : decode cX3_value 0 = .ok (.aload_n 0, 1) := by decide +kernel
theorem dX3_value_1 : decode cX3_value 1 = .ok (.getfield 27, 3) := by decide +kernel
theorem dX3_value_4 : decode cX3_value 4 = .ok (.iconst 0, 1) := by decide +kernel
theorem dX3_value_5 : decode cX3_value 5 = .ok (.iload_n 1, 1) := by decide +kernel
theorem dX3_value_6 : decode cX3_value 6 = .ok (.iastore, 1) := by decide +kernel
theorem dX3_value_7 : decode cX3_value 7 = .ok (.aload_n 0, 1) := by decide +kernel
theorem dX3_value_8 : decode cX3_value 8 = .ok (.getfield 27, 3) := by decide +kernel
theorem dX3_value_11 : decode cX3_value 11 = .ok (.iconst 1, 1) := by decide +kernel
theorem dX3_value_12 : decode cX3_value 12 = .ok (.iload_n 1, 1) := by decide +kernel
theorem dX3_value_13 : decode cX3_value 13 = .ok (.iconst 4, 1) := by decide +kernel
theorem dX3_value_14 : decode cX3_value 14 = .ok (.idiv, 1) := by decide +kernel
theorem dX3_value_15 : decode cX3_value 15 = .ok (.iastore, 1) := by decide +kernel
theorem dX3_value_16 : decode cX3_value 16 = .ok (.aload_n 0, 1) := by decide +kernel
theorem dX3_value_17 : decode cX3_value 17 = .ok (.getfield 27, 3) := by decide +kernel
theorem dX3_value_20 : decode cX3_value 20 = .ok (.iconst 2, 1) := by decide +kernel
theorem dX3_value_21 : decode cX3_value 21 = .ok (.iload_n 2, 1) := by decide +kernel
theorem dX3_value_22 : decode cX3_value 22 = .ok (.iastore, 1) := by decide +kernel
theorem dX3_value_23 : decode cX3_value 23 = .ok (.aload_n 0, 1) := by decide +kernel
theorem dX3_value_24 : decode cX3_value 24 = .ok (.getfield 27, 3) := by decide +kernel
theorem dX3_value_27 : decode cX3_value 27 = .ok (.iconst 3, 1) := by decide +kernel
theorem dX3_value_28 : decode cX3_value 28 = .ok (.iload_n 3, 1) := by decide +kernel
theorem dX3_value_29 : decode cX3_value 29 = .ok (.iastore, 1) := by decide +kernel
theorem dX3_value_30 : decode cX3_value 30 = .ok (.aload_n 0, 1) := by decide +kernel
theorem dX3_value_31 : decode cX3_value 31 = .ok (.getfield 27, 3) := by decide +kernel
theorem dX3_value_34 : decode cX3_value 34 = .ok (.iconst 4, 1) := by decide +kernel
theorem dX3_value_35 : decode cX3_value 35 = .ok (.iload 4, 2) := by decide +kernel
theorem dX3_value_37 : decode cX3_value 37 = .ok (.iastore, 1) := by decide +kernel
theorem dX3_value_38 : decode cX3_value 38 = .ok (.aload_n 0, 1) := by decide +kernel
theorem dX3_value_39 : decode cX3_value 39 = .ok (.getfield 27, 3) := by decide +kernel
theorem dX3_value_42 : decode cX3_value 42 = .ok (.iconst 5, 1) := by decide +kernel
theorem dX3_value_43 : decode cX3_value 43 = .ok (.iload 5, 2) := by decide +kernel
theorem dX3_value_45 : decode cX3_value 45 = .ok (.iastore, 1) := by decide +kernel
theorem dX3_value_46 : decode cX3_value 46 = .ok (.iconst 0, 1) := by decide +kernel
theorem dX3_value_47 : decode cX3_value 47 = .ok (.istore 6, 2) := by decide +kernel
theorem dX3_value_49 : decode cX3_value 49 = .ok (.iconst 0, 1) := by decide +kernel
theorem dX3_value_50 : decode cX3_value 50 = .ok (.istore 7, 2) := by decide +kernel
theorem dX3_value_52 : decode cX3_value 52 = .ok (.iconst 0, 1) := by decide +kernel
theorem dX3_value_53 : decode cX3_value 53 = .ok (.istore 8, 2) := by decide +kernel
theorem dX3_value_55 : decode cX3_value 55 = .ok (.iload 8, 2) := by decide +kernel
theorem dX3_value_57 : decode cX3_value 57 = .ok (.aload_n 0, 1) := by decide +kernel
theorem dX3_value_58 : decode cX3_value 58 = .ok (.getfield 34, 3) := by decide +kernel
theorem dX3_value_61 : decode cX3_value 61 = .ok (.if_icmp .ge 235, 3) := by decide +kernel
theorem dX3_value_64 : decode cX3_value 64 = .ok (.aload_n 0, 1) := by decide +kernel
theorem dX3_value_65 : decode cX3_value 65 = .ok (.getfield 15, 3) := by decide +kernel
theorem dX3_value_68 : decode cX3_value 68 = .ok (.iload 8, 2) := by decide +kernel
theorem dX3_value_70 : decode cX3_value 70 = .ok (.iaload, 1) := by decide +kernel
theorem dX3_value_71 : decode cX3_value 71 = .ok (.istore 9, 2) := by decide +kernel
theorem dX3_value_73 : decode cX3_value 73 = .ok (.iload 7, 2) := by decide +kernel
theorem dX3_value_75 : decode cX3_value 75 = .ok (.ifCond .eq 21, 3) := by decide +kernel
theorem dX3_value_78 : decode cX3_value 78 = .ok (.iload 9, 2) := by decide +kernel
theorem dX3_value_80 : decode cX3_value 80 = .ok (.sipush 20059, 3) := by decide +kernel
theorem dX3_value_83 : decode cX3_value 83 = .ok (.if_icmp .eq 7, 3) := by decide +kernel
theorem dX3_value_86 : decode cX3_value 86 = .ok (.iconst 1, 1) := by decide +kernel
theorem dX3_value_87 : decode cX3_value 87 = .ok (.goto 4, 3) := by decide +kernel
theorem dX3_value_90 : decode cX3_value 90 = .ok (.iconst 0, 1) := by decide +kernel
theorem dX3_value_91 : decode cX3_value 91 = .ok (.istore 7, 2) := by decide +kernel
theorem dX3_value_93 : decode cX3_value 93 = .ok (.goto 197, 3) := by decide +kernel
theorem dX3_value_96 : decode cX3_value 96 = .ok (.iload 9, 2) := by decide +kernel
theorem dX3_value_98 : decode cX3_value 98 = .ok (.sipush 20000, 3) := by decide +kernel
theorem dX3_value_101 : decode cX3_value 101 = .ok (.if_icmp .ge 40, 3) := by decide +kernel
theorem dX3_value_104 : decode cX3_value 104 = .ok (.aload_n 0, 1) := by decide +kernel
theorem dX3_value_105 : decode cX3_value 105 = .ok (.getfield 24, 3) := by decide +kernel
theorem dX3_value_108 : decode cX3_value 108 = .ok (.iload 6, 2) := by decide +kernel
theorem dX3_value_110 : decode cX3_value 110 = .ok (.iload 9, 2) := by decide +kernel
theorem dX3_value_112 : decode cX3_value 112 = .ok (.sipush 10000, 3) := by decide +kernel
theorem dX3_value_115 : decode cX3_value 115 = .ok (.if_icmp .ge 8, 3) := by decide +kernel
theorem dX3_value_118 : decode cX3_value 118 = .ok (.iload 9, 2) := by decide +kernel
theorem dX3_value_120 : decode cX3_value 120 = .ok (.goto 14, 3) := by decide +kernel
theorem dX3_value_123 : decode cX3_value 123 = .ok (.aload_n 0, 1) := by decide +kernel
theorem dX3_value_124 : decode cX3_value 124 = .ok (.getfield 27, 3) := by decide +kernel
theorem dX3_value_127 : decode cX3_value 127 = .ok (.iload 9, 2) := by decide +kernel
theorem dX3_value_129 : decode cX3_value 129 = .ok (.sipush 10000, 3) := by decide +kernel
theorem dX3_value_132 : decode cX3_value 132 = .ok (.isub, 1) := by decide +kernel
theorem dX3_value_133 : decode cX3_value 133 = .ok (.iaload, 1) := by decide +kernel
theorem dX3_value_134 : decode cX3_value 134 = .ok (.iastore, 1) := by decide +kernel
theorem dX3_value_135 : decode cX3_value 135 = .ok (.iinc 6 1, 3) := by decide +kernel
theorem dX3_value_138 : decode cX3_value 138 = .ok (.goto 152, 3) := by decide +kernel
theorem dX3_value_141 : decode cX3_value 141 = .ok (.iload 6, 2) := by decide +kernel
theorem dX3_value_143 : decode cX3_value 143 = .ok (.iload 9, 2) := by decide +kernel
theorem dX3_value_145 : decode cX3_value 145 = .ok (.sipush 20000, 3) := by decide +kernel
theorem dX3_value_148 : decode cX3_value 148 = .ok (.isub, 1) := by decide +kernel
theorem dX3_value_149 : decode cX3_value 149 = .ok (.invokestatic 107, 3) := by decide +kernel
theorem dX3_value_152 : decode cX3_value 152 = .ok (.invokestatic 114, 3) := by decide +kernel
theorem dX3_value_155 : decode cX3_value 155 = .ok (.if_icmp .ge 5, 3) := by decide +kernel
theorem dX3_value_158 : decode cX3_value 158 = .ok (.iconst 0, 1) := by decide +kernel
theorem dX3_value_159 : decode cX3_value 159 = .ok (.ireturn, 1) := by decide +kernel
theorem dX3_value_160 : decode cX3_value 160 = .ok (.iload 9, 2) := by decide +kernel
theorem dX3_value_162 : decode cX3_value 162 = .ok (.sipush 20059, 3) := by decide +kernel
theorem dX3_value_165 : decode cX3_value 165 = .ok (.if_icmp .ne 13, 3) := by decide +kernel
theorem dX3_value_168 : decode cX3_value 168 = .ok (.aload_n 0, 1) := by decide +kernel
theorem dX3_value_169 : decode cX3_value 169 = .ok (.getfield 24, 3) := by decide +kernel
theorem dX3_value_172 : decode cX3_value 172 = .ok (.iload 6, 2) := by decide +kernel
theorem dX3_value_174 : decode cX3_value 174 = .ok (.iconst 1, 1) := by decide +kernel
theorem dX3_value_175 : decode cX3_value 175 = .ok (.isub, 1) := by decide +kernel
theorem dX3_value_176 : decode cX3_value 176 = .ok (.iaload, 1) := by decide +kernel
theorem dX3_value_177 : decode cX3_value 177 = .ok (.ireturn, 1) := by decide +kernel
theorem dX3_value_178 : decode cX3_value 178 = .ok (.iload 9, 2) := by decide +kernel
theorem dX3_value_180 : decode cX3_value 180 = .ok (.sipush 20063, 3) := by decide +kernel
theorem dX3_value_183 : decode cX3_value 183 = .ok (.if_icmp .ne 26, 3) := by decide +kernel
theorem dX3_value_186 : decode cX3_value 186 = .ok (.iinc 6 (-1), 3) := by decide +kernel
theorem dX3_value_189 : decode cX3_value 189 = .ok (.aload_n 0, 1) := by decide +kernel
theorem dX3_value_190 : decode cX3_value 190 = .ok (.getfield 24, 3) := by decide +kernel
theorem dX3_value_193 : decode cX3_value 193 = .ok (.iload 6, 2) := by decide +kernel
theorem dX3_value_195 : decode cX3_value 195 = .ok (.iaload, 1) := by decide +kernel
theorem dX3_value_196 : decode cX3_value 196 = .ok (.ifCond .ne 7, 3) := by decide +kernel
theorem dX3_value_199 : decode cX3_value 199 = .ok (.iconst 1, 1) := by decide +kernel
theorem dX3_value_200 : decode cX3_value 200 = .ok (.goto 4, 3) := by decide +kernel
theorem dX3_value_203 : decode cX3_value 203 = .ok (.iconst 0, 1) := by decide +kernel
theorem dX3_value_204 : decode cX3_value 204 = .ok (.istore 7, 2) := by decide +kernel
theorem dX3_value_206 : decode cX3_value 206 = .ok (.goto 84, 3) := by decide +kernel
theorem dX3_value_209 : decode cX3_value 209 = .ok (.iload 9, 2) := by decide +kernel
theorem dX3_value_211 : decode cX3_value 211 = .ok (.sipush 20000, 3) := by decide +kernel
theorem dX3_value_214 : decode cX3_value 214 = .ok (.isub, 1) := by decide +kernel
theorem dX3_value_215 : decode cX3_value 215 = .ok (.invokestatic 107, 3) := by decide +kernel
theorem dX3_value_218 : decode cX3_value 218 = .ok (.bipush 6, 2) := by decide +kernel
theorem dX3_value_220 : decode cX3_value 220 = .ok (.if_icmp .ne 33, 3) := by decide +kernel
theorem dX3_value_223 : decode cX3_value 223 = .ok (.aload_n 0, 1) := by decide +kernel
theorem dX3_value_224 : decode cX3_value 224 = .ok (.getfield 24, 3) := by decide +kernel
theorem dX3_value_227 : decode cX3_value 227 = .ok (.iload 6, 2) := by decide +kernel
theorem dX3_value_229 : decode cX3_value 229 = .ok (.iconst 1, 1) := by decide +kernel
theorem dX3_value_230 : decode cX3_value 230 = .ok (.isub, 1) := by decide +kernel
theorem dX3_value_231 : decode cX3_value 231 = .ok (.iload 9, 2) := by decide +kernel
theorem dX3_value_233 : decode cX3_value 233 = .ok (.sipush 20000, 3) := by decide +kernel
theorem dX3_value_236 : decode cX3_value 236 = .ok (.isub, 1) := by decide +kernel
theorem dX3_value_237 : decode cX3_value 237 = .ok (.aload_n 0, 1) := by decide +kernel
theorem dX3_value_238 : decode cX3_value 238 = .ok (.getfield 24, 3) := by decide +kernel
theorem dX3_value_241 : decode cX3_value 241 = .ok (.iload 6, 2) := by decide +kernel
theorem dX3_value_243 : decode cX3_value 243 = .ok (.iconst 1, 1) := by decide +kernel
theorem dX3_value_244 : decode cX3_value 244 = .ok (.isub, 1) := by decide +kernel
theorem dX3_value_245 : decode cX3_value 245 = .ok (.iaload, 1) := by decide +kernel
theorem dX3_value_246 : decode cX3_value 246 = .ok (.invokestatic 117, 3) := by decide +kernel
theorem dX3_value_249 : decode cX3_value 249 = .ok (.iastore, 1) := by decide +kernel
theorem dX3_value_250 : decode cX3_value 250 = .ok (.goto 40, 3) := by decide +kernel
theorem dX3_value_253 : decode cX3_value 253 = .ok (.iinc 6 (-1), 3) := by decide +kernel
theorem dX3_value_256 : decode cX3_value 256 = .ok (.aload_n 0, 1) := by decide +kernel
theorem dX3_value_257 : decode cX3_value 257 = .ok (.getfield 24, 3) := by decide +kernel
theorem dX3_value_260 : decode cX3_value 260 = .ok (.iload 6, 2) := by decide +kernel
theorem dX3_value_262 : decode cX3_value 262 = .ok (.iconst 1, 1) := by decide +kernel
theorem dX3_value_263 : decode cX3_value 263 = .ok (.isub, 1) := by decide +kernel
theorem dX3_value_264 : decode cX3_value 264 = .ok (.iload 9, 2) := by decide +kernel
theorem dX3_value_266 : decode cX3_value 266 = .ok (.sipush 20000, 3) := by decide +kernel
theorem dX3_value_269 : decode cX3_value 269 = .ok (.isub, 1) := by decide +kernel
theorem dX3_value_270 : decode cX3_value 270 = .ok (.aload_n 0, 1) := by decide +kernel
theorem dX3_value_271 : decode cX3_value 271 = .ok (.getfield 24, 3) := by decide +kernel
theorem dX3_value_274 : decode cX3_value 274 = .ok (.iload 6, 2) := by decide +kernel
theorem dX3_value_276 : decode cX3_value 276 = .ok (.iconst 1, 1) := by decide +kernel
theorem dX3_value_277 : decode cX3_value 277 = .ok (.isub, 1) := by decide +kernel
theorem dX3_value_278 : decode cX3_value 278 = .ok (.iaload, 1) := by decide +kernel
theorem dX3_value_279 : decode cX3_value 279 = .ok (.aload_n 0, 1) := by decide +kernel
theorem dX3_value_280 : decode cX3_value 280 = .ok (.getfield 24, 3) := by decide +kernel
theorem dX3_value_283 : decode cX3_value 283 = .ok (.iload 6, 2) := by decide +kernel
theorem dX3_value_285 : decode cX3_value 285 = .ok (.iaload, 1) := by decide +kernel
theorem dX3_value_286 : decode cX3_value 286 = .ok (.invokestatic 121, 3) := by decide +kernel
theorem dX3_value_289 : decode cX3_value 289 = .ok (.iastore, 1) := by decide +kernel
theorem dX3_value_290 : decode cX3_value 290 = .ok (.iinc 8 1, 3) := by decide +kernel
theorem dX3_value_293 : decode cX3_value 293 = .ok (.goto (-238), 3) := by decide +kernel
theorem dX3_value_296 : decode cX3_value 296 = .ok (.iconst 0, 1) := by decide +kernel
theorem dX3_value_297 : decode cX3_value 297 = .ok (.ireturn, 1) := by decide +kernel
theorem dX3_operandsOf_0 : decode cX3_operandsOf 0 = .ok (.iload_n 0, 1) := by decide +kernel
theorem dX3_operandsOf_1 : decode cX3_operandsOf 1 = .ok (.ifCond .eq 9, 3) := by decide +kernel
theorem dX3_operandsOf_4 : decode cX3_operandsOf 4 = .ok (.iload_n 0, 1) := by decide +kernel
theorem dX3_operandsOf_5 : decode cX3_operandsOf 5 = .ok (.bipush 6, 2) := by decide +kernel
theorem dX3_operandsOf_7 : decode cX3_operandsOf 7 = .ok (.if_icmp .ne 7, 3) := by decide +kernel
theorem dX3_operandsOf_10 : decode cX3_operandsOf 10 = .ok (.iconst 1, 1) := by decide +kernel
theorem dX3_operandsOf_11 : decode cX3_operandsOf 11 = .ok (.goto 4, 3) := by decide +kernel
theorem dX3_operandsOf_14 : decode cX3_operandsOf 14 = .ok (.iconst 2, 1) := by decide +kernel
theorem dX3_operandsOf_15 : decode cX3_operandsOf 15 = .ok (.ireturn, 1) := by decide +kernel
theorem dX3_ofOne_0 : decode cX3_ofOne 0 = .ok (.iload_n 0, 1) := by decide +kernel
theorem dX3_ofOne_1 : decode cX3_ofOne 1 = .ok (.bipush 33, 2) := by decide +kernel
theorem dX3_ofOne_3 : decode cX3_ofOne 3 = .ok (.if_icmp .ne 13, 3) := by decide +kernel
theorem dX3_ofOne_6 : decode cX3_ofOne 6 = .ok (.iload_n 1, 1) := by decide +kernel
theorem dX3_ofOne_7 : decode cX3_ofOne 7 = .ok (.ifCond .ne 7, 3) := by decide +kernel
theorem dX3_ofOne_10 : decode cX3_ofOne 10 = .ok (.iconst 1, 1) := by decide +kernel
theorem dX3_ofOne_11 : decode cX3_ofOne 11 = .ok (.goto 4, 3) := by decide +kernel
theorem dX3_ofOne_14 : decode cX3_ofOne 14 = .ok (.iconst 0, 1) := by decide +kernel
theorem dX3_ofOne_15 : decode cX3_ofOne 15 = .ok (.ireturn, 1) := by decide +kernel
theorem dX3_ofOne_16 : decode cX3_ofOne 16 = .ok (.iload_n 1, 1) := by decide +kernel
theorem dX3_ofOne_17 : decode cX3_ofOne 17 = .ok (.ineg, 1) := by decide +kernel
theorem dX3_ofOne_18 : decode cX3_ofOne 18 = .ok (.ireturn, 1) := by decide +kernel
theorem dX3_ofTwo_0 : decode cX3_ofTwo 0 = .ok (.iload_n 0, 1) := by decide +kernel
theorem dX3_ofTwo_1 : decode cX3_ofTwo 1 = .ok (.tableswitch 202 37 62 #[135, 188, 202, 202, 202, 119, 147, 202, 151, 202, 123, 202, 202, 202, 202, 202, 202, 202, 202, 202, 202, 202, 202, 155, 166, 177], 119) := by decide +kernel
theorem dX3_ofTwo_120 : decode cX3_ofTwo 120 = .ok (.iload_n 1, 1) := by decide +kernel
theorem dX3_ofTwo_121 : decode cX3_ofTwo 121 = .ok (.iload_n 2, 1) := by decide +kernel
theorem dX3_ofTwo_122 : decode cX3_ofTwo 122 = .ok (.imul, 1) := by decide +kernel
theorem dX3_ofTwo_123 : decode cX3_ofTwo 123 = .ok (.ireturn, 1) := by decide +kernel
theorem dX3_ofTwo_124 : decode cX3_ofTwo 124 = .ok (.iload_n 2, 1) := by decide +kernel
theorem dX3_ofTwo_125 : decode cX3_ofTwo 125 = .ok (.ifCond .ne 7, 3) := by decide +kernel
theorem dX3_ofTwo_128 : decode cX3_ofTwo 128 = .ok (.iconst 0, 1) := by decide +kernel
theorem dX3_ofTwo_129 : decode cX3_ofTwo 129 = .ok (.goto 6, 3) := by decide +kernel
theorem dX3_ofTwo_132 : decode cX3_ofTwo 132 = .ok (.iload_n 1, 1) := by decide +kernel
theorem dX3_ofTwo_133 : decode cX3_ofTwo 133 = .ok (.iload_n 2, 1) := by decide +kernel
theorem dX3_ofTwo_134 : decode cX3_ofTwo 134 = .ok (.idiv, 1) := by decide +kernel
theorem dX3_ofTwo_135 : decode cX3_ofTwo 135 = .ok (.ireturn, 1) := by decide +kernel
theorem dX3_ofTwo_136 : decode cX3_ofTwo 136 = .ok (.iload_n 2, 1) := by decide +kernel
theorem dX3_ofTwo_137 : decode cX3_ofTwo 137 = .ok (.ifCond .ne 7, 3) := by decide +kernel
theorem dX3_ofTwo_140 : decode cX3_ofTwo 140 = .ok (.iconst 0, 1) := by decide +kernel
theorem dX3_ofTwo_141 : decode cX3_ofTwo 141 = .ok (.goto 6, 3) := by decide +kernel
theorem dX3_ofTwo_144 : decode cX3_ofTwo 144 = .ok (.iload_n 1, 1) := by decide +kernel
theorem dX3_ofTwo_145 : decode cX3_ofTwo 145 = .ok (.iload_n 2, 1) := by decide +kernel
theorem dX3_ofTwo_146 : decode cX3_ofTwo 146 = .ok (.irem, 1) := by decide +kernel
theorem dX3_ofTwo_147 : decode cX3_ofTwo 147 = .ok (.ireturn, 1) := by decide +kernel
theorem dX3_ofTwo_148 : decode cX3_ofTwo 148 = .ok (.iload_n 1, 1) := by decide +kernel
theorem dX3_ofTwo_149 : decode cX3_ofTwo 149 = .ok (.iload_n 2, 1) := by decide +kernel
theorem dX3_ofTwo_150 : decode cX3_ofTwo 150 = .ok (.iadd, 1) := by decide +kernel
theorem dX3_ofTwo_151 : decode cX3_ofTwo 151 = .ok (.ireturn, 1) := by decide +kernel
theorem dX3_ofTwo_152 : decode cX3_ofTwo 152 = .ok (.iload_n 1, 1) := by decide +kernel
theorem dX3_ofTwo_153 : decode cX3_ofTwo 153 = .ok (.iload_n 2, 1) := by decide +kernel
theorem dX3_ofTwo_154 : decode cX3_ofTwo 154 = .ok (.isub, 1) := by decide +kernel
theorem dX3_ofTwo_155 : decode cX3_ofTwo 155 = .ok (.ireturn, 1) := by decide +kernel
theorem dX3_ofTwo_156 : decode cX3_ofTwo 156 = .ok (.iload_n 1, 1) := by decide +kernel
theorem dX3_ofTwo_157 : decode cX3_ofTwo 157 = .ok (.iload_n 2, 1) := by decide +kernel
theorem dX3_ofTwo_158 : decode cX3_ofTwo 158 = .ok (.if_icmp .ge 7, 3) := by decide +kernel
theorem dX3_ofTwo_161 : decode cX3_ofTwo 161 = .ok (.iconst 1, 1) := by decide +kernel
theorem dX3_ofTwo_162 : decode cX3_ofTwo 162 = .ok (.goto 4, 3) := by decide +kernel
theorem dX3_ofTwo_165 : decode cX3_ofTwo 165 = .ok (.iconst 0, 1) := by decide +kernel
theorem dX3_ofTwo_166 : decode cX3_ofTwo 166 = .ok (.ireturn, 1) := by decide +kernel
theorem dX3_ofTwo_167 : decode cX3_ofTwo 167 = .ok (.iload_n 1, 1) := by decide +kernel
theorem dX3_ofTwo_168 : decode cX3_ofTwo 168 = .ok (.iload_n 2, 1) := by decide +kernel
theorem dX3_ofTwo_169 : decode cX3_ofTwo 169 = .ok (.if_icmp .ne 7, 3) := by decide +kernel
theorem dX3_ofTwo_172 : decode cX3_ofTwo 172 = .ok (.iconst 1, 1) := by decide +kernel
theorem dX3_ofTwo_173 : decode cX3_ofTwo 173 = .ok (.goto 4, 3) := by decide +kernel
theorem dX3_ofTwo_176 : decode cX3_ofTwo 176 = .ok (.iconst 0, 1) := by decide +kernel
theorem dX3_ofTwo_177 : decode cX3_ofTwo 177 = .ok (.ireturn, 1) := by decide +kernel
theorem dX3_ofTwo_178 : decode cX3_ofTwo 178 = .ok (.iload_n 1, 1) := by decide +kernel
theorem dX3_ofTwo_179 : decode cX3_ofTwo 179 = .ok (.iload_n 2, 1) := by decide +kernel
theorem dX3_ofTwo_180 : decode cX3_ofTwo 180 = .ok (.if_icmp .le 7, 3) := by decide +kernel
theorem dX3_ofTwo_183 : decode cX3_ofTwo 183 = .ok (.iconst 1, 1) := by decide +kernel
theorem dX3_ofTwo_184 : decode cX3_ofTwo 184 = .ok (.goto 4, 3) := by decide +kernel
theorem dX3_ofTwo_187 : decode cX3_ofTwo 187 = .ok (.iconst 0, 1) := by decide +kernel
theorem dX3_ofTwo_188 : decode cX3_ofTwo 188 = .ok (.ireturn, 1) := by decide +kernel
theorem dX3_ofTwo_189 : decode cX3_ofTwo 189 = .ok (.iload_n 1, 1) := by decide +kernel
theorem dX3_ofTwo_190 : decode cX3_ofTwo 190 = .ok (.ifCond .eq 11, 3) := by decide +kernel
theorem dX3_ofTwo_193 : decode cX3_ofTwo 193 = .ok (.iload_n 2, 1) := by decide +kernel
theorem dX3_ofTwo_194 : decode cX3_ofTwo 194 = .ok (.ifCond .eq 7, 3) := by decide +kernel
theorem dX3_ofTwo_197 : decode cX3_ofTwo 197 = .ok (.iconst 1, 1) := by decide +kernel
theorem dX3_ofTwo_198 : decode cX3_ofTwo 198 = .ok (.goto 4, 3) := by decide +kernel
theorem dX3_ofTwo_201 : decode cX3_ofTwo 201 = .ok (.iconst 0, 1) := by decide +kernel
theorem dX3_ofTwo_202 : decode cX3_ofTwo 202 = .ok (.ireturn, 1) := by decide +kernel
theorem dX3_ofTwo_203 : decode cX3_ofTwo 203 = .ok (.iload_n 1, 1) := by decide +kernel
theorem dX3_ofTwo_204 : decode cX3_ofTwo 204 = .ok (.ifCond .ne 7, 3) := by decide +kernel
theorem dX3_ofTwo_207 : decode cX3_ofTwo 207 = .ok (.iload_n 2, 1) := by decide +kernel
theorem dX3_ofTwo_208 : decode cX3_ofTwo 208 = .ok (.ifCond .eq 7, 3) := by decide +kernel
theorem dX3_ofTwo_211 : decode cX3_ofTwo 211 = .ok (.iconst 1, 1) := by decide +kernel
theorem dX3_ofTwo_212 : decode cX3_ofTwo 212 = .ok (.goto 4, 3) := by decide +kernel
theorem dX3_ofTwo_215 : decode cX3_ofTwo 215 = .ok (.iconst 0, 1) := by decide +kernel
theorem dX3_ofTwo_216 : decode cX3_ofTwo 216 = .ok (.ireturn, 1) := by decide +kernel
theorem dX4_init_0 : decode cX4_init 0 = .ok (.aload_n 0, 1) := by decide +kernel
theorem dX4_init_1 : decode cX4_init 1 = .ok (.invokespecial 3, 3) := by decide +kernel
theorem dX4_init_4 : decode cX4_init 4 = .ok (.aload_n 0, 1) := by decide +kernel
theorem dX4_init_5 : decode cX4_init 5 = .ok (.bipush 20, 2) := by decide +kernel
theorem dX4_init_7 : decode cX4_init 7 = .ok (.newarray .int, 2) := by decide +kernel
theorem dX4_init_9 : decode cX4_init 9 = .ok (.putfield 9, 3) := by decide +kernel
theorem dX4_init_12 : decode cX4_init 12 = .ok (.aload_n 0, 1) := by decide +kernel
theorem dX4_init_13 : decode cX4_init 13 = .ok (.bipush 20, 2) := by decide +kernel
theorem dX4_init_15 : decode cX4_init 15 = .ok (.newarray .int, 2) := by decide +kernel
theorem dX4_init_17 : decode cX4_init 17 = .ok (.putfield 15, 3) := by decide +kernel
theorem dX4_init_20 : decode cX4_init 20 = .ok (.aload_n 0, 1) := by decide +kernel
theorem dX4_init_21 : decode cX4_init 21 = .ok (.bipush 20, 2) := by decide +kernel
theorem dX4_init_23 : decode cX4_init 23 = .ok (.newarray .int, 2) := by decide +kernel
theorem dX4_init_25 : decode cX4_init 25 = .ok (.putfield 18, 3) := by decide +kernel
theorem dX4_init_28 : decode cX4_init 28 = .ok (.aload_n 0, 1) := by decide +kernel
theorem dX4_init_29 : decode cX4_init 29 = .ok (.bipush 20, 2) := by decide +kernel
theorem dX4_init_31 : decode cX4_init 31 = .ok (.newarray .int, 2) := by decide +kernel
theorem dX4_init_33 : decode cX4_init 33 = .ok (.putfield 21, 3) := by decide +kernel
theorem dX4_init_36 : decode cX4_init 36 = .ok (.aload_n 0, 1) := by decide +kernel
theorem dX4_init_37 : decode cX4_init 37 = .ok (.bipush 20, 2) := by decide +kernel
theorem dX4_init_39 : decode cX4_init 39 = .ok (.newarray .int, 2) := by decide +kernel
theorem dX4_init_41 : decode cX4_init 41 = .ok (.putfield 24, 3) := by decide +kernel
theorem dX4_init_44 : decode cX4_init 44 = .ok (.return_, 1) := by decide +kernel
theorem dX4_copyFrom_0 : decode cX4_copyFrom 0 = .ok (.aload_n 1, 1) := by decide +kernel
theorem dX4_copyFrom_1 : decode cX4_copyFrom 1 = .ok (.getfield 9, 3) := by decide +kernel
theorem dX4_copyFrom_4 : decode cX4_copyFrom 4 = .ok (.iconst 0, 1) := by decide +kernel
theorem dX4_copyFrom_5 : decode cX4_copyFrom 5 = .ok (.aload_n 0, 1) := by decide +kernel
theorem dX4_copyFrom_6 : decode cX4_copyFrom 6 = .ok (.getfield 9, 3) := by decide +kernel
theorem dX4_copyFrom_9 : decode cX4_copyFrom 9 = .ok (.iconst 0, 1) := by decide +kernel
theorem dX4_copyFrom_10 : decode cX4_copyFrom 10 = .ok (.bipush 20, 2) := by decide +kernel
theorem dX4_copyFrom_12 : decode cX4_copyFrom 12 = .ok (.invokestatic 27, 3) := by decide +kernel
theorem dX4_copyFrom_15 : decode cX4_copyFrom 15 = .ok (.aload_n 1, 1) := by decide +kernel
theorem dX4_copyFrom_16 : decode cX4_copyFrom 16 = .ok (.getfield 15, 3) := by decide +kernel
theorem dX4_copyFrom_19 : decode cX4_copyFrom 19 = .ok (.iconst 0, 1) := by decide +kernel
theorem dX4_copyFrom_20 : decode cX4_copyFrom 20 = .ok (.aload_n 0, 1) := by decide +kernel
theorem dX4_copyFrom_21 : decode cX4_copyFrom 21 = .ok (.getfield 15, 3) := by decide +kernel
theorem dX4_copyFrom_24 : decode cX4_copyFrom 24 = .ok (.iconst 0, 1) := by decide +kernel
theorem dX4_copyFrom_25 : decode cX4_copyFrom 25 = .ok (.bipush 20, 2) := by decide +kernel
theorem dX4_copyFrom_27 : decode cX4_copyFrom 27 = .ok (.invokestatic 27, 3) := by decide +kernel
theorem dX4_copyFrom_30 : decode cX4_copyFrom 30 = .ok (.aload_n 1, 1) := by decide +kernel
theorem dX4_copyFrom_31 : decode cX4_copyFrom 31 = .ok (.getfield 18, 3) := by decide +kernel
theorem dX4_copyFrom_34 : decode cX4_copyFrom 34 = .ok (.iconst 0, 1) := by decide +kernel
theorem dX4_copyFrom_35 : decode cX4_copyFrom 35 = .ok (.aload_n 0, 1) := by decide +kernel
theorem dX4_copyFrom_36 : decode cX4_copyFrom 36 = .ok (.getfield 18, 3) := by decide +kernel
theorem dX4_copyFrom_39 : decode cX4_copyFrom 39 = .ok (.iconst 0, 1) := by decide +kernel
theorem dX4_copyFrom_40 : decode cX4_copyFrom 40 = .ok (.bipush 20, 2) := by decide +kernel
theorem dX4_copyFrom_42 : decode cX4_copyFrom 42 = .ok (.invokestatic 27, 3) := by decide +kernel
theorem dX4_copyFrom_45 : decode cX4_copyFrom 45 = .ok (.aload_n 1, 1) := by decide +kernel
theorem dX4_copyFrom_46 : decode cX4_copyFrom 46 = .ok (.getfield 21, 3) := by decide +kernel
theorem dX4_copyFrom_49 : decode cX4_copyFrom 49 = .ok (.iconst 0, 1) := by decide +kernel
theorem dX4_copyFrom_50 : decode cX4_copyFrom 50 = .ok (.aload_n 0, 1) := by decide +kernel
theorem dX4_copyFrom_51 : decode cX4_copyFrom 51 = .ok (.getfield 21, 3) := by decide +kernel
theorem dX4_copyFrom_54 : decode cX4_copyFrom 54 = .ok (.iconst 0, 1) := by decide +kernel
theorem dX4_copyFrom_55 : decode cX4_copyFrom 55 = .ok (.bipush 20, 2) := by decide +kernel
theorem dX4_copyFrom_57 : decode cX4_copyFrom 57 = .ok (.invokestatic 27, 3) := by decide +kernel
theorem dX4_copyFrom_60 : decode cX4_copyFrom 60 = .ok (.aload_n 1, 1) := by decide +kernel
theorem dX4_copyFrom_61 : decode cX4_copyFrom 61 = .ok (.getfield 24, 3) := by decide +kernel
theorem dX4_copyFrom_64 : decode cX4_copyFrom 64 = .ok (.iconst 0, 1) := by decide +kernel
theorem dX4_copyFrom_65 : decode cX4_copyFrom 65 = .ok (.aload_n 0, 1) := by decide +kernel
theorem dX4_copyFrom_66 : decode cX4_copyFrom 66 = .ok (.getfield 24, 3) := by decide +kernel
theorem dX4_copyFrom_69 : decode cX4_copyFrom 69 = .ok (.iconst 0, 1) := by decide +kernel
theorem dX4_copyFrom_70 : decode cX4_copyFrom 70 = .ok (.bipush 20, 2) := by decide +kernel
theorem dX4_copyFrom_72 : decode cX4_copyFrom 72 = .ok (.invokestatic 27, 3) := by decide +kernel
theorem dX4_copyFrom_75 : decode cX4_copyFrom 75 = .ok (.aload_n 0, 1) := by decide +kernel
theorem dX4_copyFrom_76 : decode cX4_copyFrom 76 = .ok (.aload_n 1, 1) := by decide +kernel
theorem dX4_copyFrom_77 : decode cX4_copyFrom 77 = .ok (.getfield 33, 3) := by decide +kernel
theorem dX4_copyFrom_80 : decode cX4_copyFrom 80 = .ok (.putfield 33, 3) := by decide +kernel
theorem dX4_copyFrom_83 : decode cX4_copyFrom 83 = .ok (.return_, 1) := by decide +kernel
theorem dX4_isDebt_0 : decode cX4_isDebt 0 = .ok (.iload_n 1, 1) := by decide +kernel
theorem dX4_isDebt_1 : decode cX4_isDebt 1 = .ok (.iconst 0, 1) := by decide +kernel
theorem dX4_isDebt_2 : decode cX4_isDebt 2 = .ok (.aload_n 0, 1) := by decide +kernel
theorem dX4_isDebt_3 : decode cX4_isDebt 3 = .ok (.getfield 33, 3) := by decide +kernel
theorem dX4_isDebt_6 : decode cX4_isDebt 6 = .ok (.iconst 1, 1) := by decide +kernel
theorem dX4_isDebt_7 : decode cX4_isDebt 7 = .ok (.isub, 1) := by decide +kernel
theorem dX4_isDebt_8 : decode cX4_isDebt 8 = .ok (.invokestatic 37, 3) := by decide +kernel
theorem dX4_isDebt_11 : decode cX4_isDebt 11 = .ok (.ireturn, 1) := by decide +kernel
theorem dX4_isOpen_0 : decode cX4_isOpen 0 = .ok (.aload_n 0, 1) := by decide +kernel
theorem dX4_isOpen_1 : decode cX4_isOpen 1 = .ok (.iload_n 1, 1) := by decide +kernel
theorem dX4_isOpen_2 : decode cX4_isOpen 2 = .ok (.invokevirtual 41, 3) := by decide +kernel
theorem dX4_isOpen_5 : decode cX4_isOpen 5 = .ok (.ifCond .eq 16, 3) := by decide +kernel
theorem dX4_isOpen_8 : decode cX4_isOpen 8 = .ok (.aload_n 0, 1) := by decide +kernel
theorem dX4_isOpen_9 : decode cX4_isOpen 9 = .ok (.getfield 18, 3) := by decide +kernel
theorem dX4_isOpen_12 : decode cX4_isOpen 12 = .ok (.iload_n 1, 1) := by decide +kernel
theorem dX4_isOpen_13 : decode cX4_isOpen 13 = .ok (.iaload, 1) := by decide +kernel
theorem dX4_isOpen_14 : decode cX4_isOpen 14 = .ok (.ifCond .le 7, 3) := by decide +kernel
theorem dX4_isOpen_17 : decode cX4_isOpen 17 = .ok (.iconst 1, 1) := by decide +kernel
theorem dX4_isOpen_18 : decode cX4_isOpen 18 = .ok (.goto 4, 3) := by decide +kernel
theorem dX4_isOpen_21 : decode cX4_isOpen 21 = .ok (.iconst 0, 1) := by decide +kernel
theorem dX4_isOpen_22 : decode cX4_isOpen 22 = .ok (.ireturn, 1) := by decide +kernel
theorem dX4_add_0 : decode cX4_add 0 = .ok (.aload_n 0, 1) := by decide +kernel
theorem dX4_add_1 : decode cX4_add 1 = .ok (.getfield 9, 3) := by decide +kernel
theorem dX4_add_4 : decode cX4_add 4 = .ok (.aload_n 0, 1) := by decide +kernel
theorem dX4_add_5 : decode cX4_add 5 = .ok (.getfield 33, 3) := by decide +kernel
theorem dX4_add_8 : decode cX4_add 8 = .ok (.iload_n 1, 1) := by decide +kernel
theorem dX4_add_9 : decode cX4_add 9 = .ok (.iastore, 1) := by decide +kernel
theorem dX4_add_10 : decode cX4_add 10 = .ok (.aload_n 0, 1) := by decide +kernel
theorem dX4_add_11 : decode cX4_add 11 = .ok (.getfield 15, 3) := by decide +kernel
theorem dX4_add_14 : decode cX4_add 14 = .ok (.aload_n 0, 1) := by decide +kernel
theorem dX4_add_15 : decode cX4_add 15 = .ok (.getfield 33, 3) := by decide +kernel
theorem dX4_add_18 : decode cX4_add 18 = .ok (.iload_n 2, 1) := by decide +kernel
theorem dX4_add_19 : decode cX4_add 19 = .ok (.iastore, 1) := by decide +kernel
theorem dX4_add_20 : decode cX4_add 20 = .ok (.aload_n 0, 1) := by decide +kernel
theorem dX4_add_21 : decode cX4_add 21 = .ok (.getfield 18, 3) := by decide +kernel
theorem dX4_add_24 : decode cX4_add 24 = .ok (.aload_n 0, 1) := by decide +kernel
theorem dX4_add_25 : decode cX4_add 25 = .ok (.getfield 33, 3) := by decide +kernel
theorem dX4_add_28 : decode cX4_add 28 = .ok (.iload_n 3, 1) := by decide +kernel
theorem dX4_add_29 : decode cX4_add 29 = .ok (.iastore, 1) := by decide +kernel
theorem dX4_add_30 : decode cX4_add 30 = .ok (.aload_n 0, 1) := by decide +kernel
theorem dX4_add_31 : decode cX4_add 31 = .ok (.getfield 21, 3) := by decide +kernel
theorem dX4_add_34 : decode cX4_add 34 = .ok (.aload_n 0, 1) := by decide +kernel
theorem dX4_add_35 : decode cX4_add 35 = .ok (.getfield 33, 3) := by decide +kernel
theorem dX4_add_38 : decode cX4_add 38 = .ok (.iload 4, 2) := by decide +kernel
theorem dX4_add_40 : decode cX4_add 40 = .ok (.iastore, 1) := by decide +kernel
theorem dX4_add_41 : decode cX4_add 41 = .ok (.aload_n 0, 1) := by decide +kernel
theorem dX4_add_42 : decode cX4_add 42 = .ok (.getfield 24, 3) := by decide +kernel
theorem dX4_add_45 : decode cX4_add 45 = .ok (.aload_n 0, 1) := by decide +kernel
theorem dX4_add_46 : decode cX4_add 46 = .ok (.getfield 33, 3) := by decide +kernel
theorem dX4_add_49 : decode cX4_add 49 = .ok (.iconst 0, 1) := by decide +kernel
theorem dX4_add_50 : decode cX4_add 50 = .ok (.iastore, 1) := by decide +kernel
theorem dX4_add_51 : decode cX4_add 51 = .ok (.aload_n 0, 1) := by decide +kernel
theorem dX4_add_52 : decode cX4_add 52 = .ok (.dup, 1) := by decide +kernel
theorem dX4_add_53 : decode cX4_add 53 = .ok (.getfield 33, 3) := by decide +kernel
theorem dX4_add_56 : decode cX4_add 56 = .ok (.iconst 1, 1) := by decide +kernel
theorem dX4_add_57 : decode cX4_add 57 = .ok (.iadd, 1) := by decide +kernel
theorem dX4_add_58 : decode cX4_add 58 = .ok (.putfield 33, 3) := by decide +kernel
theorem dX4_add_61 : decode cX4_add 61 = .ok (.aload_n 0, 1) := by decide +kernel
theorem dX4_add_62 : decode cX4_add 62 = .ok (.getfield 33, 3) := by decide +kernel
theorem dX4_add_65 : decode cX4_add 65 = .ok (.iconst 1, 1) := by decide +kernel
theorem dX4_add_66 : decode cX4_add 66 = .ok (.isub, 1) := by decide +kernel
theorem dX4_add_67 : decode cX4_add 67 = .ok (.ireturn, 1) := by decide +kernel
theorem dX4_open_0 : decode cX4_open 0 = .ok (.iconst 0, 1) := by decide +kernel
theorem dX4_open_1 : decode cX4_open 1 = .ok (.istore_n 1, 1) := by decide +kernel
theorem dX4_open_2 : decode cX4_open 2 = .ok (.iconst 0, 1) := by decide +kernel
theorem dX4_open_3 : decode cX4_open 3 = .ok (.istore_n 2, 1) := by decide +kernel
theorem dX4_open_4 : decode cX4_open 4 = .ok (.iload_n 2, 1) := by decide +kernel
theorem dX4_open_5 : decode cX4_open 5 = .ok (.aload_n 0, 1) := by decide +kernel
theorem dX4_open_6 : decode cX4_open 6 = .ok (.getfield 33, 3) := by decide +kernel
theorem dX4_open_9 : decode cX4_open 9 = .ok (.if_icmp .ge 21, 3) := by decide +kernel
theorem dX4_open_12 : decode cX4_open 12 = .ok (.aload_n 0, 1) := by decide +kernel
theorem dX4_open_13 : decode cX4_open 13 = .ok (.getfield 18, 3) := by decide +kernel
theorem dX4_open_16 : decode cX4_open 16 = .ok (.iload_n 2, 1) := by decide +kernel
theorem dX4_open_17 : decode cX4_open 17 = .ok (.iaload, 1) := by decide +kernel
theorem dX4_open_18 : decode cX4_open 18 = .ok (.ifCond .le 6, 3) := by decide +kernel
theorem dX4_open_21 : decode cX4_open 21 = .ok (.iinc 1 1, 3) := by decide +kernel
theorem dX4_open_24 : decode cX4_open 24 = .ok (.iinc 2 1, 3) := by decide +kernel
theorem dX4_open_27 : decode cX4_open 27 = .ok (.goto (-23), 3) := by decide +kernel
theorem dX4_open_30 : decode cX4_open 30 = .ok (.iload_n 1, 1) := by decide +kernel
theorem dX4_open_31 : decode cX4_open 31 = .ok (.ireturn, 1) := by decide +kernel
theorem dX4_owed_0 : decode cX4_owed 0 = .ok (.iconst 0, 1) := by decide +kernel
theorem dX4_owed_1 : decode cX4_owed 1 = .ok (.istore_n 3, 1) := by decide +kernel
theorem dX4_owed_2 : decode cX4_owed 2 = .ok (.iconst 0, 1) := by decide +kernel
theorem dX4_owed_3 : decode cX4_owed 3 = .ok (.istore 4, 2) := by decide +kernel
theorem dX4_owed_5 : decode cX4_owed 5 = .ok (.iload 4, 2) := by decide +kernel
theorem dX4_owed_7 : decode cX4_owed 7 = .ok (.aload_n 0, 1) := by decide +kernel
theorem dX4_owed_8 : decode cX4_owed 8 = .ok (.getfield 33, 3) := by decide +kernel
theorem dX4_owed_11 : decode cX4_owed 11 = .ok (.if_icmp .ge 41, 3) := by decide +kernel
theorem dX4_owed_14 : decode cX4_owed 14 = .ok (.aload_n 0, 1) := by decide +kernel
theorem dX4_owed_15 : decode cX4_owed 15 = .ok (.getfield 9, 3) := by decide +kernel
theorem dX4_owed_18 : decode cX4_owed 18 = .ok (.iload 4, 2) := by decide +kernel
theorem dX4_owed_20 : decode cX4_owed 20 = .ok (.iaload, 1) := by decide +kernel
theorem dX4_owed_21 : decode cX4_owed 21 = .ok (.iload_n 1, 1) := by decide +kernel
theorem dX4_owed_22 : decode cX4_owed 22 = .ok (.if_icmp .ne 24, 3) := by decide +kernel
theorem dX4_owed_25 : decode cX4_owed 25 = .ok (.aload_n 0, 1) := by decide +kernel
theorem dX4_owed_26 : decode cX4_owed 26 = .ok (.getfield 15, 3) := by decide +kernel
theorem dX4_owed_29 : decode cX4_owed 29 = .ok (.iload 4, 2) := by decide +kernel
theorem dX4_owed_31 : decode cX4_owed 31 = .ok (.iaload, 1) := by decide +kernel
theorem dX4_owed_32 : decode cX4_owed 32 = .ok (.iload_n 2, 1) := by decide +kernel
theorem dX4_owed_33 : decode cX4_owed 33 = .ok (.if_icmp .ne 13, 3) := by decide +kernel
theorem dX4_owed_36 : decode cX4_owed 36 = .ok (.iload_n 3, 1) := by decide +kernel
theorem dX4_owed_37 : decode cX4_owed 37 = .ok (.aload_n 0, 1) := by decide +kernel
theorem dX4_owed_38 : decode cX4_owed 38 = .ok (.getfield 18, 3) := by decide +kernel
theorem dX4_owed_41 : decode cX4_owed 41 = .ok (.iload 4, 2) := by decide +kernel
theorem dX4_owed_43 : decode cX4_owed 43 = .ok (.iaload, 1) := by decide +kernel
theorem dX4_owed_44 : decode cX4_owed 44 = .ok (.iadd, 1) := by decide +kernel
theorem dX4_owed_45 : decode cX4_owed 45 = .ok (.istore_n 3, 1) := by decide +kernel
theorem dX4_owed_46 : decode cX4_owed 46 = .ok (.iinc 4 1, 3) := by decide +kernel
theorem dX4_owed_49 : decode cX4_owed 49 = .ok (.goto (-44), 3) := by decide +kernel
theorem dX4_owed_52 : decode cX4_owed 52 = .ok (.iload_n 3, 1) := by decide +kernel
theorem dX4_owed_53 : decode cX4_owed 53 = .ok (.ireturn, 1) := by decide +kernel
theorem dX4_owedBy_0 : decode cX4_owedBy 0 = .ok (.iconst 0, 1) := by decide +kernel
theorem dX4_owedBy_1 : decode cX4_owedBy 1 = .ok (.istore_n 2, 1) := by decide +kernel
theorem dX4_owedBy_2 : decode cX4_owedBy 2 = .ok (.iconst 0, 1) := by decide +kernel
theorem dX4_owedBy_3 : decode cX4_owedBy 3 = .ok (.istore_n 3, 1) := by decide +kernel
theorem dX4_owedBy_4 : decode cX4_owedBy 4 = .ok (.iload_n 3, 1) := by decide +kernel
theorem dX4_owedBy_5 : decode cX4_owedBy 5 = .ok (.aload_n 0, 1) := by decide +kernel
theorem dX4_owedBy_6 : decode cX4_owedBy 6 = .ok (.getfield 33, 3) := by decide +kernel
theorem dX4_owedBy_9 : decode cX4_owedBy 9 = .ok (.if_icmp .ge 28, 3) := by decide +kernel
theorem dX4_owedBy_12 : decode cX4_owedBy 12 = .ok (.aload_n 0, 1) := by decide +kernel
theorem dX4_owedBy_13 : decode cX4_owedBy 13 = .ok (.getfield 9, 3) := by decide +kernel
theorem dX4_owedBy_16 : decode cX4_owedBy 16 = .ok (.iload_n 3, 1) := by decide +kernel
theorem dX4_owedBy_17 : decode cX4_owedBy 17 = .ok (.iaload, 1) := by decide +kernel
theorem dX4_owedBy_18 : decode cX4_owedBy 18 = .ok (.iload_n 1, 1) := by decide +kernel
theorem dX4_owedBy_19 : decode cX4_owedBy 19 = .ok (.if_icmp .ne 12, 3) := by decide +kernel
theorem dX4_owedBy_22 : decode cX4_owedBy 22 = .ok (.iload_n 2, 1) := by decide +kernel
theorem dX4_owedBy_23 : decode cX4_owedBy 23 = .ok (.aload_n 0, 1) := by decide +kernel
theorem dX4_owedBy_24 : decode cX4_owedBy 24 = .ok (.getfield 18, 3) := by decide +kernel
theorem dX4_owedBy_27 : decode cX4_owedBy 27 = .ok (.iload_n 3, 1) := by decide +kernel
theorem dX4_owedBy_28 : decode cX4_owedBy 28 = .ok (.iaload, 1) := by decide +kernel
theorem dX4_owedBy_29 : decode cX4_owedBy 29 = .ok (.iadd, 1) := by decide +kernel
theorem dX4_owedBy_30 : decode cX4_owedBy 30 = .ok (.istore_n 2, 1) := by decide +kernel
theorem dX4_owedBy_31 : decode cX4_owedBy 31 = .ok (.iinc 3 1, 3) := by decide +kernel
theorem dX4_owedBy_34 : decode cX4_owedBy 34 = .ok (.goto (-30), 3) := by decide +kernel
theorem dX4_owedBy_37 : decode cX4_owedBy 37 = .ok (.iload_n 2, 1) := by decide +kernel
theorem dX4_owedBy_38 : decode cX4_owedBy 38 = .ok (.ireturn, 1) := by decide +kernel
theorem dX4_owedTo_0 : decode cX4_owedTo 0 = .ok (.iconst 0, 1) := by decide +kernel
theorem dX4_owedTo_1 : decode cX4_owedTo 1 = .ok (.istore_n 2, 1) := by decide +kernel
theorem dX4_owedTo_2 : decode cX4_owedTo 2 = .ok (.iconst 0, 1) := by decide +kernel
theorem dX4_owedTo_3 : decode cX4_owedTo 3 = .ok (.istore_n 3, 1) := by decide +kernel
theorem dX4_owedTo_4 : decode cX4_owedTo 4 = .ok (.iload_n 3, 1) := by decide +kernel
theorem dX4_owedTo_5 : decode cX4_owedTo 5 = .ok (.aload_n 0, 1) := by decide +kernel
theorem dX4_owedTo_6 : decode cX4_owedTo 6 = .ok (.getfield 33, 3) := by decide +kernel
theorem dX4_owedTo_9 : decode cX4_owedTo 9 = .ok (.if_icmp .ge 28, 3) := by decide +kernel
theorem dX4_owedTo_12 : decode cX4_owedTo 12 = .ok (.aload_n 0, 1) := by decide +kernel
theorem dX4_owedTo_13 : decode cX4_owedTo 13 = .ok (.getfield 15, 3) := by decide +kernel
theorem dX4_owedTo_16 : decode cX4_owedTo 16 = .ok (.iload_n 3, 1) := by decide +kernel
theorem dX4_owedTo_17 : decode cX4_owedTo 17 = .ok (.iaload, 1) := by decide +kernel
theorem dX4_owedTo_18 : decode cX4_owedTo 18 = .ok (.iload_n 1, 1) := by decide +kernel
theorem dX4_owedTo_19 : decode cX4_owedTo 19 = .ok (.if_icmp .ne 12, 3) := by decide +kernel
theorem dX4_owedTo_22 : decode cX4_owedTo 22 = .ok (.iload_n 2, 1) := by decide +kernel
theorem dX4_owedTo_23 : decode cX4_owedTo 23 = .ok (.aload_n 0, 1) := by decide +kernel
theorem dX4_owedTo_24 : decode cX4_owedTo 24 = .ok (.getfield 18, 3) := by decide +kernel
theorem dX4_owedTo_27 : decode cX4_owedTo 27 = .ok (.iload_n 3, 1) := by decide +kernel
theorem dX4_owedTo_28 : decode cX4_owedTo 28 = .ok (.iaload, 1) := by decide +kernel
theorem dX4_owedTo_29 : decode cX4_owedTo 29 = .ok (.iadd, 1) := by decide +kernel
theorem dX4_owedTo_30 : decode cX4_owedTo 30 = .ok (.istore_n 2, 1) := by decide +kernel
theorem dX4_owedTo_31 : decode cX4_owedTo 31 = .ok (.iinc 3 1, 3) := by decide +kernel
theorem dX4_owedTo_34 : decode cX4_owedTo 34 = .ok (.goto (-30), 3) := by decide +kernel
theorem dX4_owedTo_37 : decode cX4_owedTo 37 = .ok (.iload_n 2, 1) := by decide +kernel
theorem dX4_owedTo_38 : decode cX4_owedTo 38 = .ok (.ireturn, 1) := by decide +kernel
theorem dX4_lessen_0 : decode cX4_lessen 0 = .ok (.aload_n 0, 1) := by decide +kernel
theorem dX4_lessen_1 : decode cX4_lessen 1 = .ok (.getfield 18, 3) := by decide +kernel
theorem dX4_lessen_4 : decode cX4_lessen 4 = .ok (.iload_n 1, 1) := by decide +kernel
theorem dX4_lessen_5 : decode cX4_lessen 5 = .ok (.dup2, 1) := by decide +kernel
theorem dX4_lessen_6 : decode cX4_lessen 6 = .ok (.iaload, 1) := by decide +kernel
theorem dX4_lessen_7 : decode cX4_lessen 7 = .ok (.iload_n 2, 1) := by decide +kernel
theorem dX4_lessen_8 : decode cX4_lessen 8 = .ok (.isub, 1) := by decide +kernel
theorem dX4_lessen_9 : decode cX4_lessen 9 = .ok (.iastore, 1) := by decide +kernel
theorem dX4_lessen_10 : decode cX4_lessen 10 = .ok (.aload_n 0, 1) := by decide +kernel
theorem dX4_lessen_11 : decode cX4_lessen 11 = .ok (.getfield 18, 3) := by decide +kernel
theorem dX4_lessen_14 : decode cX4_lessen 14 = .ok (.iload_n 1, 1) := by decide +kernel
theorem dX4_lessen_15 : decode cX4_lessen 15 = .ok (.iaload, 1) := by decide +kernel
theorem dX4_lessen_16 : decode cX4_lessen 16 = .ok (.ifCond .ne 10, 3) := by decide +kernel
theorem dX4_lessen_19 : decode cX4_lessen 19 = .ok (.aload_n 0, 1) := by decide +kernel
theorem dX4_lessen_20 : decode cX4_lessen 20 = .ok (.getfield 24, 3) := by decide +kernel
theorem dX4_lessen_23 : decode cX4_lessen 23 = .ok (.iload_n 1, 1) := by decide +kernel
theorem dX4_lessen_24 : decode cX4_lessen 24 = .ok (.iconst 0, 1) := by decide +kernel
theorem dX4_lessen_25 : decode cX4_lessen 25 = .ok (.iastore, 1) := by decide +kernel
theorem dX4_lessen_26 : decode cX4_lessen 26 = .ok (.return_, 1) := by decide +kernel
theorem dX4_workOff_0 : decode cX4_workOff 0 = .ok (.iload_n 2, 1) := by decide +kernel
theorem dX4_workOff_1 : decode cX4_workOff 1 = .ok (.ifCond .eq 12, 3) := by decide +kernel
theorem dX4_workOff_4 : decode cX4_workOff 4 = .ok (.aload_n 0, 1) := by decide +kernel
theorem dX4_workOff_5 : decode cX4_workOff 5 = .ok (.iload_n 1, 1) := by decide +kernel
theorem dX4_workOff_6 : decode cX4_workOff 6 = .ok (.iconst 1, 1) := by decide +kernel
theorem dX4_workOff_7 : decode cX4_workOff 7 = .ok (.invokevirtual 45, 3) := by decide +kernel
theorem dX4_workOff_10 : decode cX4_workOff 10 = .ok (.goto 35, 3) := by decide +kernel
theorem dX4_workOff_13 : decode cX4_workOff 13 = .ok (.aload_n 0, 1) := by decide +kernel
theorem dX4_workOff_14 : decode cX4_workOff 14 = .ok (.getfield 24, 3) := by decide +kernel
theorem dX4_workOff_17 : decode cX4_workOff 17 = .ok (.iload_n 1, 1) := by decide +kernel
theorem dX4_workOff_18 : decode cX4_workOff 18 = .ok (.iaload, 1) := by decide +kernel
theorem dX4_workOff_19 : decode cX4_workOff 19 = .ok (.ifCond .ne 13, 3) := by decide +kernel
theorem dX4_workOff_22 : decode cX4_workOff 22 = .ok (.aload_n 0, 1) := by decide +kernel
theorem dX4_workOff_23 : decode cX4_workOff 23 = .ok (.getfield 24, 3) := by decide +kernel
theorem dX4_workOff_26 : decode cX4_workOff 26 = .ok (.iload_n 1, 1) := by decide +kernel
theorem dX4_workOff_27 : decode cX4_workOff 27 = .ok (.iconst 1, 1) := by decide +kernel
theorem dX4_workOff_28 : decode cX4_workOff 28 = .ok (.iastore, 1) := by decide +kernel
theorem dX4_workOff_29 : decode cX4_workOff 29 = .ok (.goto 16, 3) := by decide +kernel
theorem dX4_workOff_32 : decode cX4_workOff 32 = .ok (.aload_n 0, 1) := by decide +kernel
theorem dX4_workOff_33 : decode cX4_workOff 33 = .ok (.getfield 24, 3) := by decide +kernel
theorem dX4_workOff_36 : decode cX4_workOff 36 = .ok (.iload_n 1, 1) := by decide +kernel
theorem dX4_workOff_37 : decode cX4_workOff 37 = .ok (.iconst 0, 1) := by decide +kernel
theorem dX4_workOff_38 : decode cX4_workOff 38 = .ok (.iastore, 1) := by decide +kernel
theorem dX4_workOff_39 : decode cX4_workOff 39 = .ok (.aload_n 0, 1) := by decide +kernel
theorem dX4_workOff_40 : decode cX4_workOff 40 = .ok (.iload_n 1, 1) := by decide +kernel
theorem dX4_workOff_41 : decode cX4_workOff 41 = .ok (.iconst 1, 1) := by decide +kernel
theorem dX4_workOff_42 : decode cX4_workOff 42 = .ok (.invokevirtual 45, 3) := by decide +kernel
theorem dX4_workOff_45 : decode cX4_workOff 45 = .ok (.return_, 1) := by decide +kernel
theorem dX4_handOn_0 : decode cX4_handOn 0 = .ok (.aload_n 0, 1) := by decide +kernel
theorem dX4_handOn_1 : decode cX4_handOn 1 = .ok (.iload_n 1, 1) := by decide +kernel
theorem dX4_handOn_2 : decode cX4_handOn 2 = .ok (.invokevirtual 49, 3) := by decide +kernel
theorem dX4_handOn_5 : decode cX4_handOn 5 = .ok (.ifCond .eq 45, 3) := by decide +kernel
theorem dX4_handOn_8 : decode cX4_handOn 8 = .ok (.aload_n 0, 1) := by decide +kernel
theorem dX4_handOn_9 : decode cX4_handOn 9 = .ok (.iload_n 2, 1) := by decide +kernel
theorem dX4_handOn_10 : decode cX4_handOn 10 = .ok (.invokevirtual 49, 3) := by decide +kernel
theorem dX4_handOn_13 : decode cX4_handOn 13 = .ok (.ifCond .eq 37, 3) := by decide +kernel
theorem dX4_handOn_16 : decode cX4_handOn 16 = .ok (.aload_n 0, 1) := by decide +kernel
theorem dX4_handOn_17 : decode cX4_handOn 17 = .ok (.getfield 15, 3) := by decide +kernel
theorem dX4_handOn_20 : decode cX4_handOn 20 = .ok (.iload_n 1, 1) := by decide +kernel
theorem dX4_handOn_21 : decode cX4_handOn 21 = .ok (.iaload, 1) := by decide +kernel
theorem dX4_handOn_22 : decode cX4_handOn 22 = .ok (.aload_n 0, 1) := by decide +kernel
theorem dX4_handOn_23 : decode cX4_handOn 23 = .ok (.getfield 9, 3) := by decide +kernel
theorem dX4_handOn_26 : decode cX4_handOn 26 = .ok (.iload_n 2, 1) := by decide +kernel
theorem dX4_handOn_27 : decode cX4_handOn 27 = .ok (.iaload, 1) := by decide +kernel
theorem dX4_handOn_28 : decode cX4_handOn 28 = .ok (.if_icmp .ne 22, 3) := by decide +kernel
theorem dX4_handOn_31 : decode cX4_handOn 31 = .ok (.aload_n 0, 1) := by decide +kernel
theorem dX4_handOn_32 : decode cX4_handOn 32 = .ok (.getfield 9, 3) := by decide +kernel
theorem dX4_handOn_35 : decode cX4_handOn 35 = .ok (.iload_n 1, 1) := by decide +kernel
theorem dX4_handOn_36 : decode cX4_handOn 36 = .ok (.iaload, 1) := by decide +kernel
theorem dX4_handOn_37 : decode cX4_handOn 37 = .ok (.aload_n 0, 1) := by decide +kernel
theorem dX4_handOn_38 : decode cX4_handOn 38 = .ok (.getfield 15, 3) := by decide +kernel
theorem dX4_handOn_41 : decode cX4_handOn 41 = .ok (.iload_n 2, 1) := by decide +kernel
theorem dX4_handOn_42 : decode cX4_handOn 42 = .ok (.iaload, 1) := by decide +kernel
theorem dX4_handOn_43 : decode cX4_handOn 43 = .ok (.if_icmp .eq 7, 3) := by decide +kernel
theorem dX4_handOn_46 : decode cX4_handOn 46 = .ok (.iconst 1, 1) := by decide +kernel
theorem dX4_handOn_47 : decode cX4_handOn 47 = .ok (.goto 4, 3) := by decide +kernel
theorem dX4_handOn_50 : decode cX4_handOn 50 = .ok (.iconst 0, 1) := by decide +kernel
theorem dX4_handOn_51 : decode cX4_handOn 51 = .ok (.istore_n 3, 1) := by decide +kernel
theorem dX4_handOn_52 : decode cX4_handOn 52 = .ok (.iload_n 3, 1) := by decide +kernel
theorem dX4_handOn_53 : decode cX4_handOn 53 = .ok (.ifCond .eq 48, 3) := by decide +kernel
theorem dX4_handOn_56 : decode cX4_handOn 56 = .ok (.aload_n 0, 1) := by decide +kernel
theorem dX4_handOn_57 : decode cX4_handOn 57 = .ok (.getfield 21, 3) := by decide +kernel
theorem dX4_handOn_60 : decode cX4_handOn 60 = .ok (.iload_n 1, 1) := by decide +kernel
theorem dX4_handOn_61 : decode cX4_handOn 61 = .ok (.iaload, 1) := by decide +kernel
theorem dX4_handOn_62 : decode cX4_handOn 62 = .ok (.aload_n 0, 1) := by decide +kernel
theorem dX4_handOn_63 : decode cX4_handOn 63 = .ok (.getfield 21, 3) := by decide +kernel
theorem dX4_handOn_66 : decode cX4_handOn 66 = .ok (.iload_n 2, 1) := by decide +kernel
theorem dX4_handOn_67 : decode cX4_handOn 67 = .ok (.iaload, 1) := by decide +kernel
theorem dX4_handOn_68 : decode cX4_handOn 68 = .ok (.if_icmp .ne 33, 3) := by decide +kernel
theorem dX4_handOn_71 : decode cX4_handOn 71 = .ok (.aload_n 0, 1) := by decide +kernel
theorem dX4_handOn_72 : decode cX4_handOn 72 = .ok (.getfield 18, 3) := by decide +kernel
theorem dX4_handOn_75 : decode cX4_handOn 75 = .ok (.iload_n 1, 1) := by decide +kernel
theorem dX4_handOn_76 : decode cX4_handOn 76 = .ok (.iaload, 1) := by decide +kernel
theorem dX4_handOn_77 : decode cX4_handOn 77 = .ok (.aload_n 0, 1) := by decide +kernel
theorem dX4_handOn_78 : decode cX4_handOn 78 = .ok (.getfield 18, 3) := by decide +kernel
theorem dX4_handOn_81 : decode cX4_handOn 81 = .ok (.iload_n 2, 1) := by decide +kernel
theorem dX4_handOn_82 : decode cX4_handOn 82 = .ok (.iaload, 1) := by decide +kernel
theorem dX4_handOn_83 : decode cX4_handOn 83 = .ok (.if_icmp .ne 18, 3) := by decide +kernel
theorem dX4_handOn_86 : decode cX4_handOn 86 = .ok (.aload_n 0, 1) := by decide +kernel
theorem dX4_handOn_87 : decode cX4_handOn 87 = .ok (.getfield 24, 3) := by decide +kernel
theorem dX4_handOn_90 : decode cX4_handOn 90 = .ok (.iload_n 1, 1) := by decide +kernel
theorem dX4_handOn_91 : decode cX4_handOn 91 = .ok (.iaload, 1) := by decide +kernel
theorem dX4_handOn_92 : decode cX4_handOn 92 = .ok (.aload_n 0, 1) := by decide +kernel
theorem dX4_handOn_93 : decode cX4_handOn 93 = .ok (.getfield 24, 3) := by decide +kernel
theorem dX4_handOn_96 : decode cX4_handOn 96 = .ok (.iload_n 2, 1) := by decide +kernel
theorem dX4_handOn_97 : decode cX4_handOn 97 = .ok (.iaload, 1) := by decide +kernel
theorem dX4_handOn_98 : decode cX4_handOn 98 = .ok (.if_icmp .eq 5, 3) := by decide +kernel
theorem dX4_handOn_101 : decode cX4_handOn 101 = .ok (.iconst 0, 1) := by decide +kernel
theorem dX4_handOn_102 : decode cX4_handOn 102 = .ok (.ireturn, 1) := by decide +kernel
theorem dX4_handOn_103 : decode cX4_handOn 103 = .ok (.aload_n 0, 1) := by decide +kernel
theorem dX4_handOn_104 : decode cX4_handOn 104 = .ok (.getfield 15, 3) := by decide +kernel
theorem dX4_handOn_107 : decode cX4_handOn 107 = .ok (.iload_n 1, 1) := by decide +kernel
theorem dX4_handOn_108 : decode cX4_handOn 108 = .ok (.aload_n 0, 1) := by decide +kernel
theorem dX4_handOn_109 : decode cX4_handOn 109 = .ok (.getfield 15, 3) := by decide +kernel
theorem dX4_handOn_112 : decode cX4_handOn 112 = .ok (.iload_n 2, 1) := by decide +kernel
theorem dX4_handOn_113 : decode cX4_handOn 113 = .ok (.iaload, 1) := by decide +kernel
theorem dX4_handOn_114 : decode cX4_handOn 114 = .ok (.iastore, 1) := by decide +kernel
theorem dX4_handOn_115 : decode cX4_handOn 115 = .ok (.aload_n 0, 1) := by decide +kernel
theorem dX4_handOn_116 : decode cX4_handOn 116 = .ok (.iload_n 2, 1) := by decide +kernel
theorem dX4_handOn_117 : decode cX4_handOn 117 = .ok (.aload_n 0, 1) := by decide +kernel
theorem dX4_handOn_118 : decode cX4_handOn 118 = .ok (.getfield 18, 3) := by decide +kernel
theorem dX4_handOn_121 : decode cX4_handOn 121 = .ok (.iload_n 2, 1) := by decide +kernel
theorem dX4_handOn_122 : decode cX4_handOn 122 = .ok (.iaload, 1) := by decide +kernel
theorem dX4_handOn_123 : decode cX4_handOn 123 = .ok (.invokevirtual 45, 3) := by decide +kernel
theorem dX4_handOn_126 : decode cX4_handOn 126 = .ok (.iconst 1, 1) := by decide +kernel
theorem dX4_handOn_127 : decode cX4_handOn 127 = .ok (.ireturn, 1) := by decide +kernel
theorem dX4_strikeOut_0 : decode cX4_strikeOut 0 = .ok (.iconst 0, 1) := by decide +kernel
theorem dX4_strikeOut_1 : decode cX4_strikeOut 1 = .ok (.istore_n 2, 1) := by decide +kernel
theorem dX4_strikeOut_2 : decode cX4_strikeOut 2 = .ok (.iconst 0, 1) := by decide +kernel
theorem dX4_strikeOut_3 : decode cX4_strikeOut 3 = .ok (.istore_n 3, 1) := by decide +kernel
theorem dX4_strikeOut_4 : decode cX4_strikeOut 4 = .ok (.iload_n 3, 1) := by decide +kernel
theorem dX4_strikeOut_5 : decode cX4_strikeOut 5 = .ok (.aload_n 0, 1) := by decide +kernel
theorem dX4_strikeOut_6 : decode cX4_strikeOut 6 = .ok (.getfield 33, 3) := by decide +kernel
theorem dX4_strikeOut_9 : decode cX4_strikeOut 9 = .ok (.if_icmp .ge 38, 3) := by decide +kernel
theorem dX4_strikeOut_12 : decode cX4_strikeOut 12 = .ok (.iload_n 1, 1) := by decide +kernel
theorem dX4_strikeOut_13 : decode cX4_strikeOut 13 = .ok (.iload_n 3, 1) := by decide +kernel
theorem dX4_strikeOut_14 : decode cX4_strikeOut 14 = .ok (.ishr, 1) := by decide +kernel
theorem dX4_strikeOut_15 : decode cX4_strikeOut 15 = .ok (.iconst 1, 1) := by decide +kernel
theorem dX4_strikeOut_16 : decode cX4_strikeOut 16 = .ok (.iand, 1) := by decide +kernel
theorem dX4_strikeOut_17 : decode cX4_strikeOut 17 = .ok (.ifCond .eq 24, 3) := by decide +kernel
theorem dX4_strikeOut_20 : decode cX4_strikeOut 20 = .ok (.iload_n 2, 1) := by decide +kernel
theorem dX4_strikeOut_21 : decode cX4_strikeOut 21 = .ok (.ifCond .eq 13, 3) := by decide +kernel
theorem dX4_strikeOut_24 : decode cX4_strikeOut 24 = .ok (.aload_n 0, 1) := by decide +kernel
theorem dX4_strikeOut_25 : decode cX4_strikeOut 25 = .ok (.getfield 18, 3) := by decide +kernel
theorem dX4_strikeOut_28 : decode cX4_strikeOut 28 = .ok (.iload_n 3, 1) := by decide +kernel
theorem dX4_strikeOut_29 : decode cX4_strikeOut 29 = .ok (.iaload, 1) := by decide +kernel
theorem dX4_strikeOut_30 : decode cX4_strikeOut 30 = .ok (.iload_n 2, 1) := by decide +kernel
theorem dX4_strikeOut_31 : decode cX4_strikeOut 31 = .ok (.if_icmp .ge 10, 3) := by decide +kernel
theorem dX4_strikeOut_34 : decode cX4_strikeOut 34 = .ok (.aload_n 0, 1) := by decide +kernel
theorem dX4_strikeOut_35 : decode cX4_strikeOut 35 = .ok (.getfield 18, 3) := by decide +kernel
theorem dX4_strikeOut_38 : decode cX4_strikeOut 38 = .ok (.iload_n 3, 1) := by decide +kernel
theorem dX4_strikeOut_39 : decode cX4_strikeOut 39 = .ok (.iaload, 1) := by decide +kernel
theorem dX4_strikeOut_40 : decode cX4_strikeOut 40 = .ok (.istore_n 2, 1) := by decide +kernel
theorem dX4_strikeOut_41 : decode cX4_strikeOut 41 = .ok (.iinc 3 1, 3) := by decide +kernel
theorem dX4_strikeOut_44 : decode cX4_strikeOut 44 = .ok (.goto (-40), 3) := by decide +kernel
theorem dX4_strikeOut_47 : decode cX4_strikeOut 47 = .ok (.iconst 0, 1) := by decide +kernel
theorem dX4_strikeOut_48 : decode cX4_strikeOut 48 = .ok (.istore_n 3, 1) := by decide +kernel
theorem dX4_strikeOut_49 : decode cX4_strikeOut 49 = .ok (.iload_n 3, 1) := by decide +kernel
theorem dX4_strikeOut_50 : decode cX4_strikeOut 50 = .ok (.aload_n 0, 1) := by decide +kernel
theorem dX4_strikeOut_51 : decode cX4_strikeOut 51 = .ok (.getfield 33, 3) := by decide +kernel
theorem dX4_strikeOut_54 : decode cX4_strikeOut 54 = .ok (.if_icmp .ge 23, 3) := by decide +kernel
theorem dX4_strikeOut_57 : decode cX4_strikeOut 57 = .ok (.iload_n 1, 1) := by decide +kernel
theorem dX4_strikeOut_58 : decode cX4_strikeOut 58 = .ok (.iload_n 3, 1) := by decide +kernel
theorem dX4_strikeOut_59 : decode cX4_strikeOut 59 = .ok (.ishr, 1) := by decide +kernel
theorem dX4_strikeOut_60 : decode cX4_strikeOut 60 = .ok (.iconst 1, 1) := by decide +kernel
theorem dX4_strikeOut_61 : decode cX4_strikeOut 61 = .ok (.iand, 1) := by decide +kernel
theorem dX4_strikeOut_62 : decode cX4_strikeOut 62 = .ok (.ifCond .eq 9, 3) := by decide +kernel
theorem dX4_strikeOut_65 : decode cX4_strikeOut 65 = .ok (.aload_n 0, 1) := by decide +kernel
theorem dX4_strikeOut_66 : decode cX4_strikeOut 66 = .ok (.iload_n 3, 1) := by decide +kernel
theorem dX4_strikeOut_67 : decode cX4_strikeOut 67 = .ok (.iload_n 2, 1) := by decide +kernel
theorem dX4_strikeOut_68 : decode cX4_strikeOut 68 = .ok (.invokevirtual 45, 3) := by decide +kernel
theorem dX4_strikeOut_71 : decode cX4_strikeOut 71 = .ok (.iinc 3 1, 3) := by decide +kernel
theorem dX4_strikeOut_74 : decode cX4_strikeOut 74 = .ok (.goto (-25), 3) := by decide +kernel
theorem dX4_strikeOut_77 : decode cX4_strikeOut 77 = .ok (.iload_n 2, 1) := by decide +kernel
theorem dX4_strikeOut_78 : decode cX4_strikeOut 78 = .ok (.ireturn, 1) := by decide +kernel
theorem dX4_dropAllBy_0 : decode cX4_dropAllBy 0 = .ok (.aload_n 0, 1) := by decide +kernel
theorem dX4_dropAllBy_1 : decode cX4_dropAllBy 1 = .ok (.iload_n 1, 1) := by decide +kernel
theorem dX4_dropAllBy_2 : decode cX4_dropAllBy 2 = .ok (.invokevirtual 52, 3) := by decide +kernel
theorem dX4_dropAllBy_5 : decode cX4_dropAllBy 5 = .ok (.istore_n 2, 1) := by decide +kernel
theorem dX4_dropAllBy_6 : decode cX4_dropAllBy 6 = .ok (.iconst 0, 1) := by decide +kernel
theorem dX4_dropAllBy_7 : decode cX4_dropAllBy 7 = .ok (.istore_n 3, 1) := by decide +kernel
theorem dX4_dropAllBy_8 : decode cX4_dropAllBy 8 = .ok (.iload_n 3, 1) := by decide +kernel
theorem dX4_dropAllBy_9 : decode cX4_dropAllBy 9 = .ok (.aload_n 0, 1) := by decide +kernel
theorem dX4_dropAllBy_10 : decode cX4_dropAllBy 10 = .ok (.getfield 33, 3) := by decide +kernel
theorem dX4_dropAllBy_13 : decode cX4_dropAllBy 13 = .ok (.if_icmp .ge 30, 3) := by decide +kernel
theorem dX4_dropAllBy_16 : decode cX4_dropAllBy 16 = .ok (.aload_n 0, 1) := by decide +kernel
theorem dX4_dropAllBy_17 : decode cX4_dropAllBy 17 = .ok (.getfield 9, 3) := by decide +kernel
theorem dX4_dropAllBy_20 : decode cX4_dropAllBy 20 = .ok (.iload_n 3, 1) := by decide +kernel
theorem dX4_dropAllBy_21 : decode cX4_dropAllBy 21 = .ok (.iaload, 1) := by decide +kernel
theorem dX4_dropAllBy_22 : decode cX4_dropAllBy 22 = .ok (.iload_n 1, 1) := by decide +kernel
theorem dX4_dropAllBy_23 : decode cX4_dropAllBy 23 = .ok (.if_icmp .ne 14, 3) := by decide +kernel
theorem dX4_dropAllBy_26 : decode cX4_dropAllBy 26 = .ok (.aload_n 0, 1) := by decide +kernel
theorem dX4_dropAllBy_27 : decode cX4_dropAllBy 27 = .ok (.iload_n 3, 1) := by decide +kernel
theorem dX4_dropAllBy_28 : decode cX4_dropAllBy 28 = .ok (.aload_n 0, 1) := by decide +kernel
theorem dX4_dropAllBy_29 : decode cX4_dropAllBy 29 = .ok (.getfield 18, 3) := by decide +kernel
theorem dX4_dropAllBy_32 : decode cX4_dropAllBy 32 = .ok (.iload_n 3, 1) := by decide +kernel
theorem dX4_dropAllBy_33 : decode cX4_dropAllBy 33 = .ok (.iaload, 1) := by decide +kernel
theorem dX4_dropAllBy_34 : decode cX4_dropAllBy 34 = .ok (.invokevirtual 45, 3) := by decide +kernel
theorem dX4_dropAllBy_37 : decode cX4_dropAllBy 37 = .ok (.iinc 3 1, 3) := by decide +kernel
theorem dX4_dropAllBy_40 : decode cX4_dropAllBy 40 = .ok (.goto (-32), 3) := by decide +kernel
theorem dX4_dropAllBy_43 : decode cX4_dropAllBy 43 = .ok (.iload_n 2, 1) := by decide +kernel
theorem dX4_dropAllBy_44 : decode cX4_dropAllBy 44 = .ok (.ireturn, 1) := by decide +kernel
theorem dX4_inherit_0 : decode cX4_inherit 0 = .ok (.iconst 0, 1) := by decide +kernel
theorem dX4_inherit_1 : decode cX4_inherit 1 = .ok (.istore_n 3, 1) := by decide +kernel
theorem dX4_inherit_2 : decode cX4_inherit 2 = .ok (.iconst 0, 1) := by decide +kernel
theorem dX4_inherit_3 : decode cX4_inherit 3 = .ok (.istore 4, 2) := by decide +kernel
theorem dX4_inherit_5 : decode cX4_inherit 5 = .ok (.iload 4, 2) := by decide +kernel
theorem dX4_inherit_7 : decode cX4_inherit 7 = .ok (.aload_n 0, 1) := by decide +kernel
theorem dX4_inherit_8 : decode cX4_inherit 8 = .ok (.getfield 33, 3) := by decide +kernel
theorem dX4_inherit_11 : decode cX4_inherit 11 = .ok (.if_icmp .ge 155, 3) := by decide +kernel
theorem dX4_inherit_14 : decode cX4_inherit 14 = .ok (.aload_n 0, 1) := by decide +kernel
theorem dX4_inherit_15 : decode cX4_inherit 15 = .ok (.getfield 9, 3) := by decide +kernel
theorem dX4_inherit_18 : decode cX4_inherit 18 = .ok (.iload 4, 2) := by decide +kernel
theorem dX4_inherit_20 : decode cX4_inherit 20 = .ok (.iaload, 1) := by decide +kernel
theorem dX4_inherit_21 : decode cX4_inherit 21 = .ok (.iload_n 1, 1) := by decide +kernel
theorem dX4_inherit_22 : decode cX4_inherit 22 = .ok (.if_icmp .ne 7, 3) := by decide +kernel
theorem dX4_inherit_25 : decode cX4_inherit 25 = .ok (.iconst 1, 1) := by decide +kernel
theorem dX4_inherit_26 : decode cX4_inherit 26 = .ok (.goto 4, 3) := by decide +kernel
theorem dX4_inherit_29 : decode cX4_inherit 29 = .ok (.iconst 0, 1) := by decide +kernel
theorem dX4_inherit_30 : decode cX4_inherit 30 = .ok (.istore 5, 2) := by decide +kernel
theorem dX4_inherit_32 : decode cX4_inherit 32 = .ok (.aload_n 0, 1) := by decide +kernel
theorem dX4_inherit_33 : decode cX4_inherit 33 = .ok (.getfield 15, 3) := by decide +kernel
theorem dX4_inherit_36 : decode cX4_inherit 36 = .ok (.iload 4, 2) := by decide +kernel
theorem dX4_inherit_38 : decode cX4_inherit 38 = .ok (.iaload, 1) := by decide +kernel
theorem dX4_inherit_39 : decode cX4_inherit 39 = .ok (.iload_n 1, 1) := by decide +kernel
theorem dX4_inherit_40 : decode cX4_inherit 40 = .ok (.if_icmp .ne 7, 3) := by decide +kernel
theorem dX4_inherit_43 : decode cX4_inherit 43 = .ok (.iconst 1, 1) := by decide +kernel
theorem dX4_inherit_44 : decode cX4_inherit 44 = .ok (.goto 4, 3) := by decide +kernel
theorem dX4_inherit_47 : decode cX4_inherit 47 = .ok (.iconst 0, 1) := by decide +kernel
theorem dX4_inherit_48 : decode cX4_inherit 48 = .ok (.istore 6, 2) := by decide +kernel
theorem dX4_inherit_50 : decode cX4_inherit 50 = .ok (.aload_n 0, 1) := by decide +kernel
theorem dX4_inherit_51 : decode cX4_inherit 51 = .ok (.iload 4, 2) := by decide +kernel
theorem dX4_inherit_53 : decode cX4_inherit 53 = .ok (.invokevirtual 49, 3) := by decide +kernel
theorem dX4_inherit_56 : decode cX4_inherit 56 = .ok (.ifCond .eq 104, 3) := by decide +kernel
theorem dX4_inherit_59 : decode cX4_inherit 59 = .ok (.iload 5, 2) := by decide +kernel
theorem dX4_inherit_61 : decode cX4_inherit 61 = .ok (.ifCond .ne 8, 3) := by decide +kernel
theorem dX4_inherit_64 : decode cX4_inherit 64 = .ok (.iload 6, 2) := by decide +kernel
theorem dX4_inherit_66 : decode cX4_inherit 66 = .ok (.ifCond .eq 94, 3) := by decide +kernel
theorem dX4_inherit_69 : decode cX4_inherit 69 = .ok (.iload 5, 2) := by decide +kernel
theorem dX4_inherit_71 : decode cX4_inherit 71 = .ok (.ifCond .eq 13, 3) := by decide +kernel
theorem dX4_inherit_74 : decode cX4_inherit 74 = .ok (.aload_n 0, 1) := by decide +kernel
theorem dX4_inherit_75 : decode cX4_inherit 75 = .ok (.getfield 15, 3) := by decide +kernel
theorem dX4_inherit_78 : decode cX4_inherit 78 = .ok (.iload 4, 2) := by decide +kernel
theorem dX4_inherit_80 : decode cX4_inherit 80 = .ok (.iaload, 1) := by decide +kernel
theorem dX4_inherit_81 : decode cX4_inherit 81 = .ok (.goto 10, 3) := by decide +kernel
theorem dX4_inherit_84 : decode cX4_inherit 84 = .ok (.aload_n 0, 1) := by decide +kernel
theorem dX4_inherit_85 : decode cX4_inherit 85 = .ok (.getfield 9, 3) := by decide +kernel
theorem dX4_inherit_88 : decode cX4_inherit 88 = .ok (.iload 4, 2) := by decide +kernel
theorem dX4_inherit_90 : decode cX4_inherit 90 = .ok (.iaload, 1) := by decide +kernel
theorem dX4_inherit_91 : decode cX4_inherit 91 = .ok (.iload_n 2, 1) := by decide +kernel
theorem dX4_inherit_92 : decode cX4_inherit 92 = .ok (.if_icmp .ne 19, 3) := by decide +kernel
theorem dX4_inherit_95 : decode cX4_inherit 95 = .ok (.aload_n 0, 1) := by decide +kernel
theorem dX4_inherit_96 : decode cX4_inherit 96 = .ok (.iload 4, 2) := by decide +kernel
theorem dX4_inherit_98 : decode cX4_inherit 98 = .ok (.aload_n 0, 1) := by decide +kernel
theorem dX4_inherit_99 : decode cX4_inherit 99 = .ok (.getfield 18, 3) := by decide +kernel
theorem dX4_inherit_102 : decode cX4_inherit 102 = .ok (.iload 4, 2) := by decide +kernel
theorem dX4_inherit_104 : decode cX4_inherit 104 = .ok (.iaload, 1) := by decide +kernel
theorem dX4_inherit_105 : decode cX4_inherit 105 = .ok (.invokevirtual 45, 3) := by decide +kernel
theorem dX4_inherit_108 : decode cX4_inherit 108 = .ok (.goto 52, 3) := by decide +kernel
theorem dX4_inherit_111 : decode cX4_inherit 111 = .ok (.aload_n 0, 1) := by decide +kernel
theorem dX4_inherit_112 : decode cX4_inherit 112 = .ok (.getfield 9, 3) := by decide +kernel
theorem dX4_inherit_115 : decode cX4_inherit 115 = .ok (.iload 4, 2) := by decide +kernel
theorem dX4_inherit_117 : decode cX4_inherit 117 = .ok (.iload 5, 2) := by decide +kernel
theorem dX4_inherit_119 : decode cX4_inherit 119 = .ok (.ifCond .eq 7, 3) := by decide +kernel
theorem dX4_inherit_122 : decode cX4_inherit 122 = .ok (.iload_n 2, 1) := by decide +kernel
theorem dX4_inherit_123 : decode cX4_inherit 123 = .ok (.goto 10, 3) := by decide +kernel
theorem dX4_inherit_126 : decode cX4_inherit 126 = .ok (.aload_n 0, 1) := by decide +kernel
theorem dX4_inherit_127 : decode cX4_inherit 127 = .ok (.getfield 9, 3) := by decide +kernel
theorem dX4_inherit_130 : decode cX4_inherit 130 = .ok (.iload 4, 2) := by decide +kernel
theorem dX4_inherit_132 : decode cX4_inherit 132 = .ok (.iaload, 1) := by decide +kernel
theorem dX4_inherit_133 : decode cX4_inherit 133 = .ok (.iastore, 1) := by decide +kernel
theorem dX4_inherit_134 : decode cX4_inherit 134 = .ok (.aload_n 0, 1) := by decide +kernel
theorem dX4_inherit_135 : decode cX4_inherit 135 = .ok (.getfield 15, 3) := by decide +kernel
theorem dX4_inherit_138 : decode cX4_inherit 138 = .ok (.iload 4, 2) := by decide +kernel
theorem dX4_inherit_140 : decode cX4_inherit 140 = .ok (.iload 6, 2) := by decide +kernel
theorem dX4_inherit_142 : decode cX4_inherit 142 = .ok (.ifCond .eq 7, 3) := by decide +kernel
theorem dX4_inherit_145 : decode cX4_inherit 145 = .ok (.iload_n 2, 1) := by decide +kernel
theorem dX4_inherit_146 : decode cX4_inherit 146 = .ok (.goto 10, 3) := by decide +kernel
theorem dX4_inherit_149 : decode cX4_inherit 149 = .ok (.aload_n 0, 1) := by decide +kernel
theorem dX4_inherit_150 : decode cX4_inherit 150 = .ok (.getfield 15, 3) := by decide +kernel
theorem dX4_inherit_153 : decode cX4_inherit 153 = .ok (.iload 4, 2) := by decide +kernel
theorem dX4_inherit_155 : decode cX4_inherit 155 = .ok (.iaload, 1) := by decide +kernel
theorem dX4_inherit_156 : decode cX4_inherit 156 = .ok (.iastore, 1) := by decide +kernel
theorem dX4_inherit_157 : decode cX4_inherit 157 = .ok (.iinc 3 1, 3) := by decide +kernel
theorem dX4_inherit_160 : decode cX4_inherit 160 = .ok (.iinc 4 1, 3) := by decide +kernel
theorem dX4_inherit_163 : decode cX4_inherit 163 = .ok (.goto (-158), 3) := by decide +kernel
theorem dX4_inherit_166 : decode cX4_inherit 166 = .ok (.iload_n 3, 1) := by decide +kernel
theorem dX4_inherit_167 : decode cX4_inherit 167 = .ok (.ireturn, 1) := by decide +kernel
theorem dX5_least_0 : decode cX5_least 0 = .ok (.iconst 0, 1) := by decide +kernel
theorem dX5_least_1 : decode cX5_least 1 = .ok (.istore_n 1, 1) := by decide +kernel
theorem dX5_least_2 : decode cX5_least 2 = .ok (.iconst 2, 1) := by decide +kernel
theorem dX5_least_3 : decode cX5_least 3 = .ok (.istore_n 2, 1) := by decide +kernel
theorem dX5_least_4 : decode cX5_least 4 = .ok (.iload_n 2, 1) := by decide +kernel
theorem dX5_least_5 : decode cX5_least 5 = .ok (.iconst 5, 1) := by decide +kernel
theorem dX5_least_6 : decode cX5_least 6 = .ok (.if_icmp .gt 62, 3) := by decide +kernel
theorem dX5_least_9 : decode cX5_least 9 = .ok (.iload_n 1, 1) := by decide +kernel
theorem dX5_least_10 : decode cX5_least 10 = .ok (.ifCond .ne 58, 3) := by decide +kernel
theorem dX5_least_13 : decode cX5_least 13 = .ok (.iconst 0, 1) := by decide +kernel
theorem dX5_least_14 : decode cX5_least 14 = .ok (.istore_n 3, 1) := by decide +kernel
theorem dX5_least_15 : decode cX5_least 15 = .ok (.iload_n 3, 1) := by decide +kernel
theorem dX5_least_16 : decode cX5_least 16 = .ok (.aload_n 0, 1) := by decide +kernel
theorem dX5_least_17 : decode cX5_least 17 = .ok (.getfield 9, 3) := by decide +kernel
theorem dX5_least_20 : decode cX5_least 20 = .ok (.if_icmp .ge 42, 3) := by decide +kernel
theorem dX5_least_23 : decode cX5_least 23 = .ok (.aload_n 0, 1) := by decide +kernel
theorem dX5_least_24 : decode cX5_least 24 = .ok (.iload_n 3, 1) := by decide +kernel
theorem dX5_least_25 : decode cX5_least 25 = .ok (.invokevirtual 15, 3) := by decide +kernel
theorem dX5_least_28 : decode cX5_least 28 = .ok (.ifCond .eq 28, 3) := by decide +kernel
theorem dX5_least_31 : decode cX5_least 31 = .ok (.iload_n 1, 1) := by decide +kernel
theorem dX5_least_32 : decode cX5_least 32 = .ok (.aload_n 0, 1) := by decide +kernel
theorem dX5_least_33 : decode cX5_least 33 = .ok (.iload_n 3, 1) := by decide +kernel
theorem dX5_least_34 : decode cX5_least 34 = .ok (.iload_n 3, 1) := by decide +kernel
theorem dX5_least_35 : decode cX5_least 35 = .ok (.iconst 1, 1) := by decide +kernel
theorem dX5_least_36 : decode cX5_least 36 = .ok (.iload_n 3, 1) := by decide +kernel
theorem dX5_least_37 : decode cX5_least 37 = .ok (.ishl, 1) := by decide +kernel
theorem dX5_least_38 : decode cX5_least 38 = .ok (.iconst 1, 1) := by decide +kernel
theorem dX5_least_39 : decode cX5_least 39 = .ok (.aload_n 0, 1) := by decide +kernel
theorem dX5_least_40 : decode cX5_least 40 = .ok (.getfield 19, 3) := by decide +kernel
theorem dX5_least_43 : decode cX5_least 43 = .ok (.iload_n 3, 1) := by decide +kernel
theorem dX5_least_44 : decode cX5_least 44 = .ok (.iaload, 1) := by decide +kernel
theorem dX5_least_45 : decode cX5_least 45 = .ok (.ishl, 1) := by decide +kernel
theorem dX5_least_46 : decode cX5_least 46 = .ok (.iload_n 2, 1) := by decide +kernel
theorem dX5_least_47 : decode cX5_least 47 = .ok (.iconst 1, 1) := by decide +kernel
theorem dX5_least_48 : decode cX5_least 48 = .ok (.isub, 1) := by decide +kernel
theorem dX5_least_49 : decode cX5_least 49 = .ok (.invokestatic 23, 3) := by decide +kernel
theorem dX5_least_52 : decode cX5_least 52 = .ok (.invokestatic 29, 3) := by decide +kernel
theorem dX5_least_55 : decode cX5_least 55 = .ok (.istore_n 1, 1) := by decide +kernel
theorem dX5_least_56 : decode cX5_least 56 = .ok (.iinc 3 1, 3) := by decide +kernel
theorem dX5_least_59 : decode cX5_least 59 = .ok (.goto (-44), 3) := by decide +kernel
theorem dX5_least_62 : decode cX5_least 62 = .ok (.iinc 2 1, 3) := by decide +kernel
theorem dX5_least_65 : decode cX5_least 65 = .ok (.goto (-61), 3) := by decide +kernel
theorem dX5_least_68 : decode cX5_least 68 = .ok (.iload_n 1, 1) := by decide +kernel
theorem dX5_least_69 : decode cX5_least 69 = .ok (.ireturn, 1) := by decide +kernel
theorem dX5_follow_0 : decode cX5_follow 0 = .ok (.aload_n 0, 1) := by decide +kernel
theorem dX5_follow_1 : decode cX5_follow 1 = .ok (.getfield 33, 3) := by decide +kernel
theorem dX5_follow_4 : decode cX5_follow 4 = .ok (.iload_n 2, 1) := by decide +kernel
theorem dX5_follow_5 : decode cX5_follow 5 = .ok (.iaload, 1) := by decide +kernel
theorem dX5_follow_6 : decode cX5_follow 6 = .ok (.istore 6, 2) := by decide +kernel
theorem dX5_follow_8 : decode cX5_follow 8 = .ok (.iload 5, 2) := by decide +kernel
theorem dX5_follow_10 : decode cX5_follow 10 = .ok (.ifCond .gt 20, 3) := by decide +kernel
theorem dX5_follow_13 : decode cX5_follow 13 = .ok (.iload 6, 2) := by decide +kernel
theorem dX5_follow_15 : decode cX5_follow 15 = .ok (.aload_n 0, 1) := by decide +kernel
theorem dX5_follow_16 : decode cX5_follow 16 = .ok (.getfield 19, 3) := by decide +kernel
theorem dX5_follow_19 : decode cX5_follow 19 = .ok (.iload_n 1, 1) := by decide +kernel
theorem dX5_follow_20 : decode cX5_follow 20 = .ok (.iaload, 1) := by decide +kernel
theorem dX5_follow_21 : decode cX5_follow 21 = .ok (.if_icmp .ne 7, 3) := by decide +kernel
theorem dX5_follow_24 : decode cX5_follow 24 = .ok (.iload_n 3, 1) := by decide +kernel
theorem dX5_follow_25 : decode cX5_follow 25 = .ok (.goto 4, 3) := by decide +kernel
theorem dX5_follow_28 : decode cX5_follow 28 = .ok (.iconst 0, 1) := by decide +kernel
theorem dX5_follow_29 : decode cX5_follow 29 = .ok (.ireturn, 1) := by decide +kernel
theorem dX5_follow_30 : decode cX5_follow 30 = .ok (.iload 4, 2) := by decide +kernel
theorem dX5_follow_32 : decode cX5_follow 32 = .ok (.iload 6, 2) := by decide +kernel
theorem dX5_follow_34 : decode cX5_follow 34 = .ok (.ishr, 1) := by decide +kernel
theorem dX5_follow_35 : decode cX5_follow 35 = .ok (.iconst 1, 1) := by decide +kernel
theorem dX5_follow_36 : decode cX5_follow 36 = .ok (.iand, 1) := by decide +kernel
theorem dX5_follow_37 : decode cX5_follow 37 = .ok (.ifCond .eq 5, 3) := by decide +kernel
theorem dX5_follow_40 : decode cX5_follow 40 = .ok (.iconst 0, 1) := by decide +kernel
theorem dX5_follow_41 : decode cX5_follow 41 = .ok (.ireturn, 1) := by decide +kernel
theorem dX5_follow_42 : decode cX5_follow 42 = .ok (.iconst 0, 1) := by decide +kernel
theorem dX5_follow_43 : decode cX5_follow 43 = .ok (.istore 7, 2) := by decide +kernel
theorem dX5_follow_45 : decode cX5_follow 45 = .ok (.iload_n 1, 1) := by decide +kernel
theorem dX5_follow_46 : decode cX5_follow 46 = .ok (.iconst 1, 1) := by decide +kernel
theorem dX5_follow_47 : decode cX5_follow 47 = .ok (.iadd, 1) := by decide +kernel
theorem dX5_follow_48 : decode cX5_follow 48 = .ok (.istore 8, 2) := by decide +kernel
theorem dX5_follow_50 : decode cX5_follow 50 = .ok (.iload 8, 2) := by decide +kernel
theorem dX5_follow_52 : decode cX5_follow 52 = .ok (.aload_n 0, 1) := by decide +kernel
theorem dX5_follow_53 : decode cX5_follow 53 = .ok (.getfield 9, 3) := by decide +kernel
theorem dX5_follow_56 : decode cX5_follow 56 = .ok (.if_icmp .ge 77, 3) := by decide +kernel
theorem dX5_follow_59 : decode cX5_follow 59 = .ok (.aload_n 0, 1) := by decide +kernel
theorem dX5_follow_60 : decode cX5_follow 60 = .ok (.getfield 19, 3) := by decide +kernel
theorem dX5_follow_63 : decode cX5_follow 63 = .ok (.iload 8, 2) := by decide +kernel
theorem dX5_follow_65 : decode cX5_follow 65 = .ok (.iaload, 1) := by decide +kernel
theorem dX5_follow_66 : decode cX5_follow 66 = .ok (.iload 6, 2) := by decide +kernel
theorem dX5_follow_68 : decode cX5_follow 68 = .ok (.if_icmp .ne 59, 3) := by decide +kernel
theorem dX5_follow_71 : decode cX5_follow 71 = .ok (.aload_n 0, 1) := by decide +kernel
theorem dX5_follow_72 : decode cX5_follow 72 = .ok (.getfield 36, 3) := by decide +kernel
theorem dX5_follow_75 : decode cX5_follow 75 = .ok (.iload 8, 2) := by decide +kernel
theorem dX5_follow_77 : decode cX5_follow 77 = .ok (.iaload, 1) := by decide +kernel
theorem dX5_follow_78 : decode cX5_follow 78 = .ok (.aload_n 0, 1) := by decide +kernel
theorem dX5_follow_79 : decode cX5_follow 79 = .ok (.getfield 36, 3) := by decide +kernel
theorem dX5_follow_82 : decode cX5_follow 82 = .ok (.iload_n 1, 1) := by decide +kernel
theorem dX5_follow_83 : decode cX5_follow 83 = .ok (.iaload, 1) := by decide +kernel
theorem dX5_follow_84 : decode cX5_follow 84 = .ok (.if_icmp .ne 43, 3) := by decide +kernel
theorem dX5_follow_87 : decode cX5_follow 87 = .ok (.aload_n 0, 1) := by decide +kernel
theorem dX5_follow_88 : decode cX5_follow 88 = .ok (.iload 8, 2) := by decide +kernel
theorem dX5_follow_90 : decode cX5_follow 90 = .ok (.invokevirtual 15, 3) := by decide +kernel
theorem dX5_follow_93 : decode cX5_follow 93 = .ok (.ifCond .eq 34, 3) := by decide +kernel
theorem dX5_follow_96 : decode cX5_follow 96 = .ok (.iload 7, 2) := by decide +kernel
theorem dX5_follow_98 : decode cX5_follow 98 = .ok (.aload_n 0, 1) := by decide +kernel
theorem dX5_follow_99 : decode cX5_follow 99 = .ok (.iload_n 1, 1) := by decide +kernel
theorem dX5_follow_100 : decode cX5_follow 100 = .ok (.iload 8, 2) := by decide +kernel
theorem dX5_follow_102 : decode cX5_follow 102 = .ok (.iload_n 3, 1) := by decide +kernel
theorem dX5_follow_103 : decode cX5_follow 103 = .ok (.iconst 1, 1) := by decide +kernel
theorem dX5_follow_104 : decode cX5_follow 104 = .ok (.iload 8, 2) := by decide +kernel
theorem dX5_follow_106 : decode cX5_follow 106 = .ok (.ishl, 1) := by decide +kernel
theorem dX5_follow_107 : decode cX5_follow 107 = .ok (.ior, 1) := by decide +kernel
theorem dX5_follow_108 : decode cX5_follow 108 = .ok (.iload 4, 2) := by decide +kernel
theorem dX5_follow_110 : decode cX5_follow 110 = .ok (.iconst 1, 1) := by decide +kernel
theorem dX5_follow_111 : decode cX5_follow 111 = .ok (.iload 6, 2) := by decide +kernel
theorem dX5_follow_113 : decode cX5_follow 113 = .ok (.ishl, 1) := by decide +kernel
theorem dX5_follow_114 : decode cX5_follow 114 = .ok (.ior, 1) := by decide +kernel
theorem dX5_follow_115 : decode cX5_follow 115 = .ok (.iload 5, 2) := by decide +kernel
theorem dX5_follow_117 : decode cX5_follow 117 = .ok (.iconst 1, 1) := by decide +kernel
theorem dX5_follow_118 : decode cX5_follow 118 = .ok (.isub, 1) := by decide +kernel
theorem dX5_follow_119 : decode cX5_follow 119 = .ok (.invokestatic 23, 3) := by decide +kernel
theorem dX5_follow_122 : decode cX5_follow 122 = .ok (.invokestatic 29, 3) := by decide +kernel
theorem dX5_follow_125 : decode cX5_follow 125 = .ok (.istore 7, 2) := by decide +kernel
theorem dX5_follow_127 : decode cX5_follow 127 = .ok (.iinc 8 1, 3) := by decide +kernel
theorem dX5_follow_130 : decode cX5_follow 130 = .ok (.goto (-80), 3) := by decide +kernel
theorem dX5_follow_133 : decode cX5_follow 133 = .ok (.iload 7, 2) := by decide +kernel
theorem dX5_follow_135 : decode cX5_follow 135 = .ok (.ireturn, 1) := by decide +kernel
theorem dX5_lesser_0 : decode cX5_lesser 0 = .ok (.iload_n 0, 1) := by decide +kernel
theorem dX5_lesser_1 : decode cX5_lesser 1 = .ok (.ifCond .eq 7, 3) := by decide +kernel
theorem dX5_lesser_4 : decode cX5_lesser 4 = .ok (.iload_n 1, 1) := by decide +kernel
theorem dX5_lesser_5 : decode cX5_lesser 5 = .ok (.ifCond .ne 9, 3) := by decide +kernel
theorem dX5_lesser_8 : decode cX5_lesser 8 = .ok (.iload_n 0, 1) := by decide +kernel
theorem dX5_lesser_9 : decode cX5_lesser 9 = .ok (.iload_n 1, 1) := by decide +kernel
theorem dX5_lesser_10 : decode cX5_lesser 10 = .ok (.ior, 1) := by decide +kernel
theorem dX5_lesser_11 : decode cX5_lesser 11 = .ok (.goto 8, 3) := by decide +kernel
theorem dX5_lesser_14 : decode cX5_lesser 14 = .ok (.iload_n 0, 1) := by decide +kernel
theorem dX5_lesser_15 : decode cX5_lesser 15 = .ok (.iload_n 1, 1) := by decide +kernel
theorem dX5_lesser_16 : decode cX5_lesser 16 = .ok (.invokestatic 39, 3) := by decide +kernel
theorem dX5_lesser_19 : decode cX5_lesser 19 = .ok (.ireturn, 1) := by decide +kernel
theorem dX6_init_0 : decode cX6_init 0 = .ok (.aload_n 0, 1) := by decide +kernel
theorem dX6_init_1 : decode cX6_init 1 = .ok (.invokespecial 3, 3) := by decide +kernel
theorem dX6_init_4 : decode cX6_init 4 = .ok (.aload_n 0, 1) := by decide +kernel
theorem dX6_init_5 : decode cX6_init 5 = .ok (.bipush 12, 2) := by decide +kernel
theorem dX6_init_7 : decode cX6_init 7 = .ok (.newarray .int, 2) := by decide +kernel
theorem dX6_init_9 : decode cX6_init 9 = .ok (.putfield 9, 3) := by decide +kernel
theorem dX6_init_12 : decode cX6_init 12 = .ok (.aload_n 0, 1) := by decide +kernel
theorem dX6_init_13 : decode cX6_init 13 = .ok (.bipush 8, 2) := by decide +kernel
theorem dX6_init_15 : decode cX6_init 15 = .ok (.newarray .int, 2) := by decide +kernel
theorem dX6_init_17 : decode cX6_init 17 = .ok (.putfield 15, 3) := by decide +kernel
theorem dX6_init_20 : decode cX6_init 20 = .ok (.aload_n 0, 1) := by decide +kernel
theorem dX6_init_21 : decode cX6_init 21 = .ok (.iconst 1, 1) := by decide +kernel
theorem dX6_init_22 : decode cX6_init 22 = .ok (.putfield 18, 3) := by decide +kernel
theorem dX6_init_25 : decode cX6_init 25 = .ok (.iconst 0, 1) := by decide +kernel
theorem dX6_init_26 : decode cX6_init 26 = .ok (.istore_n 1, 1) := by decide +kernel
theorem dX6_init_27 : decode cX6_init 27 = .ok (.iload_n 1, 1) := by decide +kernel
theorem dX6_init_28 : decode cX6_init 28 = .ok (.bipush 12, 2) := by decide +kernel
theorem dX6_init_30 : decode cX6_init 30 = .ok (.if_icmp .ge 16, 3) := by decide +kernel
theorem dX6_init_33 : decode cX6_init 33 = .ok (.aload_n 0, 1) := by decide +kernel
theorem dX6_init_34 : decode cX6_init 34 = .ok (.getfield 9, 3) := by decide +kernel
theorem dX6_init_37 : decode cX6_init 37 = .ok (.iload_n 1, 1) := by decide +kernel
theorem dX6_init_38 : decode cX6_init 38 = .ok (.iconst 5, 1) := by decide +kernel
theorem dX6_init_39 : decode cX6_init 39 = .ok (.iastore, 1) := by decide +kernel
theorem dX6_init_40 : decode cX6_init 40 = .ok (.iinc 1 1, 3) := by decide +kernel
theorem dX6_init_43 : decode cX6_init 43 = .ok (.goto (-16), 3) := by decide +kernel
theorem dX6_init_46 : decode cX6_init 46 = .ok (.return_, 1) := by decide +kernel
theorem dX6_addPerson_0 : decode cX6_addPerson 0 = .ok (.aload_n 0, 1) := by decide +kernel
theorem dX6_addPerson_1 : decode cX6_addPerson 1 = .ok (.getfield 15, 3) := by decide +kernel
theorem dX6_addPerson_4 : decode cX6_addPerson 4 = .ok (.aload_n 0, 1) := by decide +kernel
theorem dX6_addPerson_5 : decode cX6_addPerson 5 = .ok (.getfield 22, 3) := by decide +kernel
theorem dX6_addPerson_8 : decode cX6_addPerson 8 = .ok (.iload_n 1, 1) := by decide +kernel
theorem dX6_addPerson_9 : decode cX6_addPerson 9 = .ok (.iastore, 1) := by decide +kernel
theorem dX6_addPerson_10 : decode cX6_addPerson 10 = .ok (.aload_n 0, 1) := by decide +kernel
theorem dX6_addPerson_11 : decode cX6_addPerson 11 = .ok (.dup, 1) := by decide +kernel
theorem dX6_addPerson_12 : decode cX6_addPerson 12 = .ok (.getfield 22, 3) := by decide +kernel
theorem dX6_addPerson_15 : decode cX6_addPerson 15 = .ok (.iconst 1, 1) := by decide +kernel
theorem dX6_addPerson_16 : decode cX6_addPerson 16 = .ok (.iadd, 1) := by decide +kernel
theorem dX6_addPerson_17 : decode cX6_addPerson 17 = .ok (.putfield 22, 3) := by decide +kernel
theorem dX6_addPerson_20 : decode cX6_addPerson 20 = .ok (.aload_n 0, 1) := by decide +kernel
theorem dX6_addPerson_21 : decode cX6_addPerson 21 = .ok (.getfield 22, 3) := by decide +kernel
theorem dX6_addPerson_24 : decode cX6_addPerson 24 = .ok (.iconst 1, 1) := by decide +kernel
theorem dX6_addPerson_25 : decode cX6_addPerson 25 = .ok (.isub, 1) := by decide +kernel
theorem dX6_addPerson_26 : decode cX6_addPerson 26 = .ok (.ireturn, 1) := by decide +kernel
theorem dX6_isPerson_0 : decode cX6_isPerson 0 = .ok (.iload_n 1, 1) := by decide +kernel
theorem dX6_isPerson_1 : decode cX6_isPerson 1 = .ok (.iconst 0, 1) := by decide +kernel
theorem dX6_isPerson_2 : decode cX6_isPerson 2 = .ok (.aload_n 0, 1) := by decide +kernel
theorem dX6_isPerson_3 : decode cX6_isPerson 3 = .ok (.getfield 22, 3) := by decide +kernel
theorem dX6_isPerson_6 : decode cX6_isPerson 6 = .ok (.iconst 1, 1) := by decide +kernel
theorem dX6_isPerson_7 : decode cX6_isPerson 7 = .ok (.isub, 1) := by decide +kernel
theorem dX6_isPerson_8 : decode cX6_isPerson 8 = .ok (.invokestatic 25, 3) := by decide +kernel
theorem dX6_isPerson_11 : decode cX6_isPerson 11 = .ok (.ireturn, 1) := by decide +kernel
theorem dX6_areUnlike_0 : decode cX6_areUnlike 0 = .ok (.aload_n 0, 1) := by decide +kernel
theorem dX6_areUnlike_1 : decode cX6_areUnlike 1 = .ok (.iload_n 1, 1) := by decide +kernel
theorem dX6_areUnlike_2 : decode cX6_areUnlike 2 = .ok (.invokevirtual 29, 3) := by decide +kernel
theorem dX6_areUnlike_5 : decode cX6_areUnlike 5 = .ok (.ifCond .eq 20, 3) := by decide +kernel
theorem dX6_areUnlike_8 : decode cX6_areUnlike 8 = .ok (.aload_n 0, 1) := by decide +kernel
theorem dX6_areUnlike_9 : decode cX6_areUnlike 9 = .ok (.iload_n 2, 1) := by decide +kernel
theorem dX6_areUnlike_10 : decode cX6_areUnlike 10 = .ok (.invokevirtual 29, 3) := by decide +kernel
theorem dX6_areUnlike_13 : decode cX6_areUnlike 13 = .ok (.ifCond .eq 12, 3) := by decide +kernel
theorem dX6_areUnlike_16 : decode cX6_areUnlike 16 = .ok (.iload_n 1, 1) := by decide +kernel
theorem dX6_areUnlike_17 : decode cX6_areUnlike 17 = .ok (.iload_n 2, 1) := by decide +kernel
theorem dX6_areUnlike_18 : decode cX6_areUnlike 18 = .ok (.if_icmp .eq 7, 3) := by decide +kernel
theorem dX6_areUnlike_21 : decode cX6_areUnlike 21 = .ok (.iconst 1, 1) := by decide +kernel
theorem dX6_areUnlike_22 : decode cX6_areUnlike 22 = .ok (.goto 4, 3) := by decide +kernel
theorem dX6_areUnlike_25 : decode cX6_areUnlike 25 = .ok (.iconst 0, 1) := by decide +kernel
theorem dX6_areUnlike_26 : decode cX6_areUnlike 26 = .ok (.ireturn, 1) := by decide +kernel
theorem dX6_isPair_0 : decode cX6_isPair 0 = .ok (.iload_n 1, 1) := by decide +kernel
theorem dX6_isPair_1 : decode cX6_isPair 1 = .ok (.ifCond .lt 22, 3) := by decide +kernel
theorem dX6_isPair_4 : decode cX6_isPair 4 = .ok (.aload_n 0, 1) := by decide +kernel
theorem dX6_isPair_5 : decode cX6_isPair 5 = .ok (.iload_n 1, 1) := by decide +kernel
theorem dX6_isPair_6 : decode cX6_isPair 6 = .ok (.bipush 10, 2) := by decide +kernel
theorem dX6_isPair_8 : decode cX6_isPair 8 = .ok (.idiv, 1) := by decide +kernel
theorem dX6_isPair_9 : decode cX6_isPair 9 = .ok (.iload_n 1, 1) := by decide +kernel
theorem dX6_isPair_10 : decode cX6_isPair 10 = .ok (.bipush 10, 2) := by decide +kernel
theorem dX6_isPair_12 : decode cX6_isPair 12 = .ok (.irem, 1) := by decide +kernel
theorem dX6_isPair_13 : decode cX6_isPair 13 = .ok (.invokevirtual 33, 3) := by decide +kernel
theorem dX6_isPair_16 : decode cX6_isPair 16 = .ok (.ifCond .eq 7, 3) := by decide +kernel
theorem dX6_isPair_19 : decode cX6_isPair 19 = .ok (.iconst 1, 1) := by decide +kernel
theorem dX6_isPair_20 : decode cX6_isPair 20 = .ok (.goto 4, 3) := by decide +kernel
theorem dX6_isPair_23 : decode cX6_isPair 23 = .ok (.iconst 0, 1) := by decide +kernel
theorem dX6_isPair_24 : decode cX6_isPair 24 = .ok (.ireturn, 1) := by decide +kernel
theorem dX6_isNumber_0 : decode cX6_isNumber 0 = .ok (.iload_n 2, 1) := by decide +kernel
theorem dX6_isNumber_1 : decode cX6_isNumber 1 = .ok (.tableswitch 65 0 3 #[31, 39, 45, 55], 31) := by decide +kernel
theorem dX6_isNumber_32 : decode cX6_isNumber 32 = .ok (.iload_n 1, 1) := by decide +kernel
theorem dX6_isNumber_33 : decode cX6_isNumber 33 = .ok (.iconst 0, 1) := by decide +kernel
theorem dX6_isNumber_34 : decode cX6_isNumber 34 = .ok (.bipush 11, 2) := by decide +kernel
theorem dX6_isNumber_36 : decode cX6_isNumber 36 = .ok (.invokestatic 25, 3) := by decide +kernel
theorem dX6_isNumber_39 : decode cX6_isNumber 39 = .ok (.ireturn, 1) := by decide +kernel
theorem dX6_isNumber_40 : decode cX6_isNumber 40 = .ok (.aload_n 0, 1) := by decide +kernel
theorem dX6_isNumber_41 : decode cX6_isNumber 41 = .ok (.iload_n 1, 1) := by decide +kernel
theorem dX6_isNumber_42 : decode cX6_isNumber 42 = .ok (.invokevirtual 29, 3) := by decide +kernel
theorem dX6_isNumber_45 : decode cX6_isNumber 45 = .ok (.ireturn, 1) := by decide +kernel
theorem dX6_isNumber_46 : decode cX6_isNumber 46 = .ok (.iload_n 1, 1) := by decide +kernel
theorem dX6_isNumber_47 : decode cX6_isNumber 47 = .ok (.ifCond .ne 7, 3) := by decide +kernel
theorem dX6_isNumber_50 : decode cX6_isNumber 50 = .ok (.iconst 1, 1) := by decide +kernel
theorem dX6_isNumber_51 : decode cX6_isNumber 51 = .ok (.goto 4, 3) := by decide +kernel
theorem dX6_isNumber_54 : decode cX6_isNumber 54 = .ok (.iconst 0, 1) := by decide +kernel
theorem dX6_isNumber_55 : decode cX6_isNumber 55 = .ok (.ireturn, 1) := by decide +kernel
theorem dX6_isNumber_56 : decode cX6_isNumber 56 = .ok (.iload_n 1, 1) := by decide +kernel
theorem dX6_isNumber_57 : decode cX6_isNumber 57 = .ok (.ifCond .ne 7, 3) := by decide +kernel
theorem dX6_isNumber_60 : decode cX6_isNumber 60 = .ok (.iconst 1, 1) := by decide +kernel
theorem dX6_isNumber_61 : decode cX6_isNumber 61 = .ok (.goto 4, 3) := by decide +kernel
theorem dX6_isNumber_64 : decode cX6_isNumber 64 = .ok (.iconst 0, 1) := by decide +kernel
theorem dX6_isNumber_65 : decode cX6_isNumber 65 = .ok (.ireturn, 1) := by decide +kernel
theorem dX6_isNumber_66 : decode cX6_isNumber 66 = .ok (.iconst 0, 1) := by decide +kernel
theorem dX6_isNumber_67 : decode cX6_isNumber 67 = .ok (.ireturn, 1) := by decide +kernel
theorem dX6_allows_0 : decode cX6_allows 0 = .ok (.iload_n 1, 1) := by decide +kernel
theorem dX6_allows_1 : decode cX6_allows 1 = .ok (.lookupswitch 42 #[(2, 27), (3, 34)], 27) := by decide +kernel
theorem dX6_allows_28 : decode cX6_allows 28 = .ok (.iload_n 2, 1) := by decide +kernel
theorem dX6_allows_29 : decode cX6_allows 29 = .ok (.iconst 0, 1) := by decide +kernel
theorem dX6_allows_30 : decode cX6_allows 30 = .ok (.iconst 2, 1) := by decide +kernel
theorem dX6_allows_31 : decode cX6_allows 31 = .ok (.invokestatic 25, 3) := by decide +kernel
theorem dX6_allows_34 : decode cX6_allows 34 = .ok (.ireturn, 1) := by decide +kernel
theorem dX6_allows_35 : decode cX6_allows 35 = .ok (.iload_n 2, 1) := by decide +kernel
theorem dX6_allows_36 : decode cX6_allows 36 = .ok (.iconst 0, 1) := by decide +kernel
theorem dX6_allows_37 : decode cX6_allows 37 = .ok (.bipush 12, 2) := by decide +kernel
theorem dX6_allows_39 : decode cX6_allows 39 = .ok (.invokestatic 25, 3) := by decide +kernel
theorem dX6_allows_42 : decode cX6_allows 42 = .ok (.ireturn, 1) := by decide +kernel
theorem dX6_allows_43 : decode cX6_allows 43 = .ok (.iload_n 2, 1) := by decide +kernel
theorem dX6_allows_44 : decode cX6_allows 44 = .ok (.iconst 1, 1) := by decide +kernel
theorem dX6_allows_45 : decode cX6_allows 45 = .ok (.bipush 9, 2) := by decide +kernel
theorem dX6_allows_47 : decode cX6_allows 47 = .ok (.invokestatic 25, 3) := by decide +kernel
theorem dX6_allows_50 : decode cX6_allows 50 = .ok (.ireturn, 1) := by decide +kernel
theorem dX6_told_0 : decode cX6_told 0 = .ok (.iload_n 2, 1) := by decide +kernel
theorem dX6_told_1 : decode cX6_told 1 = .ok (.tableswitch 46 0 2 #[27, 34, 41], 27) := by decide +kernel
theorem dX6_told_28 : decode cX6_told 28 = .ok (.aload_n 0, 1) := by decide +kernel
theorem dX6_told_29 : decode cX6_told 29 = .ok (.getfield 9, 3) := by decide +kernel
theorem dX6_told_32 : decode cX6_told 32 = .ok (.iload_n 1, 1) := by decide +kernel
theorem dX6_told_33 : decode cX6_told 33 = .ok (.iaload, 1) := by decide +kernel
theorem dX6_told_34 : decode cX6_told 34 = .ok (.ireturn, 1) := by decide +kernel
theorem dX6_told_35 : decode cX6_told 35 = .ok (.aload_n 0, 1) := by decide +kernel
theorem dX6_told_36 : decode cX6_told 36 = .ok (.getfield 15, 3) := by decide +kernel
theorem dX6_told_39 : decode cX6_told 39 = .ok (.iload_n 1, 1) := by decide +kernel
theorem dX6_told_40 : decode cX6_told 40 = .ok (.iaload, 1) := by decide +kernel
theorem dX6_told_41 : decode cX6_told 41 = .ok (.ireturn, 1) := by decide +kernel
theorem dX6_told_42 : decode cX6_told 42 = .ok (.aload_n 0, 1) := by decide +kernel
theorem dX6_told_43 : decode cX6_told 43 = .ok (.getfield 37, 3) := by decide +kernel
theorem dX6_told_46 : decode cX6_told 46 = .ok (.ireturn, 1) := by decide +kernel
theorem dX6_told_47 : decode cX6_told 47 = .ok (.aload_n 0, 1) := by decide +kernel
theorem dX6_told_48 : decode cX6_told 48 = .ok (.getfield 18, 3) := by decide +kernel
theorem dX6_told_51 : decode cX6_told 51 = .ok (.ireturn, 1) := by decide +kernel
theorem dX6_tell_0 : decode cX6_tell 0 = .ok (.iload_n 2, 1) := by decide +kernel
theorem dX6_tell_1 : decode cX6_tell 1 = .ok (.tableswitch 55 0 2 #[27, 37, 47], 27) := by decide +kernel
theorem dX6_tell_28 : decode cX6_tell 28 = .ok (.aload_n 0, 1) := by decide +kernel
theorem dX6_tell_29 : decode cX6_tell 29 = .ok (.getfield 9, 3) := by decide +kernel
theorem dX6_tell_32 : decode cX6_tell 32 = .ok (.iload_n 1, 1) := by decide +kernel
theorem dX6_tell_33 : decode cX6_tell 33 = .ok (.iload_n 3, 1) := by decide +kernel
theorem dX6_tell_34 : decode cX6_tell 34 = .ok (.iastore, 1) := by decide +kernel
theorem dX6_tell_35 : decode cX6_tell 35 = .ok (.goto 26, 3) := by decide +kernel
theorem dX6_tell_38 : decode cX6_tell 38 = .ok (.aload_n 0, 1) := by decide +kernel
theorem dX6_tell_39 : decode cX6_tell 39 = .ok (.getfield 15, 3) := by decide +kernel
theorem dX6_tell_42 : decode cX6_tell 42 = .ok (.iload_n 1, 1) := by decide +kernel
theorem dX6_tell_43 : decode cX6_tell 43 = .ok (.iload_n 3, 1) := by decide +kernel
theorem dX6_tell_44 : decode cX6_tell 44 = .ok (.iastore, 1) := by decide +kernel
theorem dX6_tell_45 : decode cX6_tell 45 = .ok (.goto 16, 3) := by decide +kernel
theorem dX6_tell_48 : decode cX6_tell 48 = .ok (.aload_n 0, 1) := by decide +kernel
theorem dX6_tell_49 : decode cX6_tell 49 = .ok (.iload_n 3, 1) := by decide +kernel
theorem dX6_tell_50 : decode cX6_tell 50 = .ok (.putfield 37, 3) := by decide +kernel
theorem dX6_tell_53 : decode cX6_tell 53 = .ok (.goto 8, 3) := by decide +kernel
theorem dX6_tell_56 : decode cX6_tell 56 = .ok (.aload_n 0, 1) := by decide +kernel
theorem dX6_tell_57 : decode cX6_tell 57 = .ok (.iload_n 3, 1) := by decide +kernel
theorem dX6_tell_58 : decode cX6_tell 58 = .ok (.putfield 18, 3) := by decide +kernel
theorem dX6_tell_61 : decode cX6_tell 61 = .ok (.return_, 1) := by decide +kernel
theorem dX7_init_0 : decode cX7_init 0 = .ok (.aload_n 0, 1) := by decide +kernel
theorem dX7_init_1 : decode cX7_init 1 = .ok (.invokespecial 3, 3) := by decide +kernel
theorem dX7_init_4 : decode cX7_init 4 = .ok (.aload_n 0, 1) := by decide +kernel
theorem dX7_init_5 : decode cX7_init 5 = .ok (.bipush 60, 2) := by decide +kernel
theorem dX7_init_7 : decode cX7_init 7 = .ok (.newarray .long, 2) := by decide +kernel
theorem dX7_init_9 : decode cX7_init 9 = .ok (.putfield 9, 3) := by decide +kernel
theorem dX7_init_12 : decode cX7_init 12 = .ok (.aload_n 0, 1) := by decide +kernel
theorem dX7_init_13 : decode cX7_init 13 = .ok (.iconst (-1), 1) := by decide +kernel
theorem dX7_init_14 : decode cX7_init 14 = .ok (.putfield 15, 3) := by decide +kernel
theorem dX7_init_17 : decode cX7_init 17 = .ok (.aload_n 0, 1) := by decide +kernel
theorem dX7_init_18 : decode cX7_init 18 = .ok (.iconst (-1), 1) := by decide +kernel
theorem dX7_init_19 : decode cX7_init 19 = .ok (.putfield 19, 3) := by decide +kernel
theorem dX7_init_22 : decode cX7_init 22 = .ok (.return_, 1) := by decide +kernel
theorem dX7_holdsNothing_0 : decode cX7_holdsNothing 0 = .ok (.aload_n 0, 1) := by decide +kernel
theorem dX7_holdsNothing_1 : decode cX7_holdsNothing 1 = .ok (.getfield 15, 3) := by decide +kernel
theorem dX7_holdsNothing_4 : decode cX7_holdsNothing 4 = .ok (.ifCond .ge 14, 3) := by decide +kernel
theorem dX7_holdsNothing_7 : decode cX7_holdsNothing 7 = .ok (.aload_n 0, 1) := by decide +kernel
theorem dX7_holdsNothing_8 : decode cX7_holdsNothing 8 = .ok (.getfield 19, 3) := by decide +kernel
theorem dX7_holdsNothing_11 : decode cX7_holdsNothing 11 = .ok (.ifCond .ge 7, 3) := by decide +kernel
theorem dX7_holdsNothing_14 : decode cX7_holdsNothing 14 = .ok (.iconst 1, 1) := by decide +kernel
theorem dX7_holdsNothing_15 : decode cX7_holdsNothing 15 = .ok (.goto 4, 3) := by decide +kernel
theorem dX7_holdsNothing_18 : decode cX7_holdsNothing 18 = .ok (.iconst 0, 1) := by decide +kernel
theorem dX7_holdsNothing_19 : decode cX7_holdsNothing 19 = .ok (.ireturn, 1) := by decide +kernel
theorem dX7_holdsRow_0 : decode cX7_holdsRow 0 = .ok (.aload_n 0, 1) := by decide +kernel
theorem dX7_holdsRow_1 : decode cX7_holdsRow 1 = .ok (.getfield 19, 3) := by decide +kernel
theorem dX7_holdsRow_4 : decode cX7_holdsRow 4 = .ok (.ifCond .lt 7, 3) := by decide +kernel
theorem dX7_holdsRow_7 : decode cX7_holdsRow 7 = .ok (.iconst 1, 1) := by decide +kernel
theorem dX7_holdsRow_8 : decode cX7_holdsRow 8 = .ok (.goto 4, 3) := by decide +kernel
theorem dX7_holdsRow_11 : decode cX7_holdsRow 11 = .ok (.iconst 0, 1) := by decide +kernel
theorem dX7_holdsRow_12 : decode cX7_holdsRow 12 = .ok (.ireturn, 1) := by decide +kernel
theorem dX7_holdDay_0 : decode cX7_holdDay 0 = .ok (.aload_n 0, 1) := by decide +kernel
theorem dX7_holdDay_1 : decode cX7_holdDay 1 = .ok (.iload_n 1, 1) := by decide +kernel
theorem dX7_holdDay_2 : decode cX7_holdDay 2 = .ok (.putfield 15, 3) := by decide +kernel
theorem dX7_holdDay_5 : decode cX7_holdDay 5 = .ok (.aload_n 0, 1) := by decide +kernel
theorem dX7_holdDay_6 : decode cX7_holdDay 6 = .ok (.iconst (-1), 1) := by decide +kernel
theorem dX7_holdDay_7 : decode cX7_holdDay 7 = .ok (.putfield 19, 3) := by decide +kernel
theorem dX7_holdDay_10 : decode cX7_holdDay 10 = .ok (.aload_n 0, 1) := by decide +kernel
theorem dX7_holdDay_11 : decode cX7_holdDay 11 = .ok (.iconst 0, 1) := by decide +kernel
theorem dX7_holdDay_12 : decode cX7_holdDay 12 = .ok (.putfield 22, 3) := by decide +kernel
theorem dX7_holdDay_15 : decode cX7_holdDay 15 = .ok (.return_, 1) := by decide +kernel
theorem dX7_holdRow_0 : decode cX7_holdRow 0 = .ok (.aload_n 0, 1) := by decide +kernel
theorem dX7_holdRow_1 : decode cX7_holdRow 1 = .ok (.iconst (-1), 1) := by decide +kernel
theorem dX7_holdRow_2 : decode cX7_holdRow 2 = .ok (.putfield 15, 3) := by decide +kernel
theorem dX7_holdRow_5 : decode cX7_holdRow 5 = .ok (.aload_n 0, 1) := by decide +kernel
theorem dX7_holdRow_6 : decode cX7_holdRow 6 = .ok (.iload_n 1, 1) := by decide +kernel
theorem dX7_holdRow_7 : decode cX7_holdRow 7 = .ok (.putfield 19, 3) := by decide +kernel
theorem dX7_holdRow_10 : decode cX7_holdRow 10 = .ok (.aload_n 0, 1) := by decide +kernel
theorem dX7_holdRow_11 : decode cX7_holdRow 11 = .ok (.iload_n 2, 1) := by decide +kernel
theorem dX7_holdRow_12 : decode cX7_holdRow 12 = .ok (.putfield 22, 3) := by decide +kernel
theorem dX7_holdRow_15 : decode cX7_holdRow 15 = .ok (.iconst 0, 1) := by decide +kernel
theorem dX7_holdRow_16 : decode cX7_holdRow 16 = .ok (.istore_n 3, 1) := by decide +kernel
theorem dX7_holdRow_17 : decode cX7_holdRow 17 = .ok (.iload_n 3, 1) := by decide +kernel
theorem dX7_holdRow_18 : decode cX7_holdRow 18 = .ok (.iload_n 2, 1) := by decide +kernel
theorem dX7_holdRow_19 : decode cX7_holdRow 19 = .ok (.if_icmp .ge 16, 3) := by decide +kernel
theorem dX7_holdRow_22 : decode cX7_holdRow 22 = .ok (.aload_n 0, 1) := by decide +kernel
theorem dX7_holdRow_23 : decode cX7_holdRow 23 = .ok (.getfield 9, 3) := by decide +kernel
theorem dX7_holdRow_26 : decode cX7_holdRow 26 = .ok (.iload_n 3, 1) := by decide +kernel
theorem dX7_holdRow_27 : decode cX7_holdRow 27 = .ok (.lconst 0, 1) := by decide +kernel
theorem dX7_holdRow_28 : decode cX7_holdRow 28 = .ok (.lastore, 1) := by decide +kernel
theorem dX7_holdRow_29 : decode cX7_holdRow 29 = .ok (.iinc 3 1, 3) := by decide +kernel
theorem dX7_holdRow_32 : decode cX7_holdRow 32 = .ok (.goto (-15), 3) := by decide +kernel
theorem dX7_holdRow_35 : decode cX7_holdRow 35 = .ok (.return_, 1) := by decide +kernel
theorem dX7_hasPlaces_0 : decode cX7_hasPlaces 0 = .ok (.iload_n 2, 1) := by decide +kernel
theorem dX7_hasPlaces_1 : decode cX7_hasPlaces 1 = .ok (.ifCond .lt 29, 3) := by decide +kernel
theorem dX7_hasPlaces_4 : decode cX7_hasPlaces 4 = .ok (.iload_n 2, 1) := by decide +kernel
theorem dX7_hasPlaces_5 : decode cX7_hasPlaces 5 = .ok (.aload_n 0, 1) := by decide +kernel
theorem dX7_hasPlaces_6 : decode cX7_hasPlaces 6 = .ok (.getfield 22, 3) := by decide +kernel
theorem dX7_hasPlaces_9 : decode cX7_hasPlaces 9 = .ok (.if_icmp .gt 21, 3) := by decide +kernel
theorem dX7_hasPlaces_12 : decode cX7_hasPlaces 12 = .ok (.iload_n 1, 1) := by decide +kernel
theorem dX7_hasPlaces_13 : decode cX7_hasPlaces 13 = .ok (.ifCond .lt 17, 3) := by decide +kernel
theorem dX7_hasPlaces_16 : decode cX7_hasPlaces 16 = .ok (.iload_n 1, 1) := by decide +kernel
theorem dX7_hasPlaces_17 : decode cX7_hasPlaces 17 = .ok (.aload_n 0, 1) := by decide +kernel
theorem dX7_hasPlaces_18 : decode cX7_hasPlaces 18 = .ok (.getfield 22, 3) := by decide +kernel
theorem dX7_hasPlaces_21 : decode cX7_hasPlaces 21 = .ok (.iload_n 2, 1) := by decide +kernel
theorem dX7_hasPlaces_22 : decode cX7_hasPlaces 22 = .ok (.isub, 1) := by decide +kernel
theorem dX7_hasPlaces_23 : decode cX7_hasPlaces 23 = .ok (.if_icmp .gt 7, 3) := by decide +kernel
theorem dX7_hasPlaces_26 : decode cX7_hasPlaces 26 = .ok (.iconst 1, 1) := by decide +kernel
theorem dX7_hasPlaces_27 : decode cX7_hasPlaces 27 = .ok (.goto 4, 3) := by decide +kernel
theorem dX7_hasPlaces_30 : decode cX7_hasPlaces 30 = .ok (.iconst 0, 1) := by decide +kernel
theorem dX7_hasPlaces_31 : decode cX7_hasPlaces 31 = .ok (.ireturn, 1) := by decide +kernel
theorem dX7_number_0 : decode cX7_number 0 = .ok (.aload_n 0, 1) := by decide +kernel
theorem dX7_number_1 : decode cX7_number 1 = .ok (.getfield 9, 3) := by decide +kernel
theorem dX7_number_4 : decode cX7_number 4 = .ok (.iload_n 1, 1) := by decide +kernel
theorem dX7_number_5 : decode cX7_number 5 = .ok (.laload, 1) := by decide +kernel
theorem dX7_number_6 : decode cX7_number 6 = .ok (.l2i, 1) := by decide +kernel
theorem dX7_number_7 : decode cX7_number 7 = .ok (.ireturn, 1) := by decide +kernel
theorem dX7_setElement_0 : decode cX7_setElement 0 = .ok (.aload_n 0, 1) := by decide +kernel
theorem dX7_setElement_1 : decode cX7_setElement 1 = .ok (.getfield 19, 3) := by decide +kernel
theorem dX7_setElement_4 : decode cX7_setElement 4 = .ok (.tableswitch 94 0 4 #[36, 49, 62, 94, 74], 36) := by decide +kernel
theorem dX7_setElement_40 : decode cX7_setElement 40 = .ok (.aload_n 0, 1) := by decide +kernel
theorem dX7_setElement_41 : decode cX7_setElement 41 = .ok (.getfield 9, 3) := by decide +kernel
theorem dX7_setElement_44 : decode cX7_setElement 44 = .ok (.iload_n 1, 1) := by decide +kernel
theorem dX7_setElement_45 : decode cX7_setElement 45 = .ok (.lload_n 2, 1) := by decide +kernel
theorem dX7_setElement_46 : decode cX7_setElement 46 = .ok (.l2i, 1) := by decide +kernel
theorem dX7_setElement_47 : decode cX7_setElement 47 = .ok (.i2b, 1) := by decide +kernel
theorem dX7_setElement_48 : decode cX7_setElement 48 = .ok (.i2l, 1) := by decide +kernel
theorem dX7_setElement_49 : decode cX7_setElement 49 = .ok (.lastore, 1) := by decide +kernel
theorem dX7_setElement_50 : decode cX7_setElement 50 = .ok (.goto 55, 3) := by decide +kernel
theorem dX7_setElement_53 : decode cX7_setElement 53 = .ok (.aload_n 0, 1) := by decide +kernel
theorem dX7_setElement_54 : decode cX7_setElement 54 = .ok (.getfield 9, 3) := by decide +kernel
theorem dX7_setElement_57 : decode cX7_setElement 57 = .ok (.iload_n 1, 1) := by decide +kernel
theorem dX7_setElement_58 : decode cX7_setElement 58 = .ok (.lload_n 2, 1) := by decide +kernel
theorem dX7_setElement_59 : decode cX7_setElement 59 = .ok (.l2i, 1) := by decide +kernel
theorem dX7_setElement_60 : decode cX7_setElement 60 = .ok (.i2s, 1) := by decide +kernel
theorem dX7_setElement_61 : decode cX7_setElement 61 = .ok (.i2l, 1) := by decide +kernel
theorem dX7_setElement_62 : decode cX7_setElement 62 = .ok (.lastore, 1) := by decide +kernel
theorem dX7_setElement_63 : decode cX7_setElement 63 = .ok (.goto 42, 3) := by decide +kernel
theorem dX7_setElement_66 : decode cX7_setElement 66 = .ok (.aload_n 0, 1) := by decide +kernel
theorem dX7_setElement_67 : decode cX7_setElement 67 = .ok (.getfield 9, 3) := by decide +kernel
theorem dX7_setElement_70 : decode cX7_setElement 70 = .ok (.iload_n 1, 1) := by decide +kernel
theorem dX7_setElement_71 : decode cX7_setElement 71 = .ok (.lload_n 2, 1) := by decide +kernel
theorem dX7_setElement_72 : decode cX7_setElement 72 = .ok (.l2i, 1) := by decide +kernel
theorem dX7_setElement_73 : decode cX7_setElement 73 = .ok (.i2l, 1) := by decide +kernel
theorem dX7_setElement_74 : decode cX7_setElement 74 = .ok (.lastore, 1) := by decide +kernel
theorem dX7_setElement_75 : decode cX7_setElement 75 = .ok (.goto 30, 3) := by decide +kernel
theorem dX7_setElement_78 : decode cX7_setElement 78 = .ok (.aload_n 0, 1) := by decide +kernel
theorem dX7_setElement_79 : decode cX7_setElement 79 = .ok (.getfield 9, 3) := by decide +kernel
theorem dX7_setElement_82 : decode cX7_setElement 82 = .ok (.iload_n 1, 1) := by decide +kernel
theorem dX7_setElement_83 : decode cX7_setElement 83 = .ok (.lload_n 2, 1) := by decide +kernel
theorem dX7_setElement_84 : decode cX7_setElement 84 = .ok (.lconst 0, 1) := by decide +kernel
theorem dX7_setElement_85 : decode cX7_setElement 85 = .ok (.lcmp, 1) := by decide +kernel
theorem dX7_setElement_86 : decode cX7_setElement 86 = .ok (.ifCond .eq 7, 3) := by decide +kernel
theorem dX7_setElement_89 : decode cX7_setElement 89 = .ok (.lconst 1, 1) := by decide +kernel
theorem dX7_setElement_90 : decode cX7_setElement 90 = .ok (.goto 4, 3) := by decide +kernel
theorem dX7_setElement_93 : decode cX7_setElement 93 = .ok (.lconst 0, 1) := by decide +kernel
theorem dX7_setElement_94 : decode cX7_setElement 94 = .ok (.lastore, 1) := by decide +kernel
theorem dX7_setElement_95 : decode cX7_setElement 95 = .ok (.goto 10, 3) := by decide +kernel
theorem dX7_setElement_98 : decode cX7_setElement 98 = .ok (.aload_n 0, 1) := by decide +kernel
theorem dX7_setElement_99 : decode cX7_setElement 99 = .ok (.getfield 9, 3) := by decide +kernel
theorem dX7_setElement_102 : decode cX7_setElement 102 = .ok (.iload_n 1, 1) := by decide +kernel
theorem dX7_setElement_103 : decode cX7_setElement 103 = .ok (.lload_n 2, 1) := by decide +kernel
theorem dX7_setElement_104 : decode cX7_setElement 104 = .ok (.lastore, 1) := by decide +kernel
theorem dX7_setElement_105 : decode cX7_setElement 105 = .ok (.return_, 1) := by decide +kernel
theorem dX8_init_0 : decode cX8_init 0 = .ok (.aload_n 0, 1) := by decide +kernel
theorem dX8_init_1 : decode cX8_init 1 = .ok (.invokespecial 3, 3) := by decide +kernel
theorem dX8_init_4 : decode cX8_init 4 = .ok (.aload_n 0, 1) := by decide +kernel
theorem dX8_init_5 : decode cX8_init 5 = .ok (.bipush 8, 2) := by decide +kernel
theorem dX8_init_7 : decode cX8_init 7 = .ok (.newarray .int, 2) := by decide +kernel
theorem dX8_init_9 : decode cX8_init 9 = .ok (.putfield 9, 3) := by decide +kernel
theorem dX8_init_12 : decode cX8_init 12 = .ok (.aload_n 0, 1) := by decide +kernel
theorem dX8_init_13 : decode cX8_init 13 = .ok (.sipush 256, 3) := by decide +kernel
theorem dX8_init_16 : decode cX8_init 16 = .ok (.newarray .int, 2) := by decide +kernel
theorem dX8_init_18 : decode cX8_init 18 = .ok (.putfield 15, 3) := by decide +kernel
theorem dX8_init_21 : decode cX8_init 21 = .ok (.aload_n 0, 1) := by decide +kernel
theorem dX8_init_22 : decode cX8_init 22 = .ok (.sipush 256, 3) := by decide +kernel
theorem dX8_init_25 : decode cX8_init 25 = .ok (.newarray .int, 2) := by decide +kernel
theorem dX8_init_27 : decode cX8_init 27 = .ok (.putfield 18, 3) := by decide +kernel
theorem dX8_init_30 : decode cX8_init 30 = .ok (.return_, 1) := by decide +kernel
theorem dX8_fewest_0 : decode cX8_fewest 0 = .ok (.aload_n 0, 1) := by decide +kernel
theorem dX8_fewest_1 : decode cX8_fewest 1 = .ok (.aload_n 1, 1) := by decide +kernel
theorem dX8_fewest_2 : decode cX8_fewest 2 = .ok (.invokevirtual 21, 3) := by decide +kernel
theorem dX8_fewest_5 : decode cX8_fewest 5 = .ok (.iconst 1, 1) := by decide +kernel
theorem dX8_fewest_6 : decode cX8_fewest 6 = .ok (.istore_n 3, 1) := by decide +kernel
theorem dX8_fewest_7 : decode cX8_fewest 7 = .ok (.iload_n 3, 1) := by decide +kernel
theorem dX8_fewest_8 : decode cX8_fewest 8 = .ok (.iconst 1, 1) := by decide +kernel
theorem dX8_fewest_9 : decode cX8_fewest 9 = .ok (.iload_n 2, 1) := by decide +kernel
theorem dX8_fewest_10 : decode cX8_fewest 10 = .ok (.ishl, 1) := by decide +kernel
theorem dX8_fewest_11 : decode cX8_fewest 11 = .ok (.if_icmp .ge 103, 3) := by decide +kernel
theorem dX8_fewest_14 : decode cX8_fewest 14 = .ok (.iconst 0, 1) := by decide +kernel
theorem dX8_fewest_15 : decode cX8_fewest 15 = .ok (.istore 4, 2) := by decide +kernel
theorem dX8_fewest_17 : decode cX8_fewest 17 = .ok (.iconst 0, 1) := by decide +kernel
theorem dX8_fewest_18 : decode cX8_fewest 18 = .ok (.istore 5, 2) := by decide +kernel
theorem dX8_fewest_20 : decode cX8_fewest 20 = .ok (.iload 5, 2) := by decide +kernel
theorem dX8_fewest_22 : decode cX8_fewest 22 = .ok (.iload_n 2, 1) := by decide +kernel
theorem dX8_fewest_23 : decode cX8_fewest 23 = .ok (.if_icmp .ge 61, 3) := by decide +kernel
theorem dX8_fewest_26 : decode cX8_fewest 26 = .ok (.iload_n 3, 1) := by decide +kernel
theorem dX8_fewest_27 : decode cX8_fewest 27 = .ok (.iload 5, 2) := by decide +kernel
theorem dX8_fewest_29 : decode cX8_fewest 29 = .ok (.ishr, 1) := by decide +kernel
theorem dX8_fewest_30 : decode cX8_fewest 30 = .ok (.iconst 1, 1) := by decide +kernel
theorem dX8_fewest_31 : decode cX8_fewest 31 = .ok (.iand, 1) := by decide +kernel
theorem dX8_fewest_32 : decode cX8_fewest 32 = .ok (.ifCond .eq 46, 3) := by decide +kernel
theorem dX8_fewest_35 : decode cX8_fewest 35 = .ok (.iload_n 3, 1) := by decide +kernel
theorem dX8_fewest_36 : decode cX8_fewest 36 = .ok (.iconst 1, 1) := by decide +kernel
theorem dX8_fewest_37 : decode cX8_fewest 37 = .ok (.iload 5, 2) := by decide +kernel
theorem dX8_fewest_39 : decode cX8_fewest 39 = .ok (.ishl, 1) := by decide +kernel
theorem dX8_fewest_40 : decode cX8_fewest 40 = .ok (.ixor, 1) := by decide +kernel
theorem dX8_fewest_41 : decode cX8_fewest 41 = .ok (.istore 6, 2) := by decide +kernel
theorem dX8_fewest_43 : decode cX8_fewest 43 = .ok (.aload_n 0, 1) := by decide +kernel
theorem dX8_fewest_44 : decode cX8_fewest 44 = .ok (.getfield 15, 3) := by decide +kernel
theorem dX8_fewest_47 : decode cX8_fewest 47 = .ok (.iload_n 3, 1) := by decide +kernel
theorem dX8_fewest_48 : decode cX8_fewest 48 = .ok (.aload_n 0, 1) := by decide +kernel
theorem dX8_fewest_49 : decode cX8_fewest 49 = .ok (.getfield 15, 3) := by decide +kernel
theorem dX8_fewest_52 : decode cX8_fewest 52 = .ok (.iload 6, 2) := by decide +kernel
theorem dX8_fewest_54 : decode cX8_fewest 54 = .ok (.iaload, 1) := by decide +kernel
theorem dX8_fewest_55 : decode cX8_fewest 55 = .ok (.aload_n 0, 1) := by decide +kernel
theorem dX8_fewest_56 : decode cX8_fewest 56 = .ok (.getfield 9, 3) := by decide +kernel
theorem dX8_fewest_59 : decode cX8_fewest 59 = .ok (.iload 5, 2) := by decide +kernel
theorem dX8_fewest_61 : decode cX8_fewest 61 = .ok (.iaload, 1) := by decide +kernel
theorem dX8_fewest_62 : decode cX8_fewest 62 = .ok (.iadd, 1) := by decide +kernel
theorem dX8_fewest_63 : decode cX8_fewest 63 = .ok (.iastore, 1) := by decide +kernel
theorem dX8_fewest_64 : decode cX8_fewest 64 = .ok (.iload 4, 2) := by decide +kernel
theorem dX8_fewest_66 : decode cX8_fewest 66 = .ok (.aload_n 0, 1) := by decide +kernel
theorem dX8_fewest_67 : decode cX8_fewest 67 = .ok (.getfield 18, 3) := by decide +kernel
theorem dX8_fewest_70 : decode cX8_fewest 70 = .ok (.iload 6, 2) := by decide +kernel
theorem dX8_fewest_72 : decode cX8_fewest 72 = .ok (.iaload, 1) := by decide +kernel
theorem dX8_fewest_73 : decode cX8_fewest 73 = .ok (.invokestatic 25, 3) := by decide +kernel
theorem dX8_fewest_76 : decode cX8_fewest 76 = .ok (.istore 4, 2) := by decide +kernel
theorem dX8_fewest_78 : decode cX8_fewest 78 = .ok (.iinc 5 1, 3) := by decide +kernel
theorem dX8_fewest_81 : decode cX8_fewest 81 = .ok (.goto (-61), 3) := by decide +kernel
theorem dX8_fewest_84 : decode cX8_fewest 84 = .ok (.aload_n 0, 1) := by decide +kernel
theorem dX8_fewest_85 : decode cX8_fewest 85 = .ok (.getfield 18, 3) := by decide +kernel
theorem dX8_fewest_88 : decode cX8_fewest 88 = .ok (.iload_n 3, 1) := by decide +kernel
theorem dX8_fewest_89 : decode cX8_fewest 89 = .ok (.aload_n 0, 1) := by decide +kernel
theorem dX8_fewest_90 : decode cX8_fewest 90 = .ok (.getfield 15, 3) := by decide +kernel
theorem dX8_fewest_93 : decode cX8_fewest 93 = .ok (.iload_n 3, 1) := by decide +kernel
theorem dX8_fewest_94 : decode cX8_fewest 94 = .ok (.iaload, 1) := by decide +kernel
theorem dX8_fewest_95 : decode cX8_fewest 95 = .ok (.ifCond .ne 10, 3) := by decide +kernel
theorem dX8_fewest_98 : decode cX8_fewest 98 = .ok (.iload 4, 2) := by decide +kernel
theorem dX8_fewest_100 : decode cX8_fewest 100 = .ok (.iconst 1, 1) := by decide +kernel
theorem dX8_fewest_101 : decode cX8_fewest 101 = .ok (.iadd, 1) := by decide +kernel
theorem dX8_fewest_102 : decode cX8_fewest 102 = .ok (.goto 5, 3) := by decide +kernel
theorem dX8_fewest_105 : decode cX8_fewest 105 = .ok (.iload 4, 2) := by decide +kernel
theorem dX8_fewest_107 : decode cX8_fewest 107 = .ok (.iastore, 1) := by decide +kernel
theorem dX8_fewest_108 : decode cX8_fewest 108 = .ok (.iinc 3 1, 3) := by decide +kernel
theorem dX8_fewest_111 : decode cX8_fewest 111 = .ok (.goto (-104), 3) := by decide +kernel
theorem dX8_fewest_114 : decode cX8_fewest 114 = .ok (.iload_n 2, 1) := by decide +kernel
theorem dX8_fewest_115 : decode cX8_fewest 115 = .ok (.aload_n 0, 1) := by decide +kernel
theorem dX8_fewest_116 : decode cX8_fewest 116 = .ok (.getfield 18, 3) := by decide +kernel
theorem dX8_fewest_119 : decode cX8_fewest 119 = .ok (.iconst 1, 1) := by decide +kernel
theorem dX8_fewest_120 : decode cX8_fewest 120 = .ok (.iload_n 2, 1) := by decide +kernel
theorem dX8_fewest_121 : decode cX8_fewest 121 = .ok (.ishl, 1) := by decide +kernel
theorem dX8_fewest_122 : decode cX8_fewest 122 = .ok (.iconst 1, 1) := by decide +kernel
theorem dX8_fewest_123 : decode cX8_fewest 123 = .ok (.isub, 1) := by decide +kernel
theorem dX8_fewest_124 : decode cX8_fewest 124 = .ok (.iaload, 1) := by decide +kernel
theorem dX8_fewest_125 : decode cX8_fewest 125 = .ok (.isub, 1) := by decide +kernel
theorem dX8_fewest_126 : decode cX8_fewest 126 = .ok (.ireturn, 1) := by decide +kernel
theorem dX8_takeNet_0 : decode cX8_takeNet 0 = .ok (.iconst 0, 1) := by decide +kernel
theorem dX8_takeNet_1 : decode cX8_takeNet 1 = .ok (.istore_n 2, 1) := by decide +kernel
theorem dX8_takeNet_2 : decode cX8_takeNet 2 = .ok (.iload_n 2, 1) := by decide +kernel
theorem dX8_takeNet_3 : decode cX8_takeNet 3 = .ok (.bipush 8, 2) := by decide +kernel
theorem dX8_takeNet_5 : decode cX8_takeNet 5 = .ok (.if_icmp .ge 16, 3) := by decide +kernel
theorem dX8_takeNet_8 : decode cX8_takeNet 8 = .ok (.aload_n 0, 1) := by decide +kernel
theorem dX8_takeNet_9 : decode cX8_takeNet 9 = .ok (.getfield 9, 3) := by decide +kernel
theorem dX8_takeNet_12 : decode cX8_takeNet 12 = .ok (.iload_n 2, 1) := by decide +kernel
theorem dX8_takeNet_13 : decode cX8_takeNet 13 = .ok (.iconst 0, 1) := by decide +kernel
theorem dX8_takeNet_14 : decode cX8_takeNet 14 = .ok (.iastore, 1) := by decide +kernel
theorem dX8_takeNet_15 : decode cX8_takeNet 15 = .ok (.iinc 2 1, 3) := by decide +kernel
theorem dX8_takeNet_18 : decode cX8_takeNet 18 = .ok (.goto (-16), 3) := by decide +kernel
theorem dX8_takeNet_21 : decode cX8_takeNet 21 = .ok (.iconst 0, 1) := by decide +kernel
theorem dX8_takeNet_22 : decode cX8_takeNet 22 = .ok (.istore_n 2, 1) := by decide +kernel
theorem dX8_takeNet_23 : decode cX8_takeNet 23 = .ok (.iload_n 2, 1) := by decide +kernel
theorem dX8_takeNet_24 : decode cX8_takeNet 24 = .ok (.aload_n 1, 1) := by decide +kernel
theorem dX8_takeNet_25 : decode cX8_takeNet 25 = .ok (.getfield 31, 3) := by decide +kernel
theorem dX8_takeNet_28 : decode cX8_takeNet 28 = .ok (.if_icmp .ge 60, 3) := by decide +kernel
theorem dX8_takeNet_31 : decode cX8_takeNet 31 = .ok (.aload_n 1, 1) := by decide +kernel
theorem dX8_takeNet_32 : decode cX8_takeNet 32 = .ok (.getfield 37, 3) := by decide +kernel
theorem dX8_takeNet_35 : decode cX8_takeNet 35 = .ok (.iload_n 2, 1) := by decide +kernel
theorem dX8_takeNet_36 : decode cX8_takeNet 36 = .ok (.iaload, 1) := by decide +kernel
theorem dX8_takeNet_37 : decode cX8_takeNet 37 = .ok (.bipush 12, 2) := by decide +kernel
theorem dX8_takeNet_39 : decode cX8_takeNet 39 = .ok (.if_icmp .ne 43, 3) := by decide +kernel
theorem dX8_takeNet_42 : decode cX8_takeNet 42 = .ok (.aload_n 0, 1) := by decide +kernel
theorem dX8_takeNet_43 : decode cX8_takeNet 43 = .ok (.getfield 9, 3) := by decide +kernel
theorem dX8_takeNet_46 : decode cX8_takeNet 46 = .ok (.aload_n 1, 1) := by decide +kernel
theorem dX8_takeNet_47 : decode cX8_takeNet 47 = .ok (.getfield 40, 3) := by decide +kernel
theorem dX8_takeNet_50 : decode cX8_takeNet 50 = .ok (.iload_n 2, 1) := by decide +kernel
theorem dX8_takeNet_51 : decode cX8_takeNet 51 = .ok (.iaload, 1) := by decide +kernel
theorem dX8_takeNet_52 : decode cX8_takeNet 52 = .ok (.dup2, 1) := by decide +kernel
theorem dX8_takeNet_53 : decode cX8_takeNet 53 = .ok (.iaload, 1) := by decide +kernel
theorem dX8_takeNet_54 : decode cX8_takeNet 54 = .ok (.aload_n 1, 1) := by decide +kernel
theorem dX8_takeNet_55 : decode cX8_takeNet 55 = .ok (.getfield 43, 3) := by decide +kernel
theorem dX8_takeNet_58 : decode cX8_takeNet 58 = .ok (.iload_n 2, 1) := by decide +kernel
theorem dX8_takeNet_59 : decode cX8_takeNet 59 = .ok (.iaload, 1) := by decide +kernel
theorem dX8_takeNet_60 : decode cX8_takeNet 60 = .ok (.isub, 1) := by decide +kernel
theorem dX8_takeNet_61 : decode cX8_takeNet 61 = .ok (.iastore, 1) := by decide +kernel
theorem dX8_takeNet_62 : decode cX8_takeNet 62 = .ok (.aload_n 0, 1) := by decide +kernel
theorem dX8_takeNet_63 : decode cX8_takeNet 63 = .ok (.getfield 9, 3) := by decide +kernel
theorem dX8_takeNet_66 : decode cX8_takeNet 66 = .ok (.aload_n 1, 1) := by decide +kernel
theorem dX8_takeNet_67 : decode cX8_takeNet 67 = .ok (.getfield 46, 3) := by decide +kernel
theorem dX8_takeNet_70 : decode cX8_takeNet 70 = .ok (.iload_n 2, 1) := by decide +kernel
theorem dX8_takeNet_71 : decode cX8_takeNet 71 = .ok (.iaload, 1) := by decide +kernel
theorem dX8_takeNet_72 : decode cX8_takeNet 72 = .ok (.dup2, 1) := by decide +kernel
theorem dX8_takeNet_73 : decode cX8_takeNet 73 = .ok (.iaload, 1) := by decide +kernel
theorem dX8_takeNet_74 : decode cX8_takeNet 74 = .ok (.aload_n 1, 1) := by decide +kernel
theorem dX8_takeNet_75 : decode cX8_takeNet 75 = .ok (.getfield 43, 3) := by decide +kernel
theorem dX8_takeNet_78 : decode cX8_takeNet 78 = .ok (.iload_n 2, 1) := by decide +kernel
theorem dX8_takeNet_79 : decode cX8_takeNet 79 = .ok (.iaload, 1) := by decide +kernel
theorem dX8_takeNet_80 : decode cX8_takeNet 80 = .ok (.iadd, 1) := by decide +kernel
theorem dX8_takeNet_81 : decode cX8_takeNet 81 = .ok (.iastore, 1) := by decide +kernel
theorem dX8_takeNet_82 : decode cX8_takeNet 82 = .ok (.iinc 2 1, 3) := by decide +kernel
theorem dX8_takeNet_85 : decode cX8_takeNet 85 = .ok (.goto (-62), 3) := by decide +kernel
theorem dX8_takeNet_88 : decode cX8_takeNet 88 = .ok (.return_, 1) := by decide +kernel
theorem dX9_init_0 : decode cX9_init 0 = .ok (.aload_n 0, 1) := by decide +kernel
theorem dX9_init_1 : decode cX9_init 1 = .ok (.invokespecial 1, 3) := by decide +kernel
theorem dX9_init_4 : decode cX9_init 4 = .ok (.aload_n 0, 1) := by decide +kernel
theorem dX9_init_5 : decode cX9_init 5 = .ok (.new 7, 3) := by decide +kernel
theorem dX9_init_8 : decode cX9_init 8 = .ok (.dup, 1) := by decide +kernel
theorem dX9_init_9 : decode cX9_init 9 = .ok (.invokespecial 9, 3) := by decide +kernel
theorem dX9_init_12 : decode cX9_init 12 = .ok (.putfield 10, 3) := by decide +kernel
theorem dX9_init_15 : decode cX9_init 15 = .ok (.aload_n 0, 1) := by decide +kernel
theorem dX9_init_16 : decode cX9_init 16 = .ok (.new 16, 3) := by decide +kernel
theorem dX9_init_19 : decode cX9_init 19 = .ok (.dup, 1) := by decide +kernel
theorem dX9_init_20 : decode cX9_init 20 = .ok (.invokespecial 18, 3) := by decide +kernel
theorem dX9_init_23 : decode cX9_init 23 = .ok (.putfield 19, 3) := by decide +kernel
theorem dX9_init_26 : decode cX9_init 26 = .ok (.aload_n 0, 1) := by decide +kernel
theorem dX9_init_27 : decode cX9_init 27 = .ok (.new 23, 3) := by decide +kernel
theorem dX9_init_30 : decode cX9_init 30 = .ok (.dup, 1) := by decide +kernel
theorem dX9_init_31 : decode cX9_init 31 = .ok (.invokespecial 25, 3) := by decide +kernel
theorem dX9_init_34 : decode cX9_init 34 = .ok (.putfield 26, 3) := by decide +kernel
theorem dX9_init_37 : decode cX9_init 37 = .ok (.aload_n 0, 1) := by decide +kernel
theorem dX9_init_38 : decode cX9_init 38 = .ok (.new 30, 3) := by decide +kernel
theorem dX9_init_41 : decode cX9_init 41 = .ok (.dup, 1) := by decide +kernel
theorem dX9_init_42 : decode cX9_init 42 = .ok (.invokespecial 32, 3) := by decide +kernel
theorem dX9_init_45 : decode cX9_init 45 = .ok (.putfield 33, 3) := by decide +kernel
theorem dX9_init_48 : decode cX9_init 48 = .ok (.aload_n 0, 1) := by decide +kernel
theorem dX9_init_49 : decode cX9_init 49 = .ok (.new 37, 3) := by decide +kernel
theorem dX9_init_52 : decode cX9_init 52 = .ok (.dup, 1) := by decide +kernel
theorem dX9_init_53 : decode cX9_init 53 = .ok (.invokespecial 39, 3) := by decide +kernel
theorem dX9_init_56 : decode cX9_init 56 = .ok (.putfield 40, 3) := by decide +kernel
theorem dX9_init_59 : decode cX9_init 59 = .ok (.aload_n 0, 1) := by decide +kernel
theorem dX9_init_60 : decode cX9_init 60 = .ok (.new 30, 3) := by decide +kernel
theorem dX9_init_63 : decode cX9_init 63 = .ok (.dup, 1) := by decide +kernel
theorem dX9_init_64 : decode cX9_init 64 = .ok (.invokespecial 32, 3) := by decide +kernel
theorem dX9_init_67 : decode cX9_init 67 = .ok (.putfield 44, 3) := by decide +kernel
theorem dX9_init_70 : decode cX9_init 70 = .ok (.aload_n 0, 1) := by decide +kernel
theorem dX9_init_71 : decode cX9_init 71 = .ok (.new 37, 3) := by decide +kernel
theorem dX9_init_74 : decode cX9_init 74 = .ok (.dup, 1) := by decide +kernel
theorem dX9_init_75 : decode cX9_init 75 = .ok (.invokespecial 39, 3) := by decide +kernel
theorem dX9_init_78 : decode cX9_init 78 = .ok (.putfield 47, 3) := by decide +kernel
theorem dX9_init_81 : decode cX9_init 81 = .ok (.aload_n 0, 1) := by decide +kernel
theorem dX9_init_82 : decode cX9_init 82 = .ok (.new 50, 3) := by decide +kernel
theorem dX9_init_85 : decode cX9_init 85 = .ok (.dup, 1) := by decide +kernel
theorem dX9_init_86 : decode cX9_init 86 = .ok (.invokespecial 52, 3) := by decide +kernel
theorem dX9_init_89 : decode cX9_init 89 = .ok (.putfield 53, 3) := by decide +kernel
theorem dX9_init_92 : decode cX9_init 92 = .ok (.aload_n 0, 1) := by decide +kernel
theorem dX9_init_93 : decode cX9_init 93 = .ok (.new 57, 3) := by decide +kernel
theorem dX9_init_96 : decode cX9_init 96 = .ok (.dup, 1) := by decide +kernel
theorem dX9_init_97 : decode cX9_init 97 = .ok (.invokespecial 59, 3) := by decide +kernel
theorem dX9_init_100 : decode cX9_init 100 = .ok (.putfield 60, 3) := by decide +kernel
theorem dX9_init_103 : decode cX9_init 103 = .ok (.aload_n 0, 1) := by decide +kernel
theorem dX9_init_104 : decode cX9_init 104 = .ok (.bipush 6, 2) := by decide +kernel
theorem dX9_init_106 : decode cX9_init 106 = .ok (.anewarray 64, 3) := by decide +kernel
theorem dX9_init_109 : decode cX9_init 109 = .ok (.putfield 66, 3) := by decide +kernel
theorem dX9_init_112 : decode cX9_init 112 = .ok (.aload_n 0, 1) := by decide +kernel
theorem dX9_init_113 : decode cX9_init 113 = .ok (.bipush 100, 2) := by decide +kernel
theorem dX9_init_115 : decode cX9_init 115 = .ok (.newarray .int, 2) := by decide +kernel
theorem dX9_init_117 : decode cX9_init 117 = .ok (.putfield 70, 3) := by decide +kernel
theorem dX9_init_120 : decode cX9_init 120 = .ok (.iconst 0, 1) := by decide +kernel
theorem dX9_init_121 : decode cX9_init 121 = .ok (.istore_n 1, 1) := by decide +kernel
theorem dX9_init_122 : decode cX9_init 122 = .ok (.iload_n 1, 1) := by decide +kernel
theorem dX9_init_123 : decode cX9_init 123 = .ok (.bipush 6, 2) := by decide +kernel
theorem dX9_init_125 : decode cX9_init 125 = .ok (.if_icmp .ge 22, 3) := by decide +kernel
theorem dX9_init_128 : decode cX9_init 128 = .ok (.aload_n 0, 1) := by decide +kernel
theorem dX9_init_129 : decode cX9_init 129 = .ok (.getfield 66, 3) := by decide +kernel
theorem dX9_init_132 : decode cX9_init 132 = .ok (.iload_n 1, 1) := by decide +kernel
theorem dX9_init_133 : decode cX9_init 133 = .ok (.new 64, 3) := by decide +kernel
theorem dX9_init_136 : decode cX9_init 136 = .ok (.dup, 1) := by decide +kernel
theorem dX9_init_137 : decode cX9_init 137 = .ok (.invokespecial 74, 3) := by decide +kernel
theorem dX9_init_140 : decode cX9_init 140 = .ok (.aastore, 1) := by decide +kernel
theorem dX9_init_141 : decode cX9_init 141 = .ok (.iinc 1 1, 3) := by decide +kernel
theorem dX9_init_144 : decode cX9_init 144 = .ok (.goto (-22), 3) := by decide +kernel
theorem dX9_init_147 : decode cX9_init 147 = .ok (.return_, 1) := by decide +kernel
theorem dX9_person_0 : decode cX9_person 0 = .ok (.iload_n 1, 1) := by decide +kernel
theorem dX9_person_1 : decode cX9_person 1 = .ok (.iconst 1, 1) := by decide +kernel
theorem dX9_person_2 : decode cX9_person 2 = .ok (.bipush 9, 2) := by decide +kernel
theorem dX9_person_4 : decode cX9_person 4 = .ok (.invokestatic 75, 3) := by decide +kernel
theorem dX9_person_7 : decode cX9_person 7 = .ok (.ifCond .ne 5, 3) := by decide +kernel
theorem dX9_person_10 : decode cX9_person 10 = .ok (.iconst (-1), 1) := by decide +kernel
theorem dX9_person_11 : decode cX9_person 11 = .ok (.ireturn, 1) := by decide +kernel
theorem dX9_person_12 : decode cX9_person 12 = .ok (.aload_n 0, 1) := by decide +kernel
theorem dX9_person_13 : decode cX9_person 13 = .ok (.getfield 10, 3) := by decide +kernel
theorem dX9_person_16 : decode cX9_person 16 = .ok (.getfield 79, 3) := by decide +kernel
theorem dX9_person_19 : decode cX9_person 19 = .ok (.bipush 8, 2) := by decide +kernel
theorem dX9_person_21 : decode cX9_person 21 = .ok (.if_icmp .lt 6, 3) := by decide +kernel
theorem dX9_person_24 : decode cX9_person 24 = .ok (.bipush (-3), 2) := by decide +kernel
theorem dX9_person_26 : decode cX9_person 26 = .ok (.ireturn, 1) := by decide +kernel
theorem dX9_person_27 : decode cX9_person 27 = .ok (.aload_n 0, 1) := by decide +kernel
theorem dX9_person_28 : decode cX9_person 28 = .ok (.getfield 10, 3) := by decide +kernel
theorem dX9_person_31 : decode cX9_person 31 = .ok (.iload_n 1, 1) := by decide +kernel
theorem dX9_person_32 : decode cX9_person 32 = .ok (.invokevirtual 83, 3) := by decide +kernel
theorem dX9_person_35 : decode cX9_person 35 = .ok (.ireturn, 1) := by decide +kernel
theorem dX9_debt_0 : decode cX9_debt 0 = .ok (.aload_n 0, 1) := by decide +kernel
theorem dX9_debt_1 : decode cX9_debt 1 = .ok (.getfield 10, 3) := by decide +kernel
theorem dX9_debt_4 : decode cX9_debt 4 = .ok (.iload_n 1, 1) := by decide +kernel
theorem dX9_debt_5 : decode cX9_debt 5 = .ok (.invokevirtual 87, 3) := by decide +kernel
theorem dX9_debt_8 : decode cX9_debt 8 = .ok (.ifCond .eq 21, 3) := by decide +kernel
theorem dX9_debt_11 : decode cX9_debt 11 = .ok (.iload_n 2, 1) := by decide +kernel
theorem dX9_debt_12 : decode cX9_debt 12 = .ok (.ifCond .lt 17, 3) := by decide +kernel
theorem dX9_debt_15 : decode cX9_debt 15 = .ok (.iload_n 2, 1) := by decide +kernel
theorem dX9_debt_16 : decode cX9_debt 16 = .ok (.bipush 100, 2) := by decide +kernel
theorem dX9_debt_18 : decode cX9_debt 18 = .ok (.idiv, 1) := by decide +kernel
theorem dX9_debt_19 : decode cX9_debt 19 = .ok (.iload_n 2, 1) := by decide +kernel
theorem dX9_debt_20 : decode cX9_debt 20 = .ok (.bipush 100, 2) := by decide +kernel
theorem dX9_debt_22 : decode cX9_debt 22 = .ok (.irem, 1) := by decide +kernel
theorem dX9_debt_23 : decode cX9_debt 23 = .ok (.invokestatic 91, 3) := by decide +kernel
theorem dX9_debt_26 : decode cX9_debt 26 = .ok (.ifCond .ne 5, 3) := by decide +kernel
theorem dX9_debt_29 : decode cX9_debt 29 = .ok (.iconst (-1), 1) := by decide +kernel
theorem dX9_debt_30 : decode cX9_debt 30 = .ok (.ireturn, 1) := by decide +kernel
theorem dX9_debt_31 : decode cX9_debt 31 = .ok (.aload_n 0, 1) := by decide +kernel
theorem dX9_debt_32 : decode cX9_debt 32 = .ok (.getfield 33, 3) := by decide +kernel
theorem dX9_debt_35 : decode cX9_debt 35 = .ok (.getfield 95, 3) := by decide +kernel
theorem dX9_debt_38 : decode cX9_debt 38 = .ok (.bipush 20, 2) := by decide +kernel
theorem dX9_debt_40 : decode cX9_debt 40 = .ok (.if_icmp .lt 6, 3) := by decide +kernel
theorem dX9_debt_43 : decode cX9_debt 43 = .ok (.bipush (-3), 2) := by decide +kernel
theorem dX9_debt_45 : decode cX9_debt 45 = .ok (.ireturn, 1) := by decide +kernel
theorem dX9_debt_46 : decode cX9_debt 46 = .ok (.aload_n 0, 1) := by decide +kernel
theorem dX9_debt_47 : decode cX9_debt 47 = .ok (.getfield 33, 3) := by decide +kernel
theorem dX9_debt_50 : decode cX9_debt 50 = .ok (.iload_n 1, 1) := by decide +kernel
theorem dX9_debt_51 : decode cX9_debt 51 = .ok (.bipush 10, 2) := by decide +kernel
theorem dX9_debt_53 : decode cX9_debt 53 = .ok (.idiv, 1) := by decide +kernel
theorem dX9_debt_54 : decode cX9_debt 54 = .ok (.iload_n 1, 1) := by decide +kernel
theorem dX9_debt_55 : decode cX9_debt 55 = .ok (.bipush 10, 2) := by decide +kernel
theorem dX9_debt_57 : decode cX9_debt 57 = .ok (.irem, 1) := by decide +kernel
theorem dX9_debt_58 : decode cX9_debt 58 = .ok (.iload_n 2, 1) := by decide +kernel
theorem dX9_debt_59 : decode cX9_debt 59 = .ok (.bipush 100, 2) := by decide +kernel
theorem dX9_debt_61 : decode cX9_debt 61 = .ok (.idiv, 1) := by decide +kernel
theorem dX9_debt_62 : decode cX9_debt 62 = .ok (.iload_n 2, 1) := by decide +kernel
theorem dX9_debt_63 : decode cX9_debt 63 = .ok (.bipush 100, 2) := by decide +kernel
theorem dX9_debt_65 : decode cX9_debt 65 = .ok (.irem, 1) := by decide +kernel
theorem dX9_debt_66 : decode cX9_debt 66 = .ok (.invokevirtual 98, 3) := by decide +kernel
theorem dX9_debt_69 : decode cX9_debt 69 = .ok (.ireturn, 1) := by decide +kernel
theorem dX9_debts_0 : decode cX9_debts 0 = .ok (.iload_n 1, 1) := by decide +kernel
theorem dX9_debts_1 : decode cX9_debts 1 = .ok (.invokestatic 102, 3) := by decide +kernel
theorem dX9_debts_4 : decode cX9_debts 4 = .ok (.ifCond .eq 13, 3) := by decide +kernel
theorem dX9_debts_7 : decode cX9_debts 7 = .ok (.iload_n 3, 1) := by decide +kernel
theorem dX9_debts_8 : decode cX9_debts 8 = .ok (.iconst 1, 1) := by decide +kernel
theorem dX9_debts_9 : decode cX9_debts 9 = .ok (.bipush 15, 2) := by decide +kernel
theorem dX9_debts_11 : decode cX9_debts 11 = .ok (.invokestatic 75, 3) := by decide +kernel
theorem dX9_debts_14 : decode cX9_debts 14 = .ok (.ifCond .ne 5, 3) := by decide +kernel
theorem dX9_debts_17 : decode cX9_debts 17 = .ok (.iconst (-1), 1) := by decide +kernel
theorem dX9_debts_18 : decode cX9_debts 18 = .ok (.ireturn, 1) := by decide +kernel
theorem dX9_debts_19 : decode cX9_debts 19 = .ok (.aload_n 0, 1) := by decide +kernel
theorem dX9_debts_20 : decode cX9_debts 20 = .ok (.getfield 66, 3) := by decide +kernel
theorem dX9_debts_23 : decode cX9_debts 23 = .ok (.iload_n 1, 1) := by decide +kernel
theorem dX9_debts_24 : decode cX9_debts 24 = .ok (.aaload, 1) := by decide +kernel
theorem dX9_debts_25 : decode cX9_debts 25 = .ok (.astore 4, 2) := by decide +kernel
theorem dX9_debts_27 : decode cX9_debts 27 = .ok (.aload 4, 2) := by decide +kernel
theorem dX9_debts_29 : decode cX9_debts 29 = .ok (.invokevirtual 105, 3) := by decide +kernel
theorem dX9_debts_32 : decode cX9_debts 32 = .ok (.ifCond .eq 5, 3) := by decide +kernel
theorem dX9_debts_35 : decode cX9_debts 35 = .ok (.iconst 0, 1) := by decide +kernel
theorem dX9_debts_36 : decode cX9_debts 36 = .ok (.ireturn, 1) := by decide +kernel
theorem dX9_debts_37 : decode cX9_debts 37 = .ok (.aload 4, 2) := by decide +kernel
theorem dX9_debts_39 : decode cX9_debts 39 = .ok (.getfield 109, 3) := by decide +kernel
theorem dX9_debts_42 : decode cX9_debts 42 = .ok (.ifCond .eq 6, 3) := by decide +kernel
theorem dX9_debts_45 : decode cX9_debts 45 = .ok (.bipush (-12), 2) := by decide +kernel
theorem dX9_debts_47 : decode cX9_debts 47 = .ok (.ireturn, 1) := by decide +kernel
theorem dX9_debts_48 : decode cX9_debts 48 = .ok (.iconst 0, 1) := by decide +kernel
theorem dX9_debts_49 : decode cX9_debts 49 = .ok (.istore 5, 2) := by decide +kernel
theorem dX9_debts_51 : decode cX9_debts 51 = .ok (.iconst 0, 1) := by decide +kernel
theorem dX9_debts_52 : decode cX9_debts 52 = .ok (.istore 6, 2) := by decide +kernel
theorem dX9_debts_54 : decode cX9_debts 54 = .ok (.iload 6, 2) := by decide +kernel
theorem dX9_debts_56 : decode cX9_debts 56 = .ok (.iload_n 3, 1) := by decide +kernel
theorem dX9_debts_57 : decode cX9_debts 57 = .ok (.if_icmp .ge 31, 3) := by decide +kernel
theorem dX9_debts_60 : decode cX9_debts 60 = .ok (.aload_n 0, 1) := by decide +kernel
theorem dX9_debts_61 : decode cX9_debts 61 = .ok (.aload 4, 2) := by decide +kernel
theorem dX9_debts_63 : decode cX9_debts 63 = .ok (.iload_n 2, 1) := by decide +kernel
theorem dX9_debts_64 : decode cX9_debts 64 = .ok (.i2l, 1) := by decide +kernel
theorem dX9_debts_65 : decode cX9_debts 65 = .ok (.ldc2_w 112, 3) := by decide +kernel
theorem dX9_debts_68 : decode cX9_debts 68 = .ok (.iload 6, 2) := by decide +kernel
theorem dX9_debts_70 : decode cX9_debts 70 = .ok (.i2l, 1) := by decide +kernel
theorem dX9_debts_71 : decode cX9_debts 71 = .ok (.lmul, 1) := by decide +kernel
theorem dX9_debts_72 : decode cX9_debts 72 = .ok (.ladd, 1) := by decide +kernel
theorem dX9_debts_73 : decode cX9_debts 73 = .ok (.invokevirtual 114, 3) := by decide +kernel
theorem dX9_debts_76 : decode cX9_debts 76 = .ok (.ifCond .eq 12, 3) := by decide +kernel
theorem dX9_debts_79 : decode cX9_debts 79 = .ok (.iinc 5 1, 3) := by decide +kernel
theorem dX9_debts_82 : decode cX9_debts 82 = .ok (.iinc 6 1, 3) := by decide +kernel
theorem dX9_debts_85 : decode cX9_debts 85 = .ok (.goto (-31), 3) := by decide +kernel
theorem dX9_debts_88 : decode cX9_debts 88 = .ok (.iload 5, 2) := by decide +kernel
theorem dX9_debts_90 : decode cX9_debts 90 = .ok (.ireturn, 1) := by decide +kernel
theorem dX9_mend_0 : decode cX9_mend 0 = .ok (.aload_n 0, 1) := by decide +kernel
theorem dX9_mend_1 : decode cX9_mend 1 = .ok (.getfield 10, 3) := by decide +kernel
theorem dX9_mend_4 : decode cX9_mend 4 = .ok (.iload_n 1, 1) := by decide +kernel
theorem dX9_mend_5 : decode cX9_mend 5 = .ok (.iload_n 2, 1) := by decide +kernel
theorem dX9_mend_6 : decode cX9_mend 6 = .ok (.invokevirtual 118, 3) := by decide +kernel
theorem dX9_mend_9 : decode cX9_mend 9 = .ok (.ifCond .eq 15, 3) := by decide +kernel
theorem dX9_mend_12 : decode cX9_mend 12 = .ok (.aload_n 0, 1) := by decide +kernel
theorem dX9_mend_13 : decode cX9_mend 13 = .ok (.getfield 10, 3) := by decide +kernel
theorem dX9_mend_16 : decode cX9_mend 16 = .ok (.iload_n 2, 1) := by decide +kernel
theorem dX9_mend_17 : decode cX9_mend 17 = .ok (.iload_n 3, 1) := by decide +kernel
theorem dX9_mend_18 : decode cX9_mend 18 = .ok (.invokevirtual 121, 3) := by decide +kernel
theorem dX9_mend_21 : decode cX9_mend 21 = .ok (.ifCond .ne 5, 3) := by decide +kernel
theorem dX9_mend_24 : decode cX9_mend 24 = .ok (.iconst (-1), 1) := by decide +kernel
theorem dX9_mend_25 : decode cX9_mend 25 = .ok (.ireturn, 1) := by decide +kernel
theorem dX9_mend_26 : decode cX9_mend 26 = .ok (.aload_n 0, 1) := by decide +kernel
theorem dX9_mend_27 : decode cX9_mend 27 = .ok (.getfield 10, 3) := by decide +kernel
theorem dX9_mend_30 : decode cX9_mend 30 = .ok (.iload_n 1, 1) := by decide +kernel
theorem dX9_mend_31 : decode cX9_mend 31 = .ok (.iload_n 2, 1) := by decide +kernel
theorem dX9_mend_32 : decode cX9_mend 32 = .ok (.invokevirtual 124, 3) := by decide +kernel
theorem dX9_mend_35 : decode cX9_mend 35 = .ok (.istore 4, 2) := by decide +kernel
theorem dX9_mend_37 : decode cX9_mend 37 = .ok (.iload 4, 2) := by decide +kernel
theorem dX9_mend_39 : decode cX9_mend 39 = .ok (.iload_n 3, 1) := by decide +kernel
theorem dX9_mend_40 : decode cX9_mend 40 = .ok (.if_icmp .eq 25, 3) := by decide +kernel
theorem dX9_mend_43 : decode cX9_mend 43 = .ok (.aload_n 0, 1) := by decide +kernel
theorem dX9_mend_44 : decode cX9_mend 44 = .ok (.getfield 19, 3) := by decide +kernel
theorem dX9_mend_47 : decode cX9_mend 47 = .ok (.iload_n 1, 1) := by decide +kernel
theorem dX9_mend_48 : decode cX9_mend 48 = .ok (.iload_n 2, 1) := by decide +kernel
theorem dX9_mend_49 : decode cX9_mend 49 = .ok (.iload 4, 2) := by decide +kernel
theorem dX9_mend_51 : decode cX9_mend 51 = .ok (.iload_n 3, 1) := by decide +kernel
theorem dX9_mend_52 : decode cX9_mend 52 = .ok (.invokevirtual 128, 3) := by decide +kernel
theorem dX9_mend_55 : decode cX9_mend 55 = .ok (.aload_n 0, 1) := by decide +kernel
theorem dX9_mend_56 : decode cX9_mend 56 = .ok (.getfield 10, 3) := by decide +kernel
theorem dX9_mend_59 : decode cX9_mend 59 = .ok (.iload_n 1, 1) := by decide +kernel
theorem dX9_mend_60 : decode cX9_mend 60 = .ok (.iload_n 2, 1) := by decide +kernel
theorem dX9_mend_61 : decode cX9_mend 61 = .ok (.iload_n 3, 1) := by decide +kernel
theorem dX9_mend_62 : decode cX9_mend 62 = .ok (.invokevirtual 132, 3) := by decide +kernel
theorem dX9_mend_65 : decode cX9_mend 65 = .ok (.iload 4, 2) := by decide +kernel
theorem dX9_mend_67 : decode cX9_mend 67 = .ok (.ireturn, 1) := by decide +kernel
theorem dX9_of_0 : decode cX9_of 0 = .ok (.iload_n 2, 1) := by decide +kernel
theorem dX9_of_1 : decode cX9_of 1 = .ok (.iconst 0, 1) := by decide +kernel
theorem dX9_of_2 : decode cX9_of 2 = .ok (.iconst 4, 1) := by decide +kernel
theorem dX9_of_3 : decode cX9_of 3 = .ok (.invokestatic 75, 3) := by decide +kernel
theorem dX9_of_6 : decode cX9_of 6 = .ok (.ifCond .eq 26, 3) := by decide +kernel
theorem dX9_of_9 : decode cX9_of 9 = .ok (.aload_n 0, 1) := by decide +kernel
theorem dX9_of_10 : decode cX9_of 10 = .ok (.getfield 33, 3) := by decide +kernel
theorem dX9_of_13 : decode cX9_of 13 = .ok (.iload_n 1, 1) := by decide +kernel
theorem dX9_of_14 : decode cX9_of 14 = .ok (.invokevirtual 136, 3) := by decide +kernel
theorem dX9_of_17 : decode cX9_of 17 = .ok (.ifCond .eq 12, 3) := by decide +kernel
theorem dX9_of_20 : decode cX9_of 20 = .ok (.aload_n 0, 1) := by decide +kernel
theorem dX9_of_21 : decode cX9_of 21 = .ok (.iload_n 1, 1) := by decide +kernel
theorem dX9_of_22 : decode cX9_of 22 = .ok (.iload_n 2, 1) := by decide +kernel
theorem dX9_of_23 : decode cX9_of 23 = .ok (.invokevirtual 139, 3) := by decide +kernel
theorem dX9_of_26 : decode cX9_of 26 = .ok (.goto 5, 3) := by decide +kernel
theorem dX9_of_29 : decode cX9_of 29 = .ok (.ldc 142, 2) := by decide +kernel
theorem dX9_of_31 : decode cX9_of 31 = .ok (.ireturn, 1) := by decide +kernel
theorem dX9_of_32 : decode cX9_of 32 = .ok (.iload_n 2, 1) := by decide +kernel
theorem dX9_of_33 : decode cX9_of 33 = .ok (.bipush 10, 2) := by decide +kernel
theorem dX9_of_35 : decode cX9_of 35 = .ok (.bipush 13, 2) := by decide +kernel
theorem dX9_of_37 : decode cX9_of 37 = .ok (.invokestatic 75, 3) := by decide +kernel
theorem dX9_of_40 : decode cX9_of 40 = .ok (.ifCond .eq 26, 3) := by decide +kernel
theorem dX9_of_43 : decode cX9_of 43 = .ok (.aload_n 0, 1) := by decide +kernel
theorem dX9_of_44 : decode cX9_of 44 = .ok (.getfield 10, 3) := by decide +kernel
theorem dX9_of_47 : decode cX9_of 47 = .ok (.iload_n 1, 1) := by decide +kernel
theorem dX9_of_48 : decode cX9_of 48 = .ok (.invokevirtual 143, 3) := by decide +kernel
theorem dX9_of_51 : decode cX9_of 51 = .ok (.ifCond .eq 12, 3) := by decide +kernel
theorem dX9_of_54 : decode cX9_of 54 = .ok (.aload_n 0, 1) := by decide +kernel
theorem dX9_of_55 : decode cX9_of 55 = .ok (.iload_n 1, 1) := by decide +kernel
theorem dX9_of_56 : decode cX9_of 56 = .ok (.iload_n 2, 1) := by decide +kernel
theorem dX9_of_57 : decode cX9_of 57 = .ok (.invokevirtual 146, 3) := by decide +kernel
theorem dX9_of_60 : decode cX9_of 60 = .ok (.goto 5, 3) := by decide +kernel
theorem dX9_of_63 : decode cX9_of 63 = .ok (.ldc 142, 2) := by decide +kernel
theorem dX9_of_65 : decode cX9_of 65 = .ok (.ireturn, 1) := by decide +kernel
theorem dX9_of_66 : decode cX9_of 66 = .ok (.iload_n 2, 1) := by decide +kernel
theorem dX9_of_67 : decode cX9_of 67 = .ok (.bipush 30, 2) := by decide +kernel
theorem dX9_of_69 : decode cX9_of 69 = .ok (.if_icmp .ne 35, 3) := by decide +kernel
theorem dX9_of_72 : decode cX9_of 72 = .ok (.aload_n 0, 1) := by decide +kernel
theorem dX9_of_73 : decode cX9_of 73 = .ok (.getfield 10, 3) := by decide +kernel
theorem dX9_of_76 : decode cX9_of 76 = .ok (.iload_n 1, 1) := by decide +kernel
theorem dX9_of_77 : decode cX9_of 77 = .ok (.invokevirtual 87, 3) := by decide +kernel
theorem dX9_of_80 : decode cX9_of 80 = .ok (.ifCond .eq 21, 3) := by decide +kernel
theorem dX9_of_83 : decode cX9_of 83 = .ok (.aload_n 0, 1) := by decide +kernel
theorem dX9_of_84 : decode cX9_of 84 = .ok (.getfield 33, 3) := by decide +kernel
theorem dX9_of_87 : decode cX9_of 87 = .ok (.iload_n 1, 1) := by decide +kernel
theorem dX9_of_88 : decode cX9_of 88 = .ok (.bipush 10, 2) := by decide +kernel
theorem dX9_of_90 : decode cX9_of 90 = .ok (.idiv, 1) := by decide +kernel
theorem dX9_of_91 : decode cX9_of 91 = .ok (.iload_n 1, 1) := by decide +kernel
theorem dX9_of_92 : decode cX9_of 92 = .ok (.bipush 10, 2) := by decide +kernel
theorem dX9_of_94 : decode cX9_of 94 = .ok (.irem, 1) := by decide +kernel
theorem dX9_of_95 : decode cX9_of 95 = .ok (.invokevirtual 149, 3) := by decide +kernel
theorem dX9_of_98 : decode cX9_of 98 = .ok (.goto 5, 3) := by decide +kernel
theorem dX9_of_101 : decode cX9_of 101 = .ok (.ldc 142, 2) := by decide +kernel
theorem dX9_of_103 : decode cX9_of 103 = .ok (.ireturn, 1) := by decide +kernel
theorem dX9_of_104 : decode cX9_of 104 = .ok (.iload_n 2, 1) := by decide +kernel
theorem dX9_of_105 : decode cX9_of 105 = .ok (.bipush 40, 2) := by decide +kernel
theorem dX9_of_107 : decode cX9_of 107 = .ok (.bipush 42, 2) := by decide +kernel
theorem dX9_of_109 : decode cX9_of 109 = .ok (.invokestatic 75, 3) := by decide +kernel
theorem dX9_of_112 : decode cX9_of 112 = .ok (.ifCond .eq 26, 3) := by decide +kernel
theorem dX9_of_115 : decode cX9_of 115 = .ok (.aload_n 0, 1) := by decide +kernel
theorem dX9_of_116 : decode cX9_of 116 = .ok (.getfield 40, 3) := by decide +kernel
theorem dX9_of_119 : decode cX9_of 119 = .ok (.iload_n 1, 1) := by decide +kernel
theorem dX9_of_120 : decode cX9_of 120 = .ok (.invokevirtual 152, 3) := by decide +kernel
theorem dX9_of_123 : decode cX9_of 123 = .ok (.ifCond .eq 12, 3) := by decide +kernel
theorem dX9_of_126 : decode cX9_of 126 = .ok (.aload_n 0, 1) := by decide +kernel
theorem dX9_of_127 : decode cX9_of 127 = .ok (.iload_n 1, 1) := by decide +kernel
theorem dX9_of_128 : decode cX9_of 128 = .ok (.iload_n 2, 1) := by decide +kernel
theorem dX9_of_129 : decode cX9_of 129 = .ok (.invokevirtual 155, 3) := by decide +kernel
theorem dX9_of_132 : decode cX9_of 132 = .ok (.goto 5, 3) := by decide +kernel
theorem dX9_of_135 : decode cX9_of 135 = .ok (.ldc 142, 2) := by decide +kernel
theorem dX9_of_137 : decode cX9_of 137 = .ok (.ireturn, 1) := by decide +kernel
theorem dX9_of_138 : decode cX9_of 138 = .ok (.iload_n 2, 1) := by decide +kernel
theorem dX9_of_139 : decode cX9_of 139 = .ok (.bipush 20, 2) := by decide +kernel
theorem dX9_of_141 : decode cX9_of 141 = .ok (.if_icmp .ne 30, 3) := by decide +kernel
theorem dX9_of_144 : decode cX9_of 144 = .ok (.aload_n 0, 1) := by decide +kernel
theorem dX9_of_145 : decode cX9_of 145 = .ok (.getfield 10, 3) := by decide +kernel
theorem dX9_of_148 : decode cX9_of 148 = .ok (.iload_n 1, 1) := by decide +kernel
theorem dX9_of_149 : decode cX9_of 149 = .ok (.iconst 0, 1) := by decide +kernel
theorem dX9_of_150 : decode cX9_of 150 = .ok (.invokevirtual 118, 3) := by decide +kernel
theorem dX9_of_153 : decode cX9_of 153 = .ok (.ifCond .eq 15, 3) := by decide +kernel
theorem dX9_of_156 : decode cX9_of 156 = .ok (.aload_n 0, 1) := by decide +kernel
theorem dX9_of_157 : decode cX9_of 157 = .ok (.getfield 10, 3) := by decide +kernel
theorem dX9_of_160 : decode cX9_of 160 = .ok (.iload_n 1, 1) := by decide +kernel
theorem dX9_of_161 : decode cX9_of 161 = .ok (.iconst 0, 1) := by decide +kernel
theorem dX9_of_162 : decode cX9_of 162 = .ok (.invokevirtual 124, 3) := by decide +kernel
theorem dX9_of_165 : decode cX9_of 165 = .ok (.goto 5, 3) := by decide +kernel
theorem dX9_of_168 : decode cX9_of 168 = .ok (.ldc 142, 2) := by decide +kernel
theorem dX9_of_170 : decode cX9_of 170 = .ok (.ireturn, 1) := by decide +kernel
theorem dX9_of_171 : decode cX9_of 171 = .ok (.iload_n 2, 1) := by decide +kernel
theorem dX9_of_172 : decode cX9_of 172 = .ok (.bipush 50, 2) := by decide +kernel
theorem dX9_of_174 : decode cX9_of 174 = .ok (.if_icmp .eq 9, 3) := by decide +kernel
theorem dX9_of_177 : decode cX9_of 177 = .ok (.iload_n 2, 1) := by decide +kernel
theorem dX9_of_178 : decode cX9_of 178 = .ok (.bipush 51, 2) := by decide +kernel
theorem dX9_of_180 : decode cX9_of 180 = .ok (.if_icmp .ne 42, 3) := by decide +kernel
theorem dX9_of_183 : decode cX9_of 183 = .ok (.iload_n 2, 1) := by decide +kernel
theorem dX9_of_184 : decode cX9_of 184 = .ok (.bipush 50, 2) := by decide +kernel
theorem dX9_of_186 : decode cX9_of 186 = .ok (.if_icmp .ne 7, 3) := by decide +kernel
theorem dX9_of_189 : decode cX9_of 189 = .ok (.iconst 2, 1) := by decide +kernel
theorem dX9_of_190 : decode cX9_of 190 = .ok (.goto 4, 3) := by decide +kernel
theorem dX9_of_193 : decode cX9_of 193 = .ok (.iconst 3, 1) := by decide +kernel
theorem dX9_of_194 : decode cX9_of 194 = .ok (.istore_n 3, 1) := by decide +kernel
theorem dX9_of_195 : decode cX9_of 195 = .ok (.aload_n 0, 1) := by decide +kernel
theorem dX9_of_196 : decode cX9_of 196 = .ok (.getfield 10, 3) := by decide +kernel
theorem dX9_of_199 : decode cX9_of 199 = .ok (.iload_n 1, 1) := by decide +kernel
theorem dX9_of_200 : decode cX9_of 200 = .ok (.iload_n 3, 1) := by decide +kernel
theorem dX9_of_201 : decode cX9_of 201 = .ok (.invokevirtual 118, 3) := by decide +kernel
theorem dX9_of_204 : decode cX9_of 204 = .ok (.ifCond .eq 15, 3) := by decide +kernel
theorem dX9_of_207 : decode cX9_of 207 = .ok (.aload_n 0, 1) := by decide +kernel
theorem dX9_of_208 : decode cX9_of 208 = .ok (.getfield 10, 3) := by decide +kernel
theorem dX9_of_211 : decode cX9_of 211 = .ok (.iload_n 1, 1) := by decide +kernel
theorem dX9_of_212 : decode cX9_of 212 = .ok (.iload_n 3, 1) := by decide +kernel
theorem dX9_of_213 : decode cX9_of 213 = .ok (.invokevirtual 124, 3) := by decide +kernel
theorem dX9_of_216 : decode cX9_of 216 = .ok (.goto 5, 3) := by decide +kernel
theorem dX9_of_219 : decode cX9_of 219 = .ok (.ldc 142, 2) := by decide +kernel
theorem dX9_of_221 : decode cX9_of 221 = .ok (.ireturn, 1) := by decide +kernel
theorem dX9_of_222 : decode cX9_of 222 = .ok (.ldc 142, 2) := by decide +kernel
theorem dX9_of_224 : decode cX9_of 224 = .ok (.ireturn, 1) := by decide +kernel
theorem dX9_feed_0 : decode cX9_feed 0 = .ok (.iload_n 1, 1) := by decide +kernel
theorem dX9_feed_1 : decode cX9_feed 1 = .ok (.iconst 0, 1) := by decide +kernel
theorem dX9_feed_2 : decode cX9_feed 2 = .ok (.sipush 255, 3) := by decide +kernel
theorem dX9_feed_5 : decode cX9_feed 5 = .ok (.invokestatic 75, 3) := by decide +kernel
theorem dX9_feed_8 : decode cX9_feed 8 = .ok (.ifCond .ne 5, 3) := by decide +kernel
theorem dX9_feed_11 : decode cX9_feed 11 = .ok (.iconst (-1), 1) := by decide +kernel
theorem dX9_feed_12 : decode cX9_feed 12 = .ok (.ireturn, 1) := by decide +kernel
theorem dX9_feed_13 : decode cX9_feed 13 = .ok (.aload_n 0, 1) := by decide +kernel
theorem dX9_feed_14 : decode cX9_feed 14 = .ok (.getfield 26, 3) := by decide +kernel
theorem dX9_feed_17 : decode cX9_feed 17 = .ok (.getfield 158, 3) := by decide +kernel
theorem dX9_feed_20 : decode cX9_feed 20 = .ok (.bipush 120, 2) := by decide +kernel
theorem dX9_feed_22 : decode cX9_feed 22 = .ok (.if_icmp .lt 6, 3) := by decide +kernel
theorem dX9_feed_25 : decode cX9_feed 25 = .ok (.bipush (-3), 2) := by decide +kernel
theorem dX9_feed_27 : decode cX9_feed 27 = .ok (.ireturn, 1) := by decide +kernel
theorem dX9_feed_28 : decode cX9_feed 28 = .ok (.aload_n 0, 1) := by decide +kernel
theorem dX9_feed_29 : decode cX9_feed 29 = .ok (.getfield 26, 3) := by decide +kernel
theorem dX9_feed_32 : decode cX9_feed 32 = .ok (.iload_n 1, 1) := by decide +kernel
theorem dX9_feed_33 : decode cX9_feed 33 = .ok (.invokevirtual 161, 3) := by decide +kernel
theorem dX9_feed_36 : decode cX9_feed 36 = .ok (.ireturn, 1) := by decide +kernel
theorem dX9_law_0 : decode cX9_law 0 = .ok (.aload_n 0, 1) := by decide +kernel
theorem dX9_law_1 : decode cX9_law 1 = .ok (.getfield 26, 3) := by decide +kernel
theorem dX9_law_4 : decode cX9_law 4 = .ok (.invokevirtual 164, 3) := by decide +kernel
theorem dX9_law_7 : decode cX9_law 7 = .ok (.ireturn, 1) := by decide +kernel
theorem dX9_worth_0 : decode cX9_worth 0 = .ok (.aload_n 0, 1) := by decide +kernel
theorem dX9_worth_1 : decode cX9_worth 1 = .ok (.getfield 10, 3) := by decide +kernel
theorem dX9_worth_4 : decode cX9_worth 4 = .ok (.iload_n 1, 1) := by decide +kernel
theorem dX9_worth_5 : decode cX9_worth 5 = .ok (.invokevirtual 87, 3) := by decide +kernel
theorem dX9_worth_8 : decode cX9_worth 8 = .ok (.ifCond .eq 10, 3) := by decide +kernel
theorem dX9_worth_11 : decode cX9_worth 11 = .ok (.iload_n 2, 1) := by decide +kernel
theorem dX9_worth_12 : decode cX9_worth 12 = .ok (.invokestatic 168, 3) := by decide +kernel
theorem dX9_worth_15 : decode cX9_worth 15 = .ok (.ifCond .ne 5, 3) := by decide +kernel
theorem dX9_worth_18 : decode cX9_worth 18 = .ok (.iconst (-1), 1) := by decide +kernel
theorem dX9_worth_19 : decode cX9_worth 19 = .ok (.ireturn, 1) := by decide +kernel
theorem dX9_worth_20 : decode cX9_worth 20 = .ok (.aload_n 0, 1) := by decide +kernel
theorem dX9_worth_21 : decode cX9_worth 21 = .ok (.iload_n 1, 1) := by decide +kernel
theorem dX9_worth_22 : decode cX9_worth 22 = .ok (.bipush 10, 2) := by decide +kernel
theorem dX9_worth_24 : decode cX9_worth 24 = .ok (.idiv, 1) := by decide +kernel
theorem dX9_worth_25 : decode cX9_worth 25 = .ok (.iload_n 1, 1) := by decide +kernel
theorem dX9_worth_26 : decode cX9_worth 26 = .ok (.bipush 10, 2) := by decide +kernel
theorem dX9_worth_28 : decode cX9_worth 28 = .ok (.irem, 1) := by decide +kernel
theorem dX9_worth_29 : decode cX9_worth 29 = .ok (.iload_n 2, 1) := by decide +kernel
theorem dX9_worth_30 : decode cX9_worth 30 = .ok (.invokevirtual 171, 3) := by decide +kernel
theorem dX9_worth_33 : decode cX9_worth 33 = .ok (.ireturn, 1) := by decide +kernel
theorem dX9_ask_0 : decode cX9_ask 0 = .ok (.aload_n 0, 1) := by decide +kernel
theorem dX9_ask_1 : decode cX9_ask 1 = .ok (.getfield 33, 3) := by decide +kernel
theorem dX9_ask_4 : decode cX9_ask 4 = .ok (.iload_n 1, 1) := by decide +kernel
theorem dX9_ask_5 : decode cX9_ask 5 = .ok (.invokevirtual 136, 3) := by decide +kernel
theorem dX9_ask_8 : decode cX9_ask 8 = .ok (.ifCond .eq 28, 3) := by decide +kernel
theorem dX9_ask_11 : decode cX9_ask 11 = .ok (.iload_n 2, 1) := by decide +kernel
theorem dX9_ask_12 : decode cX9_ask 12 = .ok (.aload_n 0, 1) := by decide +kernel
theorem dX9_ask_13 : decode cX9_ask 13 = .ok (.getfield 40, 3) := by decide +kernel
theorem dX9_ask_16 : decode cX9_ask 16 = .ok (.getfield 175, 3) := by decide +kernel
theorem dX9_ask_19 : decode cX9_ask 19 = .ok (.iconst 3, 1) := by decide +kernel
theorem dX9_ask_20 : decode cX9_ask 20 = .ok (.iadd, 1) := by decide +kernel
theorem dX9_ask_21 : decode cX9_ask 21 = .ok (.bipush 47, 2) := by decide +kernel
theorem dX9_ask_23 : decode cX9_ask 23 = .ok (.invokestatic 75, 3) := by decide +kernel
theorem dX9_ask_26 : decode cX9_ask 26 = .ok (.ifCond .eq 10, 3) := by decide +kernel
theorem dX9_ask_29 : decode cX9_ask 29 = .ok (.iload_n 2, 1) := by decide +kernel
theorem dX9_ask_30 : decode cX9_ask 30 = .ok (.invokestatic 178, 3) := by decide +kernel
theorem dX9_ask_33 : decode cX9_ask 33 = .ok (.ifCond .eq 5, 3) := by decide +kernel
theorem dX9_ask_36 : decode cX9_ask 36 = .ok (.iconst (-1), 1) := by decide +kernel
theorem dX9_ask_37 : decode cX9_ask 37 = .ok (.ireturn, 1) := by decide +kernel
theorem dX9_ask_38 : decode cX9_ask 38 = .ok (.aload_n 0, 1) := by decide +kernel
theorem dX9_ask_39 : decode cX9_ask 39 = .ok (.getfield 33, 3) := by decide +kernel
theorem dX9_ask_42 : decode cX9_ask 42 = .ok (.iload_n 1, 1) := by decide +kernel
theorem dX9_ask_43 : decode cX9_ask 43 = .ok (.invokevirtual 181, 3) := by decide +kernel
theorem dX9_ask_46 : decode cX9_ask 46 = .ok (.ifCond .ne 6, 3) := by decide +kernel
theorem dX9_ask_49 : decode cX9_ask 49 = .ok (.bipush (-5), 2) := by decide +kernel
theorem dX9_ask_51 : decode cX9_ask 51 = .ok (.ireturn, 1) := by decide +kernel
theorem dX9_ask_52 : decode cX9_ask 52 = .ok (.aload_n 0, 1) := by decide +kernel
theorem dX9_ask_53 : decode cX9_ask 53 = .ok (.getfield 40, 3) := by decide +kernel
theorem dX9_ask_56 : decode cX9_ask 56 = .ok (.getfield 184, 3) := by decide +kernel
theorem dX9_ask_59 : decode cX9_ask 59 = .ok (.bipush 30, 2) := by decide +kernel
theorem dX9_ask_61 : decode cX9_ask 61 = .ok (.if_icmp .lt 6, 3) := by decide +kernel
theorem dX9_ask_64 : decode cX9_ask 64 = .ok (.bipush (-3), 2) := by decide +kernel
theorem dX9_ask_66 : decode cX9_ask 66 = .ok (.ireturn, 1) := by decide +kernel
theorem dX9_ask_67 : decode cX9_ask 67 = .ok (.aload_n 0, 1) := by decide +kernel
theorem dX9_ask_68 : decode cX9_ask 68 = .ok (.getfield 40, 3) := by decide +kernel
theorem dX9_ask_71 : decode cX9_ask 71 = .ok (.iload_n 1, 1) := by decide +kernel
theorem dX9_ask_72 : decode cX9_ask 72 = .ok (.iload_n 2, 1) := by decide +kernel
theorem dX9_ask_73 : decode cX9_ask 73 = .ok (.invokevirtual 187, 3) := by decide +kernel
theorem dX9_ask_76 : decode cX9_ask 76 = .ok (.ireturn, 1) := by decide +kernel
theorem dX9_has_0 : decode cX9_has 0 = .ok (.aload_n 0, 1) := by decide +kernel
theorem dX9_has_1 : decode cX9_has 1 = .ok (.getfield 10, 3) := by decide +kernel
theorem dX9_has_4 : decode cX9_has 4 = .ok (.iload_n 1, 1) := by decide +kernel
theorem dX9_has_5 : decode cX9_has 5 = .ok (.invokevirtual 143, 3) := by decide +kernel
theorem dX9_has_8 : decode cX9_has 8 = .ok (.ifCond .eq 19, 3) := by decide +kernel
theorem dX9_has_11 : decode cX9_has 11 = .ok (.iload_n 2, 1) := by decide +kernel
theorem dX9_has_12 : decode cX9_has 12 = .ok (.aload_n 0, 1) := by decide +kernel
theorem dX9_has_13 : decode cX9_has 13 = .ok (.getfield 40, 3) := by decide +kernel
theorem dX9_has_16 : decode cX9_has 16 = .ok (.getfield 175, 3) := by decide +kernel
theorem dX9_has_19 : decode cX9_has 19 = .ok (.bipush 47, 2) := by decide +kernel
theorem dX9_has_21 : decode cX9_has 21 = .ok (.invokestatic 75, 3) := by decide +kernel
theorem dX9_has_24 : decode cX9_has 24 = .ok (.ifCond .ne 5, 3) := by decide +kernel
theorem dX9_has_27 : decode cX9_has 27 = .ok (.iconst (-1), 1) := by decide +kernel
theorem dX9_has_28 : decode cX9_has 28 = .ok (.ireturn, 1) := by decide +kernel
theorem dX9_has_29 : decode cX9_has 29 = .ok (.aload_n 0, 1) := by decide +kernel
theorem dX9_has_30 : decode cX9_has 30 = .ok (.iload_n 1, 1) := by decide +kernel
theorem dX9_has_31 : decode cX9_has 31 = .ok (.iload_n 2, 1) := by decide +kernel
theorem dX9_has_32 : decode cX9_has 32 = .ok (.invokevirtual 190, 3) := by decide +kernel
theorem dX9_has_35 : decode cX9_has 35 = .ok (.istore_n 3, 1) := by decide +kernel
theorem dX9_has_36 : decode cX9_has 36 = .ok (.iload_n 3, 1) := by decide +kernel
theorem dX9_has_37 : decode cX9_has 37 = .ok (.ifCond .ge 8, 3) := by decide +kernel
theorem dX9_has_40 : decode cX9_has 40 = .ok (.bipush (-2), 2) := by decide +kernel
theorem dX9_has_42 : decode cX9_has 42 = .ok (.goto 12, 3) := by decide +kernel
theorem dX9_has_45 : decode cX9_has 45 = .ok (.aload_n 0, 1) := by decide +kernel
theorem dX9_has_46 : decode cX9_has 46 = .ok (.getfield 33, 3) := by decide +kernel
theorem dX9_has_49 : decode cX9_has 49 = .ok (.getfield 193, 3) := by decide +kernel
theorem dX9_has_52 : decode cX9_has 52 = .ok (.iload_n 3, 1) := by decide +kernel
theorem dX9_has_53 : decode cX9_has 53 = .ok (.iaload, 1) := by decide +kernel
theorem dX9_has_54 : decode cX9_has 54 = .ok (.ireturn, 1) := by decide +kernel
theorem dX9_go_0 : decode cX9_go 0 = .ok (.iload_n 2, 1) := by decide +kernel
theorem dX9_go_1 : decode cX9_go 1 = .ok (.iconst 1, 1) := by decide +kernel
theorem dX9_go_2 : decode cX9_go 2 = .ok (.bipush 48, 2) := by decide +kernel
theorem dX9_go_4 : decode cX9_go 4 = .ok (.invokestatic 75, 3) := by decide +kernel
theorem dX9_go_7 : decode cX9_go 7 = .ok (.ifCond .ne 5, 3) := by decide +kernel
theorem dX9_go_10 : decode cX9_go 10 = .ok (.iconst (-1), 1) := by decide +kernel
theorem dX9_go_11 : decode cX9_go 11 = .ok (.ireturn, 1) := by decide +kernel
theorem dX9_go_12 : decode cX9_go 12 = .ok (.iload_n 2, 1) := by decide +kernel
theorem dX9_go_13 : decode cX9_go 13 = .ok (.bipush 48, 2) := by decide +kernel
theorem dX9_go_15 : decode cX9_go 15 = .ok (.aload_n 0, 1) := by decide +kernel
theorem dX9_go_16 : decode cX9_go 16 = .ok (.getfield 40, 3) := by decide +kernel
theorem dX9_go_19 : decode cX9_go 19 = .ok (.getfield 175, 3) := by decide +kernel
theorem dX9_go_22 : decode cX9_go 22 = .ok (.isub, 1) := by decide +kernel
theorem dX9_go_23 : decode cX9_go 23 = .ok (.if_icmp .le 6, 3) := by decide +kernel
theorem dX9_go_26 : decode cX9_go 26 = .ok (.bipush (-5), 2) := by decide +kernel
theorem dX9_go_28 : decode cX9_go 28 = .ok (.ireturn, 1) := by decide +kernel
theorem dX9_go_29 : decode cX9_go 29 = .ok (.iload_n 1, 1) := by decide +kernel
theorem dX9_go_30 : decode cX9_go 30 = .ok (.istore_n 3, 1) := by decide +kernel
theorem dX9_go_31 : decode cX9_go 31 = .ok (.iconst 0, 1) := by decide +kernel
theorem dX9_go_32 : decode cX9_go 32 = .ok (.istore 4, 2) := by decide +kernel
theorem dX9_go_34 : decode cX9_go 34 = .ok (.iconst 0, 1) := by decide +kernel
theorem dX9_go_35 : decode cX9_go 35 = .ok (.istore 5, 2) := by decide +kernel
theorem dX9_go_37 : decode cX9_go 37 = .ok (.iload 5, 2) := by decide +kernel
theorem dX9_go_39 : decode cX9_go 39 = .ok (.iload_n 2, 1) := by decide +kernel
theorem dX9_go_40 : decode cX9_go 40 = .ok (.if_icmp .ge 100, 3) := by decide +kernel
theorem dX9_go_43 : decode cX9_go 43 = .ok (.iconst 0, 1) := by decide +kernel
theorem dX9_go_44 : decode cX9_go 44 = .ok (.istore 6, 2) := by decide +kernel
theorem dX9_go_46 : decode cX9_go 46 = .ok (.iload 6, 2) := by decide +kernel
theorem dX9_go_48 : decode cX9_go 48 = .ok (.aload_n 0, 1) := by decide +kernel
theorem dX9_go_49 : decode cX9_go 49 = .ok (.getfield 10, 3) := by decide +kernel
theorem dX9_go_52 : decode cX9_go 52 = .ok (.getfield 79, 3) := by decide +kernel
theorem dX9_go_55 : decode cX9_go 55 = .ok (.if_icmp .ge 72, 3) := by decide +kernel
theorem dX9_go_58 : decode cX9_go 58 = .ok (.iload_n 3, 1) := by decide +kernel
theorem dX9_go_59 : decode cX9_go 59 = .ok (.ldc 196, 2) := by decide +kernel
theorem dX9_go_61 : decode cX9_go 61 = .ok (.imul, 1) := by decide +kernel
theorem dX9_go_62 : decode cX9_go 62 = .ok (.sipush 12345, 3) := by decide +kernel
theorem dX9_go_65 : decode cX9_go 65 = .ok (.iadd, 1) := by decide +kernel
theorem dX9_go_66 : decode cX9_go 66 = .ok (.istore_n 3, 1) := by decide +kernel
theorem dX9_go_67 : decode cX9_go 67 = .ok (.aload_n 0, 1) := by decide +kernel
theorem dX9_go_68 : decode cX9_go 68 = .ok (.getfield 40, 3) := by decide +kernel
theorem dX9_go_71 : decode cX9_go 71 = .ok (.getfield 175, 3) := by decide +kernel
theorem dX9_go_74 : decode cX9_go 74 = .ok (.invokestatic 178, 3) := by decide +kernel
theorem dX9_go_77 : decode cX9_go 77 = .ok (.ifCond .ne 24, 3) := by decide +kernel
theorem dX9_go_80 : decode cX9_go 80 = .ok (.iload_n 3, 1) := by decide +kernel
theorem dX9_go_81 : decode cX9_go 81 = .ok (.bipush 8, 2) := by decide +kernel
theorem dX9_go_83 : decode cX9_go 83 = .ok (.iushr, 1) := by decide +kernel
theorem dX9_go_84 : decode cX9_go 84 = .ok (.bipush 12, 2) := by decide +kernel
theorem dX9_go_86 : decode cX9_go 86 = .ok (.irem, 1) := by decide +kernel
theorem dX9_go_87 : decode cX9_go 87 = .ok (.aload_n 0, 1) := by decide +kernel
theorem dX9_go_88 : decode cX9_go 88 = .ok (.getfield 10, 3) := by decide +kernel
theorem dX9_go_91 : decode cX9_go 91 = .ok (.getfield 197, 3) := by decide +kernel
theorem dX9_go_94 : decode cX9_go 94 = .ok (.if_icmp .ge 7, 3) := by decide +kernel
theorem dX9_go_97 : decode cX9_go 97 = .ok (.iconst 1, 1) := by decide +kernel
theorem dX9_go_98 : decode cX9_go 98 = .ok (.goto 4, 3) := by decide +kernel
theorem dX9_go_101 : decode cX9_go 101 = .ok (.iconst 0, 1) := by decide +kernel
theorem dX9_go_102 : decode cX9_go 102 = .ok (.istore 7, 2) := by decide +kernel
theorem dX9_go_104 : decode cX9_go 104 = .ok (.iload 7, 2) := by decide +kernel
theorem dX9_go_106 : decode cX9_go 106 = .ok (.ifCond .ne 15, 3) := by decide +kernel
theorem dX9_go_109 : decode cX9_go 109 = .ok (.aload_n 0, 1) := by decide +kernel
theorem dX9_go_110 : decode cX9_go 110 = .ok (.iload 6, 2) := by decide +kernel
theorem dX9_go_112 : decode cX9_go 112 = .ok (.invokevirtual 200, 3) := by decide +kernel
theorem dX9_go_115 : decode cX9_go 115 = .ok (.ifCond .eq 6, 3) := by decide +kernel
theorem dX9_go_118 : decode cX9_go 118 = .ok (.iinc 4 1, 3) := by decide +kernel
theorem dX9_go_121 : decode cX9_go 121 = .ok (.iinc 6 1, 3) := by decide +kernel
theorem dX9_go_124 : decode cX9_go 124 = .ok (.goto (-78), 3) := by decide +kernel
theorem dX9_go_127 : decode cX9_go 127 = .ok (.aload_n 0, 1) := by decide +kernel
theorem dX9_go_128 : decode cX9_go 128 = .ok (.getfield 40, 3) := by decide +kernel
theorem dX9_go_131 : decode cX9_go 131 = .ok (.invokevirtual 203, 3) := by decide +kernel
theorem dX9_go_134 : decode cX9_go 134 = .ok (.iinc 5 1, 3) := by decide +kernel
theorem dX9_go_137 : decode cX9_go 137 = .ok (.goto (-100), 3) := by decide +kernel
theorem dX9_go_140 : decode cX9_go 140 = .ok (.iload 4, 2) := by decide +kernel
theorem dX9_go_142 : decode cX9_go 142 = .ok (.ireturn, 1) := by decide +kernel
theorem dX9_led_0 : decode cX9_led 0 = .ok (.iload_n 1, 1) := by decide +kernel
theorem dX9_led_1 : decode cX9_led 1 = .ok (.ifCond .lt 40, 3) := by decide +kernel
theorem dX9_led_4 : decode cX9_led 4 = .ok (.iload_n 1, 1) := by decide +kernel
theorem dX9_led_5 : decode cX9_led 5 = .ok (.bipush 10, 2) := by decide +kernel
theorem dX9_led_7 : decode cX9_led 7 = .ok (.idiv, 1) := by decide +kernel
theorem dX9_led_8 : decode cX9_led 8 = .ok (.aload_n 0, 1) := by decide +kernel
theorem dX9_led_9 : decode cX9_led 9 = .ok (.getfield 40, 3) := by decide +kernel
theorem dX9_led_12 : decode cX9_led 12 = .ok (.getfield 175, 3) := by decide +kernel
theorem dX9_led_15 : decode cX9_led 15 = .ok (.if_icmp .ge 26, 3) := by decide +kernel
theorem dX9_led_18 : decode cX9_led 18 = .ok (.aload_n 0, 1) := by decide +kernel
theorem dX9_led_19 : decode cX9_led 19 = .ok (.getfield 10, 3) := by decide +kernel
theorem dX9_led_22 : decode cX9_led 22 = .ok (.iload_n 1, 1) := by decide +kernel
theorem dX9_led_23 : decode cX9_led 23 = .ok (.bipush 10, 2) := by decide +kernel
theorem dX9_led_25 : decode cX9_led 25 = .ok (.irem, 1) := by decide +kernel
theorem dX9_led_26 : decode cX9_led 26 = .ok (.invokevirtual 143, 3) := by decide +kernel
theorem dX9_led_29 : decode cX9_led 29 = .ok (.ifCond .eq 12, 3) := by decide +kernel
theorem dX9_led_32 : decode cX9_led 32 = .ok (.iload_n 2, 1) := by decide +kernel
theorem dX9_led_33 : decode cX9_led 33 = .ok (.iconst 0, 1) := by decide +kernel
theorem dX9_led_34 : decode cX9_led 34 = .ok (.iconst 1, 1) := by decide +kernel
theorem dX9_led_35 : decode cX9_led 35 = .ok (.invokestatic 75, 3) := by decide +kernel
theorem dX9_led_38 : decode cX9_led 38 = .ok (.ifCond .ne 5, 3) := by decide +kernel
theorem dX9_led_41 : decode cX9_led 41 = .ok (.iconst (-1), 1) := by decide +kernel
theorem dX9_led_42 : decode cX9_led 42 = .ok (.ireturn, 1) := by decide +kernel
theorem dX9_led_43 : decode cX9_led 43 = .ok (.iload_n 1, 1) := by decide +kernel
theorem dX9_led_44 : decode cX9_led 44 = .ok (.bipush 10, 2) := by decide +kernel
theorem dX9_led_46 : decode cX9_led 46 = .ok (.idiv, 1) := by decide +kernel
theorem dX9_led_47 : decode cX9_led 47 = .ok (.iload_n 1, 1) := by decide +kernel
theorem dX9_led_48 : decode cX9_led 48 = .ok (.bipush 10, 2) := by decide +kernel
theorem dX9_led_50 : decode cX9_led 50 = .ok (.irem, 1) := by decide +kernel
theorem dX9_led_51 : decode cX9_led 51 = .ok (.invokestatic 206, 3) := by decide +kernel
theorem dX9_led_54 : decode cX9_led 54 = .ok (.istore_n 3, 1) := by decide +kernel
theorem dX9_led_55 : decode cX9_led 55 = .ok (.iload_n 2, 1) := by decide +kernel
theorem dX9_led_56 : decode cX9_led 56 = .ok (.ifCond .ne 15, 3) := by decide +kernel
theorem dX9_led_59 : decode cX9_led 59 = .ok (.aload_n 0, 1) := by decide +kernel
theorem dX9_led_60 : decode cX9_led 60 = .ok (.getfield 40, 3) := by decide +kernel
theorem dX9_led_63 : decode cX9_led 63 = .ok (.getfield 209, 3) := by decide +kernel
theorem dX9_led_66 : decode cX9_led 66 = .ok (.iload_n 3, 1) := by decide +kernel
theorem dX9_led_67 : decode cX9_led 67 = .ok (.iaload, 1) := by decide +kernel
theorem dX9_led_68 : decode cX9_led 68 = .ok (.goto 12, 3) := by decide +kernel
theorem dX9_led_71 : decode cX9_led 71 = .ok (.aload_n 0, 1) := by decide +kernel
theorem dX9_led_72 : decode cX9_led 72 = .ok (.getfield 40, 3) := by decide +kernel
theorem dX9_led_75 : decode cX9_led 75 = .ok (.getfield 212, 3) := by decide +kernel
theorem dX9_led_78 : decode cX9_led 78 = .ok (.iload_n 3, 1) := by decide +kernel
theorem dX9_led_79 : decode cX9_led 79 = .ok (.iaload, 1) := by decide +kernel
theorem dX9_led_80 : decode cX9_led 80 = .ok (.ireturn, 1) := by decide +kernel
theorem dX9_waits_0 : decode cX9_waits 0 = .ok (.aload_n 0, 1) := by decide +kernel
theorem dX9_waits_1 : decode cX9_waits 1 = .ok (.getfield 40, 3) := by decide +kernel
theorem dX9_waits_4 : decode cX9_waits 4 = .ok (.invokevirtual 215, 3) := by decide +kernel
theorem dX9_waits_7 : decode cX9_waits 7 = .ok (.ireturn, 1) := by decide +kernel
theorem dX9_bestDay_0 : decode cX9_bestDay 0 = .ok (.aload_n 0, 1) := by decide +kernel
theorem dX9_bestDay_1 : decode cX9_bestDay 1 = .ok (.getfield 33, 3) := by decide +kernel
theorem dX9_bestDay_4 : decode cX9_bestDay 4 = .ok (.iload_n 1, 1) := by decide +kernel
theorem dX9_bestDay_5 : decode cX9_bestDay 5 = .ok (.invokevirtual 136, 3) := by decide +kernel
theorem dX9_bestDay_8 : decode cX9_bestDay 8 = .ok (.ifCond .eq 12, 3) := by decide +kernel
theorem dX9_bestDay_11 : decode cX9_bestDay 11 = .ok (.iload_n 2, 1) := by decide +kernel
theorem dX9_bestDay_12 : decode cX9_bestDay 12 = .ok (.iconst 0, 1) := by decide +kernel
theorem dX9_bestDay_13 : decode cX9_bestDay 13 = .ok (.iconst 1, 1) := by decide +kernel
theorem dX9_bestDay_14 : decode cX9_bestDay 14 = .ok (.invokestatic 75, 3) := by decide +kernel
theorem dX9_bestDay_17 : decode cX9_bestDay 17 = .ok (.ifCond .ne 5, 3) := by decide +kernel
theorem dX9_bestDay_20 : decode cX9_bestDay 20 = .ok (.iconst (-1), 1) := by decide +kernel
theorem dX9_bestDay_21 : decode cX9_bestDay 21 = .ok (.ireturn, 1) := by decide +kernel
theorem dX9_bestDay_22 : decode cX9_bestDay 22 = .ok (.aload_n 0, 1) := by decide +kernel
theorem dX9_bestDay_23 : decode cX9_bestDay 23 = .ok (.getfield 33, 3) := by decide +kernel
theorem dX9_bestDay_26 : decode cX9_bestDay 26 = .ok (.iload_n 1, 1) := by decide +kernel
theorem dX9_bestDay_27 : decode cX9_bestDay 27 = .ok (.invokevirtual 181, 3) := by decide +kernel
theorem dX9_bestDay_30 : decode cX9_bestDay 30 = .ok (.ifCond .ne 6, 3) := by decide +kernel
theorem dX9_bestDay_33 : decode cX9_bestDay 33 = .ok (.bipush (-5), 2) := by decide +kernel
theorem dX9_bestDay_35 : decode cX9_bestDay 35 = .ok (.ireturn, 1) := by decide +kernel
theorem dX9_bestDay_36 : decode cX9_bestDay 36 = .ok (.bipush (-2), 2) := by decide +kernel
theorem dX9_bestDay_38 : decode cX9_bestDay 38 = .ok (.istore_n 3, 1) := by decide +kernel
theorem dX9_bestDay_39 : decode cX9_bestDay 39 = .ok (.bipush (-2), 2) := by decide +kernel
theorem dX9_bestDay_41 : decode cX9_bestDay 41 = .ok (.istore 4, 2) := by decide +kernel
theorem dX9_bestDay_43 : decode cX9_bestDay 43 = .ok (.aload_n 0, 1) := by decide +kernel
theorem dX9_bestDay_44 : decode cX9_bestDay 44 = .ok (.getfield 40, 3) := by decide +kernel
theorem dX9_bestDay_47 : decode cX9_bestDay 47 = .ok (.getfield 175, 3) := by decide +kernel
theorem dX9_bestDay_50 : decode cX9_bestDay 50 = .ok (.iconst 3, 1) := by decide +kernel
theorem dX9_bestDay_51 : decode cX9_bestDay 51 = .ok (.iadd, 1) := by decide +kernel
theorem dX9_bestDay_52 : decode cX9_bestDay 52 = .ok (.istore 5, 2) := by decide +kernel
theorem dX9_bestDay_54 : decode cX9_bestDay 54 = .ok (.iload 5, 2) := by decide +kernel
theorem dX9_bestDay_56 : decode cX9_bestDay 56 = .ok (.bipush 48, 2) := by decide +kernel
theorem dX9_bestDay_58 : decode cX9_bestDay 58 = .ok (.if_icmp .ge 57, 3) := by decide +kernel
theorem dX9_bestDay_61 : decode cX9_bestDay 61 = .ok (.iload 5, 2) := by decide +kernel
theorem dX9_bestDay_63 : decode cX9_bestDay 63 = .ok (.invokestatic 178, 3) := by decide +kernel
theorem dX9_bestDay_66 : decode cX9_bestDay 66 = .ok (.ifCond .ne 43, 3) := by decide +kernel
theorem dX9_bestDay_69 : decode cX9_bestDay 69 = .ok (.aload_n 0, 1) := by decide +kernel
theorem dX9_bestDay_70 : decode cX9_bestDay 70 = .ok (.aload_n 0, 1) := by decide +kernel
theorem dX9_bestDay_71 : decode cX9_bestDay 71 = .ok (.getfield 33, 3) := by decide +kernel
theorem dX9_bestDay_74 : decode cX9_bestDay 74 = .ok (.getfield 218, 3) := by decide +kernel
theorem dX9_bestDay_77 : decode cX9_bestDay 77 = .ok (.iload_n 1, 1) := by decide +kernel
theorem dX9_bestDay_78 : decode cX9_bestDay 78 = .ok (.iaload, 1) := by decide +kernel
theorem dX9_bestDay_79 : decode cX9_bestDay 79 = .ok (.aload_n 0, 1) := by decide +kernel
theorem dX9_bestDay_80 : decode cX9_bestDay 80 = .ok (.getfield 33, 3) := by decide +kernel
theorem dX9_bestDay_83 : decode cX9_bestDay 83 = .ok (.getfield 193, 3) := by decide +kernel
theorem dX9_bestDay_86 : decode cX9_bestDay 86 = .ok (.iload_n 1, 1) := by decide +kernel
theorem dX9_bestDay_87 : decode cX9_bestDay 87 = .ok (.iaload, 1) := by decide +kernel
theorem dX9_bestDay_88 : decode cX9_bestDay 88 = .ok (.iload 5, 2) := by decide +kernel
theorem dX9_bestDay_90 : decode cX9_bestDay 90 = .ok (.invokevirtual 171, 3) := by decide +kernel
theorem dX9_bestDay_93 : decode cX9_bestDay 93 = .ok (.istore 6, 2) := by decide +kernel
theorem dX9_bestDay_95 : decode cX9_bestDay 95 = .ok (.iload 6, 2) := by decide +kernel
theorem dX9_bestDay_97 : decode cX9_bestDay 97 = .ok (.iload 4, 2) := by decide +kernel
theorem dX9_bestDay_99 : decode cX9_bestDay 99 = .ok (.if_icmp .le 10, 3) := by decide +kernel
theorem dX9_bestDay_102 : decode cX9_bestDay 102 = .ok (.iload 5, 2) := by decide +kernel
theorem dX9_bestDay_104 : decode cX9_bestDay 104 = .ok (.istore_n 3, 1) := by decide +kernel
theorem dX9_bestDay_105 : decode cX9_bestDay 105 = .ok (.iload 6, 2) := by decide +kernel
theorem dX9_bestDay_107 : decode cX9_bestDay 107 = .ok (.istore 4, 2) := by decide +kernel
theorem dX9_bestDay_109 : decode cX9_bestDay 109 = .ok (.iinc 5 1, 3) := by decide +kernel
theorem dX9_bestDay_112 : decode cX9_bestDay 112 = .ok (.goto (-58), 3) := by decide +kernel
theorem dX9_bestDay_115 : decode cX9_bestDay 115 = .ok (.iload_n 2, 1) := by decide +kernel
theorem dX9_bestDay_116 : decode cX9_bestDay 116 = .ok (.ifCond .ne 7, 3) := by decide +kernel
theorem dX9_bestDay_119 : decode cX9_bestDay 119 = .ok (.iload_n 3, 1) := by decide +kernel
theorem dX9_bestDay_120 : decode cX9_bestDay 120 = .ok (.goto 5, 3) := by decide +kernel
theorem dX9_bestDay_123 : decode cX9_bestDay 123 = .ok (.iload 4, 2) := by decide +kernel
theorem dX9_bestDay_125 : decode cX9_bestDay 125 = .ok (.ireturn, 1) := by decide +kernel
theorem dX9_plan_0 : decode cX9_plan 0 = .ok (.aload_n 0, 1) := by decide +kernel
theorem dX9_plan_1 : decode cX9_plan 1 = .ok (.getfield 10, 3) := by decide +kernel
theorem dX9_plan_4 : decode cX9_plan 4 = .ok (.iload_n 1, 1) := by decide +kernel
theorem dX9_plan_5 : decode cX9_plan 5 = .ok (.invokevirtual 143, 3) := by decide +kernel
theorem dX9_plan_8 : decode cX9_plan 8 = .ok (.ifCond .eq 10, 3) := by decide +kernel
theorem dX9_plan_11 : decode cX9_plan 11 = .ok (.iload_n 2, 1) := by decide +kernel
theorem dX9_plan_12 : decode cX9_plan 12 = .ok (.invokestatic 168, 3) := by decide +kernel
theorem dX9_plan_15 : decode cX9_plan 15 = .ok (.ifCond .ne 5, 3) := by decide +kernel
theorem dX9_plan_18 : decode cX9_plan 18 = .ok (.iconst (-1), 1) := by decide +kernel
theorem dX9_plan_19 : decode cX9_plan 19 = .ok (.ireturn, 1) := by decide +kernel
theorem dX9_plan_20 : decode cX9_plan 20 = .ok (.iconst 0, 1) := by decide +kernel
theorem dX9_plan_21 : decode cX9_plan 21 = .ok (.istore_n 3, 1) := by decide +kernel
theorem dX9_plan_22 : decode cX9_plan 22 = .ok (.iconst 0, 1) := by decide +kernel
theorem dX9_plan_23 : decode cX9_plan 23 = .ok (.istore 4, 2) := by decide +kernel
theorem dX9_plan_25 : decode cX9_plan 25 = .ok (.iload 4, 2) := by decide +kernel
theorem dX9_plan_27 : decode cX9_plan 27 = .ok (.aload_n 0, 1) := by decide +kernel
theorem dX9_plan_28 : decode cX9_plan 28 = .ok (.getfield 10, 3) := by decide +kernel
theorem dX9_plan_31 : decode cX9_plan 31 = .ok (.getfield 79, 3) := by decide +kernel
theorem dX9_plan_34 : decode cX9_plan 34 = .ok (.if_icmp .ge 39, 3) := by decide +kernel
theorem dX9_plan_37 : decode cX9_plan 37 = .ok (.aload_n 0, 1) := by decide +kernel
theorem dX9_plan_38 : decode cX9_plan 38 = .ok (.getfield 33, 3) := by decide +kernel
theorem dX9_plan_41 : decode cX9_plan 41 = .ok (.iload 4, 2) := by decide +kernel
theorem dX9_plan_43 : decode cX9_plan 43 = .ok (.iload_n 1, 1) := by decide +kernel
theorem dX9_plan_44 : decode cX9_plan 44 = .ok (.invokevirtual 149, 3) := by decide +kernel
theorem dX9_plan_47 : decode cX9_plan 47 = .ok (.istore 5, 2) := by decide +kernel
theorem dX9_plan_49 : decode cX9_plan 49 = .ok (.iload 5, 2) := by decide +kernel
theorem dX9_plan_51 : decode cX9_plan 51 = .ok (.ifCond .le 16, 3) := by decide +kernel
theorem dX9_plan_54 : decode cX9_plan 54 = .ok (.iload_n 3, 1) := by decide +kernel
theorem dX9_plan_55 : decode cX9_plan 55 = .ok (.aload_n 0, 1) := by decide +kernel
theorem dX9_plan_56 : decode cX9_plan 56 = .ok (.iload 4, 2) := by decide +kernel
theorem dX9_plan_58 : decode cX9_plan 58 = .ok (.iload_n 1, 1) := by decide +kernel
theorem dX9_plan_59 : decode cX9_plan 59 = .ok (.iload 5, 2) := by decide +kernel
theorem dX9_plan_61 : decode cX9_plan 61 = .ok (.iload_n 2, 1) := by decide +kernel
theorem dX9_plan_62 : decode cX9_plan 62 = .ok (.invokevirtual 221, 3) := by decide +kernel
theorem dX9_plan_65 : decode cX9_plan 65 = .ok (.iadd, 1) := by decide +kernel
theorem dX9_plan_66 : decode cX9_plan 66 = .ok (.istore_n 3, 1) := by decide +kernel
theorem dX9_plan_67 : decode cX9_plan 67 = .ok (.iinc 4 1, 3) := by decide +kernel
theorem dX9_plan_70 : decode cX9_plan 70 = .ok (.goto (-45), 3) := by decide +kernel
theorem dX9_plan_73 : decode cX9_plan 73 = .ok (.iload_n 3, 1) := by decide +kernel
theorem dX9_plan_74 : decode cX9_plan 74 = .ok (.ireturn, 1) := by decide +kernel
theorem dX9_free_0 : decode cX9_free 0 = .ok (.aload_n 0, 1) := by decide +kernel
theorem dX9_free_1 : decode cX9_free 1 = .ok (.getfield 10, 3) := by decide +kernel
theorem dX9_free_4 : decode cX9_free 4 = .ok (.iload_n 1, 1) := by decide +kernel
theorem dX9_free_5 : decode cX9_free 5 = .ok (.invokevirtual 143, 3) := by decide +kernel
theorem dX9_free_8 : decode cX9_free 8 = .ok (.ifCond .eq 10, 3) := by decide +kernel
theorem dX9_free_11 : decode cX9_free 11 = .ok (.iload_n 2, 1) := by decide +kernel
theorem dX9_free_12 : decode cX9_free 12 = .ok (.invokestatic 168, 3) := by decide +kernel
theorem dX9_free_15 : decode cX9_free 15 = .ok (.ifCond .ne 6, 3) := by decide +kernel
theorem dX9_free_18 : decode cX9_free 18 = .ok (.ldc 142, 2) := by decide +kernel
theorem dX9_free_20 : decode cX9_free 20 = .ok (.ireturn, 1) := by decide +kernel
theorem dX9_free_21 : decode cX9_free 21 = .ok (.iconst 0, 1) := by decide +kernel
theorem dX9_free_22 : decode cX9_free 22 = .ok (.istore_n 3, 1) := by decide +kernel
theorem dX9_free_23 : decode cX9_free 23 = .ok (.aload_n 0, 1) := by decide +kernel
theorem dX9_free_24 : decode cX9_free 24 = .ok (.getfield 40, 3) := by decide +kernel
theorem dX9_free_27 : decode cX9_free 27 = .ok (.getfield 175, 3) := by decide +kernel
theorem dX9_free_30 : decode cX9_free 30 = .ok (.iconst 3, 1) := by decide +kernel
theorem dX9_free_31 : decode cX9_free 31 = .ok (.iadd, 1) := by decide +kernel
theorem dX9_free_32 : decode cX9_free 32 = .ok (.istore 4, 2) := by decide +kernel
theorem dX9_free_34 : decode cX9_free 34 = .ok (.iload 4, 2) := by decide +kernel
theorem dX9_free_36 : decode cX9_free 36 = .ok (.iload_n 2, 1) := by decide +kernel
theorem dX9_free_37 : decode cX9_free 37 = .ok (.if_icmp .gt 20, 3) := by decide +kernel
theorem dX9_free_40 : decode cX9_free 40 = .ok (.iload 4, 2) := by decide +kernel
theorem dX9_free_42 : decode cX9_free 42 = .ok (.invokestatic 178, 3) := by decide +kernel
theorem dX9_free_45 : decode cX9_free 45 = .ok (.ifCond .ne 6, 3) := by decide +kernel
theorem dX9_free_48 : decode cX9_free 48 = .ok (.iinc 3 1, 3) := by decide +kernel
theorem dX9_free_51 : decode cX9_free 51 = .ok (.iinc 4 1, 3) := by decide +kernel
theorem dX9_free_54 : decode cX9_free 54 = .ok (.goto (-20), 3) := by decide +kernel
theorem dX9_free_57 : decode cX9_free 57 = .ok (.iload_n 3, 1) := by decide +kernel
theorem dX9_free_58 : decode cX9_free 58 = .ok (.aload_n 0, 1) := by decide +kernel
theorem dX9_free_59 : decode cX9_free 59 = .ok (.getfield 33, 3) := by decide +kernel
theorem dX9_free_62 : decode cX9_free 62 = .ok (.iload_n 1, 1) := by decide +kernel
theorem dX9_free_63 : decode cX9_free 63 = .ok (.invokevirtual 224, 3) := by decide +kernel
theorem dX9_free_66 : decode cX9_free 66 = .ok (.isub, 1) := by decide +kernel
theorem dX9_free_67 : decode cX9_free 67 = .ok (.ireturn, 1) := by decide +kernel
theorem dX9_ring_0 : decode cX9_ring 0 = .ok (.aload_n 0, 1) := by decide +kernel
theorem dX9_ring_1 : decode cX9_ring 1 = .ok (.getfield 33, 3) := by decide +kernel
theorem dX9_ring_4 : decode cX9_ring 4 = .ok (.invokestatic 227, 3) := by decide +kernel
theorem dX9_ring_7 : decode cX9_ring 7 = .ok (.istore_n 1, 1) := by decide +kernel
theorem dX9_ring_8 : decode cX9_ring 8 = .ok (.iload_n 1, 1) := by decide +kernel
theorem dX9_ring_9 : decode cX9_ring 9 = .ok (.ifCond .ne 8, 3) := by decide +kernel
theorem dX9_ring_12 : decode cX9_ring 12 = .ok (.bipush (-2), 2) := by decide +kernel
theorem dX9_ring_14 : decode cX9_ring 14 = .ok (.goto 4, 3) := by decide +kernel
theorem dX9_ring_17 : decode cX9_ring 17 = .ok (.iload_n 1, 1) := by decide +kernel
theorem dX9_ring_18 : decode cX9_ring 18 = .ok (.ireturn, 1) := by decide +kernel
theorem dX9_wiped_0 : decode cX9_wiped 0 = .ok (.aload_n 0, 1) := by decide +kernel
theorem dX9_wiped_1 : decode cX9_wiped 1 = .ok (.getfield 53, 3) := by decide +kernel
theorem dX9_wiped_4 : decode cX9_wiped 4 = .ok (.aload_n 0, 1) := by decide +kernel
theorem dX9_wiped_5 : decode cX9_wiped 5 = .ok (.getfield 33, 3) := by decide +kernel
theorem dX9_wiped_8 : decode cX9_wiped 8 = .ok (.aload_n 0, 1) := by decide +kernel
theorem dX9_wiped_9 : decode cX9_wiped 9 = .ok (.getfield 10, 3) := by decide +kernel
theorem dX9_wiped_12 : decode cX9_wiped 12 = .ok (.getfield 79, 3) := by decide +kernel
theorem dX9_wiped_15 : decode cX9_wiped 15 = .ok (.invokevirtual 233, 3) := by decide +kernel
theorem dX9_wiped_18 : decode cX9_wiped 18 = .ok (.ireturn, 1) := by decide +kernel
theorem dX9_balance_0 : decode cX9_balance 0 = .ok (.aload_n 0, 1) := by decide +kernel
theorem dX9_balance_1 : decode cX9_balance 1 = .ok (.getfield 10, 3) := by decide +kernel
theorem dX9_balance_4 : decode cX9_balance 4 = .ok (.iload_n 1, 1) := by decide +kernel
theorem dX9_balance_5 : decode cX9_balance 5 = .ok (.invokevirtual 143, 3) := by decide +kernel
theorem dX9_balance_8 : decode cX9_balance 8 = .ok (.ifCond .ne 6, 3) := by decide +kernel
theorem dX9_balance_11 : decode cX9_balance 11 = .ok (.ldc 142, 2) := by decide +kernel
theorem dX9_balance_13 : decode cX9_balance 13 = .ok (.ireturn, 1) := by decide +kernel
theorem dX9_balance_14 : decode cX9_balance 14 = .ok (.aload_n 0, 1) := by decide +kernel
theorem dX9_balance_15 : decode cX9_balance 15 = .ok (.getfield 33, 3) := by decide +kernel
theorem dX9_balance_18 : decode cX9_balance 18 = .ok (.iload_n 1, 1) := by decide +kernel
theorem dX9_balance_19 : decode cX9_balance 19 = .ok (.invokevirtual 237, 3) := by decide +kernel
theorem dX9_balance_22 : decode cX9_balance 22 = .ok (.aload_n 0, 1) := by decide +kernel
theorem dX9_balance_23 : decode cX9_balance 23 = .ok (.getfield 33, 3) := by decide +kernel
theorem dX9_balance_26 : decode cX9_balance 26 = .ok (.iload_n 1, 1) := by decide +kernel
theorem dX9_balance_27 : decode cX9_balance 27 = .ok (.invokevirtual 224, 3) := by decide +kernel
theorem dX9_balance_30 : decode cX9_balance 30 = .ok (.isub, 1) := by decide +kernel
theorem dX9_balance_31 : decode cX9_balance 31 = .ok (.ireturn, 1) := by decide +kernel
theorem dX9_hand_0 : decode cX9_hand 0 = .ok (.iload_n 1, 1) := by decide +kernel
theorem dX9_hand_1 : decode cX9_hand 1 = .ok (.ifCond .lt 31, 3) := by decide +kernel
theorem dX9_hand_4 : decode cX9_hand 4 = .ok (.aload_n 0, 1) := by decide +kernel
theorem dX9_hand_5 : decode cX9_hand 5 = .ok (.getfield 33, 3) := by decide +kernel
theorem dX9_hand_8 : decode cX9_hand 8 = .ok (.iload_n 1, 1) := by decide +kernel
theorem dX9_hand_9 : decode cX9_hand 9 = .ok (.bipush 100, 2) := by decide +kernel
theorem dX9_hand_11 : decode cX9_hand 11 = .ok (.idiv, 1) := by decide +kernel
theorem dX9_hand_12 : decode cX9_hand 12 = .ok (.invokevirtual 136, 3) := by decide +kernel
theorem dX9_hand_15 : decode cX9_hand 15 = .ok (.ifCond .eq 17, 3) := by decide +kernel
theorem dX9_hand_18 : decode cX9_hand 18 = .ok (.aload_n 0, 1) := by decide +kernel
theorem dX9_hand_19 : decode cX9_hand 19 = .ok (.getfield 33, 3) := by decide +kernel
theorem dX9_hand_22 : decode cX9_hand 22 = .ok (.iload_n 1, 1) := by decide +kernel
theorem dX9_hand_23 : decode cX9_hand 23 = .ok (.bipush 100, 2) := by decide +kernel
theorem dX9_hand_25 : decode cX9_hand 25 = .ok (.irem, 1) := by decide +kernel
theorem dX9_hand_26 : decode cX9_hand 26 = .ok (.invokevirtual 136, 3) := by decide +kernel
theorem dX9_hand_29 : decode cX9_hand 29 = .ok (.ifCond .ne 5, 3) := by decide +kernel
theorem dX9_hand_32 : decode cX9_hand 32 = .ok (.iconst (-1), 1) := by decide +kernel
theorem dX9_hand_33 : decode cX9_hand 33 = .ok (.ireturn, 1) := by decide +kernel
theorem dX9_hand_34 : decode cX9_hand 34 = .ok (.aload_n 0, 1) := by decide +kernel
theorem dX9_hand_35 : decode cX9_hand 35 = .ok (.getfield 33, 3) := by decide +kernel
theorem dX9_hand_38 : decode cX9_hand 38 = .ok (.iload_n 1, 1) := by decide +kernel
theorem dX9_hand_39 : decode cX9_hand 39 = .ok (.bipush 100, 2) := by decide +kernel
theorem dX9_hand_41 : decode cX9_hand 41 = .ok (.idiv, 1) := by decide +kernel
theorem dX9_hand_42 : decode cX9_hand 42 = .ok (.iload_n 1, 1) := by decide +kernel
theorem dX9_hand_43 : decode cX9_hand 43 = .ok (.bipush 100, 2) := by decide +kernel
theorem dX9_hand_45 : decode cX9_hand 45 = .ok (.irem, 1) := by decide +kernel
theorem dX9_hand_46 : decode cX9_hand 46 = .ok (.invokevirtual 240, 3) := by decide +kernel
theorem dX9_hand_49 : decode cX9_hand 49 = .ok (.ifCond .eq 7, 3) := by decide +kernel
theorem dX9_hand_52 : decode cX9_hand 52 = .ok (.iconst 1, 1) := by decide +kernel
theorem dX9_hand_53 : decode cX9_hand 53 = .ok (.goto 5, 3) := by decide +kernel
theorem dX9_hand_56 : decode cX9_hand 56 = .ok (.bipush (-2), 2) := by decide +kernel
theorem dX9_hand_58 : decode cX9_hand 58 = .ok (.ireturn, 1) := by decide +kernel
theorem dX9_strike_0 : decode cX9_strike 0 = .ok (.aload_n 0, 1) := by decide +kernel
theorem dX9_strike_1 : decode cX9_strike 1 = .ok (.getfield 33, 3) := by decide +kernel
theorem dX9_strike_4 : decode cX9_strike 4 = .ok (.invokestatic 227, 3) := by decide +kernel
theorem dX9_strike_7 : decode cX9_strike 7 = .ok (.istore_n 1, 1) := by decide +kernel
theorem dX9_strike_8 : decode cX9_strike 8 = .ok (.iload_n 1, 1) := by decide +kernel
theorem dX9_strike_9 : decode cX9_strike 9 = .ok (.ifCond .ne 8, 3) := by decide +kernel
theorem dX9_strike_12 : decode cX9_strike 12 = .ok (.bipush (-2), 2) := by decide +kernel
theorem dX9_strike_14 : decode cX9_strike 14 = .ok (.goto 11, 3) := by decide +kernel
theorem dX9_strike_17 : decode cX9_strike 17 = .ok (.aload_n 0, 1) := by decide +kernel
theorem dX9_strike_18 : decode cX9_strike 18 = .ok (.getfield 33, 3) := by decide +kernel
theorem dX9_strike_21 : decode cX9_strike 21 = .ok (.iload_n 1, 1) := by decide +kernel
theorem dX9_strike_22 : decode cX9_strike 22 = .ok (.invokevirtual 243, 3) := by decide +kernel
theorem dX9_strike_25 : decode cX9_strike 25 = .ok (.ireturn, 1) := by decide +kernel
theorem dX9_runaway_0 : decode cX9_runaway 0 = .ok (.aload_n 0, 1) := by decide +kernel
theorem dX9_runaway_1 : decode cX9_runaway 1 = .ok (.getfield 10, 3) := by decide +kernel
theorem dX9_runaway_4 : decode cX9_runaway 4 = .ok (.iload_n 1, 1) := by decide +kernel
theorem dX9_runaway_5 : decode cX9_runaway 5 = .ok (.invokevirtual 143, 3) := by decide +kernel
theorem dX9_runaway_8 : decode cX9_runaway 8 = .ok (.ifCond .ne 5, 3) := by decide +kernel
theorem dX9_runaway_11 : decode cX9_runaway 11 = .ok (.iconst (-1), 1) := by decide +kernel
theorem dX9_runaway_12 : decode cX9_runaway 12 = .ok (.ireturn, 1) := by decide +kernel
theorem dX9_runaway_13 : decode cX9_runaway 13 = .ok (.aload_n 0, 1) := by decide +kernel
theorem dX9_runaway_14 : decode cX9_runaway 14 = .ok (.getfield 33, 3) := by decide +kernel
theorem dX9_runaway_17 : decode cX9_runaway 17 = .ok (.iload_n 1, 1) := by decide +kernel
theorem dX9_runaway_18 : decode cX9_runaway 18 = .ok (.invokevirtual 246, 3) := by decide +kernel
theorem dX9_runaway_21 : decode cX9_runaway 21 = .ok (.ireturn, 1) := by decide +kernel
theorem dX9_heir_0 : decode cX9_heir 0 = .ok (.aload_n 0, 1) := by decide +kernel
theorem dX9_heir_1 : decode cX9_heir 1 = .ok (.getfield 10, 3) := by decide +kernel
theorem dX9_heir_4 : decode cX9_heir 4 = .ok (.iload_n 1, 1) := by decide +kernel
theorem dX9_heir_5 : decode cX9_heir 5 = .ok (.invokevirtual 87, 3) := by decide +kernel
theorem dX9_heir_8 : decode cX9_heir 8 = .ok (.ifCond .ne 5, 3) := by decide +kernel
theorem dX9_heir_11 : decode cX9_heir 11 = .ok (.iconst (-1), 1) := by decide +kernel
theorem dX9_heir_12 : decode cX9_heir 12 = .ok (.ireturn, 1) := by decide +kernel
theorem dX9_heir_13 : decode cX9_heir 13 = .ok (.aload_n 0, 1) := by decide +kernel
theorem dX9_heir_14 : decode cX9_heir 14 = .ok (.getfield 33, 3) := by decide +kernel
theorem dX9_heir_17 : decode cX9_heir 17 = .ok (.iload_n 1, 1) := by decide +kernel
theorem dX9_heir_18 : decode cX9_heir 18 = .ok (.bipush 10, 2) := by decide +kernel
theorem dX9_heir_20 : decode cX9_heir 20 = .ok (.idiv, 1) := by decide +kernel
theorem dX9_heir_21 : decode cX9_heir 21 = .ok (.iload_n 1, 1) := by decide +kernel
theorem dX9_heir_22 : decode cX9_heir 22 = .ok (.bipush 10, 2) := by decide +kernel
theorem dX9_heir_24 : decode cX9_heir 24 = .ok (.irem, 1) := by decide +kernel
theorem dX9_heir_25 : decode cX9_heir 25 = .ok (.invokevirtual 249, 3) := by decide +kernel
theorem dX9_heir_28 : decode cX9_heir 28 = .ok (.ireturn, 1) := by decide +kernel
theorem dX9_judge_0 : decode cX9_judge 0 = .ok (.iload_n 1, 1) := by decide +kernel
theorem dX9_judge_1 : decode cX9_judge 1 = .ok (.invokestatic 102, 3) := by decide +kernel
theorem dX9_judge_4 : decode cX9_judge 4 = .ok (.ifCond .ne 5, 3) := by decide +kernel
theorem dX9_judge_7 : decode cX9_judge 7 = .ok (.iconst (-1), 1) := by decide +kernel
theorem dX9_judge_8 : decode cX9_judge 8 = .ok (.ireturn, 1) := by decide +kernel
theorem dX9_judge_9 : decode cX9_judge 9 = .ok (.aload_n 0, 1) := by decide +kernel
theorem dX9_judge_10 : decode cX9_judge 10 = .ok (.getfield 66, 3) := by decide +kernel
theorem dX9_judge_13 : decode cX9_judge 13 = .ok (.iload_n 1, 1) := by decide +kernel
theorem dX9_judge_14 : decode cX9_judge 14 = .ok (.aaload, 1) := by decide +kernel
theorem dX9_judge_15 : decode cX9_judge 15 = .ok (.astore_n 2, 1) := by decide +kernel
theorem dX9_judge_16 : decode cX9_judge 16 = .ok (.aload_n 2, 1) := by decide +kernel
theorem dX9_judge_17 : decode cX9_judge 17 = .ok (.invokevirtual 105, 3) := by decide +kernel
theorem dX9_judge_20 : decode cX9_judge 20 = .ok (.ifCond .eq 6, 3) := by decide +kernel
theorem dX9_judge_23 : decode cX9_judge 23 = .ok (.bipush (-11), 2) := by decide +kernel
theorem dX9_judge_25 : decode cX9_judge 25 = .ok (.ireturn, 1) := by decide +kernel
theorem dX9_judge_26 : decode cX9_judge 26 = .ok (.aload_n 2, 1) := by decide +kernel
theorem dX9_judge_27 : decode cX9_judge 27 = .ok (.getfield 109, 3) := by decide +kernel
theorem dX9_judge_30 : decode cX9_judge 30 = .ok (.iconst 1, 1) := by decide +kernel
theorem dX9_judge_31 : decode cX9_judge 31 = .ok (.if_icmp .eq 6, 3) := by decide +kernel
theorem dX9_judge_34 : decode cX9_judge 34 = .ok (.bipush (-12), 2) := by decide +kernel
theorem dX9_judge_36 : decode cX9_judge 36 = .ok (.ireturn, 1) := by decide +kernel
theorem dX9_judge_37 : decode cX9_judge 37 = .ok (.iconst 0, 1) := by decide +kernel
theorem dX9_judge_38 : decode cX9_judge 38 = .ok (.istore_n 3, 1) := by decide +kernel
theorem dX9_judge_39 : decode cX9_judge 39 = .ok (.iload_n 3, 1) := by decide +kernel
theorem dX9_judge_40 : decode cX9_judge 40 = .ok (.iconst 3, 1) := by decide +kernel
theorem dX9_judge_41 : decode cX9_judge 41 = .ok (.imul, 1) := by decide +kernel
theorem dX9_judge_42 : decode cX9_judge 42 = .ok (.aload_n 2, 1) := by decide +kernel
theorem dX9_judge_43 : decode cX9_judge 43 = .ok (.getfield 252, 3) := by decide +kernel
theorem dX9_judge_46 : decode cX9_judge 46 = .ok (.if_icmp .ge 22, 3) := by decide +kernel
theorem dX9_judge_49 : decode cX9_judge 49 = .ok (.aload_n 0, 1) := by decide +kernel
theorem dX9_judge_50 : decode cX9_judge 50 = .ok (.aload_n 2, 1) := by decide +kernel
theorem dX9_judge_51 : decode cX9_judge 51 = .ok (.iload_n 3, 1) := by decide +kernel
theorem dX9_judge_52 : decode cX9_judge 52 = .ok (.iconst 3, 1) := by decide +kernel
theorem dX9_judge_53 : decode cX9_judge 53 = .ok (.imul, 1) := by decide +kernel
theorem dX9_judge_54 : decode cX9_judge 54 = .ok (.invokevirtual 255, 3) := by decide +kernel
theorem dX9_judge_57 : decode cX9_judge 57 = .ok (.ifCond .ne 5, 3) := by decide +kernel
theorem dX9_judge_60 : decode cX9_judge 60 = .ok (.iload_n 3, 1) := by decide +kernel
theorem dX9_judge_61 : decode cX9_judge 61 = .ok (.ireturn, 1) := by decide +kernel
theorem dX9_judge_62 : decode cX9_judge 62 = .ok (.iinc 3 1, 3) := by decide +kernel
theorem dX9_judge_65 : decode cX9_judge 65 = .ok (.goto (-26), 3) := by decide +kernel
theorem dX9_judge_68 : decode cX9_judge 68 = .ok (.bipush (-2), 2) := by decide +kernel
theorem dX9_judge_70 : decode cX9_judge 70 = .ok (.ireturn, 1) := by decide +kernel
theorem dX9_wet_0 : decode cX9_wet 0 = .ok (.iload_n 1, 1) := by decide +kernel
theorem dX9_wet_1 : decode cX9_wet 1 = .ok (.invokestatic 102, 3) := by decide +kernel
theorem dX9_wet_4 : decode cX9_wet 4 = .ok (.ifCond .eq 27, 3) := by decide +kernel
theorem dX9_wet_7 : decode cX9_wet 7 = .ok (.aload_n 0, 1) := by decide +kernel
theorem dX9_wet_8 : decode cX9_wet 8 = .ok (.getfield 10, 3) := by decide +kernel
theorem dX9_wet_11 : decode cX9_wet 11 = .ok (.iload_n 2, 1) := by decide +kernel
theorem dX9_wet_12 : decode cX9_wet 12 = .ok (.invokevirtual 87, 3) := by decide +kernel
theorem dX9_wet_15 : decode cX9_wet 15 = .ok (.ifCond .eq 16, 3) := by decide +kernel
theorem dX9_wet_18 : decode cX9_wet 18 = .ok (.aload_n 0, 1) := by decide +kernel
theorem dX9_wet_19 : decode cX9_wet 19 = .ok (.getfield 66, 3) := by decide +kernel
theorem dX9_wet_22 : decode cX9_wet 22 = .ok (.iload_n 1, 1) := by decide +kernel
theorem dX9_wet_23 : decode cX9_wet 23 = .ok (.aaload, 1) := by decide +kernel
theorem dX9_wet_24 : decode cX9_wet 24 = .ok (.getfield 109, 3) := by decide +kernel
theorem dX9_wet_27 : decode cX9_wet 27 = .ok (.iconst 1, 1) := by decide +kernel
theorem dX9_wet_28 : decode cX9_wet 28 = .ok (.if_icmp .eq 6, 3) := by decide +kernel
theorem dX9_wet_31 : decode cX9_wet 31 = .ok (.ldc 142, 2) := by decide +kernel
theorem dX9_wet_33 : decode cX9_wet 33 = .ok (.ireturn, 1) := by decide +kernel
theorem dX9_wet_34 : decode cX9_wet 34 = .ok (.aload_n 0, 1) := by decide +kernel
theorem dX9_wet_35 : decode cX9_wet 35 = .ok (.getfield 66, 3) := by decide +kernel
theorem dX9_wet_38 : decode cX9_wet 38 = .ok (.iload_n 1, 1) := by decide +kernel
theorem dX9_wet_39 : decode cX9_wet 39 = .ok (.aaload, 1) := by decide +kernel
theorem dX9_wet_40 : decode cX9_wet 40 = .ok (.astore_n 3, 1) := by decide +kernel
theorem dX9_wet_41 : decode cX9_wet 41 = .ok (.aload_n 0, 1) := by decide +kernel
theorem dX9_wet_42 : decode cX9_wet 42 = .ok (.getfield 33, 3) := by decide +kernel
theorem dX9_wet_45 : decode cX9_wet 45 = .ok (.iload_n 2, 1) := by decide +kernel
theorem dX9_wet_46 : decode cX9_wet 46 = .ok (.bipush 10, 2) := by decide +kernel
theorem dX9_wet_48 : decode cX9_wet 48 = .ok (.idiv, 1) := by decide +kernel
theorem dX9_wet_49 : decode cX9_wet 49 = .ok (.iload_n 2, 1) := by decide +kernel
theorem dX9_wet_50 : decode cX9_wet 50 = .ok (.bipush 10, 2) := by decide +kernel
theorem dX9_wet_52 : decode cX9_wet 52 = .ok (.irem, 1) := by decide +kernel
theorem dX9_wet_53 : decode cX9_wet 53 = .ok (.invokevirtual 149, 3) := by decide +kernel
theorem dX9_wet_56 : decode cX9_wet 56 = .ok (.istore 4, 2) := by decide +kernel
theorem dX9_wet_58 : decode cX9_wet 58 = .ok (.iconst 0, 1) := by decide +kernel
theorem dX9_wet_59 : decode cX9_wet 59 = .ok (.istore 5, 2) := by decide +kernel
theorem dX9_wet_61 : decode cX9_wet 61 = .ok (.iload 5, 2) := by decide +kernel
theorem dX9_wet_63 : decode cX9_wet 63 = .ok (.iconst 2, 1) := by decide +kernel
theorem dX9_wet_64 : decode cX9_wet 64 = .ok (.iadd, 1) := by decide +kernel
theorem dX9_wet_65 : decode cX9_wet 65 = .ok (.aload_n 3, 1) := by decide +kernel
theorem dX9_wet_66 : decode cX9_wet 66 = .ok (.getfield 252, 3) := by decide +kernel
theorem dX9_wet_69 : decode cX9_wet 69 = .ok (.if_icmp .ge 60, 3) := by decide +kernel
theorem dX9_wet_72 : decode cX9_wet 72 = .ok (.aload_n 3, 1) := by decide +kernel
theorem dX9_wet_73 : decode cX9_wet 73 = .ok (.iload 5, 2) := by decide +kernel
theorem dX9_wet_75 : decode cX9_wet 75 = .ok (.iconst 2, 1) := by decide +kernel
theorem dX9_wet_76 : decode cX9_wet 76 = .ok (.iadd, 1) := by decide +kernel
theorem dX9_wet_77 : decode cX9_wet 77 = .ok (.invokevirtual 259, 3) := by decide +kernel
theorem dX9_wet_80 : decode cX9_wet 80 = .ok (.istore 6, 2) := by decide +kernel
theorem dX9_wet_82 : decode cX9_wet 82 = .ok (.aload_n 3, 1) := by decide +kernel
theorem dX9_wet_83 : decode cX9_wet 83 = .ok (.iload 5, 2) := by decide +kernel
theorem dX9_wet_85 : decode cX9_wet 85 = .ok (.invokevirtual 259, 3) := by decide +kernel
theorem dX9_wet_88 : decode cX9_wet 88 = .ok (.iload_n 2, 1) := by decide +kernel
theorem dX9_wet_89 : decode cX9_wet 89 = .ok (.bipush 10, 2) := by decide +kernel
theorem dX9_wet_91 : decode cX9_wet 91 = .ok (.idiv, 1) := by decide +kernel
theorem dX9_wet_92 : decode cX9_wet 92 = .ok (.if_icmp .ne 31, 3) := by decide +kernel
theorem dX9_wet_95 : decode cX9_wet 95 = .ok (.aload_n 3, 1) := by decide +kernel
theorem dX9_wet_96 : decode cX9_wet 96 = .ok (.iload 5, 2) := by decide +kernel
theorem dX9_wet_98 : decode cX9_wet 98 = .ok (.iconst 1, 1) := by decide +kernel
theorem dX9_wet_99 : decode cX9_wet 99 = .ok (.iadd, 1) := by decide +kernel
theorem dX9_wet_100 : decode cX9_wet 100 = .ok (.invokevirtual 259, 3) := by decide +kernel
theorem dX9_wet_103 : decode cX9_wet 103 = .ok (.iload_n 2, 1) := by decide +kernel
theorem dX9_wet_104 : decode cX9_wet 104 = .ok (.bipush 10, 2) := by decide +kernel
theorem dX9_wet_106 : decode cX9_wet 106 = .ok (.irem, 1) := by decide +kernel
theorem dX9_wet_107 : decode cX9_wet 107 = .ok (.if_icmp .ne 16, 3) := by decide +kernel
theorem dX9_wet_110 : decode cX9_wet 110 = .ok (.iload 6, 2) := by decide +kernel
theorem dX9_wet_112 : decode cX9_wet 112 = .ok (.iconst (-1), 1) := by decide +kernel
theorem dX9_wet_113 : decode cX9_wet 113 = .ok (.if_icmp .eq 10, 3) := by decide +kernel
theorem dX9_wet_116 : decode cX9_wet 116 = .ok (.iload 4, 2) := by decide +kernel
theorem dX9_wet_118 : decode cX9_wet 118 = .ok (.iload 6, 2) := by decide +kernel
theorem dX9_wet_120 : decode cX9_wet 120 = .ok (.isub, 1) := by decide +kernel
theorem dX9_wet_121 : decode cX9_wet 121 = .ok (.istore 4, 2) := by decide +kernel
theorem dX9_wet_123 : decode cX9_wet 123 = .ok (.iinc 5 3, 3) := by decide +kernel
theorem dX9_wet_126 : decode cX9_wet 126 = .ok (.goto (-65), 3) := by decide +kernel
theorem dX9_wet_129 : decode cX9_wet 129 = .ok (.iload 4, 2) := by decide +kernel
theorem dX9_wet_131 : decode cX9_wet 131 = .ok (.ireturn, 1) := by decide +kernel
theorem dX9_image_0 : decode cX9_image 0 = .ok (.aload_n 0, 1) := by decide +kernel
theorem dX9_image_1 : decode cX9_image 1 = .ok (.getfield 44, 3) := by decide +kernel
theorem dX9_image_4 : decode cX9_image 4 = .ok (.aload_n 0, 1) := by decide +kernel
theorem dX9_image_5 : decode cX9_image 5 = .ok (.getfield 33, 3) := by decide +kernel
theorem dX9_image_8 : decode cX9_image 8 = .ok (.invokevirtual 262, 3) := by decide +kernel
theorem dX9_image_11 : decode cX9_image 11 = .ok (.aload_n 0, 1) := by decide +kernel
theorem dX9_image_12 : decode cX9_image 12 = .ok (.getfield 47, 3) := by decide +kernel
theorem dX9_image_15 : decode cX9_image 15 = .ok (.aload_n 0, 1) := by decide +kernel
theorem dX9_image_16 : decode cX9_image 16 = .ok (.getfield 40, 3) := by decide +kernel
theorem dX9_image_19 : decode cX9_image 19 = .ok (.invokevirtual 266, 3) := by decide +kernel
theorem dX9_image_22 : decode cX9_image 22 = .ok (.aload_n 0, 1) := by decide +kernel
theorem dX9_image_23 : decode cX9_image 23 = .ok (.iconst 1, 1) := by decide +kernel
theorem dX9_image_24 : decode cX9_image 24 = .ok (.putfield 269, 3) := by decide +kernel
theorem dX9_image_27 : decode cX9_image 27 = .ok (.aload_n 0, 1) := by decide +kernel
theorem dX9_image_28 : decode cX9_image 28 = .ok (.getfield 40, 3) := by decide +kernel
theorem dX9_image_31 : decode cX9_image 31 = .ok (.getfield 175, 3) := by decide +kernel
theorem dX9_image_34 : decode cX9_image 34 = .ok (.ireturn, 1) := by decide +kernel
theorem dX9_back_0 : decode cX9_back 0 = .ok (.aload_n 0, 1) := by decide +kernel
theorem dX9_back_1 : decode cX9_back 1 = .ok (.getfield 269, 3) := by decide +kernel
theorem dX9_back_4 : decode cX9_back 4 = .ok (.ifCond .ne 6, 3) := by decide +kernel
theorem dX9_back_7 : decode cX9_back 7 = .ok (.bipush (-5), 2) := by decide +kernel
theorem dX9_back_9 : decode cX9_back 9 = .ok (.ireturn, 1) := by decide +kernel
theorem dX9_back_10 : decode cX9_back 10 = .ok (.aload_n 0, 1) := by decide +kernel
theorem dX9_back_11 : decode cX9_back 11 = .ok (.getfield 33, 3) := by decide +kernel
theorem dX9_back_14 : decode cX9_back 14 = .ok (.aload_n 0, 1) := by decide +kernel
theorem dX9_back_15 : decode cX9_back 15 = .ok (.getfield 44, 3) := by decide +kernel
theorem dX9_back_18 : decode cX9_back 18 = .ok (.invokevirtual 262, 3) := by decide +kernel
theorem dX9_back_21 : decode cX9_back 21 = .ok (.aload_n 0, 1) := by decide +kernel
theorem dX9_back_22 : decode cX9_back 22 = .ok (.getfield 40, 3) := by decide +kernel
theorem dX9_back_25 : decode cX9_back 25 = .ok (.aload_n 0, 1) := by decide +kernel
theorem dX9_back_26 : decode cX9_back 26 = .ok (.getfield 47, 3) := by decide +kernel
theorem dX9_back_29 : decode cX9_back 29 = .ok (.invokevirtual 266, 3) := by decide +kernel
theorem dX9_back_32 : decode cX9_back 32 = .ok (.aload_n 0, 1) := by decide +kernel
theorem dX9_back_33 : decode cX9_back 33 = .ok (.getfield 40, 3) := by decide +kernel
theorem dX9_back_36 : decode cX9_back 36 = .ok (.getfield 175, 3) := by decide +kernel
theorem dX9_back_39 : decode cX9_back 39 = .ok (.ireturn, 1) := by decide +kernel
theorem dX9_undo_0 : decode cX9_undo 0 = .ok (.aload_n 0, 1) := by decide +kernel
theorem dX9_undo_1 : decode cX9_undo 1 = .ok (.getfield 19, 3) := by decide +kernel
theorem dX9_undo_4 : decode cX9_undo 4 = .ok (.getfield 273, 3) := by decide +kernel
theorem dX9_undo_7 : decode cX9_undo 7 = .ok (.ifCond .ne 8, 3) := by decide +kernel
theorem dX9_undo_10 : decode cX9_undo 10 = .ok (.bipush (-5), 2) := by decide +kernel
theorem dX9_undo_12 : decode cX9_undo 12 = .ok (.goto 14, 3) := by decide +kernel
theorem dX9_undo_15 : decode cX9_undo 15 = .ok (.aload_n 0, 1) := by decide +kernel
theorem dX9_undo_16 : decode cX9_undo 16 = .ok (.getfield 19, 3) := by decide +kernel
theorem dX9_undo_19 : decode cX9_undo 19 = .ok (.aload_n 0, 1) := by decide +kernel
theorem dX9_undo_20 : decode cX9_undo 20 = .ok (.getfield 10, 3) := by decide +kernel
theorem dX9_undo_23 : decode cX9_undo 23 = .ok (.invokevirtual 276, 3) := by decide +kernel
theorem dX9_undo_26 : decode cX9_undo 26 = .ok (.ireturn, 1) := by decide +kernel
theorem dX9_redo_0 : decode cX9_redo 0 = .ok (.aload_n 0, 1) := by decide +kernel
theorem dX9_redo_1 : decode cX9_redo 1 = .ok (.getfield 19, 3) := by decide +kernel
theorem dX9_redo_4 : decode cX9_redo 4 = .ok (.getfield 280, 3) := by decide +kernel
theorem dX9_redo_7 : decode cX9_redo 7 = .ok (.ifCond .ne 8, 3) := by decide +kernel
theorem dX9_redo_10 : decode cX9_redo 10 = .ok (.bipush (-5), 2) := by decide +kernel
theorem dX9_redo_12 : decode cX9_redo 12 = .ok (.goto 14, 3) := by decide +kernel
theorem dX9_redo_15 : decode cX9_redo 15 = .ok (.aload_n 0, 1) := by decide +kernel
theorem dX9_redo_16 : decode cX9_redo 16 = .ok (.getfield 19, 3) := by decide +kernel
theorem dX9_redo_19 : decode cX9_redo 19 = .ok (.aload_n 0, 1) := by decide +kernel
theorem dX9_redo_20 : decode cX9_redo 20 = .ok (.getfield 10, 3) := by decide +kernel
theorem dX9_redo_23 : decode cX9_redo 23 = .ok (.invokevirtual 283, 3) := by decide +kernel
theorem dX9_redo_26 : decode cX9_redo 26 = .ok (.ireturn, 1) := by decide +kernel
theorem dX9_body_0 : decode cX9_body 0 = .ok (.iload_n 1, 1) := by decide +kernel
theorem dX9_body_1 : decode cX9_body 1 = .ok (.iconst 0, 1) := by decide +kernel
theorem dX9_body_2 : decode cX9_body 2 = .ok (.bipush 7, 2) := by decide +kernel
theorem dX9_body_4 : decode cX9_body 4 = .ok (.invokestatic 75, 3) := by decide +kernel
theorem dX9_body_7 : decode cX9_body 7 = .ok (.ifCond .ne 5, 3) := by decide +kernel
theorem dX9_body_10 : decode cX9_body 10 = .ok (.iconst (-1), 1) := by decide +kernel
theorem dX9_body_11 : decode cX9_body 11 = .ok (.ireturn, 1) := by decide +kernel
theorem dX9_body_12 : decode cX9_body 12 = .ok (.aload_n 0, 1) := by decide +kernel
theorem dX9_body_13 : decode cX9_body 13 = .ok (.getfield 60, 3) := by decide +kernel
theorem dX9_body_16 : decode cX9_body 16 = .ok (.getfield 286, 3) := by decide +kernel
theorem dX9_body_19 : decode cX9_body 19 = .ok (.bipush 50, 2) := by decide +kernel
theorem dX9_body_21 : decode cX9_body 21 = .ok (.if_icmp .lt 6, 3) := by decide +kernel
theorem dX9_body_24 : decode cX9_body 24 = .ok (.bipush (-3), 2) := by decide +kernel
theorem dX9_body_26 : decode cX9_body 26 = .ok (.ireturn, 1) := by decide +kernel
theorem dX9_body_27 : decode cX9_body 27 = .ok (.aload_n 0, 1) := by decide +kernel
theorem dX9_body_28 : decode cX9_body 28 = .ok (.getfield 60, 3) := by decide +kernel
theorem dX9_body_31 : decode cX9_body 31 = .ok (.iload_n 1, 1) := by decide +kernel
theorem dX9_body_32 : decode cX9_body 32 = .ok (.invokevirtual 287, 3) := by decide +kernel
theorem dX9_body_35 : decode cX9_body 35 = .ok (.ireturn, 1) := by decide +kernel
theorem dX9_act_0 : decode cX9_act 0 = .ok (.aload_n 0, 1) := by decide +kernel
theorem dX9_act_1 : decode cX9_act 1 = .ok (.getfield 60, 3) := by decide +kernel
theorem dX9_act_4 : decode cX9_act 4 = .ok (.iconst 0, 1) := by decide +kernel
theorem dX9_act_5 : decode cX9_act 5 = .ok (.putfield 289, 3) := by decide +kernel
theorem dX9_act_8 : decode cX9_act 8 = .ok (.aload_n 0, 1) := by decide +kernel
theorem dX9_act_9 : decode cX9_act 9 = .ok (.getfield 60, 3) := by decide +kernel
theorem dX9_act_12 : decode cX9_act 12 = .ok (.iload_n 1, 1) := by decide +kernel
theorem dX9_act_13 : decode cX9_act 13 = .ok (.invokevirtual 292, 3) := by decide +kernel
theorem dX9_act_16 : decode cX9_act 16 = .ok (.ifCond .eq 12, 3) := by decide +kernel
theorem dX9_act_19 : decode cX9_act 19 = .ok (.iload_n 2, 1) := by decide +kernel
theorem dX9_act_20 : decode cX9_act 20 = .ok (.iconst 0, 1) := by decide +kernel
theorem dX9_act_21 : decode cX9_act 21 = .ok (.iconst 3, 1) := by decide +kernel
theorem dX9_act_22 : decode cX9_act 22 = .ok (.invokestatic 75, 3) := by decide +kernel
theorem dX9_act_25 : decode cX9_act 25 = .ok (.ifCond .ne 5, 3) := by decide +kernel
theorem dX9_act_28 : decode cX9_act 28 = .ok (.iconst 0, 1) := by decide +kernel
theorem dX9_act_29 : decode cX9_act 29 = .ok (.ireturn, 1) := by decide +kernel
theorem dX9_act_30 : decode cX9_act 30 = .ok (.aload_n 0, 1) := by decide +kernel
theorem dX9_act_31 : decode cX9_act 31 = .ok (.getfield 60, 3) := by decide +kernel
theorem dX9_act_34 : decode cX9_act 34 = .ok (.iload_n 1, 1) := by decide +kernel
theorem dX9_act_35 : decode cX9_act 35 = .ok (.iload_n 2, 1) := by decide +kernel
theorem dX9_act_36 : decode cX9_act 36 = .ok (.iload_n 3, 1) := by decide +kernel
theorem dX9_act_37 : decode cX9_act 37 = .ok (.invokevirtual 295, 3) := by decide +kernel
theorem dX9_act_40 : decode cX9_act 40 = .ok (.ireturn, 1) := by decide +kernel
theorem dX9_trace_0 : decode cX9_trace 0 = .ok (.iload_n 1, 1) := by decide +kernel
theorem dX9_trace_1 : decode cX9_trace 1 = .ok (.iconst 0, 1) := by decide +kernel
theorem dX9_trace_2 : decode cX9_trace 2 = .ok (.aload_n 0, 1) := by decide +kernel
theorem dX9_trace_3 : decode cX9_trace 3 = .ok (.getfield 60, 3) := by decide +kernel
theorem dX9_trace_6 : decode cX9_trace 6 = .ok (.getfield 289, 3) := by decide +kernel
theorem dX9_trace_9 : decode cX9_trace 9 = .ok (.bipush 24, 2) := by decide +kernel
theorem dX9_trace_11 : decode cX9_trace 11 = .ok (.invokestatic 298, 3) := by decide +kernel
theorem dX9_trace_14 : decode cX9_trace 14 = .ok (.iconst 1, 1) := by decide +kernel
theorem dX9_trace_15 : decode cX9_trace 15 = .ok (.isub, 1) := by decide +kernel
theorem dX9_trace_16 : decode cX9_trace 16 = .ok (.invokestatic 75, 3) := by decide +kernel
theorem dX9_trace_19 : decode cX9_trace 19 = .ok (.ifCond .ne 5, 3) := by decide +kernel
theorem dX9_trace_22 : decode cX9_trace 22 = .ok (.iconst (-1), 1) := by decide +kernel
theorem dX9_trace_23 : decode cX9_trace 23 = .ok (.ireturn, 1) := by decide +kernel
theorem dX9_trace_24 : decode cX9_trace 24 = .ok (.aload_n 0, 1) := by decide +kernel
theorem dX9_trace_25 : decode cX9_trace 25 = .ok (.getfield 60, 3) := by decide +kernel
theorem dX9_trace_28 : decode cX9_trace 28 = .ok (.getfield 303, 3) := by decide +kernel
theorem dX9_trace_31 : decode cX9_trace 31 = .ok (.iload_n 1, 1) := by decide +kernel
theorem dX9_trace_32 : decode cX9_trace 32 = .ok (.iaload, 1) := by decide +kernel
theorem dX9_trace_33 : decode cX9_trace 33 = .ok (.ireturn, 1) := by decide +kernel
theorem dX9_keep_0 : decode cX9_keep 0 = .ok (.iload_n 1, 1) := by decide +kernel
theorem dX9_keep_1 : decode cX9_keep 1 = .ok (.invokestatic 102, 3) := by decide +kernel
theorem dX9_keep_4 : decode cX9_keep 4 = .ok (.ifCond .eq 19, 3) := by decide +kernel
theorem dX9_keep_7 : decode cX9_keep 7 = .ok (.iload_n 2, 1) := by decide +kernel
theorem dX9_keep_8 : decode cX9_keep 8 = .ok (.iconst (-1), 1) := by decide +kernel
theorem dX9_keep_9 : decode cX9_keep 9 = .ok (.if_icmp .eq 16, 3) := by decide +kernel
theorem dX9_keep_12 : decode cX9_keep 12 = .ok (.aload_n 0, 1) := by decide +kernel
theorem dX9_keep_13 : decode cX9_keep 13 = .ok (.getfield 60, 3) := by decide +kernel
theorem dX9_keep_16 : decode cX9_keep 16 = .ok (.iload_n 2, 1) := by decide +kernel
theorem dX9_keep_17 : decode cX9_keep 17 = .ok (.invokevirtual 292, 3) := by decide +kernel
theorem dX9_keep_20 : decode cX9_keep 20 = .ok (.ifCond .ne 5, 3) := by decide +kernel
theorem dX9_keep_23 : decode cX9_keep 23 = .ok (.iconst (-1), 1) := by decide +kernel
theorem dX9_keep_24 : decode cX9_keep 24 = .ok (.ireturn, 1) := by decide +kernel
theorem dX9_keep_25 : decode cX9_keep 25 = .ok (.aload_n 0, 1) := by decide +kernel
theorem dX9_keep_26 : decode cX9_keep 26 = .ok (.getfield 66, 3) := by decide +kernel
theorem dX9_keep_29 : decode cX9_keep 29 = .ok (.iload_n 1, 1) := by decide +kernel
theorem dX9_keep_30 : decode cX9_keep 30 = .ok (.aaload, 1) := by decide +kernel
theorem dX9_keep_31 : decode cX9_keep 31 = .ok (.iload_n 2, 1) := by decide +kernel
theorem dX9_keep_32 : decode cX9_keep 32 = .ok (.invokevirtual 306, 3) := by decide +kernel
theorem dX9_keep_35 : decode cX9_keep 35 = .ok (.iconst 1, 1) := by decide +kernel
theorem dX9_keep_36 : decode cX9_keep 36 = .ok (.ireturn, 1) := by decide +kernel
theorem dX9_row_0 : decode cX9_row 0 = .ok (.iload_n 1, 1) := by decide +kernel
theorem dX9_row_1 : decode cX9_row 1 = .ok (.invokestatic 102, 3) := by decide +kernel
theorem dX9_row_4 : decode cX9_row 4 = .ok (.ifCond .eq 18, 3) := by decide +kernel
theorem dX9_row_7 : decode cX9_row 7 = .ok (.iload_n 2, 1) := by decide +kernel
theorem dX9_row_8 : decode cX9_row 8 = .ok (.iconst 0, 1) := by decide +kernel
theorem dX9_row_9 : decode cX9_row 9 = .ok (.iconst 4, 1) := by decide +kernel
theorem dX9_row_10 : decode cX9_row 10 = .ok (.invokestatic 75, 3) := by decide +kernel
theorem dX9_row_13 : decode cX9_row 13 = .ok (.ifCond .eq 9, 3) := by decide +kernel
theorem dX9_row_16 : decode cX9_row 16 = .ok (.iload_n 3, 1) := by decide +kernel
theorem dX9_row_17 : decode cX9_row 17 = .ok (.bipush 60, 2) := by decide +kernel
theorem dX9_row_19 : decode cX9_row 19 = .ok (.if_icmp .le 5, 3) := by decide +kernel
theorem dX9_row_22 : decode cX9_row 22 = .ok (.iconst (-1), 1) := by decide +kernel
theorem dX9_row_23 : decode cX9_row 23 = .ok (.ireturn, 1) := by decide +kernel
theorem dX9_row_24 : decode cX9_row 24 = .ok (.iload_n 3, 1) := by decide +kernel
theorem dX9_row_25 : decode cX9_row 25 = .ok (.ifCond .ge 6, 3) := by decide +kernel
theorem dX9_row_28 : decode cX9_row 28 = .ok (.bipush (-14), 2) := by decide +kernel
theorem dX9_row_30 : decode cX9_row 30 = .ok (.ireturn, 1) := by decide +kernel
theorem dX9_row_31 : decode cX9_row 31 = .ok (.aload_n 0, 1) := by decide +kernel
theorem dX9_row_32 : decode cX9_row 32 = .ok (.getfield 66, 3) := by decide +kernel
theorem dX9_row_35 : decode cX9_row 35 = .ok (.iload_n 1, 1) := by decide +kernel
theorem dX9_row_36 : decode cX9_row 36 = .ok (.aaload, 1) := by decide +kernel
theorem dX9_row_37 : decode cX9_row 37 = .ok (.iload_n 2, 1) := by decide +kernel
theorem dX9_row_38 : decode cX9_row 38 = .ok (.iload_n 3, 1) := by decide +kernel
theorem dX9_row_39 : decode cX9_row 39 = .ok (.invokevirtual 310, 3) := by decide +kernel
theorem dX9_row_42 : decode cX9_row 42 = .ok (.iconst 1, 1) := by decide +kernel
theorem dX9_row_43 : decode cX9_row 43 = .ok (.ireturn, 1) := by decide +kernel
theorem dX9_put_0 : decode cX9_put 0 = .ok (.aload_n 0, 1) := by decide +kernel
theorem dX9_put_1 : decode cX9_put 1 = .ok (.iload_n 1, 1) := by decide +kernel
theorem dX9_put_2 : decode cX9_put 2 = .ok (.iload_n 2, 1) := by decide +kernel
theorem dX9_put_3 : decode cX9_put 3 = .ok (.invokevirtual 314, 3) := by decide +kernel
theorem dX9_put_6 : decode cX9_put 6 = .ok (.istore 5, 2) := by decide +kernel
theorem dX9_put_8 : decode cX9_put 8 = .ok (.iload 5, 2) := by decide +kernel
theorem dX9_put_10 : decode cX9_put 10 = .ok (.ifCond .eq 6, 3) := by decide +kernel
theorem dX9_put_13 : decode cX9_put 13 = .ok (.iload 5, 2) := by decide +kernel
theorem dX9_put_15 : decode cX9_put 15 = .ok (.ireturn, 1) := by decide +kernel
theorem dX9_put_16 : decode cX9_put 16 = .ok (.aload_n 0, 1) := by decide +kernel
theorem dX9_put_17 : decode cX9_put 17 = .ok (.getfield 66, 3) := by decide +kernel
theorem dX9_put_20 : decode cX9_put 20 = .ok (.iload_n 1, 1) := by decide +kernel
theorem dX9_put_21 : decode cX9_put 21 = .ok (.aaload, 1) := by decide +kernel
theorem dX9_put_22 : decode cX9_put 22 = .ok (.iload_n 2, 1) := by decide +kernel
theorem dX9_put_23 : decode cX9_put 23 = .ok (.lload_n 3, 1) := by decide +kernel
theorem dX9_put_24 : decode cX9_put 24 = .ok (.invokevirtual 317, 3) := by decide +kernel
theorem dX9_put_27 : decode cX9_put 27 = .ok (.iconst 1, 1) := by decide +kernel
theorem dX9_put_28 : decode cX9_put 28 = .ok (.ireturn, 1) := by decide +kernel
theorem dX9_element_0 : decode cX9_element 0 = .ok (.aload_n 0, 1) := by decide +kernel
theorem dX9_element_1 : decode cX9_element 1 = .ok (.iload_n 1, 1) := by decide +kernel
theorem dX9_element_2 : decode cX9_element 2 = .ok (.iload_n 2, 1) := by decide +kernel
theorem dX9_element_3 : decode cX9_element 3 = .ok (.invokevirtual 314, 3) := by decide +kernel
theorem dX9_element_6 : decode cX9_element 6 = .ok (.ifCond .eq 9, 3) := by decide +kernel
theorem dX9_element_9 : decode cX9_element 9 = .ok (.ldc2_w 323, 3) := by decide +kernel
theorem dX9_element_12 : decode cX9_element 12 = .ok (.goto 14, 3) := by decide +kernel
theorem dX9_element_15 : decode cX9_element 15 = .ok (.aload_n 0, 1) := by decide +kernel
theorem dX9_element_16 : decode cX9_element 16 = .ok (.getfield 66, 3) := by decide +kernel
theorem dX9_element_19 : decode cX9_element 19 = .ok (.iload_n 1, 1) := by decide +kernel
theorem dX9_element_20 : decode cX9_element 20 = .ok (.aaload, 1) := by decide +kernel
theorem dX9_element_21 : decode cX9_element 21 = .ok (.getfield 325, 3) := by decide +kernel
theorem dX9_element_24 : decode cX9_element 24 = .ok (.iload_n 2, 1) := by decide +kernel
theorem dX9_element_25 : decode cX9_element 25 = .ok (.laload, 1) := by decide +kernel
theorem dX9_element_26 : decode cX9_element 26 = .ok (.lreturn, 1) := by decide +kernel
theorem dX9_shift_0 : decode cX9_shift 0 = .ok (.iload_n 1, 1) := by decide +kernel
theorem dX9_shift_1 : decode cX9_shift 1 = .ok (.invokestatic 102, 3) := by decide +kernel
theorem dX9_shift_4 : decode cX9_shift 4 = .ok (.ifCond .eq 10, 3) := by decide +kernel
theorem dX9_shift_7 : decode cX9_shift 7 = .ok (.iload_n 3, 1) := by decide +kernel
theorem dX9_shift_8 : decode cX9_shift 8 = .ok (.invokestatic 102, 3) := by decide +kernel
theorem dX9_shift_11 : decode cX9_shift 11 = .ok (.ifCond .ne 5, 3) := by decide +kernel
theorem dX9_shift_14 : decode cX9_shift 14 = .ok (.iconst (-1), 1) := by decide +kernel
theorem dX9_shift_15 : decode cX9_shift 15 = .ok (.ireturn, 1) := by decide +kernel
theorem dX9_shift_16 : decode cX9_shift 16 = .ok (.aload_n 0, 1) := by decide +kernel
theorem dX9_shift_17 : decode cX9_shift 17 = .ok (.getfield 66, 3) := by decide +kernel
theorem dX9_shift_20 : decode cX9_shift 20 = .ok (.iload_n 1, 1) := by decide +kernel
theorem dX9_shift_21 : decode cX9_shift 21 = .ok (.aaload, 1) := by decide +kernel
theorem dX9_shift_22 : decode cX9_shift 22 = .ok (.astore 6, 2) := by decide +kernel
theorem dX9_shift_24 : decode cX9_shift 24 = .ok (.aload_n 0, 1) := by decide +kernel
theorem dX9_shift_25 : decode cX9_shift 25 = .ok (.getfield 66, 3) := by decide +kernel
theorem dX9_shift_28 : decode cX9_shift 28 = .ok (.iload_n 3, 1) := by decide +kernel
theorem dX9_shift_29 : decode cX9_shift 29 = .ok (.aaload, 1) := by decide +kernel
theorem dX9_shift_30 : decode cX9_shift 30 = .ok (.astore 7, 2) := by decide +kernel
theorem dX9_shift_32 : decode cX9_shift 32 = .ok (.aload 6, 2) := by decide +kernel
theorem dX9_shift_34 : decode cX9_shift 34 = .ok (.invokevirtual 105, 3) := by decide +kernel
theorem dX9_shift_37 : decode cX9_shift 37 = .ok (.ifCond .ne 11, 3) := by decide +kernel
theorem dX9_shift_40 : decode cX9_shift 40 = .ok (.aload 7, 2) := by decide +kernel
theorem dX9_shift_42 : decode cX9_shift 42 = .ok (.invokevirtual 105, 3) := by decide +kernel
theorem dX9_shift_45 : decode cX9_shift 45 = .ok (.ifCond .eq 6, 3) := by decide +kernel
theorem dX9_shift_48 : decode cX9_shift 48 = .ok (.bipush (-11), 2) := by decide +kernel
theorem dX9_shift_50 : decode cX9_shift 50 = .ok (.ireturn, 1) := by decide +kernel
theorem dX9_shift_51 : decode cX9_shift 51 = .ok (.aload 6, 2) := by decide +kernel
theorem dX9_shift_53 : decode cX9_shift 53 = .ok (.invokevirtual 329, 3) := by decide +kernel
theorem dX9_shift_56 : decode cX9_shift 56 = .ok (.ifCond .eq 16, 3) := by decide +kernel
theorem dX9_shift_59 : decode cX9_shift 59 = .ok (.aload 6, 2) := by decide +kernel
theorem dX9_shift_61 : decode cX9_shift 61 = .ok (.getfield 109, 3) := by decide +kernel
theorem dX9_shift_64 : decode cX9_shift 64 = .ok (.aload 7, 2) := by decide +kernel
theorem dX9_shift_66 : decode cX9_shift 66 = .ok (.getfield 109, 3) := by decide +kernel
theorem dX9_shift_69 : decode cX9_shift 69 = .ok (.if_icmp .eq 6, 3) := by decide +kernel
theorem dX9_shift_72 : decode cX9_shift 72 = .ok (.bipush (-12), 2) := by decide +kernel
theorem dX9_shift_74 : decode cX9_shift 74 = .ok (.ireturn, 1) := by decide +kernel
theorem dX9_shift_75 : decode cX9_shift 75 = .ok (.aload 6, 2) := by decide +kernel
theorem dX9_shift_77 : decode cX9_shift 77 = .ok (.iload_n 2, 1) := by decide +kernel
theorem dX9_shift_78 : decode cX9_shift 78 = .ok (.iload 5, 2) := by decide +kernel
theorem dX9_shift_80 : decode cX9_shift 80 = .ok (.invokevirtual 332, 3) := by decide +kernel
theorem dX9_shift_83 : decode cX9_shift 83 = .ok (.ifCond .eq 15, 3) := by decide +kernel
theorem dX9_shift_86 : decode cX9_shift 86 = .ok (.aload 7, 2) := by decide +kernel
theorem dX9_shift_88 : decode cX9_shift 88 = .ok (.iload 4, 2) := by decide +kernel
theorem dX9_shift_90 : decode cX9_shift 90 = .ok (.iload 5, 2) := by decide +kernel
theorem dX9_shift_92 : decode cX9_shift 92 = .ok (.invokevirtual 332, 3) := by decide +kernel
theorem dX9_shift_95 : decode cX9_shift 95 = .ok (.ifCond .ne 6, 3) := by decide +kernel
theorem dX9_shift_98 : decode cX9_shift 98 = .ok (.bipush (-13), 2) := by decide +kernel
theorem dX9_shift_100 : decode cX9_shift 100 = .ok (.ireturn, 1) := by decide +kernel
theorem dX9_shift_101 : decode cX9_shift 101 = .ok (.aload 6, 2) := by decide +kernel
theorem dX9_shift_103 : decode cX9_shift 103 = .ok (.getfield 325, 3) := by decide +kernel
theorem dX9_shift_106 : decode cX9_shift 106 = .ok (.iload_n 2, 1) := by decide +kernel
theorem dX9_shift_107 : decode cX9_shift 107 = .ok (.aload 7, 2) := by decide +kernel
theorem dX9_shift_109 : decode cX9_shift 109 = .ok (.getfield 325, 3) := by decide +kernel
theorem dX9_shift_112 : decode cX9_shift 112 = .ok (.iload 4, 2) := by decide +kernel
theorem dX9_shift_114 : decode cX9_shift 114 = .ok (.iload 5, 2) := by decide +kernel
theorem dX9_shift_116 : decode cX9_shift 116 = .ok (.invokestatic 335, 3) := by decide +kernel
theorem dX9_shift_119 : decode cX9_shift 119 = .ok (.iload 5, 2) := by decide +kernel
theorem dX9_shift_121 : decode cX9_shift 121 = .ok (.ireturn, 1) := by decide +kernel
theorem dX9_taken_0 : decode cX9_taken 0 = .ok (.iload_n 1, 1) := by decide +kernel
theorem dX9_taken_1 : decode cX9_taken 1 = .ok (.invokestatic 102, 3) := by decide +kernel
theorem dX9_taken_4 : decode cX9_taken 4 = .ok (.ifCond .eq 13, 3) := by decide +kernel
theorem dX9_taken_7 : decode cX9_taken 7 = .ok (.iload_n 2, 1) := by decide +kernel
theorem dX9_taken_8 : decode cX9_taken 8 = .ok (.iconst 0, 1) := by decide +kernel
theorem dX9_taken_9 : decode cX9_taken 9 = .ok (.bipush 7, 2) := by decide +kernel
theorem dX9_taken_11 : decode cX9_taken 11 = .ok (.invokestatic 75, 3) := by decide +kernel
theorem dX9_taken_14 : decode cX9_taken 14 = .ok (.ifCond .ne 5, 3) := by decide +kernel
theorem dX9_taken_17 : decode cX9_taken 17 = .ok (.iconst (-1), 1) := by decide +kernel
theorem dX9_taken_18 : decode cX9_taken 18 = .ok (.ireturn, 1) := by decide +kernel
theorem dX9_taken_19 : decode cX9_taken 19 = .ok (.aload_n 0, 1) := by decide +kernel
theorem dX9_taken_20 : decode cX9_taken 20 = .ok (.getfield 66, 3) := by decide +kernel
theorem dX9_taken_23 : decode cX9_taken 23 = .ok (.iload_n 1, 1) := by decide +kernel
theorem dX9_taken_24 : decode cX9_taken 24 = .ok (.aaload, 1) := by decide +kernel
theorem dX9_taken_25 : decode cX9_taken 25 = .ok (.invokevirtual 105, 3) := by decide +kernel
theorem dX9_taken_28 : decode cX9_taken 28 = .ok (.ifCond .eq 6, 3) := by decide +kernel
theorem dX9_taken_31 : decode cX9_taken 31 = .ok (.bipush (-11), 2) := by decide +kernel
theorem dX9_taken_33 : decode cX9_taken 33 = .ok (.ireturn, 1) := by decide +kernel
theorem dX9_taken_34 : decode cX9_taken 34 = .ok (.aload_n 0, 1) := by decide +kernel
theorem dX9_taken_35 : decode cX9_taken 35 = .ok (.getfield 66, 3) := by decide +kernel
theorem dX9_taken_38 : decode cX9_taken 38 = .ok (.iload_n 1, 1) := by decide +kernel
theorem dX9_taken_39 : decode cX9_taken 39 = .ok (.aaload, 1) := by decide +kernel
theorem dX9_taken_40 : decode cX9_taken 40 = .ok (.getfield 341, 3) := by decide +kernel
theorem dX9_taken_43 : decode cX9_taken 43 = .ok (.istore_n 3, 1) := by decide +kernel
theorem dX9_taken_44 : decode cX9_taken 44 = .ok (.aload_n 0, 1) := by decide +kernel
theorem dX9_taken_45 : decode cX9_taken 45 = .ok (.getfield 60, 3) := by decide +kernel
theorem dX9_taken_48 : decode cX9_taken 48 = .ok (.iload_n 3, 1) := by decide +kernel
theorem dX9_taken_49 : decode cX9_taken 49 = .ok (.invokevirtual 292, 3) := by decide +kernel
theorem dX9_taken_52 : decode cX9_taken 52 = .ok (.ifCond .eq 19, 3) := by decide +kernel
theorem dX9_taken_55 : decode cX9_taken 55 = .ok (.aload_n 0, 1) := by decide +kernel
theorem dX9_taken_56 : decode cX9_taken 56 = .ok (.getfield 60, 3) := by decide +kernel
theorem dX9_taken_59 : decode cX9_taken 59 = .ok (.getfield 344, 3) := by decide +kernel
theorem dX9_taken_62 : decode cX9_taken 62 = .ok (.iload_n 3, 1) := by decide +kernel
theorem dX9_taken_63 : decode cX9_taken 63 = .ok (.iaload, 1) := by decide +kernel
theorem dX9_taken_64 : decode cX9_taken 64 = .ok (.iload_n 2, 1) := by decide +kernel
theorem dX9_taken_65 : decode cX9_taken 65 = .ok (.invokestatic 347, 3) := by decide +kernel
theorem dX9_taken_68 : decode cX9_taken 68 = .ok (.ifCond .ne 6, 3) := by decide +kernel
theorem dX9_taken_71 : decode cX9_taken 71 = .ok (.bipush (-12), 2) := by decide +kernel
theorem dX9_taken_73 : decode cX9_taken 73 = .ok (.ireturn, 1) := by decide +kernel
theorem dX9_taken_74 : decode cX9_taken 74 = .ok (.aload_n 0, 1) := by decide +kernel
theorem dX9_taken_75 : decode cX9_taken 75 = .ok (.getfield 60, 3) := by decide +kernel
theorem dX9_taken_78 : decode cX9_taken 78 = .ok (.getfield 344, 3) := by decide +kernel
theorem dX9_taken_81 : decode cX9_taken 81 = .ok (.iload_n 3, 1) := by decide +kernel
theorem dX9_taken_82 : decode cX9_taken 82 = .ok (.iaload, 1) := by decide +kernel
theorem dX9_taken_83 : decode cX9_taken 83 = .ok (.ireturn, 1) := by decide +kernel
theorem dX9_count_0 : decode cX9_count 0 = .ok (.iload_n 1, 1) := by decide +kernel
theorem dX9_count_1 : decode cX9_count 1 = .ok (.tableswitch 123 0 8 #[51, 59, 67, 75, 83, 91, 99, 107, 115], 51) := by decide +kernel
theorem dX9_count_52 : decode cX9_count 52 = .ok (.aload_n 0, 1) := by decide +kernel
theorem dX9_count_53 : decode cX9_count 53 = .ok (.getfield 10, 3) := by decide +kernel
theorem dX9_count_56 : decode cX9_count 56 = .ok (.getfield 79, 3) := by decide +kernel
theorem dX9_count_59 : decode cX9_count 59 = .ok (.ireturn, 1) := by decide +kernel
theorem dX9_count_60 : decode cX9_count 60 = .ok (.aload_n 0, 1) := by decide +kernel
theorem dX9_count_61 : decode cX9_count 61 = .ok (.getfield 33, 3) := by decide +kernel
theorem dX9_count_64 : decode cX9_count 64 = .ok (.getfield 95, 3) := by decide +kernel
theorem dX9_count_67 : decode cX9_count 67 = .ok (.ireturn, 1) := by decide +kernel
theorem dX9_count_68 : decode cX9_count 68 = .ok (.aload_n 0, 1) := by decide +kernel
theorem dX9_count_69 : decode cX9_count 69 = .ok (.getfield 33, 3) := by decide +kernel
theorem dX9_count_72 : decode cX9_count 72 = .ok (.invokevirtual 350, 3) := by decide +kernel
theorem dX9_count_75 : decode cX9_count 75 = .ok (.ireturn, 1) := by decide +kernel
theorem dX9_count_76 : decode cX9_count 76 = .ok (.aload_n 0, 1) := by decide +kernel
theorem dX9_count_77 : decode cX9_count 77 = .ok (.getfield 40, 3) := by decide +kernel
theorem dX9_count_80 : decode cX9_count 80 = .ok (.getfield 184, 3) := by decide +kernel
theorem dX9_count_83 : decode cX9_count 83 = .ok (.ireturn, 1) := by decide +kernel
theorem dX9_count_84 : decode cX9_count 84 = .ok (.aload_n 0, 1) := by decide +kernel
theorem dX9_count_85 : decode cX9_count 85 = .ok (.getfield 40, 3) := by decide +kernel
theorem dX9_count_88 : decode cX9_count 88 = .ok (.getfield 175, 3) := by decide +kernel
theorem dX9_count_91 : decode cX9_count 91 = .ok (.ireturn, 1) := by decide +kernel
theorem dX9_count_92 : decode cX9_count 92 = .ok (.aload_n 0, 1) := by decide +kernel
theorem dX9_count_93 : decode cX9_count 93 = .ok (.getfield 26, 3) := by decide +kernel
theorem dX9_count_96 : decode cX9_count 96 = .ok (.getfield 158, 3) := by decide +kernel
theorem dX9_count_99 : decode cX9_count 99 = .ok (.ireturn, 1) := by decide +kernel
theorem dX9_count_100 : decode cX9_count 100 = .ok (.aload_n 0, 1) := by decide +kernel
theorem dX9_count_101 : decode cX9_count 101 = .ok (.getfield 19, 3) := by decide +kernel
theorem dX9_count_104 : decode cX9_count 104 = .ok (.getfield 273, 3) := by decide +kernel
theorem dX9_count_107 : decode cX9_count 107 = .ok (.ireturn, 1) := by decide +kernel
theorem dX9_count_108 : decode cX9_count 108 = .ok (.aload_n 0, 1) := by decide +kernel
theorem dX9_count_109 : decode cX9_count 109 = .ok (.getfield 60, 3) := by decide +kernel
theorem dX9_count_112 : decode cX9_count 112 = .ok (.getfield 286, 3) := by decide +kernel
theorem dX9_count_115 : decode cX9_count 115 = .ok (.ireturn, 1) := by decide +kernel
theorem dX9_count_116 : decode cX9_count 116 = .ok (.aload_n 0, 1) := by decide +kernel
theorem dX9_count_117 : decode cX9_count 117 = .ok (.getfield 60, 3) := by decide +kernel
theorem dX9_count_120 : decode cX9_count 120 = .ok (.getfield 289, 3) := by decide +kernel
theorem dX9_count_123 : decode cX9_count 123 = .ok (.ireturn, 1) := by decide +kernel
theorem dX9_count_124 : decode cX9_count 124 = .ok (.iconst (-1), 1) := by decide +kernel
theorem dX9_count_125 : decode cX9_count 125 = .ok (.ireturn, 1) := by decide +kernel
theorem dX9_within_0 : decode cX9_within 0 = .ok (.iload_n 0, 1) := by decide +kernel
theorem dX9_within_1 : decode cX9_within 1 = .ok (.iload_n 1, 1) := by decide +kernel
theorem dX9_within_2 : decode cX9_within 2 = .ok (.if_icmp .lt 12, 3) := by decide +kernel
theorem dX9_within_5 : decode cX9_within 5 = .ok (.iload_n 0, 1) := by decide +kernel
theorem dX9_within_6 : decode cX9_within 6 = .ok (.iload_n 2, 1) := by decide +kernel
theorem dX9_within_7 : decode cX9_within 7 = .ok (.if_icmp .gt 7, 3) := by decide +kernel
theorem dX9_within_10 : decode cX9_within 10 = .ok (.iconst 1, 1) := by decide +kernel
theorem dX9_within_11 : decode cX9_within 11 = .ok (.goto 4, 3) := by decide +kernel
theorem dX9_within_14 : decode cX9_within 14 = .ok (.iconst 0, 1) := by decide +kernel
theorem dX9_within_15 : decode cX9_within 15 = .ok (.ireturn, 1) := by decide +kernel
theorem dX9_isDay_0 : decode cX9_isDay 0 = .ok (.iload_n 0, 1) := by decide +kernel
theorem dX9_isDay_1 : decode cX9_isDay 1 = .ok (.iconst 0, 1) := by decide +kernel
theorem dX9_isDay_2 : decode cX9_isDay 2 = .ok (.bipush 47, 2) := by decide +kernel
theorem dX9_isDay_4 : decode cX9_isDay 4 = .ok (.invokestatic 75, 3) := by decide +kernel
theorem dX9_isDay_7 : decode cX9_isDay 7 = .ok (.ireturn, 1) := by decide +kernel
theorem dX9_isHoly_0 : decode cX9_isHoly 0 = .ok (.iload_n 0, 1) := by decide +kernel
theorem dX9_isHoly_1 : decode cX9_isHoly 1 = .ok (.iconst 4, 1) := by decide +kernel
theorem dX9_isHoly_2 : decode cX9_isHoly 2 = .ok (.irem, 1) := by decide +kernel
theorem dX9_isHoly_3 : decode cX9_isHoly 3 = .ok (.iconst 3, 1) := by decide +kernel
theorem dX9_isHoly_4 : decode cX9_isHoly 4 = .ok (.if_icmp .ne 7, 3) := by decide +kernel
theorem dX9_isHoly_7 : decode cX9_isHoly 7 = .ok (.iconst 1, 1) := by decide +kernel
theorem dX9_isHoly_8 : decode cX9_isHoly 8 = .ok (.goto 4, 3) := by decide +kernel
theorem dX9_isHoly_11 : decode cX9_isHoly 11 = .ok (.iconst 0, 1) := by decide +kernel
theorem dX9_isHoly_12 : decode cX9_isHoly 12 = .ok (.ireturn, 1) := by decide +kernel
theorem dX9_isShelf_0 : decode cX9_isShelf 0 = .ok (.iload_n 0, 1) := by decide +kernel
theorem dX9_isShelf_1 : decode cX9_isShelf 1 = .ok (.iconst 0, 1) := by decide +kernel
theorem dX9_isShelf_2 : decode cX9_isShelf 2 = .ok (.iconst 5, 1) := by decide +kernel
theorem dX9_isShelf_3 : decode cX9_isShelf 3 = .ok (.invokestatic 75, 3) := by decide +kernel
theorem dX9_isShelf_6 : decode cX9_isShelf 6 = .ok (.ireturn, 1) := by decide +kernel
theorem dX9_isDebtSo_0 : decode cX9_isDebtSo 0 = .ok (.iload_n 0, 1) := by decide +kernel
theorem dX9_isDebtSo_1 : decode cX9_isDebtSo 1 = .ok (.iconst 1, 1) := by decide +kernel
theorem dX9_isDebtSo_2 : decode cX9_isDebtSo 2 = .ok (.bipush 9, 2) := by decide +kernel
theorem dX9_isDebtSo_4 : decode cX9_isDebtSo 4 = .ok (.invokestatic 75, 3) := by decide +kernel
theorem dX9_isDebtSo_7 : decode cX9_isDebtSo 7 = .ok (.ifCond .eq 17, 3) := by decide +kernel
theorem dX9_isDebtSo_10 : decode cX9_isDebtSo 10 = .ok (.iload_n 1, 1) := by decide +kernel
theorem dX9_isDebtSo_11 : decode cX9_isDebtSo 11 = .ok (.iconst 0, 1) := by decide +kernel
theorem dX9_isDebtSo_12 : decode cX9_isDebtSo 12 = .ok (.bipush 12, 2) := by decide +kernel
theorem dX9_isDebtSo_14 : decode cX9_isDebtSo 14 = .ok (.invokestatic 75, 3) := by decide +kernel
theorem dX9_isDebtSo_17 : decode cX9_isDebtSo 17 = .ok (.ifCond .eq 7, 3) := by decide +kernel
theorem dX9_isDebtSo_20 : decode cX9_isDebtSo 20 = .ok (.iconst 1, 1) := by decide +kernel
theorem dX9_isDebtSo_21 : decode cX9_isDebtSo 21 = .ok (.goto 4, 3) := by decide +kernel
theorem dX9_isDebtSo_24 : decode cX9_isDebtSo 24 = .ok (.iconst 0, 1) := by decide +kernel
theorem dX9_isDebtSo_25 : decode cX9_isDebtSo 25 = .ok (.ireturn, 1) := by decide +kernel
theorem dX9_debtComes_0 : decode cX9_debtComes 0 = .ok (.lload_n 2, 1) := by decide +kernel
theorem dX9_debtComes_1 : decode cX9_debtComes 1 = .ok (.lconst 0, 1) := by decide +kernel
theorem dX9_debtComes_2 : decode cX9_debtComes 2 = .ok (.lcmp, 1) := by decide +kernel
theorem dX9_debtComes_3 : decode cX9_debtComes 3 = .ok (.ifCond .lt 29, 3) := by decide +kernel
theorem dX9_debtComes_6 : decode cX9_debtComes 6 = .ok (.lload_n 2, 1) := by decide +kernel
theorem dX9_debtComes_7 : decode cX9_debtComes 7 = .ok (.ldc2_w 353, 3) := by decide +kernel
theorem dX9_debtComes_10 : decode cX9_debtComes 10 = .ok (.ladd, 1) := by decide +kernel
theorem dX9_debtComes_11 : decode cX9_debtComes 11 = .ok (.aload_n 1, 1) := by decide +kernel
theorem dX9_debtComes_12 : decode cX9_debtComes 12 = .ok (.getfield 252, 3) := by decide +kernel
theorem dX9_debtComes_15 : decode cX9_debtComes 15 = .ok (.i2l, 1) := by decide +kernel
theorem dX9_debtComes_16 : decode cX9_debtComes 16 = .ok (.lcmp, 1) := by decide +kernel
theorem dX9_debtComes_17 : decode cX9_debtComes 17 = .ok (.ifCond .ge 15, 3) := by decide +kernel
theorem dX9_debtComes_20 : decode cX9_debtComes 20 = .ok (.aload_n 0, 1) := by decide +kernel
theorem dX9_debtComes_21 : decode cX9_debtComes 21 = .ok (.getfield 33, 3) := by decide +kernel
theorem dX9_debtComes_24 : decode cX9_debtComes 24 = .ok (.getfield 95, 3) := by decide +kernel
theorem dX9_debtComes_27 : decode cX9_debtComes 27 = .ok (.bipush 20, 2) := by decide +kernel
theorem dX9_debtComes_29 : decode cX9_debtComes 29 = .ok (.if_icmp .lt 5, 3) := by decide +kernel
theorem dX9_debtComes_32 : decode cX9_debtComes 32 = .ok (.iconst 0, 1) := by decide +kernel
theorem dX9_debtComes_33 : decode cX9_debtComes 33 = .ok (.ireturn, 1) := by decide +kernel
theorem dX9_debtComes_34 : decode cX9_debtComes 34 = .ok (.lload_n 2, 1) := by decide +kernel
theorem dX9_debtComes_35 : decode cX9_debtComes 35 = .ok (.l2i, 1) := by decide +kernel
theorem dX9_debtComes_36 : decode cX9_debtComes 36 = .ok (.istore 4, 2) := by decide +kernel
theorem dX9_debtComes_38 : decode cX9_debtComes 38 = .ok (.aload_n 1, 1) := by decide +kernel
theorem dX9_debtComes_39 : decode cX9_debtComes 39 = .ok (.iload 4, 2) := by decide +kernel
theorem dX9_debtComes_41 : decode cX9_debtComes 41 = .ok (.invokevirtual 259, 3) := by decide +kernel
theorem dX9_debtComes_44 : decode cX9_debtComes 44 = .ok (.istore 5, 2) := by decide +kernel
theorem dX9_debtComes_46 : decode cX9_debtComes 46 = .ok (.aload_n 1, 1) := by decide +kernel
theorem dX9_debtComes_47 : decode cX9_debtComes 47 = .ok (.iload 4, 2) := by decide +kernel
theorem dX9_debtComes_49 : decode cX9_debtComes 49 = .ok (.iconst 1, 1) := by decide +kernel
theorem dX9_debtComes_50 : decode cX9_debtComes 50 = .ok (.iadd, 1) := by decide +kernel
theorem dX9_debtComes_51 : decode cX9_debtComes 51 = .ok (.invokevirtual 259, 3) := by decide +kernel
theorem dX9_debtComes_54 : decode cX9_debtComes 54 = .ok (.istore 6, 2) := by decide +kernel
theorem dX9_debtComes_56 : decode cX9_debtComes 56 = .ok (.aload_n 1, 1) := by decide +kernel
theorem dX9_debtComes_57 : decode cX9_debtComes 57 = .ok (.iload 4, 2) := by decide +kernel
theorem dX9_debtComes_59 : decode cX9_debtComes 59 = .ok (.iconst 2, 1) := by decide +kernel
theorem dX9_debtComes_60 : decode cX9_debtComes 60 = .ok (.iadd, 1) := by decide +kernel
theorem dX9_debtComes_61 : decode cX9_debtComes 61 = .ok (.invokevirtual 259, 3) := by decide +kernel
theorem dX9_debtComes_64 : decode cX9_debtComes 64 = .ok (.istore 7, 2) := by decide +kernel
theorem dX9_debtComes_66 : decode cX9_debtComes 66 = .ok (.aload_n 1, 1) := by decide +kernel
theorem dX9_debtComes_67 : decode cX9_debtComes 67 = .ok (.iload 4, 2) := by decide +kernel
theorem dX9_debtComes_69 : decode cX9_debtComes 69 = .ok (.iconst 3, 1) := by decide +kernel
theorem dX9_debtComes_70 : decode cX9_debtComes 70 = .ok (.iadd, 1) := by decide +kernel
theorem dX9_debtComes_71 : decode cX9_debtComes 71 = .ok (.invokevirtual 259, 3) := by decide +kernel
theorem dX9_debtComes_74 : decode cX9_debtComes 74 = .ok (.istore 8, 2) := by decide +kernel
theorem dX9_debtComes_76 : decode cX9_debtComes 76 = .ok (.aload_n 0, 1) := by decide +kernel
theorem dX9_debtComes_77 : decode cX9_debtComes 77 = .ok (.getfield 10, 3) := by decide +kernel
theorem dX9_debtComes_80 : decode cX9_debtComes 80 = .ok (.iload 5, 2) := by decide +kernel
theorem dX9_debtComes_82 : decode cX9_debtComes 82 = .ok (.iload 6, 2) := by decide +kernel
theorem dX9_debtComes_84 : decode cX9_debtComes 84 = .ok (.invokevirtual 355, 3) := by decide +kernel
theorem dX9_debtComes_87 : decode cX9_debtComes 87 = .ok (.ifCond .eq 13, 3) := by decide +kernel
theorem dX9_debtComes_90 : decode cX9_debtComes 90 = .ok (.iload 7, 2) := by decide +kernel
theorem dX9_debtComes_92 : decode cX9_debtComes 92 = .ok (.iload 8, 2) := by decide +kernel
theorem dX9_debtComes_94 : decode cX9_debtComes 94 = .ok (.invokestatic 91, 3) := by decide +kernel
theorem dX9_debtComes_97 : decode cX9_debtComes 97 = .ok (.ifCond .ne 5, 3) := by decide +kernel
theorem dX9_debtComes_100 : decode cX9_debtComes 100 = .ok (.iconst 0, 1) := by decide +kernel
theorem dX9_debtComes_101 : decode cX9_debtComes 101 = .ok (.ireturn, 1) := by decide +kernel
theorem dX9_debtComes_102 : decode cX9_debtComes 102 = .ok (.aload_n 0, 1) := by decide +kernel
theorem dX9_debtComes_103 : decode cX9_debtComes 103 = .ok (.getfield 33, 3) := by decide +kernel
theorem dX9_debtComes_106 : decode cX9_debtComes 106 = .ok (.iload 5, 2) := by decide +kernel
theorem dX9_debtComes_108 : decode cX9_debtComes 108 = .ok (.iload 6, 2) := by decide +kernel
theorem dX9_debtComes_110 : decode cX9_debtComes 110 = .ok (.iload 7, 2) := by decide +kernel
theorem dX9_debtComes_112 : decode cX9_debtComes 112 = .ok (.iload 8, 2) := by decide +kernel
theorem dX9_debtComes_114 : decode cX9_debtComes 114 = .ok (.invokevirtual 98, 3) := by decide +kernel
theorem dX9_debtComes_117 : decode cX9_debtComes 117 = .ok (.pop, 1) := by decide +kernel
theorem dX9_debtComes_118 : decode cX9_debtComes 118 = .ok (.iconst 1, 1) := by decide +kernel
theorem dX9_debtComes_119 : decode cX9_debtComes 119 = .ok (.ireturn, 1) := by decide +kernel
theorem dX9_ofDebt_0 : decode cX9_ofDebt 0 = .ok (.iload_n 2, 1) := by decide +kernel
theorem dX9_ofDebt_1 : decode cX9_ofDebt 1 = .ok (.tableswitch 71 0 3 #[31, 41, 51, 61], 31) := by decide +kernel
theorem dX9_ofDebt_32 : decode cX9_ofDebt 32 = .ok (.aload_n 0, 1) := by decide +kernel
theorem dX9_ofDebt_33 : decode cX9_ofDebt 33 = .ok (.getfield 33, 3) := by decide +kernel
theorem dX9_ofDebt_36 : decode cX9_ofDebt 36 = .ok (.getfield 218, 3) := by decide +kernel
theorem dX9_ofDebt_39 : decode cX9_ofDebt 39 = .ok (.iload_n 1, 1) := by decide +kernel
theorem dX9_ofDebt_40 : decode cX9_ofDebt 40 = .ok (.iaload, 1) := by decide +kernel
theorem dX9_ofDebt_41 : decode cX9_ofDebt 41 = .ok (.ireturn, 1) := by decide +kernel
theorem dX9_ofDebt_42 : decode cX9_ofDebt 42 = .ok (.aload_n 0, 1) := by decide +kernel
theorem dX9_ofDebt_43 : decode cX9_ofDebt 43 = .ok (.getfield 33, 3) := by decide +kernel
theorem dX9_ofDebt_46 : decode cX9_ofDebt 46 = .ok (.getfield 193, 3) := by decide +kernel
theorem dX9_ofDebt_49 : decode cX9_ofDebt 49 = .ok (.iload_n 1, 1) := by decide +kernel
theorem dX9_ofDebt_50 : decode cX9_ofDebt 50 = .ok (.iaload, 1) := by decide +kernel
theorem dX9_ofDebt_51 : decode cX9_ofDebt 51 = .ok (.ireturn, 1) := by decide +kernel
theorem dX9_ofDebt_52 : decode cX9_ofDebt 52 = .ok (.aload_n 0, 1) := by decide +kernel
theorem dX9_ofDebt_53 : decode cX9_ofDebt 53 = .ok (.getfield 33, 3) := by decide +kernel
theorem dX9_ofDebt_56 : decode cX9_ofDebt 56 = .ok (.getfield 358, 3) := by decide +kernel
theorem dX9_ofDebt_59 : decode cX9_ofDebt 59 = .ok (.iload_n 1, 1) := by decide +kernel
theorem dX9_ofDebt_60 : decode cX9_ofDebt 60 = .ok (.iaload, 1) := by decide +kernel
theorem dX9_ofDebt_61 : decode cX9_ofDebt 61 = .ok (.ireturn, 1) := by decide +kernel
theorem dX9_ofDebt_62 : decode cX9_ofDebt 62 = .ok (.aload_n 0, 1) := by decide +kernel
theorem dX9_ofDebt_63 : decode cX9_ofDebt 63 = .ok (.getfield 33, 3) := by decide +kernel
theorem dX9_ofDebt_66 : decode cX9_ofDebt 66 = .ok (.getfield 361, 3) := by decide +kernel
theorem dX9_ofDebt_69 : decode cX9_ofDebt 69 = .ok (.iload_n 1, 1) := by decide +kernel
theorem dX9_ofDebt_70 : decode cX9_ofDebt 70 = .ok (.iaload, 1) := by decide +kernel
theorem dX9_ofDebt_71 : decode cX9_ofDebt 71 = .ok (.ireturn, 1) := by decide +kernel
theorem dX9_ofDebt_72 : decode cX9_ofDebt 72 = .ok (.aload_n 0, 1) := by decide +kernel
theorem dX9_ofDebt_73 : decode cX9_ofDebt 73 = .ok (.getfield 33, 3) := by decide +kernel
theorem dX9_ofDebt_76 : decode cX9_ofDebt 76 = .ok (.getfield 364, 3) := by decide +kernel
theorem dX9_ofDebt_79 : decode cX9_ofDebt 79 = .ok (.iload_n 1, 1) := by decide +kernel
theorem dX9_ofDebt_80 : decode cX9_ofDebt 80 = .ok (.iaload, 1) := by decide +kernel
theorem dX9_ofDebt_81 : decode cX9_ofDebt 81 = .ok (.ireturn, 1) := by decide +kernel
theorem dX9_ofPerson_0 : decode cX9_ofPerson 0 = .ok (.iload_n 2, 1) := by decide +kernel
theorem dX9_ofPerson_1 : decode cX9_ofPerson 1 = .ok (.tableswitch 55 10 12 #[27, 37, 46], 27) := by decide +kernel
theorem dX9_ofPerson_28 : decode cX9_ofPerson 28 = .ok (.aload_n 0, 1) := by decide +kernel
theorem dX9_ofPerson_29 : decode cX9_ofPerson 29 = .ok (.getfield 10, 3) := by decide +kernel
theorem dX9_ofPerson_32 : decode cX9_ofPerson 32 = .ok (.getfield 367, 3) := by decide +kernel
theorem dX9_ofPerson_35 : decode cX9_ofPerson 35 = .ok (.iload_n 1, 1) := by decide +kernel
theorem dX9_ofPerson_36 : decode cX9_ofPerson 36 = .ok (.iaload, 1) := by decide +kernel
theorem dX9_ofPerson_37 : decode cX9_ofPerson 37 = .ok (.ireturn, 1) := by decide +kernel
theorem dX9_ofPerson_38 : decode cX9_ofPerson 38 = .ok (.aload_n 0, 1) := by decide +kernel
theorem dX9_ofPerson_39 : decode cX9_ofPerson 39 = .ok (.getfield 33, 3) := by decide +kernel
theorem dX9_ofPerson_42 : decode cX9_ofPerson 42 = .ok (.iload_n 1, 1) := by decide +kernel
theorem dX9_ofPerson_43 : decode cX9_ofPerson 43 = .ok (.invokevirtual 224, 3) := by decide +kernel
theorem dX9_ofPerson_46 : decode cX9_ofPerson 46 = .ok (.ireturn, 1) := by decide +kernel
theorem dX9_ofPerson_47 : decode cX9_ofPerson 47 = .ok (.aload_n 0, 1) := by decide +kernel
theorem dX9_ofPerson_48 : decode cX9_ofPerson 48 = .ok (.getfield 33, 3) := by decide +kernel
theorem dX9_ofPerson_51 : decode cX9_ofPerson 51 = .ok (.iload_n 1, 1) := by decide +kernel
theorem dX9_ofPerson_52 : decode cX9_ofPerson 52 = .ok (.invokevirtual 237, 3) := by decide +kernel
theorem dX9_ofPerson_55 : decode cX9_ofPerson 55 = .ok (.ireturn, 1) := by decide +kernel
theorem dX9_ofPerson_56 : decode cX9_ofPerson 56 = .ok (.aload_n 0, 1) := by decide +kernel
theorem dX9_ofPerson_57 : decode cX9_ofPerson 57 = .ok (.getfield 40, 3) := by decide +kernel
theorem dX9_ofPerson_60 : decode cX9_ofPerson 60 = .ok (.getfield 370, 3) := by decide +kernel
theorem dX9_ofPerson_63 : decode cX9_ofPerson 63 = .ok (.iload_n 1, 1) := by decide +kernel
theorem dX9_ofPerson_64 : decode cX9_ofPerson 64 = .ok (.iaload, 1) := by decide +kernel
theorem dX9_ofPerson_65 : decode cX9_ofPerson 65 = .ok (.ireturn, 1) := by decide +kernel
theorem dX9_ofAsk_0 : decode cX9_ofAsk 0 = .ok (.iload_n 2, 1) := by decide +kernel
theorem dX9_ofAsk_1 : decode cX9_ofAsk 1 = .ok (.lookupswitch 47 #[(40, 27), (41, 37)], 27) := by decide +kernel
theorem dX9_ofAsk_28 : decode cX9_ofAsk 28 = .ok (.aload_n 0, 1) := by decide +kernel
theorem dX9_ofAsk_29 : decode cX9_ofAsk 29 = .ok (.getfield 40, 3) := by decide +kernel
theorem dX9_ofAsk_32 : decode cX9_ofAsk 32 = .ok (.getfield 373, 3) := by decide +kernel
theorem dX9_ofAsk_35 : decode cX9_ofAsk 35 = .ok (.iload_n 1, 1) := by decide +kernel
theorem dX9_ofAsk_36 : decode cX9_ofAsk 36 = .ok (.iaload, 1) := by decide +kernel
theorem dX9_ofAsk_37 : decode cX9_ofAsk 37 = .ok (.ireturn, 1) := by decide +kernel
theorem dX9_ofAsk_38 : decode cX9_ofAsk 38 = .ok (.aload_n 0, 1) := by decide +kernel
theorem dX9_ofAsk_39 : decode cX9_ofAsk 39 = .ok (.getfield 40, 3) := by decide +kernel
theorem dX9_ofAsk_42 : decode cX9_ofAsk 42 = .ok (.getfield 376, 3) := by decide +kernel
theorem dX9_ofAsk_45 : decode cX9_ofAsk 45 = .ok (.iload_n 1, 1) := by decide +kernel
theorem dX9_ofAsk_46 : decode cX9_ofAsk 46 = .ok (.iaload, 1) := by decide +kernel
theorem dX9_ofAsk_47 : decode cX9_ofAsk 47 = .ok (.ireturn, 1) := by decide +kernel
theorem dX9_ofAsk_48 : decode cX9_ofAsk 48 = .ok (.aload_n 0, 1) := by decide +kernel
theorem dX9_ofAsk_49 : decode cX9_ofAsk 49 = .ok (.getfield 40, 3) := by decide +kernel
theorem dX9_ofAsk_52 : decode cX9_ofAsk 52 = .ok (.getfield 379, 3) := by decide +kernel
theorem dX9_ofAsk_55 : decode cX9_ofAsk 55 = .ok (.iload_n 1, 1) := by decide +kernel
theorem dX9_ofAsk_56 : decode cX9_ofAsk 56 = .ok (.baload, 1) := by decide +kernel
theorem dX9_ofAsk_57 : decode cX9_ofAsk 57 = .ok (.ifCond .eq 7, 3) := by decide +kernel
theorem dX9_ofAsk_60 : decode cX9_ofAsk 60 = .ok (.iconst 1, 1) := by decide +kernel
theorem dX9_ofAsk_61 : decode cX9_ofAsk 61 = .ok (.goto 4, 3) := by decide +kernel
theorem dX9_ofAsk_64 : decode cX9_ofAsk 64 = .ok (.iconst 0, 1) := by decide +kernel
theorem dX9_ofAsk_65 : decode cX9_ofAsk 65 = .ok (.ireturn, 1) := by decide +kernel
theorem dX9_worthOf_0 : decode cX9_worthOf 0 = .ok (.aload_n 0, 1) := by decide +kernel
theorem dX9_worthOf_1 : decode cX9_worthOf 1 = .ok (.getfield 10, 3) := by decide +kernel
theorem dX9_worthOf_4 : decode cX9_worthOf 4 = .ok (.getfield 383, 3) := by decide +kernel
theorem dX9_worthOf_7 : decode cX9_worthOf 7 = .ok (.iload_n 3, 1) := by decide +kernel
theorem dX9_worthOf_8 : decode cX9_worthOf 8 = .ok (.iconst 4, 1) := by decide +kernel
theorem dX9_worthOf_9 : decode cX9_worthOf 9 = .ok (.idiv, 1) := by decide +kernel
theorem dX9_worthOf_10 : decode cX9_worthOf 10 = .ok (.iaload, 1) := by decide +kernel
theorem dX9_worthOf_11 : decode cX9_worthOf 11 = .ok (.istore 4, 2) := by decide +kernel
theorem dX9_worthOf_13 : decode cX9_worthOf 13 = .ok (.aload_n 0, 1) := by decide +kernel
theorem dX9_worthOf_14 : decode cX9_worthOf 14 = .ok (.getfield 10, 3) := by decide +kernel
theorem dX9_worthOf_17 : decode cX9_worthOf 17 = .ok (.getfield 367, 3) := by decide +kernel
theorem dX9_worthOf_20 : decode cX9_worthOf 20 = .ok (.iload_n 1, 1) := by decide +kernel
theorem dX9_worthOf_21 : decode cX9_worthOf 21 = .ok (.iaload, 1) := by decide +kernel
theorem dX9_worthOf_22 : decode cX9_worthOf 22 = .ok (.istore 5, 2) := by decide +kernel
theorem dX9_worthOf_24 : decode cX9_worthOf 24 = .ok (.aload_n 0, 1) := by decide +kernel
theorem dX9_worthOf_25 : decode cX9_worthOf 25 = .ok (.getfield 26, 3) := by decide +kernel
theorem dX9_worthOf_28 : decode cX9_worthOf 28 = .ok (.invokevirtual 386, 3) := by decide +kernel
theorem dX9_worthOf_31 : decode cX9_worthOf 31 = .ok (.ifCond .eq 20, 3) := by decide +kernel
theorem dX9_worthOf_34 : decode cX9_worthOf 34 = .ok (.aload_n 0, 1) := by decide +kernel
theorem dX9_worthOf_35 : decode cX9_worthOf 35 = .ok (.getfield 26, 3) := by decide +kernel
theorem dX9_worthOf_38 : decode cX9_worthOf 38 = .ok (.iload_n 3, 1) := by decide +kernel
theorem dX9_worthOf_39 : decode cX9_worthOf 39 = .ok (.iload 4, 2) := by decide +kernel
theorem dX9_worthOf_41 : decode cX9_worthOf 41 = .ok (.iload 5, 2) := by decide +kernel
theorem dX9_worthOf_43 : decode cX9_worthOf 43 = .ok (.iload_n 1, 1) := by decide +kernel
theorem dX9_worthOf_44 : decode cX9_worthOf 44 = .ok (.iload_n 2, 1) := by decide +kernel
theorem dX9_worthOf_45 : decode cX9_worthOf 45 = .ok (.invokevirtual 389, 3) := by decide +kernel
theorem dX9_worthOf_48 : decode cX9_worthOf 48 = .ok (.goto 8, 3) := by decide +kernel
theorem dX9_worthOf_51 : decode cX9_worthOf 51 = .ok (.iload 4, 2) := by decide +kernel
theorem dX9_worthOf_53 : decode cX9_worthOf 53 = .ok (.iload 5, 2) := by decide +kernel
theorem dX9_worthOf_55 : decode cX9_worthOf 55 = .ok (.imul, 1) := by decide +kernel
theorem dX9_worthOf_56 : decode cX9_worthOf 56 = .ok (.istore 6, 2) := by decide +kernel
theorem dX9_worthOf_58 : decode cX9_worthOf 58 = .ok (.iconst 0, 1) := by decide +kernel
theorem dX9_worthOf_59 : decode cX9_worthOf 59 = .ok (.bipush 99, 2) := by decide +kernel
theorem dX9_worthOf_61 : decode cX9_worthOf 61 = .ok (.iload 6, 2) := by decide +kernel
theorem dX9_worthOf_63 : decode cX9_worthOf 63 = .ok (.invokestatic 298, 3) := by decide +kernel
theorem dX9_worthOf_66 : decode cX9_worthOf 66 = .ok (.invokestatic 393, 3) := by decide +kernel
theorem dX9_worthOf_69 : decode cX9_worthOf 69 = .ok (.ireturn, 1) := by decide +kernel
theorem dX9_debtToWork_0 : decode cX9_debtToWork 0 = .ok (.bipush (-2), 2) := by decide +kernel
theorem dX9_debtToWork_2 : decode cX9_debtToWork 2 = .ok (.istore_n 3, 1) := by decide +kernel
theorem dX9_debtToWork_3 : decode cX9_debtToWork 3 = .ok (.iconst 0, 1) := by decide +kernel
theorem dX9_debtToWork_4 : decode cX9_debtToWork 4 = .ok (.istore 4, 2) := by decide +kernel
theorem dX9_debtToWork_6 : decode cX9_debtToWork 6 = .ok (.iconst 0, 1) := by decide +kernel
theorem dX9_debtToWork_7 : decode cX9_debtToWork 7 = .ok (.istore 5, 2) := by decide +kernel
theorem dX9_debtToWork_9 : decode cX9_debtToWork 9 = .ok (.iload 5, 2) := by decide +kernel
theorem dX9_debtToWork_11 : decode cX9_debtToWork 11 = .ok (.aload_n 0, 1) := by decide +kernel
theorem dX9_debtToWork_12 : decode cX9_debtToWork 12 = .ok (.getfield 40, 3) := by decide +kernel
theorem dX9_debtToWork_15 : decode cX9_debtToWork 15 = .ok (.getfield 184, 3) := by decide +kernel
theorem dX9_debtToWork_18 : decode cX9_debtToWork 18 = .ok (.if_icmp .ge 101, 3) := by decide +kernel
theorem dX9_debtToWork_21 : decode cX9_debtToWork 21 = .ok (.aload_n 0, 1) := by decide +kernel
theorem dX9_debtToWork_22 : decode cX9_debtToWork 22 = .ok (.getfield 40, 3) := by decide +kernel
theorem dX9_debtToWork_25 : decode cX9_debtToWork 25 = .ok (.getfield 373, 3) := by decide +kernel
theorem dX9_debtToWork_28 : decode cX9_debtToWork 28 = .ok (.iload 5, 2) := by decide +kernel
theorem dX9_debtToWork_30 : decode cX9_debtToWork 30 = .ok (.iaload, 1) := by decide +kernel
theorem dX9_debtToWork_31 : decode cX9_debtToWork 31 = .ok (.istore 6, 2) := by decide +kernel
theorem dX9_debtToWork_33 : decode cX9_debtToWork 33 = .ok (.aload_n 0, 1) := by decide +kernel
theorem dX9_debtToWork_34 : decode cX9_debtToWork 34 = .ok (.getfield 40, 3) := by decide +kernel
theorem dX9_debtToWork_37 : decode cX9_debtToWork 37 = .ok (.getfield 376, 3) := by decide +kernel
theorem dX9_debtToWork_40 : decode cX9_debtToWork 40 = .ok (.iload 5, 2) := by decide +kernel
theorem dX9_debtToWork_42 : decode cX9_debtToWork 42 = .ok (.iaload, 1) := by decide +kernel
theorem dX9_debtToWork_43 : decode cX9_debtToWork 43 = .ok (.iload_n 2, 1) := by decide +kernel
theorem dX9_debtToWork_44 : decode cX9_debtToWork 44 = .ok (.if_icmp .ne 69, 3) := by decide +kernel
theorem dX9_debtToWork_47 : decode cX9_debtToWork 47 = .ok (.aload_n 0, 1) := by decide +kernel
theorem dX9_debtToWork_48 : decode cX9_debtToWork 48 = .ok (.getfield 40, 3) := by decide +kernel
theorem dX9_debtToWork_51 : decode cX9_debtToWork 51 = .ok (.getfield 379, 3) := by decide +kernel
theorem dX9_debtToWork_54 : decode cX9_debtToWork 54 = .ok (.iload 5, 2) := by decide +kernel
theorem dX9_debtToWork_56 : decode cX9_debtToWork 56 = .ok (.baload, 1) := by decide +kernel
theorem dX9_debtToWork_57 : decode cX9_debtToWork 57 = .ok (.ifCond .ne 56, 3) := by decide +kernel
theorem dX9_debtToWork_60 : decode cX9_debtToWork 60 = .ok (.aload_n 0, 1) := by decide +kernel
theorem dX9_debtToWork_61 : decode cX9_debtToWork 61 = .ok (.getfield 33, 3) := by decide +kernel
theorem dX9_debtToWork_64 : decode cX9_debtToWork 64 = .ok (.iload 6, 2) := by decide +kernel
theorem dX9_debtToWork_66 : decode cX9_debtToWork 66 = .ok (.invokevirtual 181, 3) := by decide +kernel
theorem dX9_debtToWork_69 : decode cX9_debtToWork 69 = .ok (.ifCond .eq 44, 3) := by decide +kernel
theorem dX9_debtToWork_72 : decode cX9_debtToWork 72 = .ok (.aload_n 0, 1) := by decide +kernel
theorem dX9_debtToWork_73 : decode cX9_debtToWork 73 = .ok (.getfield 33, 3) := by decide +kernel
theorem dX9_debtToWork_76 : decode cX9_debtToWork 76 = .ok (.getfield 218, 3) := by decide +kernel
theorem dX9_debtToWork_79 : decode cX9_debtToWork 79 = .ok (.iload 6, 2) := by decide +kernel
theorem dX9_debtToWork_81 : decode cX9_debtToWork 81 = .ok (.iaload, 1) := by decide +kernel
theorem dX9_debtToWork_82 : decode cX9_debtToWork 82 = .ok (.iload_n 1, 1) := by decide +kernel
theorem dX9_debtToWork_83 : decode cX9_debtToWork 83 = .ok (.if_icmp .ne 30, 3) := by decide +kernel
theorem dX9_debtToWork_86 : decode cX9_debtToWork 86 = .ok (.aload_n 0, 1) := by decide +kernel
theorem dX9_debtToWork_87 : decode cX9_debtToWork 87 = .ok (.iload 6, 2) := by decide +kernel
theorem dX9_debtToWork_89 : decode cX9_debtToWork 89 = .ok (.iload_n 2, 1) := by decide +kernel
theorem dX9_debtToWork_90 : decode cX9_debtToWork 90 = .ok (.invokevirtual 396, 3) := by decide +kernel
theorem dX9_debtToWork_93 : decode cX9_debtToWork 93 = .ok (.istore 7, 2) := by decide +kernel
theorem dX9_debtToWork_95 : decode cX9_debtToWork 95 = .ok (.iload_n 3, 1) := by decide +kernel
theorem dX9_debtToWork_96 : decode cX9_debtToWork 96 = .ok (.ifCond .lt 10, 3) := by decide +kernel
theorem dX9_debtToWork_99 : decode cX9_debtToWork 99 = .ok (.iload 7, 2) := by decide +kernel
theorem dX9_debtToWork_101 : decode cX9_debtToWork 101 = .ok (.iload 4, 2) := by decide +kernel
theorem dX9_debtToWork_103 : decode cX9_debtToWork 103 = .ok (.if_icmp .le 10, 3) := by decide +kernel
theorem dX9_debtToWork_106 : decode cX9_debtToWork 106 = .ok (.iload 6, 2) := by decide +kernel
theorem dX9_debtToWork_108 : decode cX9_debtToWork 108 = .ok (.istore_n 3, 1) := by decide +kernel
theorem dX9_debtToWork_109 : decode cX9_debtToWork 109 = .ok (.iload 7, 2) := by decide +kernel
theorem dX9_debtToWork_111 : decode cX9_debtToWork 111 = .ok (.istore 4, 2) := by decide +kernel
theorem dX9_debtToWork_113 : decode cX9_debtToWork 113 = .ok (.iinc 5 1, 3) := by decide +kernel
theorem dX9_debtToWork_116 : decode cX9_debtToWork 116 = .ok (.goto (-107), 3) := by decide +kernel
theorem dX9_debtToWork_119 : decode cX9_debtToWork 119 = .ok (.iload_n 3, 1) := by decide +kernel
theorem dX9_debtToWork_120 : decode cX9_debtToWork 120 = .ok (.ireturn, 1) := by decide +kernel
theorem dX9_meritOf_0 : decode cX9_meritOf 0 = .ok (.aload_n 0, 1) := by decide +kernel
theorem dX9_meritOf_1 : decode cX9_meritOf 1 = .ok (.getfield 10, 3) := by decide +kernel
theorem dX9_meritOf_4 : decode cX9_meritOf 4 = .ok (.getfield 399, 3) := by decide +kernel
theorem dX9_meritOf_7 : decode cX9_meritOf 7 = .ok (.lookupswitch 75 #[(1, 25), (2, 51)], 25) := by decide +kernel
theorem dX9_meritOf_32 : decode cX9_meritOf 32 = .ok (.aload_n 0, 1) := by decide +kernel
theorem dX9_meritOf_33 : decode cX9_meritOf 33 = .ok (.getfield 33, 3) := by decide +kernel
theorem dX9_meritOf_36 : decode cX9_meritOf 36 = .ok (.aload_n 0, 1) := by decide +kernel
theorem dX9_meritOf_37 : decode cX9_meritOf 37 = .ok (.getfield 33, 3) := by decide +kernel
theorem dX9_meritOf_40 : decode cX9_meritOf 40 = .ok (.getfield 218, 3) := by decide +kernel
theorem dX9_meritOf_43 : decode cX9_meritOf 43 = .ok (.iload_n 1, 1) := by decide +kernel
theorem dX9_meritOf_44 : decode cX9_meritOf 44 = .ok (.iaload, 1) := by decide +kernel
theorem dX9_meritOf_45 : decode cX9_meritOf 45 = .ok (.aload_n 0, 1) := by decide +kernel
theorem dX9_meritOf_46 : decode cX9_meritOf 46 = .ok (.getfield 33, 3) := by decide +kernel
theorem dX9_meritOf_49 : decode cX9_meritOf 49 = .ok (.getfield 193, 3) := by decide +kernel
theorem dX9_meritOf_52 : decode cX9_meritOf 52 = .ok (.iload_n 1, 1) := by decide +kernel
theorem dX9_meritOf_53 : decode cX9_meritOf 53 = .ok (.iaload, 1) := by decide +kernel
theorem dX9_meritOf_54 : decode cX9_meritOf 54 = .ok (.invokevirtual 149, 3) := by decide +kernel
theorem dX9_meritOf_57 : decode cX9_meritOf 57 = .ok (.ireturn, 1) := by decide +kernel
theorem dX9_meritOf_58 : decode cX9_meritOf 58 = .ok (.aload_n 0, 1) := by decide +kernel
theorem dX9_meritOf_59 : decode cX9_meritOf 59 = .ok (.aload_n 0, 1) := by decide +kernel
theorem dX9_meritOf_60 : decode cX9_meritOf 60 = .ok (.getfield 33, 3) := by decide +kernel
theorem dX9_meritOf_63 : decode cX9_meritOf 63 = .ok (.getfield 218, 3) := by decide +kernel
theorem dX9_meritOf_66 : decode cX9_meritOf 66 = .ok (.iload_n 1, 1) := by decide +kernel
theorem dX9_meritOf_67 : decode cX9_meritOf 67 = .ok (.iaload, 1) := by decide +kernel
theorem dX9_meritOf_68 : decode cX9_meritOf 68 = .ok (.aload_n 0, 1) := by decide +kernel
theorem dX9_meritOf_69 : decode cX9_meritOf 69 = .ok (.getfield 33, 3) := by decide +kernel
theorem dX9_meritOf_72 : decode cX9_meritOf 72 = .ok (.getfield 193, 3) := by decide +kernel
theorem dX9_meritOf_75 : decode cX9_meritOf 75 = .ok (.iload_n 1, 1) := by decide +kernel
theorem dX9_meritOf_76 : decode cX9_meritOf 76 = .ok (.iaload, 1) := by decide +kernel
theorem dX9_meritOf_77 : decode cX9_meritOf 77 = .ok (.iload_n 2, 1) := by decide +kernel
theorem dX9_meritOf_78 : decode cX9_meritOf 78 = .ok (.invokevirtual 171, 3) := by decide +kernel
theorem dX9_meritOf_81 : decode cX9_meritOf 81 = .ok (.ireturn, 1) := by decide +kernel
theorem dX9_meritOf_82 : decode cX9_meritOf 82 = .ok (.iconst 0, 1) := by decide +kernel
theorem dX9_meritOf_83 : decode cX9_meritOf 83 = .ok (.ireturn, 1) := by decide +kernel
theorem dX9_worksToday_0 : decode cX9_worksToday 0 = .ok (.aload_n 0, 1) := by decide +kernel
theorem dX9_worksToday_1 : decode cX9_worksToday 1 = .ok (.getfield 40, 3) := by decide +kernel
theorem dX9_worksToday_4 : decode cX9_worksToday 4 = .ok (.getfield 175, 3) := by decide +kernel
theorem dX9_worksToday_7 : decode cX9_worksToday 7 = .ok (.istore_n 2, 1) := by decide +kernel
theorem dX9_worksToday_8 : decode cX9_worksToday 8 = .ok (.aload_n 0, 1) := by decide +kernel
theorem dX9_worksToday_9 : decode cX9_worksToday 9 = .ok (.iload_n 1, 1) := by decide +kernel
theorem dX9_worksToday_10 : decode cX9_worksToday 10 = .ok (.iload_n 2, 1) := by decide +kernel
theorem dX9_worksToday_11 : decode cX9_worksToday 11 = .ok (.invokevirtual 190, 3) := by decide +kernel
theorem dX9_worksToday_14 : decode cX9_worksToday 14 = .ok (.istore_n 3, 1) := by decide +kernel
theorem dX9_worksToday_15 : decode cX9_worksToday 15 = .ok (.iload_n 3, 1) := by decide +kernel
theorem dX9_worksToday_16 : decode cX9_worksToday 16 = .ok (.ifCond .ge 5, 3) := by decide +kernel
theorem dX9_worksToday_19 : decode cX9_worksToday 19 = .ok (.iconst 0, 1) := by decide +kernel
theorem dX9_worksToday_20 : decode cX9_worksToday 20 = .ok (.ireturn, 1) := by decide +kernel
theorem dX9_worksToday_21 : decode cX9_worksToday 21 = .ok (.aload_n 0, 1) := by decide +kernel
theorem dX9_worksToday_22 : decode cX9_worksToday 22 = .ok (.getfield 33, 3) := by decide +kernel
theorem dX9_worksToday_25 : decode cX9_worksToday 25 = .ok (.getfield 193, 3) := by decide +kernel
theorem dX9_worksToday_28 : decode cX9_worksToday 28 = .ok (.iload_n 3, 1) := by decide +kernel
theorem dX9_worksToday_29 : decode cX9_worksToday 29 = .ok (.iaload, 1) := by decide +kernel
theorem dX9_worksToday_30 : decode cX9_worksToday 30 = .ok (.istore 4, 2) := by decide +kernel
theorem dX9_worksToday_32 : decode cX9_worksToday 32 = .ok (.aload_n 0, 1) := by decide +kernel
theorem dX9_worksToday_33 : decode cX9_worksToday 33 = .ok (.getfield 33, 3) := by decide +kernel
theorem dX9_worksToday_36 : decode cX9_worksToday 36 = .ok (.getfield 361, 3) := by decide +kernel
theorem dX9_worksToday_39 : decode cX9_worksToday 39 = .ok (.iload_n 3, 1) := by decide +kernel
theorem dX9_worksToday_40 : decode cX9_worksToday 40 = .ok (.iaload, 1) := by decide +kernel
theorem dX9_worksToday_41 : decode cX9_worksToday 41 = .ok (.istore 5, 2) := by decide +kernel
theorem dX9_worksToday_43 : decode cX9_worksToday 43 = .ok (.iload 5, 2) := by decide +kernel
theorem dX9_worksToday_45 : decode cX9_worksToday 45 = .ok (.bipush 12, 2) := by decide +kernel
theorem dX9_worksToday_47 : decode cX9_worksToday 47 = .ok (.if_icmp .eq 27, 3) := by decide +kernel
theorem dX9_worksToday_50 : decode cX9_worksToday 50 = .ok (.aload_n 0, 1) := by decide +kernel
theorem dX9_worksToday_51 : decode cX9_worksToday 51 = .ok (.getfield 10, 3) := by decide +kernel
theorem dX9_worksToday_54 : decode cX9_worksToday 54 = .ok (.getfield 383, 3) := by decide +kernel
theorem dX9_worksToday_57 : decode cX9_worksToday 57 = .ok (.iload 5, 2) := by decide +kernel
theorem dX9_worksToday_59 : decode cX9_worksToday 59 = .ok (.iaload, 1) := by decide +kernel
theorem dX9_worksToday_60 : decode cX9_worksToday 60 = .ok (.aload_n 0, 1) := by decide +kernel
theorem dX9_worksToday_61 : decode cX9_worksToday 61 = .ok (.getfield 10, 3) := by decide +kernel
theorem dX9_worksToday_64 : decode cX9_worksToday 64 = .ok (.getfield 383, 3) := by decide +kernel
theorem dX9_worksToday_67 : decode cX9_worksToday 67 = .ok (.iload_n 2, 1) := by decide +kernel
theorem dX9_worksToday_68 : decode cX9_worksToday 68 = .ok (.iconst 4, 1) := by decide +kernel
theorem dX9_worksToday_69 : decode cX9_worksToday 69 = .ok (.idiv, 1) := by decide +kernel
theorem dX9_worksToday_70 : decode cX9_worksToday 70 = .ok (.iaload, 1) := by decide +kernel
theorem dX9_worksToday_71 : decode cX9_worksToday 71 = .ok (.if_icmp .gt 7, 3) := by decide +kernel
theorem dX9_worksToday_74 : decode cX9_worksToday 74 = .ok (.iconst 1, 1) := by decide +kernel
theorem dX9_worksToday_75 : decode cX9_worksToday 75 = .ok (.goto 4, 3) := by decide +kernel
theorem dX9_worksToday_78 : decode cX9_worksToday 78 = .ok (.iconst 0, 1) := by decide +kernel
theorem dX9_worksToday_79 : decode cX9_worksToday 79 = .ok (.istore 6, 2) := by decide +kernel
theorem dX9_worksToday_81 : decode cX9_worksToday 81 = .ok (.aload_n 0, 1) := by decide +kernel
theorem dX9_worksToday_82 : decode cX9_worksToday 82 = .ok (.getfield 40, 3) := by decide +kernel
theorem dX9_worksToday_85 : decode cX9_worksToday 85 = .ok (.iload_n 1, 1) := by decide +kernel
theorem dX9_worksToday_86 : decode cX9_worksToday 86 = .ok (.iload 4, 2) := by decide +kernel
theorem dX9_worksToday_88 : decode cX9_worksToday 88 = .ok (.iload_n 3, 1) := by decide +kernel
theorem dX9_worksToday_89 : decode cX9_worksToday 89 = .ok (.aload_n 0, 1) := by decide +kernel
theorem dX9_worksToday_90 : decode cX9_worksToday 90 = .ok (.iload_n 1, 1) := by decide +kernel
theorem dX9_worksToday_91 : decode cX9_worksToday 91 = .ok (.iload 4, 2) := by decide +kernel
theorem dX9_worksToday_93 : decode cX9_worksToday 93 = .ok (.iload_n 2, 1) := by decide +kernel
theorem dX9_worksToday_94 : decode cX9_worksToday 94 = .ok (.invokevirtual 171, 3) := by decide +kernel
theorem dX9_worksToday_97 : decode cX9_worksToday 97 = .ok (.invokevirtual 402, 3) := by decide +kernel
theorem dX9_worksToday_100 : decode cX9_worksToday 100 = .ok (.aload_n 0, 1) := by decide +kernel
theorem dX9_worksToday_101 : decode cX9_worksToday 101 = .ok (.getfield 33, 3) := by decide +kernel
theorem dX9_worksToday_104 : decode cX9_worksToday 104 = .ok (.iload_n 3, 1) := by decide +kernel
theorem dX9_worksToday_105 : decode cX9_worksToday 105 = .ok (.iload 6, 2) := by decide +kernel
theorem dX9_worksToday_107 : decode cX9_worksToday 107 = .ok (.invokevirtual 405, 3) := by decide +kernel
theorem dX9_worksToday_110 : decode cX9_worksToday 110 = .ok (.iconst 1, 1) := by decide +kernel
theorem dX9_worksToday_111 : decode cX9_worksToday 111 = .ok (.ireturn, 1) := by decide +kernel
theorem dX9_worthOfBestDays_0 : decode cX9_worthOfBestDays 0 = .ok (.iconst 0, 1) := by decide +kernel
theorem dX9_worthOfBestDays_1 : decode cX9_worthOfBestDays 1 = .ok (.istore 5, 2) := by decide +kernel
theorem dX9_worthOfBestDays_3 : decode cX9_worthOfBestDays 3 = .ok (.iload 5, 2) := by decide +kernel
theorem dX9_worthOfBestDays_5 : decode cX9_worthOfBestDays 5 = .ok (.bipush 99, 2) := by decide +kernel
theorem dX9_worthOfBestDays_7 : decode cX9_worthOfBestDays 7 = .ok (.if_icmp .gt 17, 3) := by decide +kernel
theorem dX9_worthOfBestDays_10 : decode cX9_worthOfBestDays 10 = .ok (.aload_n 0, 1) := by decide +kernel
theorem dX9_worthOfBestDays_11 : decode cX9_worthOfBestDays 11 = .ok (.getfield 70, 3) := by decide +kernel
theorem dX9_worthOfBestDays_14 : decode cX9_worthOfBestDays 14 = .ok (.iload 5, 2) := by decide +kernel
theorem dX9_worthOfBestDays_16 : decode cX9_worthOfBestDays 16 = .ok (.iconst 0, 1) := by decide +kernel
theorem dX9_worthOfBestDays_17 : decode cX9_worthOfBestDays 17 = .ok (.iastore, 1) := by decide +kernel
theorem dX9_worthOfBestDays_18 : decode cX9_worthOfBestDays 18 = .ok (.iinc 5 1, 3) := by decide +kernel
theorem dX9_worthOfBestDays_21 : decode cX9_worthOfBestDays 21 = .ok (.goto (-18), 3) := by decide +kernel
theorem dX9_worthOfBestDays_24 : decode cX9_worthOfBestDays 24 = .ok (.aload_n 0, 1) := by decide +kernel
theorem dX9_worthOfBestDays_25 : decode cX9_worthOfBestDays 25 = .ok (.getfield 40, 3) := by decide +kernel
theorem dX9_worthOfBestDays_28 : decode cX9_worthOfBestDays 28 = .ok (.getfield 175, 3) := by decide +kernel
theorem dX9_worthOfBestDays_31 : decode cX9_worthOfBestDays 31 = .ok (.iconst 3, 1) := by decide +kernel
theorem dX9_worthOfBestDays_32 : decode cX9_worthOfBestDays 32 = .ok (.iadd, 1) := by decide +kernel
theorem dX9_worthOfBestDays_33 : decode cX9_worthOfBestDays 33 = .ok (.istore 5, 2) := by decide +kernel
theorem dX9_worthOfBestDays_35 : decode cX9_worthOfBestDays 35 = .ok (.iload 5, 2) := by decide +kernel
theorem dX9_worthOfBestDays_37 : decode cX9_worthOfBestDays 37 = .ok (.iload 4, 2) := by decide +kernel
theorem dX9_worthOfBestDays_39 : decode cX9_worthOfBestDays 39 = .ok (.if_icmp .gt 34, 3) := by decide +kernel
theorem dX9_worthOfBestDays_42 : decode cX9_worthOfBestDays 42 = .ok (.iload 5, 2) := by decide +kernel
theorem dX9_worthOfBestDays_44 : decode cX9_worthOfBestDays 44 = .ok (.invokestatic 178, 3) := by decide +kernel
theorem dX9_worthOfBestDays_47 : decode cX9_worthOfBestDays 47 = .ok (.ifCond .ne 20, 3) := by decide +kernel
theorem dX9_worthOfBestDays_50 : decode cX9_worthOfBestDays 50 = .ok (.aload_n 0, 1) := by decide +kernel
theorem dX9_worthOfBestDays_51 : decode cX9_worthOfBestDays 51 = .ok (.getfield 70, 3) := by decide +kernel
theorem dX9_worthOfBestDays_54 : decode cX9_worthOfBestDays 54 = .ok (.aload_n 0, 1) := by decide +kernel
theorem dX9_worthOfBestDays_55 : decode cX9_worthOfBestDays 55 = .ok (.iload_n 1, 1) := by decide +kernel
theorem dX9_worthOfBestDays_56 : decode cX9_worthOfBestDays 56 = .ok (.iload_n 2, 1) := by decide +kernel
theorem dX9_worthOfBestDays_57 : decode cX9_worthOfBestDays 57 = .ok (.iload 5, 2) := by decide +kernel
theorem dX9_worthOfBestDays_59 : decode cX9_worthOfBestDays 59 = .ok (.invokevirtual 171, 3) := by decide +kernel
theorem dX9_worthOfBestDays_62 : decode cX9_worthOfBestDays 62 = .ok (.dup2, 1) := by decide +kernel
theorem dX9_worthOfBestDays_63 : decode cX9_worthOfBestDays 63 = .ok (.iaload, 1) := by decide +kernel
theorem dX9_worthOfBestDays_64 : decode cX9_worthOfBestDays 64 = .ok (.iconst 1, 1) := by decide +kernel
theorem dX9_worthOfBestDays_65 : decode cX9_worthOfBestDays 65 = .ok (.iadd, 1) := by decide +kernel
theorem dX9_worthOfBestDays_66 : decode cX9_worthOfBestDays 66 = .ok (.iastore, 1) := by decide +kernel
theorem dX9_worthOfBestDays_67 : decode cX9_worthOfBestDays 67 = .ok (.iinc 5 1, 3) := by decide +kernel
theorem dX9_worthOfBestDays_70 : decode cX9_worthOfBestDays 70 = .ok (.goto (-35), 3) := by decide +kernel
theorem dX9_worthOfBestDays_73 : decode cX9_worthOfBestDays 73 = .ok (.iconst 0, 1) := by decide +kernel
theorem dX9_worthOfBestDays_74 : decode cX9_worthOfBestDays 74 = .ok (.istore 5, 2) := by decide +kernel
theorem dX9_worthOfBestDays_76 : decode cX9_worthOfBestDays 76 = .ok (.iload_n 3, 1) := by decide +kernel
theorem dX9_worthOfBestDays_77 : decode cX9_worthOfBestDays 77 = .ok (.istore 6, 2) := by decide +kernel
theorem dX9_worthOfBestDays_79 : decode cX9_worthOfBestDays 79 = .ok (.bipush 99, 2) := by decide +kernel
theorem dX9_worthOfBestDays_81 : decode cX9_worthOfBestDays 81 = .ok (.istore 7, 2) := by decide +kernel
theorem dX9_worthOfBestDays_83 : decode cX9_worthOfBestDays 83 = .ok (.iload 7, 2) := by decide +kernel
theorem dX9_worthOfBestDays_85 : decode cX9_worthOfBestDays 85 = .ok (.ifCond .le 40, 3) := by decide +kernel
theorem dX9_worthOfBestDays_88 : decode cX9_worthOfBestDays 88 = .ok (.iload 6, 2) := by decide +kernel
theorem dX9_worthOfBestDays_90 : decode cX9_worthOfBestDays 90 = .ok (.aload_n 0, 1) := by decide +kernel
theorem dX9_worthOfBestDays_91 : decode cX9_worthOfBestDays 91 = .ok (.getfield 70, 3) := by decide +kernel
theorem dX9_worthOfBestDays_94 : decode cX9_worthOfBestDays 94 = .ok (.iload 7, 2) := by decide +kernel
theorem dX9_worthOfBestDays_96 : decode cX9_worthOfBestDays 96 = .ok (.iaload, 1) := by decide +kernel
theorem dX9_worthOfBestDays_97 : decode cX9_worthOfBestDays 97 = .ok (.invokestatic 298, 3) := by decide +kernel
theorem dX9_worthOfBestDays_100 : decode cX9_worthOfBestDays 100 = .ok (.istore 8, 2) := by decide +kernel
theorem dX9_worthOfBestDays_102 : decode cX9_worthOfBestDays 102 = .ok (.iload 5, 2) := by decide +kernel
theorem dX9_worthOfBestDays_104 : decode cX9_worthOfBestDays 104 = .ok (.iload 8, 2) := by decide +kernel
theorem dX9_worthOfBestDays_106 : decode cX9_worthOfBestDays 106 = .ok (.iload 7, 2) := by decide +kernel
theorem dX9_worthOfBestDays_108 : decode cX9_worthOfBestDays 108 = .ok (.imul, 1) := by decide +kernel
theorem dX9_worthOfBestDays_109 : decode cX9_worthOfBestDays 109 = .ok (.iadd, 1) := by decide +kernel
theorem dX9_worthOfBestDays_110 : decode cX9_worthOfBestDays 110 = .ok (.istore 5, 2) := by decide +kernel
theorem dX9_worthOfBestDays_112 : decode cX9_worthOfBestDays 112 = .ok (.iload 6, 2) := by decide +kernel
theorem dX9_worthOfBestDays_114 : decode cX9_worthOfBestDays 114 = .ok (.iload 8, 2) := by decide +kernel
theorem dX9_worthOfBestDays_116 : decode cX9_worthOfBestDays 116 = .ok (.isub, 1) := by decide +kernel
theorem dX9_worthOfBestDays_117 : decode cX9_worthOfBestDays 117 = .ok (.istore 6, 2) := by decide +kernel
theorem dX9_worthOfBestDays_119 : decode cX9_worthOfBestDays 119 = .ok (.iinc 7 (-1), 3) := by decide +kernel
theorem dX9_worthOfBestDays_122 : decode cX9_worthOfBestDays 122 = .ok (.goto (-39), 3) := by decide +kernel
theorem dX9_worthOfBestDays_125 : decode cX9_worthOfBestDays 125 = .ok (.iload 5, 2) := by decide +kernel
theorem dX9_worthOfBestDays_127 : decode cX9_worthOfBestDays 127 = .ok (.ireturn, 1) := by decide +kernel
theorem dX9_isThreeSo_0 : decode cX9_isThreeSo 0 = .ok (.iload_n 2, 1) := by decide +kernel
theorem dX9_isThreeSo_1 : decode cX9_isThreeSo 1 = .ok (.iconst 2, 1) := by decide +kernel
theorem dX9_isThreeSo_2 : decode cX9_isThreeSo 2 = .ok (.iadd, 1) := by decide +kernel
theorem dX9_isThreeSo_3 : decode cX9_isThreeSo 3 = .ok (.aload_n 1, 1) := by decide +kernel
theorem dX9_isThreeSo_4 : decode cX9_isThreeSo 4 = .ok (.getfield 252, 3) := by decide +kernel
theorem dX9_isThreeSo_7 : decode cX9_isThreeSo 7 = .ok (.if_icmp .lt 5, 3) := by decide +kernel
theorem dX9_isThreeSo_10 : decode cX9_isThreeSo 10 = .ok (.iconst 0, 1) := by decide +kernel
theorem dX9_isThreeSo_11 : decode cX9_isThreeSo 11 = .ok (.ireturn, 1) := by decide +kernel
theorem dX9_isThreeSo_12 : decode cX9_isThreeSo 12 = .ok (.aload_n 1, 1) := by decide +kernel
theorem dX9_isThreeSo_13 : decode cX9_isThreeSo 13 = .ok (.iload_n 2, 1) := by decide +kernel
theorem dX9_isThreeSo_14 : decode cX9_isThreeSo 14 = .ok (.invokevirtual 259, 3) := by decide +kernel
theorem dX9_isThreeSo_17 : decode cX9_isThreeSo 17 = .ok (.istore_n 3, 1) := by decide +kernel
theorem dX9_isThreeSo_18 : decode cX9_isThreeSo 18 = .ok (.aload_n 1, 1) := by decide +kernel
theorem dX9_isThreeSo_19 : decode cX9_isThreeSo 19 = .ok (.iload_n 2, 1) := by decide +kernel
theorem dX9_isThreeSo_20 : decode cX9_isThreeSo 20 = .ok (.iconst 1, 1) := by decide +kernel
theorem dX9_isThreeSo_21 : decode cX9_isThreeSo 21 = .ok (.iadd, 1) := by decide +kernel
theorem dX9_isThreeSo_22 : decode cX9_isThreeSo 22 = .ok (.invokevirtual 259, 3) := by decide +kernel
theorem dX9_isThreeSo_25 : decode cX9_isThreeSo 25 = .ok (.istore 4, 2) := by decide +kernel
theorem dX9_isThreeSo_27 : decode cX9_isThreeSo 27 = .ok (.aload_n 1, 1) := by decide +kernel
theorem dX9_isThreeSo_28 : decode cX9_isThreeSo 28 = .ok (.iload_n 2, 1) := by decide +kernel
theorem dX9_isThreeSo_29 : decode cX9_isThreeSo 29 = .ok (.iconst 2, 1) := by decide +kernel
theorem dX9_isThreeSo_30 : decode cX9_isThreeSo 30 = .ok (.iadd, 1) := by decide +kernel
theorem dX9_isThreeSo_31 : decode cX9_isThreeSo 31 = .ok (.invokevirtual 259, 3) := by decide +kernel
theorem dX9_isThreeSo_34 : decode cX9_isThreeSo 34 = .ok (.istore 5, 2) := by decide +kernel
theorem dX9_isThreeSo_36 : decode cX9_isThreeSo 36 = .ok (.aload_n 0, 1) := by decide +kernel
theorem dX9_isThreeSo_37 : decode cX9_isThreeSo 37 = .ok (.getfield 10, 3) := by decide +kernel
theorem dX9_isThreeSo_40 : decode cX9_isThreeSo 40 = .ok (.iload_n 3, 1) := by decide +kernel
theorem dX9_isThreeSo_41 : decode cX9_isThreeSo 41 = .ok (.iload 4, 2) := by decide +kernel
theorem dX9_isThreeSo_43 : decode cX9_isThreeSo 43 = .ok (.invokevirtual 355, 3) := by decide +kernel
theorem dX9_isThreeSo_46 : decode cX9_isThreeSo 46 = .ok (.ifCond .eq 28, 3) := by decide +kernel
theorem dX9_isThreeSo_49 : decode cX9_isThreeSo 49 = .ok (.iload 5, 2) := by decide +kernel
theorem dX9_isThreeSo_51 : decode cX9_isThreeSo 51 = .ok (.iconst (-1), 1) := by decide +kernel
theorem dX9_isThreeSo_52 : decode cX9_isThreeSo 52 = .ok (.if_icmp .eq 18, 3) := by decide +kernel
theorem dX9_isThreeSo_55 : decode cX9_isThreeSo 55 = .ok (.iload 5, 2) := by decide +kernel
theorem dX9_isThreeSo_57 : decode cX9_isThreeSo 57 = .ok (.aload_n 0, 1) := by decide +kernel
theorem dX9_isThreeSo_58 : decode cX9_isThreeSo 58 = .ok (.getfield 33, 3) := by decide +kernel
theorem dX9_isThreeSo_61 : decode cX9_isThreeSo 61 = .ok (.iload_n 3, 1) := by decide +kernel
theorem dX9_isThreeSo_62 : decode cX9_isThreeSo 62 = .ok (.iload 4, 2) := by decide +kernel
theorem dX9_isThreeSo_64 : decode cX9_isThreeSo 64 = .ok (.invokevirtual 149, 3) := by decide +kernel
theorem dX9_isThreeSo_67 : decode cX9_isThreeSo 67 = .ok (.if_icmp .ne 7, 3) := by decide +kernel
theorem dX9_isThreeSo_70 : decode cX9_isThreeSo 70 = .ok (.iconst 1, 1) := by decide +kernel
theorem dX9_isThreeSo_71 : decode cX9_isThreeSo 71 = .ok (.goto 4, 3) := by decide +kernel
theorem dX9_isThreeSo_74 : decode cX9_isThreeSo 74 = .ok (.iconst 0, 1) := by decide +kernel
theorem dX9_isThreeSo_75 : decode cX9_isThreeSo 75 = .ok (.ireturn, 1) := by decide +kernel
theorem dX9_refusalOfElement_0 : decode cX9_refusalOfElement 0 = .ok (.iload_n 1, 1) := by decide +kernel
theorem dX9_refusalOfElement_1 : decode cX9_refusalOfElement 1 = .ok (.invokestatic 102, 3) := by decide +kernel
theorem dX9_refusalOfElement_4 : decode cX9_refusalOfElement 4 = .ok (.ifCond .ne 5, 3) := by decide +kernel
theorem dX9_refusalOfElement_7 : decode cX9_refusalOfElement 7 = .ok (.iconst (-1), 1) := by decide +kernel
theorem dX9_refusalOfElement_8 : decode cX9_refusalOfElement 8 = .ok (.ireturn, 1) := by decide +kernel
theorem dX9_refusalOfElement_9 : decode cX9_refusalOfElement 9 = .ok (.aload_n 0, 1) := by decide +kernel
theorem dX9_refusalOfElement_10 : decode cX9_refusalOfElement 10 = .ok (.getfield 66, 3) := by decide +kernel
theorem dX9_refusalOfElement_13 : decode cX9_refusalOfElement 13 = .ok (.iload_n 1, 1) := by decide +kernel
theorem dX9_refusalOfElement_14 : decode cX9_refusalOfElement 14 = .ok (.aaload, 1) := by decide +kernel
theorem dX9_refusalOfElement_15 : decode cX9_refusalOfElement 15 = .ok (.astore_n 3, 1) := by decide +kernel
theorem dX9_refusalOfElement_16 : decode cX9_refusalOfElement 16 = .ok (.aload_n 3, 1) := by decide +kernel
theorem dX9_refusalOfElement_17 : decode cX9_refusalOfElement 17 = .ok (.invokevirtual 105, 3) := by decide +kernel
theorem dX9_refusalOfElement_20 : decode cX9_refusalOfElement 20 = .ok (.ifCond .eq 6, 3) := by decide +kernel
theorem dX9_refusalOfElement_23 : decode cX9_refusalOfElement 23 = .ok (.bipush (-11), 2) := by decide +kernel
theorem dX9_refusalOfElement_25 : decode cX9_refusalOfElement 25 = .ok (.ireturn, 1) := by decide +kernel
theorem dX9_refusalOfElement_26 : decode cX9_refusalOfElement 26 = .ok (.aload_n 3, 1) := by decide +kernel
theorem dX9_refusalOfElement_27 : decode cX9_refusalOfElement 27 = .ok (.invokevirtual 329, 3) := by decide +kernel
theorem dX9_refusalOfElement_30 : decode cX9_refusalOfElement 30 = .ok (.ifCond .ne 6, 3) := by decide +kernel
theorem dX9_refusalOfElement_33 : decode cX9_refusalOfElement 33 = .ok (.bipush (-12), 2) := by decide +kernel
theorem dX9_refusalOfElement_35 : decode cX9_refusalOfElement 35 = .ok (.ireturn, 1) := by decide +kernel
theorem dX9_refusalOfElement_36 : decode cX9_refusalOfElement 36 = .ok (.aload_n 3, 1) := by decide +kernel
theorem dX9_refusalOfElement_37 : decode cX9_refusalOfElement 37 = .ok (.iload_n 2, 1) := by decide +kernel
theorem dX9_refusalOfElement_38 : decode cX9_refusalOfElement 38 = .ok (.iconst 1, 1) := by decide +kernel
theorem dX9_refusalOfElement_39 : decode cX9_refusalOfElement 39 = .ok (.invokevirtual 332, 3) := by decide +kernel
theorem dX9_refusalOfElement_42 : decode cX9_refusalOfElement 42 = .ok (.ifCond .eq 7, 3) := by decide +kernel
theorem dX9_refusalOfElement_45 : decode cX9_refusalOfElement 45 = .ok (.iconst 0, 1) := by decide +kernel
theorem dX9_refusalOfElement_46 : decode cX9_refusalOfElement 46 = .ok (.goto 5, 3) := by decide +kernel
theorem dX9_refusalOfElement_49 : decode cX9_refusalOfElement 49 = .ok (.bipush (-13), 2) := by decide +kernel
theorem dX9_refusalOfElement_51 : decode cX9_refusalOfElement 51 = .ok (.ireturn, 1) := by decide +kernel
theorem dJ9_max_7cf53_0 : decode cJ9_max_7cf53 0 = .ok (.iload_n 0, 1) := by decide +kernel
theorem dJ9_max_7cf53_1 : decode cJ9_max_7cf53 1 = .ok (.iload_n 1, 1) := by decide +kernel
theorem dJ9_max_7cf53_2 : decode cJ9_max_7cf53 2 = .ok (.if_icmp .lt 7, 3) := by decide +kernel
theorem dJ9_max_7cf53_5 : decode cJ9_max_7cf53 5 = .ok (.iload_n 0, 1) := by decide +kernel
theorem dJ9_max_7cf53_6 : decode cJ9_max_7cf53 6 = .ok (.goto 4, 3) := by decide +kernel
theorem dJ9_max_7cf53_9 : decode cJ9_max_7cf53 9 = .ok (.iload_n 1, 1) := by decide +kernel
theorem dJ9_max_7cf53_10 : decode cJ9_max_7cf53 10 = .ok (.ireturn, 1) := by decide +kernel
theorem dJ9_min_7cf53_0 : decode cJ9_min_7cf53 0 = .ok (.iload_n 0, 1) := by decide +kernel
theorem dJ9_min_7cf53_1 : decode cJ9_min_7cf53 1 = .ok (.iload_n 1, 1) := by decide +kernel
theorem dJ9_min_7cf53_2 : decode cJ9_min_7cf53 2 = .ok (.if_icmp .gt 7, 3) := by decide +kernel
theorem dJ9_min_7cf53_5 : decode cJ9_min_7cf53 5 = .ok (.iload_n 0, 1) := by decide +kernel
theorem dJ9_min_7cf53_6 : decode cJ9_min_7cf53 6 = .ok (.goto 4, 3) := by decide +kernel
theorem dJ9_min_7cf53_9 : decode cJ9_min_7cf53 9 = .ok (.iload_n 1, 1) := by decide +kernel
theorem dJ9_min_7cf53_10 : decode cJ9_min_7cf53 10 = .ok (.ireturn, 1) := by decide +kernel
