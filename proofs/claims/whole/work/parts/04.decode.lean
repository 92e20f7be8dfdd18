theorem dX0_init_0 : decode cX0_init 0 = .ok (.aload_n 0, 1) := by decide +kernel
theorem dX0_init_1 : decode cX0_init 1 = .ok (.invokespecial 3, 3) := by decide +kernel
theorem dX0_init_4 : decode cX0_init 4 = .ok (.aload_n 0, 1) := by decide +kernel
theorem dX0_init_5 : decode cX0_init 5 = .ok (.new 9, 3) := by decide +kernel
theorem dX0_init_8 : decode cX0_init 8 = .ok (.dup, 1) := by decide +kernel
theorem dX0_init_9 : decode cX0_init 9 = .ok (.invokespecial 11, 3) := by decide +kernel
theorem dX0_init_12 : decode cX0_init 12 = .ok (.putfield 12, 3) := by decide +kernel
theorem dX0_init_15 : decode cX0_init 15 = .ok (.aload_n 0, 1) := by decide +kernel
theorem dX0_init_16 : decode cX0_init 16 = .ok (.new 9, 3) := by decide +kernel
theorem dX0_init_19 : decode cX0_init 19 = .ok (.dup, 1) := by decide +kernel
theorem dX0_init_20 : decode cX0_init 20 = .ok (.invokespecial 11, 3) := by decide +kernel
theorem dX0_init_23 : decode cX0_init 23 = .ok (.putfield 18, 3) := by decide +kernel
theorem dX0_init_26 : decode cX0_init 26 = .ok (.aload_n 0, 1) := by decide +kernel
theorem dX0_init_27 : decode cX0_init 27 = .ok (.new 21, 3) := by decide +kernel
theorem dX0_init_30 : decode cX0_init 30 = .ok (.dup, 1) := by decide +kernel
theorem dX0_init_31 : decode cX0_init 31 = .ok (.invokespecial 23, 3) := by decide +kernel
theorem dX0_init_34 : decode cX0_init 34 = .ok (.putfield 24, 3) := by decide +kernel
theorem dX0_init_37 : decode cX0_init 37 = .ok (.aload_n 0, 1) := by decide +kernel
theorem dX0_init_38 : decode cX0_init 38 = .ok (.new 28, 3) := by decide +kernel
theorem dX0_init_41 : decode cX0_init 41 = .ok (.dup, 1) := by decide +kernel
theorem dX0_init_42 : decode cX0_init 42 = .ok (.invokespecial 30, 3) := by decide +kernel
theorem dX0_init_45 : decode cX0_init 45 = .ok (.putfield 31, 3) := by decide +kernel
theorem dX0_init_48 : decode cX0_init 48 = .ok (.aload_n 0, 1) := by decide +kernel
theorem dX0_init_49 : decode cX0_init 49 = .ok (.new 35, 3) := by decide +kernel
theorem dX0_init_52 : decode cX0_init 52 = .ok (.dup, 1) := by decide +kernel
theorem dX0_init_53 : decode cX0_init 53 = .ok (.invokespecial 37, 3) := by decide +kernel
theorem dX0_init_56 : decode cX0_init 56 = .ok (.putfield 38, 3) := by decide +kernel
theorem dX0_init_59 : decode cX0_init 59 = .ok (.aload_n 0, 1) := by decide +kernel
theorem dX0_init_60 : decode cX0_init 60 = .ok (.new 42, 3) := by decide +kernel
theorem dX0_init_63 : decode cX0_init 63 = .ok (.dup, 1) := by decide +kernel
theorem dX0_init_64 : decode cX0_init 64 = .ok (.invokespecial 44, 3) := by decide +kernel
theorem dX0_init_67 : decode cX0_init 67 = .ok (.putfield 45, 3) := by decide +kernel
theorem dX0_init_70 : decode cX0_init 70 = .ok (.aload_n 0, 1) := by decide +kernel
theorem dX0_init_71 : decode cX0_init 71 = .ok (.new 49, 3) := by decide +kernel
theorem dX0_init_74 : decode cX0_init 74 = .ok (.dup, 1) := by decide +kernel
theorem dX0_init_75 : decode cX0_init 75 = .ok (.invokespecial 51, 3) := by decide +kernel
theorem dX0_init_78 : decode cX0_init 78 = .ok (.putfield 52, 3) := by decide +kernel
theorem dX0_init_81 : decode cX0_init 81 = .ok (.aload_n 0, 1) := by decide +kernel
theorem dX0_init_82 : decode cX0_init 82 = .ok (.new 49, 3) := by decide +kernel
theorem dX0_init_85 : decode cX0_init 85 = .ok (.dup, 1) := by decide +kernel
theorem dX0_init_86 : decode cX0_init 86 = .ok (.invokespecial 51, 3) := by decide +kernel
theorem dX0_init_89 : decode cX0_init 89 = .ok (.putfield 56, 3) := by decide +kernel
theorem dX0_init_92 : decode cX0_init 92 = .ok (.aload_n 0, 1) := by decide +kernel
theorem dX0_init_93 : decode cX0_init 93 = .ok (.bipush 8, 2) := by decide +kernel
theorem dX0_init_95 : decode cX0_init 95 = .ok (.newarray .int, 2) := by decide +kernel
theorem dX0_init_97 : decode cX0_init 97 = .ok (.putfield 59, 3) := by decide +kernel
theorem dX0_init_100 : decode cX0_init 100 = .ok (.aload_n 0, 1) := by decide +kernel
theorem dX0_init_101 : decode cX0_init 101 = .ok (.iconst (-1), 1) := by decide +kernel
theorem dX0_init_102 : decode cX0_init 102 = .ok (.putfield 63, 3) := by decide +kernel
theorem dX0_init_105 : decode cX0_init 105 = .ok (.aload_n 0, 1) := by decide +kernel
theorem dX0_init_106 : decode cX0_init 106 = .ok (.iconst 0, 1) := by decide +kernel
theorem dX0_init_107 : decode cX0_init 107 = .ok (.putfield 67, 3) := by decide +kernel
theorem dX0_init_110 : decode cX0_init 110 = .ok (.aload_n 0, 1) := by decide +kernel
theorem dX0_init_111 : decode cX0_init 111 = .ok (.iconst 0, 1) := by decide +kernel
theorem dX0_init_112 : decode cX0_init 112 = .ok (.putfield 70, 3) := by decide +kernel
theorem dX0_init_115 : decode cX0_init 115 = .ok (.aload_n 0, 1) := by decide +kernel
theorem dX0_init_116 : decode cX0_init 116 = .ok (.iconst 0, 1) := by decide +kernel
theorem dX0_init_117 : decode cX0_init 117 = .ok (.putfield 73, 3) := by decide +kernel
theorem dX0_init_120 : decode cX0_init 120 = .ok (.aload_n 0, 1) := by decide +kernel
theorem dX0_init_121 : decode cX0_init 121 = .ok (.iconst 0, 1) := by decide +kernel
theorem dX0_init_122 : decode cX0_init 122 = .ok (.putfield 76, 3) := by decide +kernel
theorem dX0_init_125 : decode cX0_init 125 = .ok (.aload_n 0, 1) := by decide +kernel
theorem dX0_init_126 : decode cX0_init 126 = .ok (.iconst 0, 1) := by decide +kernel
theorem dX0_init_127 : decode cX0_init 127 = .ok (.putfield 79, 3) := by decide +kernel
theorem dX0_init_130 : decode cX0_init 130 = .ok (.aload_n 0, 1) := by decide +kernel
theorem dX0_init_131 : decode cX0_init 131 = .ok (.iconst 0, 1) := by decide +kernel
theorem dX0_init_132 : decode cX0_init 132 = .ok (.putfield 82, 3) := by decide +kernel
theorem dX0_init_135 : decode cX0_init 135 = .ok (.return_, 1) := by decide +kernel
theorem dX0_takeWrittenTable_0 : decode cX0_takeWrittenTable 0 = .ok (.aload_n 0, 1) := by decide +kernel
theorem dX0_takeWrittenTable_1 : decode cX0_takeWrittenTable 1 = .ok (.aload_n 0, 1) := by decide +kernel
theorem dX0_takeWrittenTable_2 : decode cX0_takeWrittenTable 2 = .ok (.getfield 12, 3) := by decide +kernel
theorem dX0_takeWrittenTable_5 : decode cX0_takeWrittenTable 5 = .ok (.invokevirtual 86, 3) := by decide +kernel
theorem dX0_takeWrittenTable_8 : decode cX0_takeWrittenTable 8 = .ok (.putfield 63, 3) := by decide +kernel
theorem dX0_takeWrittenTable_11 : decode cX0_takeWrittenTable 11 = .ok (.aload_n 0, 1) := by decide +kernel
theorem dX0_takeWrittenTable_12 : decode cX0_takeWrittenTable 12 = .ok (.getfield 63, 3) := by decide +kernel
theorem dX0_takeWrittenTable_15 : decode cX0_takeWrittenTable 15 = .ok (.iconst (-1), 1) := by decide +kernel
theorem dX0_takeWrittenTable_16 : decode cX0_takeWrittenTable 16 = .ok (.if_icmp .eq 5, 3) := by decide +kernel
theorem dX0_takeWrittenTable_19 : decode cX0_takeWrittenTable 19 = .ok (.iconst 0, 1) := by decide +kernel
theorem dX0_takeWrittenTable_20 : decode cX0_takeWrittenTable 20 = .ok (.ireturn, 1) := by decide +kernel
theorem dX0_takeWrittenTable_21 : decode cX0_takeWrittenTable 21 = .ok (.aload_n 0, 1) := by decide +kernel
theorem dX0_takeWrittenTable_22 : decode cX0_takeWrittenTable 22 = .ok (.getfield 18, 3) := by decide +kernel
theorem dX0_takeWrittenTable_25 : decode cX0_takeWrittenTable 25 = .ok (.aload_n 0, 1) := by decide +kernel
theorem dX0_takeWrittenTable_26 : decode cX0_takeWrittenTable 26 = .ok (.getfield 12, 3) := by decide +kernel
theorem dX0_takeWrittenTable_29 : decode cX0_takeWrittenTable 29 = .ok (.invokevirtual 89, 3) := by decide +kernel
theorem dX0_takeWrittenTable_32 : decode cX0_takeWrittenTable 32 = .ok (.aload_n 0, 1) := by decide +kernel
theorem dX0_takeWrittenTable_33 : decode cX0_takeWrittenTable 33 = .ok (.aload_n 0, 1) := by decide +kernel
theorem dX0_takeWrittenTable_34 : decode cX0_takeWrittenTable 34 = .ok (.getfield 18, 3) := by decide +kernel
theorem dX0_takeWrittenTable_37 : decode cX0_takeWrittenTable 37 = .ok (.invokevirtual 93, 3) := by decide +kernel
theorem dX0_takeWrittenTable_40 : decode cX0_takeWrittenTable 40 = .ok (.putfield 67, 3) := by decide +kernel
theorem dX0_takeWrittenTable_43 : decode cX0_takeWrittenTable 43 = .ok (.aload_n 0, 1) := by decide +kernel
theorem dX0_takeWrittenTable_44 : decode cX0_takeWrittenTable 44 = .ok (.invokevirtual 95, 3) := by decide +kernel
theorem dX0_takeWrittenTable_47 : decode cX0_takeWrittenTable 47 = .ok (.iconst 1, 1) := by decide +kernel
theorem dX0_takeWrittenTable_48 : decode cX0_takeWrittenTable 48 = .ok (.ireturn, 1) := by decide +kernel
theorem dX0_isOff_0 : decode cX0_isOff 0 = .ok (.aload_n 0, 1) := by decide +kernel
theorem dX0_isOff_1 : decode cX0_isOff 1 = .ok (.getfield 67, 3) := by decide +kernel
theorem dX0_isOff_4 : decode cX0_isOff 4 = .ok (.ifCond .ne 7, 3) := by decide +kernel
theorem dX0_isOff_7 : decode cX0_isOff 7 = .ok (.iconst 1, 1) := by decide +kernel
theorem dX0_isOff_8 : decode cX0_isOff 8 = .ok (.goto 4, 3) := by decide +kernel
theorem dX0_isOff_11 : decode cX0_isOff 11 = .ok (.iconst 0, 1) := by decide +kernel
theorem dX0_isOff_12 : decode cX0_isOff 12 = .ok (.ireturn, 1) := by decide +kernel
theorem dX0_start_0 : decode cX0_start 0 = .ok (.aload_n 0, 1) := by decide +kernel
theorem dX0_start_1 : decode cX0_start 1 = .ok (.iconst 0, 1) := by decide +kernel
theorem dX0_start_2 : decode cX0_start 2 = .ok (.putfield 70, 3) := by decide +kernel
theorem dX0_start_5 : decode cX0_start 5 = .ok (.aload_n 0, 1) := by decide +kernel
theorem dX0_start_6 : decode cX0_start 6 = .ok (.getfield 52, 3) := by decide +kernel
theorem dX0_start_9 : decode cX0_start 9 = .ok (.invokevirtual 98, 3) := by decide +kernel
theorem dX0_start_12 : decode cX0_start 12 = .ok (.aload_n 0, 1) := by decide +kernel
theorem dX0_start_13 : decode cX0_start 13 = .ok (.getfield 56, 3) := by decide +kernel
theorem dX0_start_16 : decode cX0_start 16 = .ok (.invokevirtual 98, 3) := by decide +kernel
theorem dX0_start_19 : decode cX0_start 19 = .ok (.aload_n 0, 1) := by decide +kernel
theorem dX0_start_20 : decode cX0_start 20 = .ok (.iconst 1, 1) := by decide +kernel
theorem dX0_start_21 : decode cX0_start 21 = .ok (.putfield 73, 3) := by decide +kernel
theorem dX0_start_24 : decode cX0_start 24 = .ok (.aload_n 0, 1) := by decide +kernel
theorem dX0_start_25 : decode cX0_start 25 = .ok (.aload_n 0, 1) := by decide +kernel
theorem dX0_start_26 : decode cX0_start 26 = .ok (.getfield 67, 3) := by decide +kernel
theorem dX0_start_29 : decode cX0_start 29 = .ok (.putfield 76, 3) := by decide +kernel
theorem dX0_start_32 : decode cX0_start 32 = .ok (.aload_n 0, 1) := by decide +kernel
theorem dX0_start_33 : decode cX0_start 33 = .ok (.iconst 0, 1) := by decide +kernel
theorem dX0_start_34 : decode cX0_start 34 = .ok (.putfield 79, 3) := by decide +kernel
theorem dX0_start_37 : decode cX0_start 37 = .ok (.aload_n 0, 1) := by decide +kernel
theorem dX0_start_38 : decode cX0_start 38 = .ok (.getfield 45, 3) := by decide +kernel
theorem dX0_start_41 : decode cX0_start 41 = .ok (.invokevirtual 101, 3) := by decide +kernel
theorem dX0_start_44 : decode cX0_start 44 = .ok (.return_, 1) := by decide +kernel
theorem dX0_takeButton_0 : decode cX0_takeButton 0 = .ok (.aload_n 0, 1) := by decide +kernel
theorem dX0_takeButton_1 : decode cX0_takeButton 1 = .ok (.getfield 67, 3) := by decide +kernel
theorem dX0_takeButton_4 : decode cX0_takeButton 4 = .ok (.iload_n 1, 1) := by decide +kernel
theorem dX0_takeButton_5 : decode cX0_takeButton 5 = .ok (.invokestatic 104, 3) := by decide +kernel
theorem dX0_takeButton_8 : decode cX0_takeButton 8 = .ok (.iand, 1) := by decide +kernel
theorem dX0_takeButton_9 : decode cX0_takeButton 9 = .ok (.ifCond .eq 19, 3) := by decide +kernel
theorem dX0_takeButton_12 : decode cX0_takeButton 12 = .ok (.aload_n 0, 1) := by decide +kernel
theorem dX0_takeButton_13 : decode cX0_takeButton 13 = .ok (.getfield 18, 3) := by decide +kernel
theorem dX0_takeButton_16 : decode cX0_takeButton 16 = .ok (.iload_n 1, 1) := by decide +kernel
theorem dX0_takeButton_17 : decode cX0_takeButton 17 = .ok (.iconst 5, 1) := by decide +kernel
theorem dX0_takeButton_18 : decode cX0_takeButton 18 = .ok (.invokevirtual 108, 3) := by decide +kernel
theorem dX0_takeButton_21 : decode cX0_takeButton 21 = .ok (.ifCond .eq 7, 3) := by decide +kernel
theorem dX0_takeButton_24 : decode cX0_takeButton 24 = .ok (.iconst 1, 1) := by decide +kernel
theorem dX0_takeButton_25 : decode cX0_takeButton 25 = .ok (.goto 4, 3) := by decide +kernel
theorem dX0_takeButton_28 : decode cX0_takeButton 28 = .ok (.iconst 0, 1) := by decide +kernel
theorem dX0_takeButton_29 : decode cX0_takeButton 29 = .ok (.istore_n 2, 1) := by decide +kernel
theorem dX0_takeButton_30 : decode cX0_takeButton 30 = .ok (.aload_n 0, 1) := by decide +kernel
theorem dX0_takeButton_31 : decode cX0_takeButton 31 = .ok (.getfield 70, 3) := by decide +kernel
theorem dX0_takeButton_34 : decode cX0_takeButton 34 = .ok (.ifCond .ne 7, 3) := by decide +kernel
theorem dX0_takeButton_37 : decode cX0_takeButton 37 = .ok (.iload_n 2, 1) := by decide +kernel
theorem dX0_takeButton_38 : decode cX0_takeButton 38 = .ok (.ifCond .ne 5, 3) := by decide +kernel
theorem dX0_takeButton_41 : decode cX0_takeButton 41 = .ok (.iconst 0, 1) := by decide +kernel
theorem dX0_takeButton_42 : decode cX0_takeButton 42 = .ok (.ireturn, 1) := by decide +kernel
theorem dX0_takeButton_43 : decode cX0_takeButton 43 = .ok (.aload_n 0, 1) := by decide +kernel
theorem dX0_takeButton_44 : decode cX0_takeButton 44 = .ok (.dup, 1) := by decide +kernel
theorem dX0_takeButton_45 : decode cX0_takeButton 45 = .ok (.getfield 79, 3) := by decide +kernel
theorem dX0_takeButton_48 : decode cX0_takeButton 48 = .ok (.iload_n 1, 1) := by decide +kernel
theorem dX0_takeButton_49 : decode cX0_takeButton 49 = .ok (.invokestatic 104, 3) := by decide +kernel
theorem dX0_takeButton_52 : decode cX0_takeButton 52 = .ok (.ior, 1) := by decide +kernel
theorem dX0_takeButton_53 : decode cX0_takeButton 53 = .ok (.putfield 79, 3) := by decide +kernel
theorem dX0_takeButton_56 : decode cX0_takeButton 56 = .ok (.iconst 1, 1) := by decide +kernel
theorem dX0_takeButton_57 : decode cX0_takeButton 57 = .ok (.ireturn, 1) := by decide +kernel
theorem dX0_pass_0 : decode cX0_pass 0 = .ok (.aload_n 0, 1) := by decide +kernel
theorem dX0_pass_1 : decode cX0_pass 1 = .ok (.getfield 24, 3) := by decide +kernel
theorem dX0_pass_4 : decode cX0_pass 4 = .ok (.invokevirtual 112, 3) := by decide +kernel
theorem dX0_pass_7 : decode cX0_pass 7 = .ok (.aload_n 0, 1) := by decide +kernel
theorem dX0_pass_8 : decode cX0_pass 8 = .ok (.getfield 31, 3) := by decide +kernel
theorem dX0_pass_11 : decode cX0_pass 11 = .ok (.aload_n 1, 1) := by decide +kernel
theorem dX0_pass_12 : decode cX0_pass 12 = .ok (.iload_n 2, 1) := by decide +kernel
theorem dX0_pass_13 : decode cX0_pass 13 = .ok (.invokevirtual 115, 3) := by decide +kernel
theorem dX0_pass_16 : decode cX0_pass 16 = .ok (.aload_n 0, 1) := by decide +kernel
theorem dX0_pass_17 : decode cX0_pass 17 = .ok (.invokevirtual 118, 3) := by decide +kernel
theorem dX0_pass_20 : decode cX0_pass 20 = .ok (.ifCond .ne 10, 3) := by decide +kernel
theorem dX0_pass_23 : decode cX0_pass 23 = .ok (.aload_n 0, 1) := by decide +kernel
theorem dX0_pass_24 : decode cX0_pass 24 = .ok (.getfield 70, 3) := by decide +kernel
theorem dX0_pass_27 : decode cX0_pass 27 = .ok (.ifCond .eq 4, 3) := by decide +kernel
theorem dX0_pass_30 : decode cX0_pass 30 = .ok (.return_, 1) := by decide +kernel
theorem dX0_pass_31 : decode cX0_pass 31 = .ok (.aload_n 0, 1) := by decide +kernel
theorem dX0_pass_32 : decode cX0_pass 32 = .ok (.invokevirtual 122, 3) := by decide +kernel
theorem dX0_pass_35 : decode cX0_pass 35 = .ok (.aload_n 0, 1) := by decide +kernel
theorem dX0_pass_36 : decode cX0_pass 36 = .ok (.aload_n 0, 1) := by decide +kernel
theorem dX0_pass_37 : decode cX0_pass 37 = .ok (.getfield 52, 3) := by decide +kernel
theorem dX0_pass_40 : decode cX0_pass 40 = .ok (.invokevirtual 125, 3) := by decide +kernel
theorem dX0_pass_43 : decode cX0_pass 43 = .ok (.aload_n 0, 1) := by decide +kernel
theorem dX0_pass_44 : decode cX0_pass 44 = .ok (.aload_n 0, 1) := by decide +kernel
theorem dX0_pass_45 : decode cX0_pass 45 = .ok (.getfield 56, 3) := by decide +kernel
theorem dX0_pass_48 : decode cX0_pass 48 = .ok (.invokevirtual 125, 3) := by decide +kernel
theorem dX0_pass_51 : decode cX0_pass 51 = .ok (.aload_n 0, 1) := by decide +kernel
theorem dX0_pass_52 : decode cX0_pass 52 = .ok (.getfield 38, 3) := by decide +kernel
theorem dX0_pass_55 : decode cX0_pass 55 = .ok (.aload_n 0, 1) := by decide +kernel
theorem dX0_pass_56 : decode cX0_pass 56 = .ok (.getfield 67, 3) := by decide +kernel
theorem dX0_pass_59 : decode cX0_pass 59 = .ok (.invokevirtual 129, 3) := by decide +kernel
theorem dX0_pass_62 : decode cX0_pass 62 = .ok (.istore_n 3, 1) := by decide +kernel
theorem dX0_pass_63 : decode cX0_pass 63 = .ok (.iload_n 3, 1) := by decide +kernel
theorem dX0_pass_64 : decode cX0_pass 64 = .ok (.iconst (-1), 1) := by decide +kernel
theorem dX0_pass_65 : decode cX0_pass 65 = .ok (.if_icmp .eq 11, 3) := by decide +kernel
theorem dX0_pass_68 : decode cX0_pass 68 = .ok (.aload_n 0, 1) := by decide +kernel
theorem dX0_pass_69 : decode cX0_pass 69 = .ok (.iload_n 3, 1) := by decide +kernel
theorem dX0_pass_70 : decode cX0_pass 70 = .ok (.invokevirtual 132, 3) := by decide +kernel
theorem dX0_pass_73 : decode cX0_pass 73 = .ok (.goto 15, 3) := by decide +kernel
theorem dX0_pass_76 : decode cX0_pass 76 = .ok (.aload_n 0, 1) := by decide +kernel
theorem dX0_pass_77 : decode cX0_pass 77 = .ok (.aload_n 0, 1) := by decide +kernel
theorem dX0_pass_78 : decode cX0_pass 78 = .ok (.getfield 31, 3) := by decide +kernel
theorem dX0_pass_81 : decode cX0_pass 81 = .ok (.aload_n 1, 1) := by decide +kernel
theorem dX0_pass_82 : decode cX0_pass 82 = .ok (.invokevirtual 136, 3) := by decide +kernel
theorem dX0_pass_85 : decode cX0_pass 85 = .ok (.invokevirtual 140, 3) := by decide +kernel
theorem dX0_pass_88 : decode cX0_pass 88 = .ok (.aload_n 0, 1) := by decide +kernel
theorem dX0_pass_89 : decode cX0_pass 89 = .ok (.invokevirtual 144, 3) := by decide +kernel
theorem dX0_pass_92 : decode cX0_pass 92 = .ok (.return_, 1) := by decide +kernel
theorem dX0_passCalls_0 : decode cX0_passCalls 0 = .ok (.iconst 0, 1) := by decide +kernel
theorem dX0_passCalls_1 : decode cX0_passCalls 1 = .ok (.istore_n 1, 1) := by decide +kernel
theorem dX0_passCalls_2 : decode cX0_passCalls 2 = .ok (.iload_n 1, 1) := by decide +kernel
theorem dX0_passCalls_3 : decode cX0_passCalls 3 = .ok (.bipush 8, 2) := by decide +kernel
theorem dX0_passCalls_5 : decode cX0_passCalls 5 = .ok (.if_icmp .ge 58, 3) := by decide +kernel
theorem dX0_passCalls_8 : decode cX0_passCalls 8 = .ok (.aload_n 0, 1) := by decide +kernel
theorem dX0_passCalls_9 : decode cX0_passCalls 9 = .ok (.iload_n 1, 1) := by decide +kernel
theorem dX0_passCalls_10 : decode cX0_passCalls 10 = .ok (.invokestatic 147, 3) := by decide +kernel
theorem dX0_passCalls_13 : decode cX0_passCalls 13 = .ok (.invokevirtual 150, 3) := by decide +kernel
theorem dX0_passCalls_16 : decode cX0_passCalls 16 = .ok (.astore_n 2, 1) := by decide +kernel
theorem dX0_passCalls_17 : decode cX0_passCalls 17 = .ok (.aload_n 2, 1) := by decide +kernel
theorem dX0_passCalls_18 : decode cX0_passCalls 18 = .ok (.invokevirtual 154, 3) := by decide +kernel
theorem dX0_passCalls_21 : decode cX0_passCalls 21 = .ok (.ifCond .eq 19, 3) := by decide +kernel
theorem dX0_passCalls_24 : decode cX0_passCalls 24 = .ok (.aload_n 2, 1) := by decide +kernel
theorem dX0_passCalls_25 : decode cX0_passCalls 25 = .ok (.getfield 157, 3) := by decide +kernel
theorem dX0_passCalls_28 : decode cX0_passCalls 28 = .ok (.iload_n 1, 1) := by decide +kernel
theorem dX0_passCalls_29 : decode cX0_passCalls 29 = .ok (.if_icmp .ne 11, 3) := by decide +kernel
theorem dX0_passCalls_32 : decode cX0_passCalls 32 = .ok (.aload_n 0, 1) := by decide +kernel
theorem dX0_passCalls_33 : decode cX0_passCalls 33 = .ok (.aload_n 2, 1) := by decide +kernel
theorem dX0_passCalls_34 : decode cX0_passCalls 34 = .ok (.invokevirtual 160, 3) := by decide +kernel
theorem dX0_passCalls_37 : decode cX0_passCalls 37 = .ok (.goto 20, 3) := by decide +kernel
theorem dX0_passCalls_40 : decode cX0_passCalls 40 = .ok (.aload_n 0, 1) := by decide +kernel
theorem dX0_passCalls_41 : decode cX0_passCalls 41 = .ok (.getfield 67, 3) := by decide +kernel
theorem dX0_passCalls_44 : decode cX0_passCalls 44 = .ok (.iload_n 1, 1) := by decide +kernel
theorem dX0_passCalls_45 : decode cX0_passCalls 45 = .ok (.invokestatic 104, 3) := by decide +kernel
theorem dX0_passCalls_48 : decode cX0_passCalls 48 = .ok (.iand, 1) := by decide +kernel
theorem dX0_passCalls_49 : decode cX0_passCalls 49 = .ok (.ifCond .eq 8, 3) := by decide +kernel
theorem dX0_passCalls_52 : decode cX0_passCalls 52 = .ok (.aload_n 0, 1) := by decide +kernel
theorem dX0_passCalls_53 : decode cX0_passCalls 53 = .ok (.iload_n 1, 1) := by decide +kernel
theorem dX0_passCalls_54 : decode cX0_passCalls 54 = .ok (.invokevirtual 163, 3) := by decide +kernel
theorem dX0_passCalls_57 : decode cX0_passCalls 57 = .ok (.iinc 1 1, 3) := by decide +kernel
theorem dX0_passCalls_60 : decode cX0_passCalls 60 = .ok (.goto (-58), 3) := by decide +kernel
theorem dX0_passCalls_63 : decode cX0_passCalls 63 = .ok (.return_, 1) := by decide +kernel
theorem dX0_passGap_0 : decode cX0_passGap 0 = .ok (.aload_n 1, 1) := by decide +kernel
theorem dX0_passGap_1 : decode cX0_passGap 1 = .ok (.getfield 157, 3) := by decide +kernel
theorem dX0_passGap_4 : decode cX0_passGap 4 = .ok (.istore_n 2, 1) := by decide +kernel
theorem dX0_passGap_5 : decode cX0_passGap 5 = .ok (.aload_n 0, 1) := by decide +kernel
theorem dX0_passGap_6 : decode cX0_passGap 6 = .ok (.getfield 24, 3) := by decide +kernel
theorem dX0_passGap_9 : decode cX0_passGap 9 = .ok (.iload_n 2, 1) := by decide +kernel
theorem dX0_passGap_10 : decode cX0_passGap 10 = .ok (.invokevirtual 166, 3) := by decide +kernel
theorem dX0_passGap_13 : decode cX0_passGap 13 = .ok (.ifCond .ne 17, 3) := by decide +kernel
theorem dX0_passGap_16 : decode cX0_passGap 16 = .ok (.aload_n 0, 1) := by decide +kernel
theorem dX0_passGap_17 : decode cX0_passGap 17 = .ok (.getfield 18, 3) := by decide +kernel
theorem dX0_passGap_20 : decode cX0_passGap 20 = .ok (.iload_n 2, 1) := by decide +kernel
theorem dX0_passGap_21 : decode cX0_passGap 21 = .ok (.bipush 7, 2) := by decide +kernel
theorem dX0_passGap_23 : decode cX0_passGap 23 = .ok (.invokevirtual 108, 3) := by decide +kernel
theorem dX0_passGap_26 : decode cX0_passGap 26 = .ok (.iconst 2, 1) := by decide +kernel
theorem dX0_passGap_27 : decode cX0_passGap 27 = .ok (.if_icmp .ne 19, 3) := by decide +kernel
theorem dX0_passGap_30 : decode cX0_passGap 30 = .ok (.aload_n 1, 1) := by decide +kernel
theorem dX0_passGap_31 : decode cX0_passGap 31 = .ok (.aload_n 0, 1) := by decide +kernel
theorem dX0_passGap_32 : decode cX0_passGap 32 = .ok (.getfield 18, 3) := by decide +kernel
theorem dX0_passGap_35 : decode cX0_passGap 35 = .ok (.iload_n 2, 1) := by decide +kernel
theorem dX0_passGap_36 : decode cX0_passGap 36 = .ok (.iconst 1, 1) := by decide +kernel
theorem dX0_passGap_37 : decode cX0_passGap 37 = .ok (.invokevirtual 108, 3) := by decide +kernel
theorem dX0_passGap_40 : decode cX0_passGap 40 = .ok (.putfield 170, 3) := by decide +kernel
theorem dX0_passGap_43 : decode cX0_passGap 43 = .ok (.goto 20, 3) := by decide +kernel
theorem dX0_passGap_46 : decode cX0_passGap 46 = .ok (.aload_n 1, 1) := by decide +kernel
theorem dX0_passGap_47 : decode cX0_passGap 47 = .ok (.getfield 170, 3) := by decide +kernel
theorem dX0_passGap_50 : decode cX0_passGap 50 = .ok (.ifCond .eq 13, 3) := by decide +kernel
theorem dX0_passGap_53 : decode cX0_passGap 53 = .ok (.aload_n 1, 1) := by decide +kernel
theorem dX0_passGap_54 : decode cX0_passGap 54 = .ok (.dup, 1) := by decide +kernel
theorem dX0_passGap_55 : decode cX0_passGap 55 = .ok (.getfield 170, 3) := by decide +kernel
theorem dX0_passGap_58 : decode cX0_passGap 58 = .ok (.iconst 1, 1) := by decide +kernel
theorem dX0_passGap_59 : decode cX0_passGap 59 = .ok (.isub, 1) := by decide +kernel
theorem dX0_passGap_60 : decode cX0_passGap 60 = .ok (.putfield 170, 3) := by decide +kernel
theorem dX0_passGap_63 : decode cX0_passGap 63 = .ok (.return_, 1) := by decide +kernel
theorem dX0_noteCalls_0 : decode cX0_noteCalls 0 = .ok (.aload_n 0, 1) := by decide +kernel
theorem dX0_noteCalls_1 : decode cX0_noteCalls 1 = .ok (.getfield 18, 3) := by decide +kernel
theorem dX0_noteCalls_4 : decode cX0_noteCalls 4 = .ok (.iload_n 1, 1) := by decide +kernel
theorem dX0_noteCalls_5 : decode cX0_noteCalls 5 = .ok (.bipush 7, 2) := by decide +kernel
theorem dX0_noteCalls_7 : decode cX0_noteCalls 7 = .ok (.invokevirtual 108, 3) := by decide +kernel
theorem dX0_noteCalls_10 : decode cX0_noteCalls 10 = .ok (.istore_n 2, 1) := by decide +kernel
theorem dX0_noteCalls_11 : decode cX0_noteCalls 11 = .ok (.aload_n 0, 1) := by decide +kernel
theorem dX0_noteCalls_12 : decode cX0_noteCalls 12 = .ok (.getfield 24, 3) := by decide +kernel
theorem dX0_noteCalls_15 : decode cX0_noteCalls 15 = .ok (.iload_n 1, 1) := by decide +kernel
theorem dX0_noteCalls_16 : decode cX0_noteCalls 16 = .ok (.invokevirtual 173, 3) := by decide +kernel
theorem dX0_noteCalls_19 : decode cX0_noteCalls 19 = .ok (.ifCond .ne 13, 3) := by decide +kernel
theorem dX0_noteCalls_22 : decode cX0_noteCalls 22 = .ok (.iload_n 2, 1) := by decide +kernel
theorem dX0_noteCalls_23 : decode cX0_noteCalls 23 = .ok (.iconst 1, 1) := by decide +kernel
theorem dX0_noteCalls_24 : decode cX0_noteCalls 24 = .ok (.if_icmp .eq 8, 3) := by decide +kernel
theorem dX0_noteCalls_27 : decode cX0_noteCalls 27 = .ok (.iload_n 2, 1) := by decide +kernel
theorem dX0_noteCalls_28 : decode cX0_noteCalls 28 = .ok (.iconst 2, 1) := by decide +kernel
theorem dX0_noteCalls_29 : decode cX0_noteCalls 29 = .ok (.if_icmp .ne 16, 3) := by decide +kernel
theorem dX0_noteCalls_32 : decode cX0_noteCalls 32 = .ok (.aload_n 0, 1) := by decide +kernel
theorem dX0_noteCalls_33 : decode cX0_noteCalls 33 = .ok (.dup, 1) := by decide +kernel
theorem dX0_noteCalls_34 : decode cX0_noteCalls 34 = .ok (.getfield 76, 3) := by decide +kernel
theorem dX0_noteCalls_37 : decode cX0_noteCalls 37 = .ok (.iload_n 1, 1) := by decide +kernel
theorem dX0_noteCalls_38 : decode cX0_noteCalls 38 = .ok (.invokestatic 104, 3) := by decide +kernel
theorem dX0_noteCalls_41 : decode cX0_noteCalls 41 = .ok (.ior, 1) := by decide +kernel
theorem dX0_noteCalls_42 : decode cX0_noteCalls 42 = .ok (.putfield 76, 3) := by decide +kernel
theorem dX0_noteCalls_45 : decode cX0_noteCalls 45 = .ok (.iload_n 2, 1) := by decide +kernel
theorem dX0_noteCalls_46 : decode cX0_noteCalls 46 = .ok (.iconst 3, 1) := by decide +kernel
theorem dX0_noteCalls_47 : decode cX0_noteCalls 47 = .ok (.if_icmp .ne 16, 3) := by decide +kernel
theorem dX0_noteCalls_50 : decode cX0_noteCalls 50 = .ok (.aload_n 0, 1) := by decide +kernel
theorem dX0_noteCalls_51 : decode cX0_noteCalls 51 = .ok (.dup, 1) := by decide +kernel
theorem dX0_noteCalls_52 : decode cX0_noteCalls 52 = .ok (.getfield 79, 3) := by decide +kernel
theorem dX0_noteCalls_55 : decode cX0_noteCalls 55 = .ok (.iload_n 1, 1) := by decide +kernel
theorem dX0_noteCalls_56 : decode cX0_noteCalls 56 = .ok (.invokestatic 104, 3) := by decide +kernel
theorem dX0_noteCalls_59 : decode cX0_noteCalls 59 = .ok (.ior, 1) := by decide +kernel
theorem dX0_noteCalls_60 : decode cX0_noteCalls 60 = .ok (.putfield 79, 3) := by decide +kernel
theorem dX0_noteCalls_63 : decode cX0_noteCalls 63 = .ok (.return_, 1) := by decide +kernel
theorem dX0_passTimes_0 : decode cX0_passTimes 0 = .ok (.aload_n 1, 1) := by decide +kernel
theorem dX0_passTimes_1 : decode cX0_passTimes 1 = .ok (.invokevirtual 175, 3) := by decide +kernel
theorem dX0_passTimes_4 : decode cX0_passTimes 4 = .ok (.ifCond .eq 4, 3) := by decide +kernel
theorem dX0_passTimes_7 : decode cX0_passTimes 7 = .ok (.return_, 1) := by decide +kernel
theorem dX0_passTimes_8 : decode cX0_passTimes 8 = .ok (.aload_n 1, 1) := by decide +kernel
theorem dX0_passTimes_9 : decode cX0_passTimes 9 = .ok (.dup, 1) := by decide +kernel
theorem dX0_passTimes_10 : decode cX0_passTimes 10 = .ok (.getfield 178, 3) := by decide +kernel
theorem dX0_passTimes_13 : decode cX0_passTimes 13 = .ok (.iconst 1, 1) := by decide +kernel
theorem dX0_passTimes_14 : decode cX0_passTimes 14 = .ok (.iadd, 1) := by decide +kernel
theorem dX0_passTimes_15 : decode cX0_passTimes 15 = .ok (.putfield 178, 3) := by decide +kernel
theorem dX0_passTimes_18 : decode cX0_passTimes 18 = .ok (.aload_n 1, 1) := by decide +kernel
theorem dX0_passTimes_19 : decode cX0_passTimes 19 = .ok (.invokevirtual 154, 3) := by decide +kernel
theorem dX0_passTimes_22 : decode cX0_passTimes 22 = .ok (.ifCond .eq 74, 3) := by decide +kernel
theorem dX0_passTimes_25 : decode cX0_passTimes 25 = .ok (.aload_n 1, 1) := by decide +kernel
theorem dX0_passTimes_26 : decode cX0_passTimes 26 = .ok (.aload_n 0, 1) := by decide +kernel
theorem dX0_passTimes_27 : decode cX0_passTimes 27 = .ok (.getfield 18, 3) := by decide +kernel
theorem dX0_passTimes_30 : decode cX0_passTimes 30 = .ok (.aload_n 1, 1) := by decide +kernel
theorem dX0_passTimes_31 : decode cX0_passTimes 31 = .ok (.getfield 157, 3) := by decide +kernel
theorem dX0_passTimes_34 : decode cX0_passTimes 34 = .ok (.iconst 5, 1) := by decide +kernel
theorem dX0_passTimes_35 : decode cX0_passTimes 35 = .ok (.invokevirtual 108, 3) := by decide +kernel
theorem dX0_passTimes_38 : decode cX0_passTimes 38 = .ok (.aload_n 0, 1) := by decide +kernel
theorem dX0_passTimes_39 : decode cX0_passTimes 39 = .ok (.getfield 18, 3) := by decide +kernel
theorem dX0_passTimes_42 : decode cX0_passTimes 42 = .ok (.aload_n 1, 1) := by decide +kernel
theorem dX0_passTimes_43 : decode cX0_passTimes 43 = .ok (.getfield 157, 3) := by decide +kernel
theorem dX0_passTimes_46 : decode cX0_passTimes 46 = .ok (.bipush 6, 2) := by decide +kernel
theorem dX0_passTimes_48 : decode cX0_passTimes 48 = .ok (.invokevirtual 108, 3) := by decide +kernel
theorem dX0_passTimes_51 : decode cX0_passTimes 51 = .ok (.invokevirtual 181, 3) := by decide +kernel
theorem dX0_passTimes_54 : decode cX0_passTimes 54 = .ok (.aload_n 0, 1) := by decide +kernel
theorem dX0_passTimes_55 : decode cX0_passTimes 55 = .ok (.aload_n 1, 1) := by decide +kernel
theorem dX0_passTimes_56 : decode cX0_passTimes 56 = .ok (.aload_n 0, 1) := by decide +kernel
theorem dX0_passTimes_57 : decode cX0_passTimes 57 = .ok (.invokevirtual 185, 3) := by decide +kernel
theorem dX0_passTimes_60 : decode cX0_passTimes 60 = .ok (.invokevirtual 188, 3) := by decide +kernel
theorem dX0_passTimes_63 : decode cX0_passTimes 63 = .ok (.aload_n 1, 1) := by decide +kernel
theorem dX0_passTimes_64 : decode cX0_passTimes 64 = .ok (.getfield 192, 3) := by decide +kernel
theorem dX0_passTimes_67 : decode cX0_passTimes 67 = .ok (.ifCond .eq 28, 3) := by decide +kernel
theorem dX0_passTimes_70 : decode cX0_passTimes 70 = .ok (.aload_n 0, 1) := by decide +kernel
theorem dX0_passTimes_71 : decode cX0_passTimes 71 = .ok (.getfield 38, 3) := by decide +kernel
theorem dX0_passTimes_74 : decode cX0_passTimes 74 = .ok (.aload_n 0, 1) := by decide +kernel
theorem dX0_passTimes_75 : decode cX0_passTimes 75 = .ok (.getfield 67, 3) := by decide +kernel
theorem dX0_passTimes_78 : decode cX0_passTimes 78 = .ok (.invokevirtual 129, 3) := by decide +kernel
theorem dX0_passTimes_81 : decode cX0_passTimes 81 = .ok (.iconst (-1), 1) := by decide +kernel
theorem dX0_passTimes_82 : decode cX0_passTimes 82 = .ok (.if_icmp .ne 13, 3) := by decide +kernel
theorem dX0_passTimes_85 : decode cX0_passTimes 85 = .ok (.aload_n 1, 1) := by decide +kernel
theorem dX0_passTimes_86 : decode cX0_passTimes 86 = .ok (.dup, 1) := by decide +kernel
theorem dX0_passTimes_87 : decode cX0_passTimes 87 = .ok (.getfield 195, 3) := by decide +kernel
theorem dX0_passTimes_90 : decode cX0_passTimes 90 = .ok (.iconst 1, 1) := by decide +kernel
theorem dX0_passTimes_91 : decode cX0_passTimes 91 = .ok (.iadd, 1) := by decide +kernel
theorem dX0_passTimes_92 : decode cX0_passTimes 92 = .ok (.putfield 195, 3) := by decide +kernel
theorem dX0_passTimes_95 : decode cX0_passTimes 95 = .ok (.return_, 1) := by decide +kernel
theorem dX0_passTimes_96 : decode cX0_passTimes 96 = .ok (.aload_n 1, 1) := by decide +kernel
theorem dX0_passTimes_97 : decode cX0_passTimes 97 = .ok (.getfield 198, 3) := by decide +kernel
theorem dX0_passTimes_100 : decode cX0_passTimes 100 = .ok (.iconst 2, 1) := by decide +kernel
theorem dX0_passTimes_101 : decode cX0_passTimes 101 = .ok (.if_icmp .ne 27, 3) := by decide +kernel
theorem dX0_passTimes_104 : decode cX0_passTimes 104 = .ok (.aload_n 1, 1) := by decide +kernel
theorem dX0_passTimes_105 : decode cX0_passTimes 105 = .ok (.getfield 178, 3) := by decide +kernel
theorem dX0_passTimes_108 : decode cX0_passTimes 108 = .ok (.aload_n 0, 1) := by decide +kernel
theorem dX0_passTimes_109 : decode cX0_passTimes 109 = .ok (.getfield 18, 3) := by decide +kernel
theorem dX0_passTimes_112 : decode cX0_passTimes 112 = .ok (.aload_n 1, 1) := by decide +kernel
theorem dX0_passTimes_113 : decode cX0_passTimes 113 = .ok (.getfield 157, 3) := by decide +kernel
theorem dX0_passTimes_116 : decode cX0_passTimes 116 = .ok (.iconst 3, 1) := by decide +kernel
theorem dX0_passTimes_117 : decode cX0_passTimes 117 = .ok (.invokevirtual 108, 3) := by decide +kernel
theorem dX0_passTimes_120 : decode cX0_passTimes 120 = .ok (.if_icmp .lt 8, 3) := by decide +kernel
theorem dX0_passTimes_123 : decode cX0_passTimes 123 = .ok (.aload_n 1, 1) := by decide +kernel
theorem dX0_passTimes_124 : decode cX0_passTimes 124 = .ok (.iconst 1, 1) := by decide +kernel
theorem dX0_passTimes_125 : decode cX0_passTimes 125 = .ok (.invokevirtual 201, 3) := by decide +kernel
theorem dX0_passTimes_128 : decode cX0_passTimes 128 = .ok (.aload_n 1, 1) := by decide +kernel
theorem dX0_passTimes_129 : decode cX0_passTimes 129 = .ok (.getfield 198, 3) := by decide +kernel
theorem dX0_passTimes_132 : decode cX0_passTimes 132 = .ok (.iconst 1, 1) := by decide +kernel
theorem dX0_passTimes_133 : decode cX0_passTimes 133 = .ok (.if_icmp .ne 27, 3) := by decide +kernel
theorem dX0_passTimes_136 : decode cX0_passTimes 136 = .ok (.aload_n 1, 1) := by decide +kernel
theorem dX0_passTimes_137 : decode cX0_passTimes 137 = .ok (.getfield 178, 3) := by decide +kernel
theorem dX0_passTimes_140 : decode cX0_passTimes 140 = .ok (.aload_n 0, 1) := by decide +kernel
theorem dX0_passTimes_141 : decode cX0_passTimes 141 = .ok (.getfield 18, 3) := by decide +kernel
theorem dX0_passTimes_144 : decode cX0_passTimes 144 = .ok (.aload_n 1, 1) := by decide +kernel
theorem dX0_passTimes_145 : decode cX0_passTimes 145 = .ok (.getfield 157, 3) := by decide +kernel
theorem dX0_passTimes_148 : decode cX0_passTimes 148 = .ok (.iconst 4, 1) := by decide +kernel
theorem dX0_passTimes_149 : decode cX0_passTimes 149 = .ok (.invokevirtual 108, 3) := by decide +kernel
theorem dX0_passTimes_152 : decode cX0_passTimes 152 = .ok (.if_icmp .lt 8, 3) := by decide +kernel
theorem dX0_passTimes_155 : decode cX0_passTimes 155 = .ok (.aload_n 0, 1) := by decide +kernel
theorem dX0_passTimes_156 : decode cX0_passTimes 156 = .ok (.aload_n 1, 1) := by decide +kernel
theorem dX0_passTimes_157 : decode cX0_passTimes 157 = .ok (.invokevirtual 204, 3) := by decide +kernel
theorem dX0_passTimes_160 : decode cX0_passTimes 160 = .ok (.return_, 1) := by decide +kernel
theorem dX0_weigh_0 : decode cX0_weigh 0 = .ok (.aload_n 0, 1) := by decide +kernel
theorem dX0_weigh_1 : decode cX0_weigh 1 = .ok (.getfield 52, 3) := by decide +kernel
theorem dX0_weigh_4 : decode cX0_weigh 4 = .ok (.invokevirtual 207, 3) := by decide +kernel
theorem dX0_weigh_7 : decode cX0_weigh 7 = .ok (.aload_n 0, 1) := by decide +kernel
theorem dX0_weigh_8 : decode cX0_weigh 8 = .ok (.getfield 56, 3) := by decide +kernel
theorem dX0_weigh_11 : decode cX0_weigh 11 = .ok (.invokevirtual 207, 3) := by decide +kernel
theorem dX0_weigh_14 : decode cX0_weigh 14 = .ok (.ior, 1) := by decide +kernel
theorem dX0_weigh_15 : decode cX0_weigh 15 = .ok (.istore_n 3, 1) := by decide +kernel
theorem dX0_weigh_16 : decode cX0_weigh 16 = .ok (.iload_n 2, 1) := by decide +kernel
theorem dX0_weigh_17 : decode cX0_weigh 17 = .ok (.iconst 1, 1) := by decide +kernel
theorem dX0_weigh_18 : decode cX0_weigh 18 = .ok (.aload_n 0, 1) := by decide +kernel
theorem dX0_weigh_19 : decode cX0_weigh 19 = .ok (.getfield 73, 3) := by decide +kernel
theorem dX0_weigh_22 : decode cX0_weigh 22 = .ok (.isub, 1) := by decide +kernel
theorem dX0_weigh_23 : decode cX0_weigh 23 = .ok (.invokestatic 210, 3) := by decide +kernel
theorem dX0_weigh_26 : decode cX0_weigh 26 = .ok (.iload_n 3, 1) := by decide +kernel
theorem dX0_weigh_27 : decode cX0_weigh 27 = .ok (.ior, 1) := by decide +kernel
theorem dX0_weigh_28 : decode cX0_weigh 28 = .ok (.iand, 1) := by decide +kernel
theorem dX0_weigh_29 : decode cX0_weigh 29 = .ok (.ifCond .eq 7, 3) := by decide +kernel
theorem dX0_weigh_32 : decode cX0_weigh 32 = .ok (.iconst 1, 1) := by decide +kernel
theorem dX0_weigh_33 : decode cX0_weigh 33 = .ok (.goto 4, 3) := by decide +kernel
theorem dX0_weigh_36 : decode cX0_weigh 36 = .ok (.iconst 0, 1) := by decide +kernel
theorem dX0_weigh_37 : decode cX0_weigh 37 = .ok (.istore 4, 2) := by decide +kernel
theorem dX0_weigh_39 : decode cX0_weigh 39 = .ok (.aload_n 1, 1) := by decide +kernel
theorem dX0_weigh_40 : decode cX0_weigh 40 = .ok (.iload_n 2, 1) := by decide +kernel
theorem dX0_weigh_41 : decode cX0_weigh 41 = .ok (.aload_n 1, 1) := by decide +kernel
theorem dX0_weigh_42 : decode cX0_weigh 42 = .ok (.invokevirtual 213, 3) := by decide +kernel
theorem dX0_weigh_45 : decode cX0_weigh 45 = .ok (.iand, 1) := by decide +kernel
theorem dX0_weigh_46 : decode cX0_weigh 46 = .ok (.ifCond .eq 12, 3) := by decide +kernel
theorem dX0_weigh_49 : decode cX0_weigh 49 = .ok (.aload_n 1, 1) := by decide +kernel
theorem dX0_weigh_50 : decode cX0_weigh 50 = .ok (.getfield 157, 3) := by decide +kernel
theorem dX0_weigh_53 : decode cX0_weigh 53 = .ok (.iconst 1, 1) := by decide +kernel
theorem dX0_weigh_54 : decode cX0_weigh 54 = .ok (.iadd, 1) := by decide +kernel
theorem dX0_weigh_55 : decode cX0_weigh 55 = .ok (.goto 4, 3) := by decide +kernel
theorem dX0_weigh_58 : decode cX0_weigh 58 = .ok (.iconst (-1), 1) := by decide +kernel
theorem dX0_weigh_59 : decode cX0_weigh 59 = .ok (.putfield 216, 3) := by decide +kernel
theorem dX0_weigh_62 : decode cX0_weigh 62 = .ok (.aload_n 1, 1) := by decide +kernel
theorem dX0_weigh_63 : decode cX0_weigh 63 = .ok (.iload 4, 2) := by decide +kernel
theorem dX0_weigh_65 : decode cX0_weigh 65 = .ok (.ifCond .ne 11, 3) := by decide +kernel
theorem dX0_weigh_68 : decode cX0_weigh 68 = .ok (.aload_n 1, 1) := by decide +kernel
theorem dX0_weigh_69 : decode cX0_weigh 69 = .ok (.getfield 216, 3) := by decide +kernel
theorem dX0_weigh_72 : decode cX0_weigh 72 = .ok (.iconst (-1), 1) := by decide +kernel
theorem dX0_weigh_73 : decode cX0_weigh 73 = .ok (.if_icmp .eq 7, 3) := by decide +kernel
theorem dX0_weigh_76 : decode cX0_weigh 76 = .ok (.iconst 1, 1) := by decide +kernel
theorem dX0_weigh_77 : decode cX0_weigh 77 = .ok (.goto 4, 3) := by decide +kernel
theorem dX0_weigh_80 : decode cX0_weigh 80 = .ok (.iconst 0, 1) := by decide +kernel
theorem dX0_weigh_81 : decode cX0_weigh 81 = .ok (.putfield 192, 3) := by decide +kernel
theorem dX0_weigh_84 : decode cX0_weigh 84 = .ok (.return_, 1) := by decide +kernel
theorem dX0_end_0 : decode cX0_end 0 = .ok (.aload_n 1, 1) := by decide +kernel
theorem dX0_end_1 : decode cX0_end 1 = .ok (.getfield 219, 3) := by decide +kernel
theorem dX0_end_4 : decode cX0_end 4 = .ok (.iconst (-1), 1) := by decide +kernel
theorem dX0_end_5 : decode cX0_end 5 = .ok (.if_icmp .ne 10, 3) := by decide +kernel
theorem dX0_end_8 : decode cX0_end 8 = .ok (.aload_n 1, 1) := by decide +kernel
theorem dX0_end_9 : decode cX0_end 9 = .ok (.invokevirtual 98, 3) := by decide +kernel
theorem dX0_end_12 : decode cX0_end 12 = .ok (.goto 12, 3) := by decide +kernel
theorem dX0_end_15 : decode cX0_end 15 = .ok (.aload_n 0, 1) := by decide +kernel
theorem dX0_end_16 : decode cX0_end 16 = .ok (.aload_n 1, 1) := by decide +kernel
theorem dX0_end_17 : decode cX0_end 17 = .ok (.aload_n 1, 1) := by decide +kernel
theorem dX0_end_18 : decode cX0_end 18 = .ok (.getfield 219, 3) := by decide +kernel
theorem dX0_end_21 : decode cX0_end 21 = .ok (.invokevirtual 222, 3) := by decide +kernel
theorem dX0_end_24 : decode cX0_end 24 = .ok (.return_, 1) := by decide +kernel
theorem dX0_begin_0 : decode cX0_begin 0 = .ok (.aload_n 0, 1) := by decide +kernel
theorem dX0_begin_1 : decode cX0_begin 1 = .ok (.getfield 24, 3) := by decide +kernel
theorem dX0_begin_4 : decode cX0_begin 4 = .ok (.iload_n 2, 1) := by decide +kernel
theorem dX0_begin_5 : decode cX0_begin 5 = .ok (.invokevirtual 166, 3) := by decide +kernel
theorem dX0_begin_8 : decode cX0_begin 8 = .ok (.istore_n 3, 1) := by decide +kernel
theorem dX0_begin_9 : decode cX0_begin 9 = .ok (.aload_n 1, 1) := by decide +kernel
theorem dX0_begin_10 : decode cX0_begin 10 = .ok (.iload_n 2, 1) := by decide +kernel
theorem dX0_begin_11 : decode cX0_begin 11 = .ok (.iload_n 3, 1) := by decide +kernel
theorem dX0_begin_12 : decode cX0_begin 12 = .ok (.ifCond .eq 15, 3) := by decide +kernel
theorem dX0_begin_15 : decode cX0_begin 15 = .ok (.aload_n 0, 1) := by decide +kernel
theorem dX0_begin_16 : decode cX0_begin 16 = .ok (.getfield 18, 3) := by decide +kernel
theorem dX0_begin_19 : decode cX0_begin 19 = .ok (.iload_n 2, 1) := by decide +kernel
theorem dX0_begin_20 : decode cX0_begin 20 = .ok (.iconst 1, 1) := by decide +kernel
theorem dX0_begin_21 : decode cX0_begin 21 = .ok (.invokevirtual 108, 3) := by decide +kernel
theorem dX0_begin_24 : decode cX0_begin 24 = .ok (.goto 4, 3) := by decide +kernel
theorem dX0_begin_27 : decode cX0_begin 27 = .ok (.iconst 0, 1) := by decide +kernel
theorem dX0_begin_28 : decode cX0_begin 28 = .ok (.invokevirtual 225, 3) := by decide +kernel
theorem dX0_begin_31 : decode cX0_begin 31 = .ok (.aload_n 0, 1) := by decide +kernel
theorem dX0_begin_32 : decode cX0_begin 32 = .ok (.dup, 1) := by decide +kernel
theorem dX0_begin_33 : decode cX0_begin 33 = .ok (.getfield 76, 3) := by decide +kernel
theorem dX0_begin_36 : decode cX0_begin 36 = .ok (.iload_n 2, 1) := by decide +kernel
theorem dX0_begin_37 : decode cX0_begin 37 = .ok (.invokestatic 104, 3) := by decide +kernel
theorem dX0_begin_40 : decode cX0_begin 40 = .ok (.iconst (-1), 1) := by decide +kernel
theorem dX0_begin_41 : decode cX0_begin 41 = .ok (.ixor, 1) := by decide +kernel
theorem dX0_begin_42 : decode cX0_begin 42 = .ok (.iand, 1) := by decide +kernel
theorem dX0_begin_43 : decode cX0_begin 43 = .ok (.putfield 76, 3) := by decide +kernel
theorem dX0_begin_46 : decode cX0_begin 46 = .ok (.aload_n 0, 1) := by decide +kernel
theorem dX0_begin_47 : decode cX0_begin 47 = .ok (.getfield 79, 3) := by decide +kernel
theorem dX0_begin_50 : decode cX0_begin 50 = .ok (.iload_n 2, 1) := by decide +kernel
theorem dX0_begin_51 : decode cX0_begin 51 = .ok (.invokestatic 104, 3) := by decide +kernel
theorem dX0_begin_54 : decode cX0_begin 54 = .ok (.iand, 1) := by decide +kernel
theorem dX0_begin_55 : decode cX0_begin 55 = .ok (.ifCond .ne 17, 3) := by decide +kernel
theorem dX0_begin_58 : decode cX0_begin 58 = .ok (.aload_n 0, 1) := by decide +kernel
theorem dX0_begin_59 : decode cX0_begin 59 = .ok (.getfield 18, 3) := by decide +kernel
theorem dX0_begin_62 : decode cX0_begin 62 = .ok (.iload_n 2, 1) := by decide +kernel
theorem dX0_begin_63 : decode cX0_begin 63 = .ok (.bipush 7, 2) := by decide +kernel
theorem dX0_begin_65 : decode cX0_begin 65 = .ok (.invokevirtual 108, 3) := by decide +kernel
theorem dX0_begin_68 : decode cX0_begin 68 = .ok (.iconst 3, 1) := by decide +kernel
theorem dX0_begin_69 : decode cX0_begin 69 = .ok (.if_icmp .ne 7, 3) := by decide +kernel
theorem dX0_begin_72 : decode cX0_begin 72 = .ok (.iconst 1, 1) := by decide +kernel
theorem dX0_begin_73 : decode cX0_begin 73 = .ok (.goto 4, 3) := by decide +kernel
theorem dX0_begin_76 : decode cX0_begin 76 = .ok (.iconst 0, 1) := by decide +kernel
theorem dX0_begin_77 : decode cX0_begin 77 = .ok (.istore 4, 2) := by decide +kernel
theorem dX0_begin_79 : decode cX0_begin 79 = .ok (.iload 4, 2) := by decide +kernel
theorem dX0_begin_81 : decode cX0_begin 81 = .ok (.ifCond .eq 20, 3) := by decide +kernel
theorem dX0_begin_84 : decode cX0_begin 84 = .ok (.aload_n 0, 1) := by decide +kernel
theorem dX0_begin_85 : decode cX0_begin 85 = .ok (.getfield 18, 3) := by decide +kernel
theorem dX0_begin_88 : decode cX0_begin 88 = .ok (.iload_n 2, 1) := by decide +kernel
theorem dX0_begin_89 : decode cX0_begin 89 = .ok (.iconst 5, 1) := by decide +kernel
theorem dX0_begin_90 : decode cX0_begin 90 = .ok (.invokevirtual 108, 3) := by decide +kernel
theorem dX0_begin_93 : decode cX0_begin 93 = .ok (.ifCond .eq 8, 3) := by decide +kernel
theorem dX0_begin_96 : decode cX0_begin 96 = .ok (.aload_n 0, 1) := by decide +kernel
theorem dX0_begin_97 : decode cX0_begin 97 = .ok (.aload_n 1, 1) := by decide +kernel
theorem dX0_begin_98 : decode cX0_begin 98 = .ok (.invokevirtual 227, 3) := by decide +kernel
theorem dX0_begin_101 : decode cX0_begin 101 = .ok (.return_, 1) := by decide +kernel
theorem dX0_beginWalk_0 : decode cX0_beginWalk 0 = .ok (.aload_n 1, 1) := by decide +kernel
theorem dX0_beginWalk_1 : decode cX0_beginWalk 1 = .ok (.invokevirtual 230, 3) := by decide +kernel
theorem dX0_beginWalk_4 : decode cX0_beginWalk 4 = .ok (.aload_n 0, 1) := by decide +kernel
theorem dX0_beginWalk_5 : decode cX0_beginWalk 5 = .ok (.dup, 1) := by decide +kernel
theorem dX0_beginWalk_6 : decode cX0_beginWalk 6 = .ok (.getfield 79, 3) := by decide +kernel
theorem dX0_beginWalk_9 : decode cX0_beginWalk 9 = .ok (.aload_n 1, 1) := by decide +kernel
theorem dX0_beginWalk_10 : decode cX0_beginWalk 10 = .ok (.getfield 157, 3) := by decide +kernel
theorem dX0_beginWalk_13 : decode cX0_beginWalk 13 = .ok (.invokestatic 104, 3) := by decide +kernel
theorem dX0_beginWalk_16 : decode cX0_beginWalk 16 = .ok (.iconst (-1), 1) := by decide +kernel
theorem dX0_beginWalk_17 : decode cX0_beginWalk 17 = .ok (.ixor, 1) := by decide +kernel
theorem dX0_beginWalk_18 : decode cX0_beginWalk 18 = .ok (.iand, 1) := by decide +kernel
theorem dX0_beginWalk_19 : decode cX0_beginWalk 19 = .ok (.putfield 79, 3) := by decide +kernel
theorem dX0_beginWalk_22 : decode cX0_beginWalk 22 = .ok (.return_, 1) := by decide +kernel
theorem dX0_goByCalls_0 : decode cX0_goByCalls 0 = .ok (.iload_n 1, 1) := by decide +kernel
theorem dX0_goByCalls_1 : decode cX0_goByCalls 1 = .ok (.ifCond .eq 14, 3) := by decide +kernel
theorem dX0_goByCalls_4 : decode cX0_goByCalls 4 = .ok (.aload_n 0, 1) := by decide +kernel
theorem dX0_goByCalls_5 : decode cX0_goByCalls 5 = .ok (.getfield 73, 3) := by decide +kernel
theorem dX0_goByCalls_8 : decode cX0_goByCalls 8 = .ok (.ifCond .ne 7, 3) := by decide +kernel
theorem dX0_goByCalls_11 : decode cX0_goByCalls 11 = .ok (.iconst 1, 1) := by decide +kernel
theorem dX0_goByCalls_12 : decode cX0_goByCalls 12 = .ok (.goto 4, 3) := by decide +kernel
theorem dX0_goByCalls_15 : decode cX0_goByCalls 15 = .ok (.iconst 0, 1) := by decide +kernel
theorem dX0_goByCalls_16 : decode cX0_goByCalls 16 = .ok (.istore_n 2, 1) := by decide +kernel
theorem dX0_goByCalls_17 : decode cX0_goByCalls 17 = .ok (.iload_n 1, 1) := by decide +kernel
theorem dX0_goByCalls_18 : decode cX0_goByCalls 18 = .ok (.ifCond .eq 15, 3) := by decide +kernel
theorem dX0_goByCalls_21 : decode cX0_goByCalls 21 = .ok (.aload_n 0, 1) := by decide +kernel
theorem dX0_goByCalls_22 : decode cX0_goByCalls 22 = .ok (.getfield 73, 3) := by decide +kernel
theorem dX0_goByCalls_25 : decode cX0_goByCalls 25 = .ok (.iconst 1, 1) := by decide +kernel
theorem dX0_goByCalls_26 : decode cX0_goByCalls 26 = .ok (.if_icmp .ne 7, 3) := by decide +kernel
theorem dX0_goByCalls_29 : decode cX0_goByCalls 29 = .ok (.iconst 1, 1) := by decide +kernel
theorem dX0_goByCalls_30 : decode cX0_goByCalls 30 = .ok (.goto 4, 3) := by decide +kernel
theorem dX0_goByCalls_33 : decode cX0_goByCalls 33 = .ok (.iconst 0, 1) := by decide +kernel
theorem dX0_goByCalls_34 : decode cX0_goByCalls 34 = .ok (.istore_n 3, 1) := by decide +kernel
theorem dX0_goByCalls_35 : decode cX0_goByCalls 35 = .ok (.aload_n 0, 1) := by decide +kernel
theorem dX0_goByCalls_36 : decode cX0_goByCalls 36 = .ok (.getfield 82, 3) := by decide +kernel
theorem dX0_goByCalls_39 : decode cX0_goByCalls 39 = .ok (.ifCond .eq 28, 3) := by decide +kernel
theorem dX0_goByCalls_42 : decode cX0_goByCalls 42 = .ok (.aload_n 0, 1) := by decide +kernel
theorem dX0_goByCalls_43 : decode cX0_goByCalls 43 = .ok (.iconst 0, 1) := by decide +kernel
theorem dX0_goByCalls_44 : decode cX0_goByCalls 44 = .ok (.putfield 82, 3) := by decide +kernel
theorem dX0_goByCalls_47 : decode cX0_goByCalls 47 = .ok (.aload_n 0, 1) := by decide +kernel
theorem dX0_goByCalls_48 : decode cX0_goByCalls 48 = .ok (.dup, 1) := by decide +kernel
theorem dX0_goByCalls_49 : decode cX0_goByCalls 49 = .ok (.getfield 76, 3) := by decide +kernel
theorem dX0_goByCalls_52 : decode cX0_goByCalls 52 = .ok (.aload_n 0, 1) := by decide +kernel
theorem dX0_goByCalls_53 : decode cX0_goByCalls 53 = .ok (.getfield 67, 3) := by decide +kernel
theorem dX0_goByCalls_56 : decode cX0_goByCalls 56 = .ok (.aload_n 0, 1) := by decide +kernel
theorem dX0_goByCalls_57 : decode cX0_goByCalls 57 = .ok (.invokevirtual 232, 3) := by decide +kernel
theorem dX0_goByCalls_60 : decode cX0_goByCalls 60 = .ok (.iconst (-1), 1) := by decide +kernel
theorem dX0_goByCalls_61 : decode cX0_goByCalls 61 = .ok (.ixor, 1) := by decide +kernel
theorem dX0_goByCalls_62 : decode cX0_goByCalls 62 = .ok (.iand, 1) := by decide +kernel
theorem dX0_goByCalls_63 : decode cX0_goByCalls 63 = .ok (.ior, 1) := by decide +kernel
theorem dX0_goByCalls_64 : decode cX0_goByCalls 64 = .ok (.putfield 76, 3) := by decide +kernel
theorem dX0_goByCalls_67 : decode cX0_goByCalls 67 = .ok (.aload_n 0, 1) := by decide +kernel
theorem dX0_goByCalls_68 : decode cX0_goByCalls 68 = .ok (.invokevirtual 185, 3) := by decide +kernel
theorem dX0_goByCalls_71 : decode cX0_goByCalls 71 = .ok (.istore 4, 2) := by decide +kernel
theorem dX0_goByCalls_73 : decode cX0_goByCalls 73 = .ok (.aload_n 0, 1) := by decide +kernel
theorem dX0_goByCalls_74 : decode cX0_goByCalls 74 = .ok (.aload_n 0, 1) := by decide +kernel
theorem dX0_goByCalls_75 : decode cX0_goByCalls 75 = .ok (.getfield 52, 3) := by decide +kernel
theorem dX0_goByCalls_78 : decode cX0_goByCalls 78 = .ok (.iload 4, 2) := by decide +kernel
theorem dX0_goByCalls_80 : decode cX0_goByCalls 80 = .ok (.invokevirtual 188, 3) := by decide +kernel
theorem dX0_goByCalls_83 : decode cX0_goByCalls 83 = .ok (.aload_n 0, 1) := by decide +kernel
theorem dX0_goByCalls_84 : decode cX0_goByCalls 84 = .ok (.aload_n 0, 1) := by decide +kernel
theorem dX0_goByCalls_85 : decode cX0_goByCalls 85 = .ok (.getfield 56, 3) := by decide +kernel
theorem dX0_goByCalls_88 : decode cX0_goByCalls 88 = .ok (.iload 4, 2) := by decide +kernel
theorem dX0_goByCalls_90 : decode cX0_goByCalls 90 = .ok (.invokevirtual 188, 3) := by decide +kernel
theorem dX0_goByCalls_93 : decode cX0_goByCalls 93 = .ok (.aload_n 0, 1) := by decide +kernel
theorem dX0_goByCalls_94 : decode cX0_goByCalls 94 = .ok (.aload_n 0, 1) := by decide +kernel
theorem dX0_goByCalls_95 : decode cX0_goByCalls 95 = .ok (.getfield 52, 3) := by decide +kernel
theorem dX0_goByCalls_98 : decode cX0_goByCalls 98 = .ok (.iload_n 3, 1) := by decide +kernel
theorem dX0_goByCalls_99 : decode cX0_goByCalls 99 = .ok (.invokevirtual 235, 3) := by decide +kernel
theorem dX0_goByCalls_102 : decode cX0_goByCalls 102 = .ok (.aload_n 0, 1) := by decide +kernel
theorem dX0_goByCalls_103 : decode cX0_goByCalls 103 = .ok (.aload_n 0, 1) := by decide +kernel
theorem dX0_goByCalls_104 : decode cX0_goByCalls 104 = .ok (.getfield 56, 3) := by decide +kernel
theorem dX0_goByCalls_107 : decode cX0_goByCalls 107 = .ok (.iload_n 3, 1) := by decide +kernel
theorem dX0_goByCalls_108 : decode cX0_goByCalls 108 = .ok (.invokevirtual 235, 3) := by decide +kernel
theorem dX0_goByCalls_111 : decode cX0_goByCalls 111 = .ok (.iload_n 2, 1) := by decide +kernel
theorem dX0_goByCalls_112 : decode cX0_goByCalls 112 = .ok (.ifCond .ne 31, 3) := by decide +kernel
theorem dX0_goByCalls_115 : decode cX0_goByCalls 115 = .ok (.aload_n 0, 1) := by decide +kernel
theorem dX0_goByCalls_116 : decode cX0_goByCalls 116 = .ok (.aload_n 0, 1) := by decide +kernel
theorem dX0_goByCalls_117 : decode cX0_goByCalls 117 = .ok (.getfield 52, 3) := by decide +kernel
theorem dX0_goByCalls_120 : decode cX0_goByCalls 120 = .ok (.iload_n 3, 1) := by decide +kernel
theorem dX0_goByCalls_121 : decode cX0_goByCalls 121 = .ok (.invokevirtual 239, 3) := by decide +kernel
theorem dX0_goByCalls_124 : decode cX0_goByCalls 124 = .ok (.ifCond .eq 19, 3) := by decide +kernel
theorem dX0_goByCalls_127 : decode cX0_goByCalls 127 = .ok (.aload_n 0, 1) := by decide +kernel
theorem dX0_goByCalls_128 : decode cX0_goByCalls 128 = .ok (.aload_n 0, 1) := by decide +kernel
theorem dX0_goByCalls_129 : decode cX0_goByCalls 129 = .ok (.getfield 56, 3) := by decide +kernel
theorem dX0_goByCalls_132 : decode cX0_goByCalls 132 = .ok (.iload_n 3, 1) := by decide +kernel
theorem dX0_goByCalls_133 : decode cX0_goByCalls 133 = .ok (.invokevirtual 239, 3) := by decide +kernel
theorem dX0_goByCalls_136 : decode cX0_goByCalls 136 = .ok (.ifCond .eq 7, 3) := by decide +kernel
theorem dX0_goByCalls_139 : decode cX0_goByCalls 139 = .ok (.aload_n 0, 1) := by decide +kernel
theorem dX0_goByCalls_140 : decode cX0_goByCalls 140 = .ok (.invokevirtual 243, 3) := by decide +kernel
theorem dX0_goByCalls_143 : decode cX0_goByCalls 143 = .ok (.aload_n 0, 1) := by decide +kernel
theorem dX0_goByCalls_144 : decode cX0_goByCalls 144 = .ok (.getfield 52, 3) := by decide +kernel
theorem dX0_goByCalls_147 : decode cX0_goByCalls 147 = .ok (.invokevirtual 175, 3) := by decide +kernel
theorem dX0_goByCalls_150 : decode cX0_goByCalls 150 = .ok (.ifCond .eq 24, 3) := by decide +kernel
theorem dX0_goByCalls_153 : decode cX0_goByCalls 153 = .ok (.aload_n 0, 1) := by decide +kernel
theorem dX0_goByCalls_154 : decode cX0_goByCalls 154 = .ok (.getfield 56, 3) := by decide +kernel
theorem dX0_goByCalls_157 : decode cX0_goByCalls 157 = .ok (.invokevirtual 175, 3) := by decide +kernel
theorem dX0_goByCalls_160 : decode cX0_goByCalls 160 = .ok (.ifCond .eq 14, 3) := by decide +kernel
theorem dX0_goByCalls_163 : decode cX0_goByCalls 163 = .ok (.iload 4, 2) := by decide +kernel
theorem dX0_goByCalls_165 : decode cX0_goByCalls 165 = .ok (.ifCond .eq 9, 3) := by decide +kernel
theorem dX0_goByCalls_168 : decode cX0_goByCalls 168 = .ok (.aload_n 0, 1) := by decide +kernel
theorem dX0_goByCalls_169 : decode cX0_goByCalls 169 = .ok (.iload 4, 2) := by decide +kernel
theorem dX0_goByCalls_171 : decode cX0_goByCalls 171 = .ok (.invokevirtual 246, 3) := by decide +kernel
theorem dX0_goByCalls_174 : decode cX0_goByCalls 174 = .ok (.return_, 1) := by decide +kernel
theorem dX0_goOn_0 : decode cX0_goOn 0 = .ok (.aload_n 1, 1) := by decide +kernel
theorem dX0_goOn_1 : decode cX0_goOn 1 = .ok (.invokevirtual 154, 3) := by decide +kernel
theorem dX0_goOn_4 : decode cX0_goOn 4 = .ok (.ifCond .eq 21, 3) := by decide +kernel
theorem dX0_goOn_7 : decode cX0_goOn 7 = .ok (.aload_n 1, 1) := by decide +kernel
theorem dX0_goOn_8 : decode cX0_goOn 8 = .ok (.getfield 249, 3) := by decide +kernel
theorem dX0_goOn_11 : decode cX0_goOn 11 = .ok (.ifCond .ne 14, 3) := by decide +kernel
theorem dX0_goOn_14 : decode cX0_goOn 14 = .ok (.aload_n 1, 1) := by decide +kernel
theorem dX0_goOn_15 : decode cX0_goOn 15 = .ok (.getfield 192, 3) := by decide +kernel
theorem dX0_goOn_18 : decode cX0_goOn 18 = .ok (.ifCond .ne 7, 3) := by decide +kernel
theorem dX0_goOn_21 : decode cX0_goOn 21 = .ok (.iconst 1, 1) := by decide +kernel
theorem dX0_goOn_22 : decode cX0_goOn 22 = .ok (.goto 4, 3) := by decide +kernel
theorem dX0_goOn_25 : decode cX0_goOn 25 = .ok (.iconst 0, 1) := by decide +kernel
theorem dX0_goOn_26 : decode cX0_goOn 26 = .ok (.istore_n 3, 1) := by decide +kernel
theorem dX0_goOn_27 : decode cX0_goOn 27 = .ok (.iload_n 3, 1) := by decide +kernel
theorem dX0_goOn_28 : decode cX0_goOn 28 = .ok (.ifCond .eq 23, 3) := by decide +kernel
theorem dX0_goOn_31 : decode cX0_goOn 31 = .ok (.aload_n 0, 1) := by decide +kernel
theorem dX0_goOn_32 : decode cX0_goOn 32 = .ok (.getfield 79, 3) := by decide +kernel
theorem dX0_goOn_35 : decode cX0_goOn 35 = .ok (.aload_n 1, 1) := by decide +kernel
theorem dX0_goOn_36 : decode cX0_goOn 36 = .ok (.getfield 157, 3) := by decide +kernel
theorem dX0_goOn_39 : decode cX0_goOn 39 = .ok (.invokestatic 104, 3) := by decide +kernel
theorem dX0_goOn_42 : decode cX0_goOn 42 = .ok (.iand, 1) := by decide +kernel
theorem dX0_goOn_43 : decode cX0_goOn 43 = .ok (.ifCond .eq 8, 3) := by decide +kernel
theorem dX0_goOn_46 : decode cX0_goOn 46 = .ok (.aload_n 0, 1) := by decide +kernel
theorem dX0_goOn_47 : decode cX0_goOn 47 = .ok (.aload_n 1, 1) := by decide +kernel
theorem dX0_goOn_48 : decode cX0_goOn 48 = .ok (.invokevirtual 227, 3) := by decide +kernel
theorem dX0_goOn_51 : decode cX0_goOn 51 = .ok (.aload_n 0, 1) := by decide +kernel
theorem dX0_goOn_52 : decode cX0_goOn 52 = .ok (.aload_n 1, 1) := by decide +kernel
theorem dX0_goOn_53 : decode cX0_goOn 53 = .ok (.iload_n 2, 1) := by decide +kernel
theorem dX0_goOn_54 : decode cX0_goOn 54 = .ok (.invokevirtual 252, 3) := by decide +kernel
theorem dX0_goOn_57 : decode cX0_goOn 57 = .ok (.ifCond .eq 19, 3) := by decide +kernel
theorem dX0_goOn_60 : decode cX0_goOn 60 = .ok (.aload_n 1, 1) := by decide +kernel
theorem dX0_goOn_61 : decode cX0_goOn 61 = .ok (.getfield 216, 3) := by decide +kernel
theorem dX0_goOn_64 : decode cX0_goOn 64 = .ok (.iconst (-1), 1) := by decide +kernel
theorem dX0_goOn_65 : decode cX0_goOn 65 = .ok (.if_icmp .eq 11, 3) := by decide +kernel
theorem dX0_goOn_68 : decode cX0_goOn 68 = .ok (.aload_n 1, 1) := by decide +kernel
theorem dX0_goOn_69 : decode cX0_goOn 69 = .ok (.aload_n 1, 1) := by decide +kernel
theorem dX0_goOn_70 : decode cX0_goOn 70 = .ok (.getfield 216, 3) := by decide +kernel
theorem dX0_goOn_73 : decode cX0_goOn 73 = .ok (.invokevirtual 255, 3) := by decide +kernel
theorem dX0_goOn_76 : decode cX0_goOn 76 = .ok (.return_, 1) := by decide +kernel
theorem dX0_mayLeave_0 : decode cX0_mayLeave 0 = .ok (.aload_n 1, 1) := by decide +kernel
theorem dX0_mayLeave_1 : decode cX0_mayLeave 1 = .ok (.invokevirtual 175, 3) := by decide +kernel
theorem dX0_mayLeave_4 : decode cX0_mayLeave 4 = .ok (.ifCond .ne 20, 3) := by decide +kernel
theorem dX0_mayLeave_7 : decode cX0_mayLeave 7 = .ok (.aload_n 0, 1) := by decide +kernel
theorem dX0_mayLeave_8 : decode cX0_mayLeave 8 = .ok (.aload_n 1, 1) := by decide +kernel
theorem dX0_mayLeave_9 : decode cX0_mayLeave 9 = .ok (.iload_n 2, 1) := by decide +kernel
theorem dX0_mayLeave_10 : decode cX0_mayLeave 10 = .ok (.invokevirtual 252, 3) := by decide +kernel
theorem dX0_mayLeave_13 : decode cX0_mayLeave 13 = .ok (.ifCond .eq 15, 3) := by decide +kernel
theorem dX0_mayLeave_16 : decode cX0_mayLeave 16 = .ok (.aload_n 1, 1) := by decide +kernel
theorem dX0_mayLeave_17 : decode cX0_mayLeave 17 = .ok (.getfield 216, 3) := by decide +kernel
theorem dX0_mayLeave_20 : decode cX0_mayLeave 20 = .ok (.iconst (-1), 1) := by decide +kernel
theorem dX0_mayLeave_21 : decode cX0_mayLeave 21 = .ok (.if_icmp .ne 7, 3) := by decide +kernel
theorem dX0_mayLeave_24 : decode cX0_mayLeave 24 = .ok (.iconst 1, 1) := by decide +kernel
theorem dX0_mayLeave_25 : decode cX0_mayLeave 25 = .ok (.goto 4, 3) := by decide +kernel
theorem dX0_mayLeave_28 : decode cX0_mayLeave 28 = .ok (.iconst 0, 1) := by decide +kernel
theorem dX0_mayLeave_29 : decode cX0_mayLeave 29 = .ok (.ireturn, 1) := by decide +kernel
theorem dX0_isDone_0 : decode cX0_isDone 0 = .ok (.aload_n 1, 1) := by decide +kernel
theorem dX0_isDone_1 : decode cX0_isDone 1 = .ok (.getfield 192, 3) := by decide +kernel
theorem dX0_isDone_4 : decode cX0_isDone 4 = .ok (.ifCond .eq 22, 3) := by decide +kernel
theorem dX0_isDone_7 : decode cX0_isDone 7 = .ok (.aload_n 1, 1) := by decide +kernel
theorem dX0_isDone_8 : decode cX0_isDone 8 = .ok (.aload_n 0, 1) := by decide +kernel
theorem dX0_isDone_9 : decode cX0_isDone 9 = .ok (.getfield 18, 3) := by decide +kernel
theorem dX0_isDone_12 : decode cX0_isDone 12 = .ok (.aload_n 1, 1) := by decide +kernel
theorem dX0_isDone_13 : decode cX0_isDone 13 = .ok (.getfield 157, 3) := by decide +kernel
theorem dX0_isDone_16 : decode cX0_isDone 16 = .ok (.iconst 0, 1) := by decide +kernel
theorem dX0_isDone_17 : decode cX0_isDone 17 = .ok (.invokevirtual 108, 3) := by decide +kernel
theorem dX0_isDone_20 : decode cX0_isDone 20 = .ok (.invokevirtual 258, 3) := by decide +kernel
theorem dX0_isDone_23 : decode cX0_isDone 23 = .ok (.ifCond .ne 5, 3) := by decide +kernel
theorem dX0_isDone_26 : decode cX0_isDone 26 = .ok (.iconst 0, 1) := by decide +kernel
theorem dX0_isDone_27 : decode cX0_isDone 27 = .ok (.ireturn, 1) := by decide +kernel
theorem dX0_isDone_28 : decode cX0_isDone 28 = .ok (.iload_n 2, 1) := by decide +kernel
theorem dX0_isDone_29 : decode cX0_isDone 29 = .ok (.ifCond .ne 29, 3) := by decide +kernel
theorem dX0_isDone_32 : decode cX0_isDone 32 = .ok (.aload_n 1, 1) := by decide +kernel
theorem dX0_isDone_33 : decode cX0_isDone 33 = .ok (.getfield 170, 3) := by decide +kernel
theorem dX0_isDone_36 : decode cX0_isDone 36 = .ok (.ifCond .eq 22, 3) := by decide +kernel
theorem dX0_isDone_39 : decode cX0_isDone 39 = .ok (.aload_n 1, 1) := by decide +kernel
theorem dX0_isDone_40 : decode cX0_isDone 40 = .ok (.getfield 195, 3) := by decide +kernel
theorem dX0_isDone_43 : decode cX0_isDone 43 = .ok (.aload_n 0, 1) := by decide +kernel
theorem dX0_isDone_44 : decode cX0_isDone 44 = .ok (.getfield 18, 3) := by decide +kernel
theorem dX0_isDone_47 : decode cX0_isDone 47 = .ok (.aload_n 1, 1) := by decide +kernel
theorem dX0_isDone_48 : decode cX0_isDone 48 = .ok (.getfield 157, 3) := by decide +kernel
theorem dX0_isDone_51 : decode cX0_isDone 51 = .ok (.iconst 2, 1) := by decide +kernel
theorem dX0_isDone_52 : decode cX0_isDone 52 = .ok (.invokevirtual 108, 3) := by decide +kernel
theorem dX0_isDone_55 : decode cX0_isDone 55 = .ok (.if_icmp .lt 7, 3) := by decide +kernel
theorem dX0_isDone_58 : decode cX0_isDone 58 = .ok (.iconst 1, 1) := by decide +kernel
theorem dX0_isDone_59 : decode cX0_isDone 59 = .ok (.goto 4, 3) := by decide +kernel
theorem dX0_isDone_62 : decode cX0_isDone 62 = .ok (.iconst 0, 1) := by decide +kernel
theorem dX0_isDone_63 : decode cX0_isDone 63 = .ok (.ireturn, 1) := by decide +kernel
theorem dX0_leaveSide_0 : decode cX0_leaveSide 0 = .ok (.iconst 0, 1) := by decide +kernel
theorem dX0_leaveSide_1 : decode cX0_leaveSide 1 = .ok (.istore_n 1, 1) := by decide +kernel
theorem dX0_leaveSide_2 : decode cX0_leaveSide 2 = .ok (.iload_n 1, 1) := by decide +kernel
theorem dX0_leaveSide_3 : decode cX0_leaveSide 3 = .ok (.iconst 2, 1) := by decide +kernel
theorem dX0_leaveSide_4 : decode cX0_leaveSide 4 = .ok (.if_icmp .ge 27, 3) := by decide +kernel
theorem dX0_leaveSide_7 : decode cX0_leaveSide 7 = .ok (.aload_n 0, 1) := by decide +kernel
theorem dX0_leaveSide_8 : decode cX0_leaveSide 8 = .ok (.iload_n 1, 1) := by decide +kernel
theorem dX0_leaveSide_9 : decode cX0_leaveSide 9 = .ok (.invokevirtual 150, 3) := by decide +kernel
theorem dX0_leaveSide_12 : decode cX0_leaveSide 12 = .ok (.astore_n 2, 1) := by decide +kernel
theorem dX0_leaveSide_13 : decode cX0_leaveSide 13 = .ok (.aload_n 2, 1) := by decide +kernel
theorem dX0_leaveSide_14 : decode cX0_leaveSide 14 = .ok (.invokevirtual 154, 3) := by decide +kernel
theorem dX0_leaveSide_17 : decode cX0_leaveSide 17 = .ok (.ifCond .eq 8, 3) := by decide +kernel
theorem dX0_leaveSide_20 : decode cX0_leaveSide 20 = .ok (.aload_n 2, 1) := by decide +kernel
theorem dX0_leaveSide_21 : decode cX0_leaveSide 21 = .ok (.iconst (-1), 1) := by decide +kernel
theorem dX0_leaveSide_22 : decode cX0_leaveSide 22 = .ok (.invokevirtual 255, 3) := by decide +kernel
theorem dX0_leaveSide_25 : decode cX0_leaveSide 25 = .ok (.iinc 1 1, 3) := by decide +kernel
theorem dX0_leaveSide_28 : decode cX0_leaveSide 28 = .ok (.goto (-26), 3) := by decide +kernel
theorem dX0_leaveSide_31 : decode cX0_leaveSide 31 = .ok (.return_, 1) := by decide +kernel
theorem dX0_cross_0 : decode cX0_cross 0 = .ok (.iload_n 1, 1) := by decide +kernel
theorem dX0_cross_1 : decode cX0_cross 1 = .ok (.iconst 1, 1) := by decide +kernel
theorem dX0_cross_2 : decode cX0_cross 2 = .ok (.aload_n 0, 1) := by decide +kernel
theorem dX0_cross_3 : decode cX0_cross 3 = .ok (.getfield 73, 3) := by decide +kernel
theorem dX0_cross_6 : decode cX0_cross 6 = .ok (.isub, 1) := by decide +kernel
theorem dX0_cross_7 : decode cX0_cross 7 = .ok (.invokestatic 210, 3) := by decide +kernel
theorem dX0_cross_10 : decode cX0_cross 10 = .ok (.iand, 1) := by decide +kernel
theorem dX0_cross_11 : decode cX0_cross 11 = .ok (.ifCond .eq 13, 3) := by decide +kernel
theorem dX0_cross_14 : decode cX0_cross 14 = .ok (.aload_n 0, 1) := by decide +kernel
theorem dX0_cross_15 : decode cX0_cross 15 = .ok (.iconst 1, 1) := by decide +kernel
theorem dX0_cross_16 : decode cX0_cross 16 = .ok (.aload_n 0, 1) := by decide +kernel
theorem dX0_cross_17 : decode cX0_cross 17 = .ok (.getfield 73, 3) := by decide +kernel
theorem dX0_cross_20 : decode cX0_cross 20 = .ok (.isub, 1) := by decide +kernel
theorem dX0_cross_21 : decode cX0_cross 21 = .ok (.putfield 73, 3) := by decide +kernel
theorem dX0_cross_24 : decode cX0_cross 24 = .ok (.iconst 0, 1) := by decide +kernel
theorem dX0_cross_25 : decode cX0_cross 25 = .ok (.istore_n 2, 1) := by decide +kernel
theorem dX0_cross_26 : decode cX0_cross 26 = .ok (.iload_n 2, 1) := by decide +kernel
theorem dX0_cross_27 : decode cX0_cross 27 = .ok (.iconst 2, 1) := by decide +kernel
theorem dX0_cross_28 : decode cX0_cross 28 = .ok (.if_icmp .ge 53, 3) := by decide +kernel
theorem dX0_cross_31 : decode cX0_cross 31 = .ok (.aload_n 0, 1) := by decide +kernel
theorem dX0_cross_32 : decode cX0_cross 32 = .ok (.iload_n 2, 1) := by decide +kernel
theorem dX0_cross_33 : decode cX0_cross 33 = .ok (.iload_n 1, 1) := by decide +kernel
theorem dX0_cross_34 : decode cX0_cross 34 = .ok (.invokevirtual 261, 3) := by decide +kernel
theorem dX0_cross_37 : decode cX0_cross 37 = .ok (.istore_n 3, 1) := by decide +kernel
theorem dX0_cross_38 : decode cX0_cross 38 = .ok (.iload_n 3, 1) := by decide +kernel
theorem dX0_cross_39 : decode cX0_cross 39 = .ok (.iconst (-1), 1) := by decide +kernel
theorem dX0_cross_40 : decode cX0_cross 40 = .ok (.if_icmp .eq 7, 3) := by decide +kernel
theorem dX0_cross_43 : decode cX0_cross 43 = .ok (.iload_n 3, 1) := by decide +kernel
theorem dX0_cross_44 : decode cX0_cross 44 = .ok (.goto 12, 3) := by decide +kernel
theorem dX0_cross_47 : decode cX0_cross 47 = .ok (.aload_n 0, 1) := by decide +kernel
theorem dX0_cross_48 : decode cX0_cross 48 = .ok (.iload_n 2, 1) := by decide +kernel
theorem dX0_cross_49 : decode cX0_cross 49 = .ok (.aload_n 0, 1) := by decide +kernel
theorem dX0_cross_50 : decode cX0_cross 50 = .ok (.getfield 67, 3) := by decide +kernel
theorem dX0_cross_53 : decode cX0_cross 53 = .ok (.invokevirtual 261, 3) := by decide +kernel
theorem dX0_cross_56 : decode cX0_cross 56 = .ok (.istore 4, 2) := by decide +kernel
theorem dX0_cross_58 : decode cX0_cross 58 = .ok (.iload 4, 2) := by decide +kernel
theorem dX0_cross_60 : decode cX0_cross 60 = .ok (.iconst (-1), 1) := by decide +kernel
theorem dX0_cross_61 : decode cX0_cross 61 = .ok (.if_icmp .eq 14, 3) := by decide +kernel
theorem dX0_cross_64 : decode cX0_cross 64 = .ok (.aload_n 0, 1) := by decide +kernel
theorem dX0_cross_65 : decode cX0_cross 65 = .ok (.aload_n 0, 1) := by decide +kernel
theorem dX0_cross_66 : decode cX0_cross 66 = .ok (.iload_n 2, 1) := by decide +kernel
theorem dX0_cross_67 : decode cX0_cross 67 = .ok (.invokevirtual 150, 3) := by decide +kernel
theorem dX0_cross_70 : decode cX0_cross 70 = .ok (.iload 4, 2) := by decide +kernel
theorem dX0_cross_72 : decode cX0_cross 72 = .ok (.invokevirtual 222, 3) := by decide +kernel
theorem dX0_cross_75 : decode cX0_cross 75 = .ok (.iinc 2 1, 3) := by decide +kernel
theorem dX0_cross_78 : decode cX0_cross 78 = .ok (.goto (-52), 3) := by decide +kernel
theorem dX0_cross_81 : decode cX0_cross 81 = .ok (.return_, 1) := by decide +kernel
theorem dX0_firstOfSide_0 : decode cX0_firstOfSide 0 = .ok (.iload_n 1, 1) := by decide +kernel
theorem dX0_firstOfSide_1 : decode cX0_firstOfSide 1 = .ok (.iconst 4, 1) := by decide +kernel
theorem dX0_firstOfSide_2 : decode cX0_firstOfSide 2 = .ok (.imul, 1) := by decide +kernel
theorem dX0_firstOfSide_3 : decode cX0_firstOfSide 3 = .ok (.aload_n 0, 1) := by decide +kernel
theorem dX0_firstOfSide_4 : decode cX0_firstOfSide 4 = .ok (.getfield 73, 3) := by decide +kernel
theorem dX0_firstOfSide_7 : decode cX0_firstOfSide 7 = .ok (.iconst 2, 1) := by decide +kernel
theorem dX0_firstOfSide_8 : decode cX0_firstOfSide 8 = .ok (.imul, 1) := by decide +kernel
theorem dX0_firstOfSide_9 : decode cX0_firstOfSide 9 = .ok (.iadd, 1) := by decide +kernel
theorem dX0_firstOfSide_10 : decode cX0_firstOfSide 10 = .ok (.istore_n 3, 1) := by decide +kernel
theorem dX0_firstOfSide_11 : decode cX0_firstOfSide 11 = .ok (.iload_n 2, 1) := by decide +kernel
theorem dX0_firstOfSide_12 : decode cX0_firstOfSide 12 = .ok (.iload_n 3, 1) := by decide +kernel
theorem dX0_firstOfSide_13 : decode cX0_firstOfSide 13 = .ok (.invokestatic 104, 3) := by decide +kernel
theorem dX0_firstOfSide_16 : decode cX0_firstOfSide 16 = .ok (.iand, 1) := by decide +kernel
theorem dX0_firstOfSide_17 : decode cX0_firstOfSide 17 = .ok (.ifCond .eq 5, 3) := by decide +kernel
theorem dX0_firstOfSide_20 : decode cX0_firstOfSide 20 = .ok (.iload_n 3, 1) := by decide +kernel
theorem dX0_firstOfSide_21 : decode cX0_firstOfSide 21 = .ok (.ireturn, 1) := by decide +kernel
theorem dX0_firstOfSide_22 : decode cX0_firstOfSide 22 = .ok (.iload_n 2, 1) := by decide +kernel
theorem dX0_firstOfSide_23 : decode cX0_firstOfSide 23 = .ok (.iload_n 3, 1) := by decide +kernel
theorem dX0_firstOfSide_24 : decode cX0_firstOfSide 24 = .ok (.iconst 1, 1) := by decide +kernel
theorem dX0_firstOfSide_25 : decode cX0_firstOfSide 25 = .ok (.iadd, 1) := by decide +kernel
theorem dX0_firstOfSide_26 : decode cX0_firstOfSide 26 = .ok (.invokestatic 104, 3) := by decide +kernel
theorem dX0_firstOfSide_29 : decode cX0_firstOfSide 29 = .ok (.iand, 1) := by decide +kernel
theorem dX0_firstOfSide_30 : decode cX0_firstOfSide 30 = .ok (.ifCond .eq 9, 3) := by decide +kernel
theorem dX0_firstOfSide_33 : decode cX0_firstOfSide 33 = .ok (.iload_n 3, 1) := by decide +kernel
theorem dX0_firstOfSide_34 : decode cX0_firstOfSide 34 = .ok (.iconst 1, 1) := by decide +kernel
theorem dX0_firstOfSide_35 : decode cX0_firstOfSide 35 = .ok (.iadd, 1) := by decide +kernel
theorem dX0_firstOfSide_36 : decode cX0_firstOfSide 36 = .ok (.goto 4, 3) := by decide +kernel
theorem dX0_firstOfSide_39 : decode cX0_firstOfSide 39 = .ok (.iconst (-1), 1) := by decide +kernel
theorem dX0_firstOfSide_40 : decode cX0_firstOfSide 40 = .ok (.ireturn, 1) := by decide +kernel
theorem dX0_goByInput_0 : decode cX0_goByInput 0 = .ok (.aload_n 0, 1) := by decide +kernel
theorem dX0_goByInput_1 : decode cX0_goByInput 1 = .ok (.iconst 1, 1) := by decide +kernel
theorem dX0_goByInput_2 : decode cX0_goByInput 2 = .ok (.putfield 82, 3) := by decide +kernel
theorem dX0_goByInput_5 : decode cX0_goByInput 5 = .ok (.iload_n 1, 1) := by decide +kernel
theorem dX0_goByInput_6 : decode cX0_goByInput 6 = .ok (.invokestatic 264, 3) := by decide +kernel
theorem dX0_goByInput_9 : decode cX0_goByInput 9 = .ok (.aload_n 0, 1) := by decide +kernel
theorem dX0_goByInput_10 : decode cX0_goByInput 10 = .ok (.getfield 73, 3) := by decide +kernel
theorem dX0_goByInput_13 : decode cX0_goByInput 13 = .ok (.if_icmp .ne 7, 3) := by decide +kernel
theorem dX0_goByInput_16 : decode cX0_goByInput 16 = .ok (.iconst 1, 1) := by decide +kernel
theorem dX0_goByInput_17 : decode cX0_goByInput 17 = .ok (.goto 4, 3) := by decide +kernel
theorem dX0_goByInput_20 : decode cX0_goByInput 20 = .ok (.iconst 0, 1) := by decide +kernel
theorem dX0_goByInput_21 : decode cX0_goByInput 21 = .ok (.istore_n 2, 1) := by decide +kernel
theorem dX0_goByInput_22 : decode cX0_goByInput 22 = .ok (.iconst 0, 1) := by decide +kernel
theorem dX0_goByInput_23 : decode cX0_goByInput 23 = .ok (.istore_n 3, 1) := by decide +kernel
theorem dX0_goByInput_24 : decode cX0_goByInput 24 = .ok (.iload_n 3, 1) := by decide +kernel
theorem dX0_goByInput_25 : decode cX0_goByInput 25 = .ok (.iconst 2, 1) := by decide +kernel
theorem dX0_goByInput_26 : decode cX0_goByInput 26 = .ok (.if_icmp .ge 25, 3) := by decide +kernel
theorem dX0_goByInput_29 : decode cX0_goByInput 29 = .ok (.aload_n 0, 1) := by decide +kernel
theorem dX0_goByInput_30 : decode cX0_goByInput 30 = .ok (.aload_n 0, 1) := by decide +kernel
theorem dX0_goByInput_31 : decode cX0_goByInput 31 = .ok (.iload_n 3, 1) := by decide +kernel
theorem dX0_goByInput_32 : decode cX0_goByInput 32 = .ok (.invokevirtual 150, 3) := by decide +kernel
theorem dX0_goByInput_35 : decode cX0_goByInput 35 = .ok (.aload_n 0, 1) := by decide +kernel
theorem dX0_goByInput_36 : decode cX0_goByInput 36 = .ok (.iload_n 3, 1) := by decide +kernel
theorem dX0_goByInput_37 : decode cX0_goByInput 37 = .ok (.iload_n 1, 1) := by decide +kernel
theorem dX0_goByInput_38 : decode cX0_goByInput 38 = .ok (.invokevirtual 267, 3) := by decide +kernel
theorem dX0_goByInput_41 : decode cX0_goByInput 41 = .ok (.iload_n 2, 1) := by decide +kernel
theorem dX0_goByInput_42 : decode cX0_goByInput 42 = .ok (.invokevirtual 270, 3) := by decide +kernel
theorem dX0_goByInput_45 : decode cX0_goByInput 45 = .ok (.iinc 3 1, 3) := by decide +kernel
theorem dX0_goByInput_48 : decode cX0_goByInput 48 = .ok (.goto (-24), 3) := by decide +kernel
theorem dX0_goByInput_51 : decode cX0_goByInput 51 = .ok (.iload_n 2, 1) := by decide +kernel
theorem dX0_goByInput_52 : decode cX0_goByInput 52 = .ok (.ifCond .ne 29, 3) := by decide +kernel
theorem dX0_goByInput_55 : decode cX0_goByInput 55 = .ok (.aload_n 0, 1) := by decide +kernel
theorem dX0_goByInput_56 : decode cX0_goByInput 56 = .ok (.aload_n 0, 1) := by decide +kernel
theorem dX0_goByInput_57 : decode cX0_goByInput 57 = .ok (.getfield 52, 3) := by decide +kernel
theorem dX0_goByInput_60 : decode cX0_goByInput 60 = .ok (.invokevirtual 274, 3) := by decide +kernel
theorem dX0_goByInput_63 : decode cX0_goByInput 63 = .ok (.ifCond .eq 18, 3) := by decide +kernel
theorem dX0_goByInput_66 : decode cX0_goByInput 66 = .ok (.aload_n 0, 1) := by decide +kernel
theorem dX0_goByInput_67 : decode cX0_goByInput 67 = .ok (.aload_n 0, 1) := by decide +kernel
theorem dX0_goByInput_68 : decode cX0_goByInput 68 = .ok (.getfield 56, 3) := by decide +kernel
theorem dX0_goByInput_71 : decode cX0_goByInput 71 = .ok (.invokevirtual 274, 3) := by decide +kernel
theorem dX0_goByInput_74 : decode cX0_goByInput 74 = .ok (.ifCond .eq 7, 3) := by decide +kernel
theorem dX0_goByInput_77 : decode cX0_goByInput 77 = .ok (.aload_n 0, 1) := by decide +kernel
theorem dX0_goByInput_78 : decode cX0_goByInput 78 = .ok (.invokevirtual 243, 3) := by decide +kernel
theorem dX0_goByInput_81 : decode cX0_goByInput 81 = .ok (.aload_n 0, 1) := by decide +kernel
theorem dX0_goByInput_82 : decode cX0_goByInput 82 = .ok (.getfield 52, 3) := by decide +kernel
theorem dX0_goByInput_85 : decode cX0_goByInput 85 = .ok (.invokevirtual 175, 3) := by decide +kernel
theorem dX0_goByInput_88 : decode cX0_goByInput 88 = .ok (.ifCond .eq 21, 3) := by decide +kernel
theorem dX0_goByInput_91 : decode cX0_goByInput 91 = .ok (.aload_n 0, 1) := by decide +kernel
theorem dX0_goByInput_92 : decode cX0_goByInput 92 = .ok (.getfield 56, 3) := by decide +kernel
theorem dX0_goByInput_95 : decode cX0_goByInput 95 = .ok (.invokevirtual 175, 3) := by decide +kernel
theorem dX0_goByInput_98 : decode cX0_goByInput 98 = .ok (.ifCond .eq 11, 3) := by decide +kernel
theorem dX0_goByInput_101 : decode cX0_goByInput 101 = .ok (.aload_n 0, 1) := by decide +kernel
theorem dX0_goByInput_102 : decode cX0_goByInput 102 = .ok (.iload_n 1, 1) := by decide +kernel
theorem dX0_goByInput_103 : decode cX0_goByInput 103 = .ok (.invokestatic 264, 3) := by decide +kernel
theorem dX0_goByInput_106 : decode cX0_goByInput 106 = .ok (.putfield 73, 3) := by decide +kernel
theorem dX0_goByInput_109 : decode cX0_goByInput 109 = .ok (.iconst 0, 1) := by decide +kernel
theorem dX0_goByInput_110 : decode cX0_goByInput 110 = .ok (.istore_n 3, 1) := by decide +kernel
theorem dX0_goByInput_111 : decode cX0_goByInput 111 = .ok (.iload_n 3, 1) := by decide +kernel
theorem dX0_goByInput_112 : decode cX0_goByInput 112 = .ok (.iconst 2, 1) := by decide +kernel
theorem dX0_goByInput_113 : decode cX0_goByInput 113 = .ok (.if_icmp .ge 57, 3) := by decide +kernel
theorem dX0_goByInput_116 : decode cX0_goByInput 116 = .ok (.aload_n 0, 1) := by decide +kernel
theorem dX0_goByInput_117 : decode cX0_goByInput 117 = .ok (.iload_n 3, 1) := by decide +kernel
theorem dX0_goByInput_118 : decode cX0_goByInput 118 = .ok (.iload_n 1, 1) := by decide +kernel
theorem dX0_goByInput_119 : decode cX0_goByInput 119 = .ok (.invokevirtual 267, 3) := by decide +kernel
theorem dX0_goByInput_122 : decode cX0_goByInput 122 = .ok (.istore 4, 2) := by decide +kernel
theorem dX0_goByInput_124 : decode cX0_goByInput 124 = .ok (.aload_n 0, 1) := by decide +kernel
theorem dX0_goByInput_125 : decode cX0_goByInput 125 = .ok (.iload_n 3, 1) := by decide +kernel
theorem dX0_goByInput_126 : decode cX0_goByInput 126 = .ok (.invokevirtual 150, 3) := by decide +kernel
theorem dX0_goByInput_129 : decode cX0_goByInput 129 = .ok (.invokevirtual 175, 3) := by decide +kernel
theorem dX0_goByInput_132 : decode cX0_goByInput 132 = .ok (.ifCond .eq 32, 3) := by decide +kernel
theorem dX0_goByInput_135 : decode cX0_goByInput 135 = .ok (.iload 4, 2) := by decide +kernel
theorem dX0_goByInput_137 : decode cX0_goByInput 137 = .ok (.iconst (-1), 1) := by decide +kernel
theorem dX0_goByInput_138 : decode cX0_goByInput 138 = .ok (.if_icmp .eq 26, 3) := by decide +kernel
theorem dX0_goByInput_141 : decode cX0_goByInput 141 = .ok (.iload 4, 2) := by decide +kernel
theorem dX0_goByInput_143 : decode cX0_goByInput 143 = .ok (.invokestatic 264, 3) := by decide +kernel
theorem dX0_goByInput_146 : decode cX0_goByInput 146 = .ok (.aload_n 0, 1) := by decide +kernel
theorem dX0_goByInput_147 : decode cX0_goByInput 147 = .ok (.getfield 73, 3) := by decide +kernel
theorem dX0_goByInput_150 : decode cX0_goByInput 150 = .ok (.if_icmp .ne 14, 3) := by decide +kernel
theorem dX0_goByInput_153 : decode cX0_goByInput 153 = .ok (.aload_n 0, 1) := by decide +kernel
theorem dX0_goByInput_154 : decode cX0_goByInput 154 = .ok (.aload_n 0, 1) := by decide +kernel
theorem dX0_goByInput_155 : decode cX0_goByInput 155 = .ok (.iload_n 3, 1) := by decide +kernel
theorem dX0_goByInput_156 : decode cX0_goByInput 156 = .ok (.invokevirtual 150, 3) := by decide +kernel
theorem dX0_goByInput_159 : decode cX0_goByInput 159 = .ok (.iload 4, 2) := by decide +kernel
theorem dX0_goByInput_161 : decode cX0_goByInput 161 = .ok (.invokevirtual 222, 3) := by decide +kernel
theorem dX0_goByInput_164 : decode cX0_goByInput 164 = .ok (.iinc 3 1, 3) := by decide +kernel
theorem dX0_goByInput_167 : decode cX0_goByInput 167 = .ok (.goto (-56), 3) := by decide +kernel
theorem dX0_goByInput_170 : decode cX0_goByInput 170 = .ok (.return_, 1) := by decide +kernel
theorem dX0_giveWay_0 : decode cX0_giveWay 0 = .ok (.aload_n 1, 1) := by decide +kernel
theorem dX0_giveWay_1 : decode cX0_giveWay 1 = .ok (.getfield 249, 3) := by decide +kernel
theorem dX0_giveWay_4 : decode cX0_giveWay 4 = .ok (.iconst 4, 1) := by decide +kernel
theorem dX0_giveWay_5 : decode cX0_giveWay 5 = .ok (.if_icmp .ne 7, 3) := by decide +kernel
theorem dX0_giveWay_8 : decode cX0_giveWay 8 = .ok (.aload_n 1, 1) := by decide +kernel
theorem dX0_giveWay_9 : decode cX0_giveWay 9 = .ok (.invokevirtual 278, 3) := by decide +kernel
theorem dX0_giveWay_12 : decode cX0_giveWay 12 = .ok (.iload_n 3, 1) := by decide +kernel
theorem dX0_giveWay_13 : decode cX0_giveWay 13 = .ok (.ifCond .eq 40, 3) := by decide +kernel
theorem dX0_giveWay_16 : decode cX0_giveWay 16 = .ok (.iload_n 2, 1) := by decide +kernel
theorem dX0_giveWay_17 : decode cX0_giveWay 17 = .ok (.iconst (-1), 1) := by decide +kernel
theorem dX0_giveWay_18 : decode cX0_giveWay 18 = .ok (.if_icmp .eq 35, 3) := by decide +kernel
theorem dX0_giveWay_21 : decode cX0_giveWay 21 = .ok (.aload_n 1, 1) := by decide +kernel
theorem dX0_giveWay_22 : decode cX0_giveWay 22 = .ok (.getfield 157, 3) := by decide +kernel
theorem dX0_giveWay_25 : decode cX0_giveWay 25 = .ok (.iload_n 2, 1) := by decide +kernel
theorem dX0_giveWay_26 : decode cX0_giveWay 26 = .ok (.if_icmp .eq 27, 3) := by decide +kernel
theorem dX0_giveWay_29 : decode cX0_giveWay 29 = .ok (.aload_n 1, 1) := by decide +kernel
theorem dX0_giveWay_30 : decode cX0_giveWay 30 = .ok (.aload_n 0, 1) := by decide +kernel
theorem dX0_giveWay_31 : decode cX0_giveWay 31 = .ok (.getfield 18, 3) := by decide +kernel
theorem dX0_giveWay_34 : decode cX0_giveWay 34 = .ok (.aload_n 1, 1) := by decide +kernel
theorem dX0_giveWay_35 : decode cX0_giveWay 35 = .ok (.getfield 157, 3) := by decide +kernel
theorem dX0_giveWay_38 : decode cX0_giveWay 38 = .ok (.iconst 0, 1) := by decide +kernel
theorem dX0_giveWay_39 : decode cX0_giveWay 39 = .ok (.invokevirtual 108, 3) := by decide +kernel
theorem dX0_giveWay_42 : decode cX0_giveWay 42 = .ok (.invokevirtual 258, 3) := by decide +kernel
theorem dX0_giveWay_45 : decode cX0_giveWay 45 = .ok (.ifCond .eq 8, 3) := by decide +kernel
theorem dX0_giveWay_48 : decode cX0_giveWay 48 = .ok (.aload_n 1, 1) := by decide +kernel
theorem dX0_giveWay_49 : decode cX0_giveWay 49 = .ok (.iload_n 2, 1) := by decide +kernel
theorem dX0_giveWay_50 : decode cX0_giveWay 50 = .ok (.invokevirtual 255, 3) := by decide +kernel
theorem dX0_giveWay_53 : decode cX0_giveWay 53 = .ok (.return_, 1) := by decide +kernel
theorem dX0_mayLeaveByInput_0 : decode cX0_mayLeaveByInput 0 = .ok (.aload_n 1, 1) := by decide +kernel
theorem dX0_mayLeaveByInput_1 : decode cX0_mayLeaveByInput 1 = .ok (.invokevirtual 175, 3) := by decide +kernel
theorem dX0_mayLeaveByInput_4 : decode cX0_mayLeaveByInput 4 = .ok (.ifCond .ne 22, 3) := by decide +kernel
theorem dX0_mayLeaveByInput_7 : decode cX0_mayLeaveByInput 7 = .ok (.aload_n 1, 1) := by decide +kernel
theorem dX0_mayLeaveByInput_8 : decode cX0_mayLeaveByInput 8 = .ok (.aload_n 0, 1) := by decide +kernel
theorem dX0_mayLeaveByInput_9 : decode cX0_mayLeaveByInput 9 = .ok (.getfield 18, 3) := by decide +kernel
theorem dX0_mayLeaveByInput_12 : decode cX0_mayLeaveByInput 12 = .ok (.aload_n 1, 1) := by decide +kernel
theorem dX0_mayLeaveByInput_13 : decode cX0_mayLeaveByInput 13 = .ok (.getfield 157, 3) := by decide +kernel
theorem dX0_mayLeaveByInput_16 : decode cX0_mayLeaveByInput 16 = .ok (.iconst 0, 1) := by decide +kernel
theorem dX0_mayLeaveByInput_17 : decode cX0_mayLeaveByInput 17 = .ok (.invokevirtual 108, 3) := by decide +kernel
theorem dX0_mayLeaveByInput_20 : decode cX0_mayLeaveByInput 20 = .ok (.invokevirtual 258, 3) := by decide +kernel
theorem dX0_mayLeaveByInput_23 : decode cX0_mayLeaveByInput 23 = .ok (.ifCond .eq 7, 3) := by decide +kernel
theorem dX0_mayLeaveByInput_26 : decode cX0_mayLeaveByInput 26 = .ok (.iconst 1, 1) := by decide +kernel
theorem dX0_mayLeaveByInput_27 : decode cX0_mayLeaveByInput 27 = .ok (.goto 4, 3) := by decide +kernel
theorem dX0_mayLeaveByInput_30 : decode cX0_mayLeaveByInput 30 = .ok (.iconst 0, 1) := by decide +kernel
theorem dX0_mayLeaveByInput_31 : decode cX0_mayLeaveByInput 31 = .ok (.ireturn, 1) := by decide +kernel
theorem dX0_goalOf_0 : decode cX0_goalOf 0 = .ok (.iload_n 2, 1) := by decide +kernel
theorem dX0_goalOf_1 : decode cX0_goalOf 1 = .ok (.invokestatic 147, 3) := by decide +kernel
theorem dX0_goalOf_4 : decode cX0_goalOf 4 = .ok (.iload_n 1, 1) := by decide +kernel
theorem dX0_goalOf_5 : decode cX0_goalOf 5 = .ok (.if_icmp .ne 5, 3) := by decide +kernel
theorem dX0_goalOf_8 : decode cX0_goalOf 8 = .ok (.iload_n 2, 1) := by decide +kernel
theorem dX0_goalOf_9 : decode cX0_goalOf 9 = .ok (.ireturn, 1) := by decide +kernel
theorem dX0_goalOf_10 : decode cX0_goalOf 10 = .ok (.iload_n 2, 1) := by decide +kernel
theorem dX0_goalOf_11 : decode cX0_goalOf 11 = .ok (.iconst 4, 1) := by decide +kernel
theorem dX0_goalOf_12 : decode cX0_goalOf 12 = .ok (.iadd, 1) := by decide +kernel
theorem dX0_goalOf_13 : decode cX0_goalOf 13 = .ok (.bipush 8, 2) := by decide +kernel
theorem dX0_goalOf_15 : decode cX0_goalOf 15 = .ok (.irem, 1) := by decide +kernel
theorem dX0_goalOf_16 : decode cX0_goalOf 16 = .ok (.istore_n 3, 1) := by decide +kernel
theorem dX0_goalOf_17 : decode cX0_goalOf 17 = .ok (.aload_n 0, 1) := by decide +kernel
theorem dX0_goalOf_18 : decode cX0_goalOf 18 = .ok (.getfield 67, 3) := by decide +kernel
theorem dX0_goalOf_21 : decode cX0_goalOf 21 = .ok (.iload_n 3, 1) := by decide +kernel
theorem dX0_goalOf_22 : decode cX0_goalOf 22 = .ok (.invokestatic 104, 3) := by decide +kernel
theorem dX0_goalOf_25 : decode cX0_goalOf 25 = .ok (.iand, 1) := by decide +kernel
theorem dX0_goalOf_26 : decode cX0_goalOf 26 = .ok (.ifCond .eq 7, 3) := by decide +kernel
theorem dX0_goalOf_29 : decode cX0_goalOf 29 = .ok (.iload_n 3, 1) := by decide +kernel
theorem dX0_goalOf_30 : decode cX0_goalOf 30 = .ok (.goto 4, 3) := by decide +kernel
theorem dX0_goalOf_33 : decode cX0_goalOf 33 = .ok (.iconst (-1), 1) := by decide +kernel
theorem dX0_goalOf_34 : decode cX0_goalOf 34 = .ok (.ireturn, 1) := by decide +kernel
theorem dX0_watch_0 : decode cX0_watch 0 = .ok (.iconst 0, 1) := by decide +kernel
theorem dX0_watch_1 : decode cX0_watch 1 = .ok (.istore_n 1, 1) := by decide +kernel
theorem dX0_watch_2 : decode cX0_watch 2 = .ok (.iload_n 1, 1) := by decide +kernel
theorem dX0_watch_3 : decode cX0_watch 3 = .ok (.bipush 8, 2) := by decide +kernel
theorem dX0_watch_5 : decode cX0_watch 5 = .ok (.if_icmp .ge 22, 3) := by decide +kernel
theorem dX0_watch_8 : decode cX0_watch 8 = .ok (.aload_n 0, 1) := by decide +kernel
theorem dX0_watch_9 : decode cX0_watch 9 = .ok (.getfield 45, 3) := by decide +kernel
theorem dX0_watch_12 : decode cX0_watch 12 = .ok (.iload_n 1, 1) := by decide +kernel
theorem dX0_watch_13 : decode cX0_watch 13 = .ok (.aload_n 0, 1) := by decide +kernel
theorem dX0_watch_14 : decode cX0_watch 14 = .ok (.iload_n 1, 1) := by decide +kernel
theorem dX0_watch_15 : decode cX0_watch 15 = .ok (.invokevirtual 281, 3) := by decide +kernel
theorem dX0_watch_18 : decode cX0_watch 18 = .ok (.invokevirtual 284, 3) := by decide +kernel
theorem dX0_watch_21 : decode cX0_watch 21 = .ok (.iinc 1 1, 3) := by decide +kernel
theorem dX0_watch_24 : decode cX0_watch 24 = .ok (.goto (-22), 3) := by decide +kernel
theorem dX0_watch_27 : decode cX0_watch 27 = .ok (.aload_n 0, 1) := by decide +kernel
theorem dX0_watch_28 : decode cX0_watch 28 = .ok (.getfield 45, 3) := by decide +kernel
theorem dX0_watch_31 : decode cX0_watch 31 = .ok (.aload_n 0, 1) := by decide +kernel
theorem dX0_watch_32 : decode cX0_watch 32 = .ok (.getfield 67, 3) := by decide +kernel
theorem dX0_watch_35 : decode cX0_watch 35 = .ok (.invokevirtual 287, 3) := by decide +kernel
theorem dX0_watch_38 : decode cX0_watch 38 = .ok (.istore_n 1, 1) := by decide +kernel
theorem dX0_watch_39 : decode cX0_watch 39 = .ok (.iload_n 1, 1) := by decide +kernel
theorem dX0_watch_40 : decode cX0_watch 40 = .ok (.ifCond .eq 32, 3) := by decide +kernel
theorem dX0_watch_43 : decode cX0_watch 43 = .ok (.aload_n 0, 1) := by decide +kernel
theorem dX0_watch_44 : decode cX0_watch 44 = .ok (.iload_n 1, 1) := by decide +kernel
theorem dX0_watch_45 : decode cX0_watch 45 = .ok (.putfield 70, 3) := by decide +kernel
theorem dX0_watch_48 : decode cX0_watch 48 = .ok (.aload_n 0, 1) := by decide +kernel
theorem dX0_watch_49 : decode cX0_watch 49 = .ok (.getfield 52, 3) := by decide +kernel
theorem dX0_watch_52 : decode cX0_watch 52 = .ok (.invokevirtual 98, 3) := by decide +kernel
theorem dX0_watch_55 : decode cX0_watch 55 = .ok (.aload_n 0, 1) := by decide +kernel
theorem dX0_watch_56 : decode cX0_watch 56 = .ok (.getfield 56, 3) := by decide +kernel
theorem dX0_watch_59 : decode cX0_watch 59 = .ok (.invokevirtual 98, 3) := by decide +kernel
theorem dX0_watch_62 : decode cX0_watch 62 = .ok (.aload_n 0, 1) := by decide +kernel
theorem dX0_watch_63 : decode cX0_watch 63 = .ok (.iconst 0, 1) := by decide +kernel
theorem dX0_watch_64 : decode cX0_watch 64 = .ok (.putfield 76, 3) := by decide +kernel
theorem dX0_watch_67 : decode cX0_watch 67 = .ok (.aload_n 0, 1) := by decide +kernel
theorem dX0_watch_68 : decode cX0_watch 68 = .ok (.iconst 0, 1) := by decide +kernel
theorem dX0_watch_69 : decode cX0_watch 69 = .ok (.putfield 79, 3) := by decide +kernel
theorem dX0_watch_72 : decode cX0_watch 72 = .ok (.return_, 1) := by decide +kernel
theorem dX0_lampsOf_0 : decode cX0_lampsOf 0 = .ok (.iload_n 1, 1) := by decide +kernel
theorem dX0_lampsOf_1 : decode cX0_lampsOf 1 = .ok (.invokestatic 290, 3) := by decide +kernel
theorem dX0_lampsOf_4 : decode cX0_lampsOf 4 = .ok (.ifCond .eq 15, 3) := by decide +kernel
theorem dX0_lampsOf_7 : decode cX0_lampsOf 7 = .ok (.aload_n 0, 1) := by decide +kernel
theorem dX0_lampsOf_8 : decode cX0_lampsOf 8 = .ok (.getfield 67, 3) := by decide +kernel
theorem dX0_lampsOf_11 : decode cX0_lampsOf 11 = .ok (.iload_n 1, 1) := by decide +kernel
theorem dX0_lampsOf_12 : decode cX0_lampsOf 12 = .ok (.invokestatic 104, 3) := by decide +kernel
theorem dX0_lampsOf_15 : decode cX0_lampsOf 15 = .ok (.iand, 1) := by decide +kernel
theorem dX0_lampsOf_16 : decode cX0_lampsOf 16 = .ok (.ifCond .ne 5, 3) := by decide +kernel
theorem dX0_lampsOf_19 : decode cX0_lampsOf 19 = .ok (.iconst 0, 1) := by decide +kernel
theorem dX0_lampsOf_20 : decode cX0_lampsOf 20 = .ok (.ireturn, 1) := by decide +kernel
theorem dX0_lampsOf_21 : decode cX0_lampsOf 21 = .ok (.aload_n 0, 1) := by decide +kernel
theorem dX0_lampsOf_22 : decode cX0_lampsOf 22 = .ok (.getfield 70, 3) := by decide +kernel
theorem dX0_lampsOf_25 : decode cX0_lampsOf 25 = .ok (.ifCond .eq 6, 3) := by decide +kernel
theorem dX0_lampsOf_28 : decode cX0_lampsOf 28 = .ok (.bipush 8, 2) := by decide +kernel
theorem dX0_lampsOf_30 : decode cX0_lampsOf 30 = .ok (.ireturn, 1) := by decide +kernel
theorem dX0_lampsOf_31 : decode cX0_lampsOf 31 = .ok (.aload_n 0, 1) := by decide +kernel
theorem dX0_lampsOf_32 : decode cX0_lampsOf 32 = .ok (.iload_n 1, 1) := by decide +kernel
theorem dX0_lampsOf_33 : decode cX0_lampsOf 33 = .ok (.invokestatic 147, 3) := by decide +kernel
theorem dX0_lampsOf_36 : decode cX0_lampsOf 36 = .ok (.invokevirtual 150, 3) := by decide +kernel
theorem dX0_lampsOf_39 : decode cX0_lampsOf 39 = .ok (.astore_n 2, 1) := by decide +kernel
theorem dX0_lampsOf_40 : decode cX0_lampsOf 40 = .ok (.aload_n 2, 1) := by decide +kernel
theorem dX0_lampsOf_41 : decode cX0_lampsOf 41 = .ok (.getfield 157, 3) := by decide +kernel
theorem dX0_lampsOf_44 : decode cX0_lampsOf 44 = .ok (.iload_n 1, 1) := by decide +kernel
theorem dX0_lampsOf_45 : decode cX0_lampsOf 45 = .ok (.if_icmp .ne 10, 3) := by decide +kernel
theorem dX0_lampsOf_48 : decode cX0_lampsOf 48 = .ok (.aload_n 2, 1) := by decide +kernel
theorem dX0_lampsOf_49 : decode cX0_lampsOf 49 = .ok (.getfield 198, 3) := by decide +kernel
theorem dX0_lampsOf_52 : decode cX0_lampsOf 52 = .ok (.goto 4, 3) := by decide +kernel
theorem dX0_lampsOf_55 : decode cX0_lampsOf 55 = .ok (.iconst 1, 1) := by decide +kernel
theorem dX0_lampsOf_56 : decode cX0_lampsOf 56 = .ok (.istore_n 3, 1) := by decide +kernel
theorem dX0_lampsOf_57 : decode cX0_lampsOf 57 = .ok (.aload_n 0, 1) := by decide +kernel
theorem dX0_lampsOf_58 : decode cX0_lampsOf 58 = .ok (.getfield 59, 3) := by decide +kernel
theorem dX0_lampsOf_61 : decode cX0_lampsOf 61 = .ok (.iload_n 1, 1) := by decide +kernel
theorem dX0_lampsOf_62 : decode cX0_lampsOf 62 = .ok (.iaload, 1) := by decide +kernel
theorem dX0_lampsOf_63 : decode cX0_lampsOf 63 = .ok (.tableswitch 39 1 3 #[25, 30, 34], 25) := by decide +kernel
theorem dX0_lampsOf_88 : decode cX0_lampsOf 88 = .ok (.iload_n 3, 1) := by decide +kernel
theorem dX0_lampsOf_89 : decode cX0_lampsOf 89 = .ok (.bipush (-2), 2) := by decide +kernel
theorem dX0_lampsOf_91 : decode cX0_lampsOf 91 = .ok (.iand, 1) := by decide +kernel
theorem dX0_lampsOf_92 : decode cX0_lampsOf 92 = .ok (.ireturn, 1) := by decide +kernel
theorem dX0_lampsOf_93 : decode cX0_lampsOf 93 = .ok (.iload_n 3, 1) := by decide +kernel
theorem dX0_lampsOf_94 : decode cX0_lampsOf 94 = .ok (.iconst 4, 1) := by decide +kernel
theorem dX0_lampsOf_95 : decode cX0_lampsOf 95 = .ok (.ior, 1) := by decide +kernel
theorem dX0_lampsOf_96 : decode cX0_lampsOf 96 = .ok (.ireturn, 1) := by decide +kernel
theorem dX0_lampsOf_97 : decode cX0_lampsOf 97 = .ok (.iload_n 3, 1) := by decide +kernel
theorem dX0_lampsOf_98 : decode cX0_lampsOf 98 = .ok (.bipush (-3), 2) := by decide +kernel
theorem dX0_lampsOf_100 : decode cX0_lampsOf 100 = .ok (.iand, 1) := by decide +kernel
theorem dX0_lampsOf_101 : decode cX0_lampsOf 101 = .ok (.ireturn, 1) := by decide +kernel
theorem dX0_lampsOf_102 : decode cX0_lampsOf 102 = .ok (.iload_n 3, 1) := by decide +kernel
theorem dX0_lampsOf_103 : decode cX0_lampsOf 103 = .ok (.ireturn, 1) := by decide +kernel
theorem dX0_signsOf_0 : decode cX0_signsOf 0 = .ok (.aload_n 0, 1) := by decide +kernel
theorem dX0_signsOf_1 : decode cX0_signsOf 1 = .ok (.iload_n 1, 1) := by decide +kernel
theorem dX0_signsOf_2 : decode cX0_signsOf 2 = .ok (.invokestatic 147, 3) := by decide +kernel
theorem dX0_signsOf_5 : decode cX0_signsOf 5 = .ok (.invokevirtual 150, 3) := by decide +kernel
theorem dX0_signsOf_8 : decode cX0_signsOf 8 = .ok (.astore_n 2, 1) := by decide +kernel
theorem dX0_signsOf_9 : decode cX0_signsOf 9 = .ok (.aload_n 2, 1) := by decide +kernel
theorem dX0_signsOf_10 : decode cX0_signsOf 10 = .ok (.getfield 157, 3) := by decide +kernel
theorem dX0_signsOf_13 : decode cX0_signsOf 13 = .ok (.iload_n 1, 1) := by decide +kernel
theorem dX0_signsOf_14 : decode cX0_signsOf 14 = .ok (.if_icmp .ne 10, 3) := by decide +kernel
theorem dX0_signsOf_17 : decode cX0_signsOf 17 = .ok (.aload_n 2, 1) := by decide +kernel
theorem dX0_signsOf_18 : decode cX0_signsOf 18 = .ok (.getfield 249, 3) := by decide +kernel
theorem dX0_signsOf_21 : decode cX0_signsOf 21 = .ok (.goto 4, 3) := by decide +kernel
theorem dX0_signsOf_24 : decode cX0_signsOf 24 = .ok (.iconst 0, 1) := by decide +kernel
theorem dX0_signsOf_25 : decode cX0_signsOf 25 = .ok (.istore_n 3, 1) := by decide +kernel
theorem dX0_signsOf_26 : decode cX0_signsOf 26 = .ok (.aload_n 0, 1) := by decide +kernel
theorem dX0_signsOf_27 : decode cX0_signsOf 27 = .ok (.getfield 76, 3) := by decide +kernel
theorem dX0_signsOf_30 : decode cX0_signsOf 30 = .ok (.iload_n 1, 1) := by decide +kernel
theorem dX0_signsOf_31 : decode cX0_signsOf 31 = .ok (.invokestatic 104, 3) := by decide +kernel
theorem dX0_signsOf_34 : decode cX0_signsOf 34 = .ok (.iand, 1) := by decide +kernel
theorem dX0_signsOf_35 : decode cX0_signsOf 35 = .ok (.ifCond .eq 7, 3) := by decide +kernel
theorem dX0_signsOf_38 : decode cX0_signsOf 38 = .ok (.iload_n 3, 1) := by decide +kernel
theorem dX0_signsOf_39 : decode cX0_signsOf 39 = .ok (.iconst 1, 1) := by decide +kernel
theorem dX0_signsOf_40 : decode cX0_signsOf 40 = .ok (.ior, 1) := by decide +kernel
theorem dX0_signsOf_41 : decode cX0_signsOf 41 = .ok (.istore_n 3, 1) := by decide +kernel
theorem dX0_signsOf_42 : decode cX0_signsOf 42 = .ok (.aload_n 0, 1) := by decide +kernel
theorem dX0_signsOf_43 : decode cX0_signsOf 43 = .ok (.getfield 79, 3) := by decide +kernel
theorem dX0_signsOf_46 : decode cX0_signsOf 46 = .ok (.iload_n 1, 1) := by decide +kernel
theorem dX0_signsOf_47 : decode cX0_signsOf 47 = .ok (.invokestatic 104, 3) := by decide +kernel
theorem dX0_signsOf_50 : decode cX0_signsOf 50 = .ok (.iand, 1) := by decide +kernel
theorem dX0_signsOf_51 : decode cX0_signsOf 51 = .ok (.ifCond .eq 7, 3) := by decide +kernel
theorem dX0_signsOf_54 : decode cX0_signsOf 54 = .ok (.iload_n 3, 1) := by decide +kernel
theorem dX0_signsOf_55 : decode cX0_signsOf 55 = .ok (.iconst 2, 1) := by decide +kernel
theorem dX0_signsOf_56 : decode cX0_signsOf 56 = .ok (.ior, 1) := by decide +kernel
theorem dX0_signsOf_57 : decode cX0_signsOf 57 = .ok (.istore_n 3, 1) := by decide +kernel
theorem dX0_signsOf_58 : decode cX0_signsOf 58 = .ok (.aload_n 0, 1) := by decide +kernel
theorem dX0_signsOf_59 : decode cX0_signsOf 59 = .ok (.getfield 24, 3) := by decide +kernel
theorem dX0_signsOf_62 : decode cX0_signsOf 62 = .ok (.getfield 293, 3) := by decide +kernel
theorem dX0_signsOf_65 : decode cX0_signsOf 65 = .ok (.iload_n 1, 1) := by decide +kernel
theorem dX0_signsOf_66 : decode cX0_signsOf 66 = .ok (.invokestatic 104, 3) := by decide +kernel
theorem dX0_signsOf_69 : decode cX0_signsOf 69 = .ok (.iand, 1) := by decide +kernel
theorem dX0_signsOf_70 : decode cX0_signsOf 70 = .ok (.ifCond .eq 10, 3) := by decide +kernel
theorem dX0_signsOf_73 : decode cX0_signsOf 73 = .ok (.iload_n 3, 1) := by decide +kernel
theorem dX0_signsOf_74 : decode cX0_signsOf 74 = .ok (.bipush 16, 2) := by decide +kernel
theorem dX0_signsOf_76 : decode cX0_signsOf 76 = .ok (.ior, 1) := by decide +kernel
theorem dX0_signsOf_77 : decode cX0_signsOf 77 = .ok (.goto 4, 3) := by decide +kernel
theorem dX0_signsOf_80 : decode cX0_signsOf 80 = .ok (.iload_n 3, 1) := by decide +kernel
theorem dX0_signsOf_81 : decode cX0_signsOf 81 = .ok (.ireturn, 1) := by decide +kernel
theorem dX0_way_0 : decode cX0_way 0 = .ok (.aload_n 0, 1) := by decide +kernel
theorem dX0_way_1 : decode cX0_way 1 = .ok (.invokevirtual 118, 3) := by decide +kernel
theorem dX0_way_4 : decode cX0_way 4 = .ok (.ifCond .eq 5, 3) := by decide +kernel
theorem dX0_way_7 : decode cX0_way 7 = .ok (.iconst 0, 1) := by decide +kernel
theorem dX0_way_8 : decode cX0_way 8 = .ok (.ireturn, 1) := by decide +kernel
theorem dX0_way_9 : decode cX0_way 9 = .ok (.aload_n 0, 1) := by decide +kernel
theorem dX0_way_10 : decode cX0_way 10 = .ok (.getfield 70, 3) := by decide +kernel
theorem dX0_way_13 : decode cX0_way 13 = .ok (.ifCond .eq 5, 3) := by decide +kernel
theorem dX0_way_16 : decode cX0_way 16 = .ok (.iconst 4, 1) := by decide +kernel
theorem dX0_way_17 : decode cX0_way 17 = .ok (.ireturn, 1) := by decide +kernel
theorem dX0_way_18 : decode cX0_way 18 = .ok (.aload_n 0, 1) := by decide +kernel
theorem dX0_way_19 : decode cX0_way 19 = .ok (.getfield 38, 3) := by decide +kernel
theorem dX0_way_22 : decode cX0_way 22 = .ok (.aload_n 0, 1) := by decide +kernel
theorem dX0_way_23 : decode cX0_way 23 = .ok (.getfield 67, 3) := by decide +kernel
theorem dX0_way_26 : decode cX0_way 26 = .ok (.invokevirtual 129, 3) := by decide +kernel
theorem dX0_way_29 : decode cX0_way 29 = .ok (.iconst (-1), 1) := by decide +kernel
theorem dX0_way_30 : decode cX0_way 30 = .ok (.if_icmp .eq 5, 3) := by decide +kernel
theorem dX0_way_33 : decode cX0_way 33 = .ok (.iconst 3, 1) := by decide +kernel
theorem dX0_way_34 : decode cX0_way 34 = .ok (.ireturn, 1) := by decide +kernel
theorem dX0_way_35 : decode cX0_way 35 = .ok (.aload_n 0, 1) := by decide +kernel
theorem dX0_way_36 : decode cX0_way 36 = .ok (.getfield 31, 3) := by decide +kernel
theorem dX0_way_39 : decode cX0_way 39 = .ok (.getfield 296, 3) := by decide +kernel
theorem dX0_way_42 : decode cX0_way 42 = .ok (.iconst (-1), 1) := by decide +kernel
theorem dX0_way_43 : decode cX0_way 43 = .ok (.if_icmp .eq 7, 3) := by decide +kernel
theorem dX0_way_46 : decode cX0_way 46 = .ok (.iconst 2, 1) := by decide +kernel
theorem dX0_way_47 : decode cX0_way 47 = .ok (.goto 4, 3) := by decide +kernel
theorem dX0_way_50 : decode cX0_way 50 = .ok (.iconst 1, 1) := by decide +kernel
theorem dX0_way_51 : decode cX0_way 51 = .ok (.ireturn, 1) := by decide +kernel
theorem dX0_countingCalls_0 : decode cX0_countingCalls 0 = .ok (.aload_n 0, 1) := by decide +kernel
theorem dX0_countingCalls_1 : decode cX0_countingCalls 1 = .ok (.getfield 76, 3) := by decide +kernel
theorem dX0_countingCalls_4 : decode cX0_countingCalls 4 = .ok (.aload_n 0, 1) := by decide +kernel
theorem dX0_countingCalls_5 : decode cX0_countingCalls 5 = .ok (.getfield 79, 3) := by decide +kernel
theorem dX0_countingCalls_8 : decode cX0_countingCalls 8 = .ok (.ior, 1) := by decide +kernel
theorem dX0_countingCalls_9 : decode cX0_countingCalls 9 = .ok (.aload_n 0, 1) := by decide +kernel
theorem dX0_countingCalls_10 : decode cX0_countingCalls 10 = .ok (.invokevirtual 232, 3) := by decide +kernel
theorem dX0_countingCalls_13 : decode cX0_countingCalls 13 = .ok (.iconst (-1), 1) := by decide +kernel
theorem dX0_countingCalls_14 : decode cX0_countingCalls 14 = .ok (.ixor, 1) := by decide +kernel
theorem dX0_countingCalls_15 : decode cX0_countingCalls 15 = .ok (.iand, 1) := by decide +kernel
theorem dX0_countingCalls_16 : decode cX0_countingCalls 16 = .ok (.ireturn, 1) := by decide +kernel
theorem dX0_greenPhases_0 : decode cX0_greenPhases 0 = .ok (.aload_n 0, 1) := by decide +kernel
theorem dX0_greenPhases_1 : decode cX0_greenPhases 1 = .ok (.getfield 52, 3) := by decide +kernel
theorem dX0_greenPhases_4 : decode cX0_greenPhases 4 = .ok (.invokevirtual 299, 3) := by decide +kernel
theorem dX0_greenPhases_7 : decode cX0_greenPhases 7 = .ok (.aload_n 0, 1) := by decide +kernel
theorem dX0_greenPhases_8 : decode cX0_greenPhases 8 = .ok (.getfield 56, 3) := by decide +kernel
theorem dX0_greenPhases_11 : decode cX0_greenPhases 11 = .ok (.invokevirtual 299, 3) := by decide +kernel
theorem dX0_greenPhases_14 : decode cX0_greenPhases 14 = .ok (.ior, 1) := by decide +kernel
theorem dX0_greenPhases_15 : decode cX0_greenPhases 15 = .ok (.ireturn, 1) := by decide +kernel
theorem dX0_ring_0 : decode cX0_ring 0 = .ok (.iload_n 1, 1) := by decide +kernel
theorem dX0_ring_1 : decode cX0_ring 1 = .ok (.ifCond .ne 10, 3) := by decide +kernel
theorem dX0_ring_4 : decode cX0_ring 4 = .ok (.aload_n 0, 1) := by decide +kernel
theorem dX0_ring_5 : decode cX0_ring 5 = .ok (.getfield 52, 3) := by decide +kernel
theorem dX0_ring_8 : decode cX0_ring 8 = .ok (.goto 7, 3) := by decide +kernel
theorem dX0_ring_11 : decode cX0_ring 11 = .ok (.aload_n 0, 1) := by decide +kernel
theorem dX0_ring_12 : decode cX0_ring 12 = .ok (.getfield 56, 3) := by decide +kernel
theorem dX0_ring_15 : decode cX0_ring 15 = .ok (.areturn, 1) := by decide +kernel
theorem dX1_init_0 : decode cX1_init 0 = .ok (.aload_n 0, 1) := by decide +kernel
theorem dX1_init_1 : decode cX1_init 1 = .ok (.invokespecial 3, 3) := by decide +kernel
theorem dX1_init_4 : decode cX1_init 4 = .ok (.aload_n 0, 1) := by decide +kernel
theorem dX1_init_5 : decode cX1_init 5 = .ok (.bipush 8, 2) := by decide +kernel
theorem dX1_init_7 : decode cX1_init 7 = .ok (.newarray .int, 2) := by decide +kernel
theorem dX1_init_9 : decode cX1_init 9 = .ok (.putfield 9, 3) := by decide +kernel
theorem dX1_init_12 : decode cX1_init 12 = .ok (.aload_n 0, 1) := by decide +kernel
theorem dX1_init_13 : decode cX1_init 13 = .ok (.bipush 8, 2) := by decide +kernel
theorem dX1_init_15 : decode cX1_init 15 = .ok (.newarray .float, 2) := by decide +kernel
theorem dX1_init_17 : decode cX1_init 17 = .ok (.putfield 15, 3) := by decide +kernel
theorem dX1_init_20 : decode cX1_init 20 = .ok (.aload_n 0, 1) := by decide +kernel
theorem dX1_init_21 : decode cX1_init 21 = .ok (.iconst 0, 1) := by decide +kernel
theorem dX1_init_22 : decode cX1_init 22 = .ok (.putfield 19, 3) := by decide +kernel
theorem dX1_init_25 : decode cX1_init 25 = .ok (.aload_n 0, 1) := by decide +kernel
theorem dX1_init_26 : decode cX1_init 26 = .ok (.iconst 0, 1) := by decide +kernel
theorem dX1_init_27 : decode cX1_init 27 = .ok (.putfield 23, 3) := by decide +kernel
theorem dX1_init_30 : decode cX1_init 30 = .ok (.return_, 1) := by decide +kernel
theorem dX1_turn_0 : decode cX1_turn 0 = .ok (.aload_n 0, 1) := by decide +kernel
theorem dX1_turn_1 : decode cX1_turn 1 = .ok (.iload_n 2, 1) := by decide +kernel
theorem dX1_turn_2 : decode cX1_turn 2 = .ok (.ifCond .eq 15, 3) := by decide +kernel
theorem dX1_turn_5 : decode cX1_turn 5 = .ok (.aload_n 0, 1) := by decide +kernel
theorem dX1_turn_6 : decode cX1_turn 6 = .ok (.getfield 19, 3) := by decide +kernel
theorem dX1_turn_9 : decode cX1_turn 9 = .ok (.iload_n 1, 1) := by decide +kernel
theorem dX1_turn_10 : decode cX1_turn 10 = .ok (.invokestatic 26, 3) := by decide +kernel
theorem dX1_turn_13 : decode cX1_turn 13 = .ok (.ior, 1) := by decide +kernel
theorem dX1_turn_14 : decode cX1_turn 14 = .ok (.goto 14, 3) := by decide +kernel
theorem dX1_turn_17 : decode cX1_turn 17 = .ok (.aload_n 0, 1) := by decide +kernel
theorem dX1_turn_18 : decode cX1_turn 18 = .ok (.getfield 19, 3) := by decide +kernel
theorem dX1_turn_21 : decode cX1_turn 21 = .ok (.iload_n 1, 1) := by decide +kernel
theorem dX1_turn_22 : decode cX1_turn 22 = .ok (.invokestatic 26, 3) := by decide +kernel
theorem dX1_turn_25 : decode cX1_turn 25 = .ok (.iconst (-1), 1) := by decide +kernel
theorem dX1_turn_26 : decode cX1_turn 26 = .ok (.ixor, 1) := by decide +kernel
theorem dX1_turn_27 : decode cX1_turn 27 = .ok (.iand, 1) := by decide +kernel
theorem dX1_turn_28 : decode cX1_turn 28 = .ok (.putfield 19, 3) := by decide +kernel
theorem dX1_turn_31 : decode cX1_turn 31 = .ok (.return_, 1) := by decide +kernel
theorem dX1_pass_0 : decode cX1_pass 0 = .ok (.aload_n 0, 1) := by decide +kernel
theorem dX1_pass_1 : decode cX1_pass 1 = .ok (.iconst 0, 1) := by decide +kernel
theorem dX1_pass_2 : decode cX1_pass 2 = .ok (.putfield 23, 3) := by decide +kernel
theorem dX1_pass_5 : decode cX1_pass 5 = .ok (.iconst 0, 1) := by decide +kernel
theorem dX1_pass_6 : decode cX1_pass 6 = .ok (.istore_n 1, 1) := by decide +kernel
theorem dX1_pass_7 : decode cX1_pass 7 = .ok (.iload_n 1, 1) := by decide +kernel
theorem dX1_pass_8 : decode cX1_pass 8 = .ok (.bipush 8, 2) := by decide +kernel
theorem dX1_pass_10 : decode cX1_pass 10 = .ok (.if_icmp .ge 106, 3) := by decide +kernel
theorem dX1_pass_13 : decode cX1_pass 13 = .ok (.aload_n 0, 1) := by decide +kernel
theorem dX1_pass_14 : decode cX1_pass 14 = .ok (.getfield 19, 3) := by decide +kernel
theorem dX1_pass_17 : decode cX1_pass 17 = .ok (.iload_n 1, 1) := by decide +kernel
theorem dX1_pass_18 : decode cX1_pass 18 = .ok (.invokestatic 26, 3) := by decide +kernel
theorem dX1_pass_21 : decode cX1_pass 21 = .ok (.iand, 1) := by decide +kernel
theorem dX1_pass_22 : decode cX1_pass 22 = .ok (.ifCond .eq 7, 3) := by decide +kernel
theorem dX1_pass_25 : decode cX1_pass 25 = .ok (.iconst 1, 1) := by decide +kernel
theorem dX1_pass_26 : decode cX1_pass 26 = .ok (.goto 4, 3) := by decide +kernel
theorem dX1_pass_29 : decode cX1_pass 29 = .ok (.iconst 0, 1) := by decide +kernel
theorem dX1_pass_30 : decode cX1_pass 30 = .ok (.istore_n 2, 1) := by decide +kernel
theorem dX1_pass_31 : decode cX1_pass 31 = .ok (.aload_n 0, 1) := by decide +kernel
theorem dX1_pass_32 : decode cX1_pass 32 = .ok (.getfield 9, 3) := by decide +kernel
theorem dX1_pass_35 : decode cX1_pass 35 = .ok (.iload_n 1, 1) := by decide +kernel
theorem dX1_pass_36 : decode cX1_pass 36 = .ok (.iload_n 2, 1) := by decide +kernel
theorem dX1_pass_37 : decode cX1_pass 37 = .ok (.ifCond .eq 19, 3) := by decide +kernel
theorem dX1_pass_40 : decode cX1_pass 40 = .ok (.aload_n 0, 1) := by decide +kernel
theorem dX1_pass_41 : decode cX1_pass 41 = .ok (.getfield 9, 3) := by decide +kernel
theorem dX1_pass_44 : decode cX1_pass 44 = .ok (.iload_n 1, 1) := by decide +kernel
theorem dX1_pass_45 : decode cX1_pass 45 = .ok (.iaload, 1) := by decide +kernel
theorem dX1_pass_46 : decode cX1_pass 46 = .ok (.iconst 1, 1) := by decide +kernel
theorem dX1_pass_47 : decode cX1_pass 47 = .ok (.iadd, 1) := by decide +kernel
theorem dX1_pass_48 : decode cX1_pass 48 = .ok (.bipush 100, 2) := by decide +kernel
theorem dX1_pass_50 : decode cX1_pass 50 = .ok (.invokestatic 30, 3) := by decide +kernel
theorem dX1_pass_53 : decode cX1_pass 53 = .ok (.goto 4, 3) := by decide +kernel
theorem dX1_pass_56 : decode cX1_pass 56 = .ok (.iconst 0, 1) := by decide +kernel
theorem dX1_pass_57 : decode cX1_pass 57 = .ok (.iastore, 1) := by decide +kernel
theorem dX1_pass_58 : decode cX1_pass 58 = .ok (.aload_n 0, 1) := by decide +kernel
theorem dX1_pass_59 : decode cX1_pass 59 = .ok (.getfield 9, 3) := by decide +kernel
theorem dX1_pass_62 : decode cX1_pass 62 = .ok (.iload_n 1, 1) := by decide +kernel
theorem dX1_pass_63 : decode cX1_pass 63 = .ok (.iaload, 1) := by decide +kernel
theorem dX1_pass_64 : decode cX1_pass 64 = .ok (.bipush 60, 2) := by decide +kernel
theorem dX1_pass_66 : decode cX1_pass 66 = .ok (.if_icmp .lt 16, 3) := by decide +kernel
theorem dX1_pass_69 : decode cX1_pass 69 = .ok (.aload_n 0, 1) := by decide +kernel
theorem dX1_pass_70 : decode cX1_pass 70 = .ok (.dup, 1) := by decide +kernel
theorem dX1_pass_71 : decode cX1_pass 71 = .ok (.getfield 23, 3) := by decide +kernel
theorem dX1_pass_74 : decode cX1_pass 74 = .ok (.iload_n 1, 1) := by decide +kernel
theorem dX1_pass_75 : decode cX1_pass 75 = .ok (.invokestatic 26, 3) := by decide +kernel
theorem dX1_pass_78 : decode cX1_pass 78 = .ok (.ior, 1) := by decide +kernel
theorem dX1_pass_79 : decode cX1_pass 79 = .ok (.putfield 23, 3) := by decide +kernel
theorem dX1_pass_82 : decode cX1_pass 82 = .ok (.aload_n 0, 1) := by decide +kernel
theorem dX1_pass_83 : decode cX1_pass 83 = .ok (.getfield 15, 3) := by decide +kernel
theorem dX1_pass_86 : decode cX1_pass 86 = .ok (.iload_n 1, 1) := by decide +kernel
theorem dX1_pass_87 : decode cX1_pass 87 = .ok (.faload, 1) := by decide +kernel
theorem dX1_pass_88 : decode cX1_pass 88 = .ok (.ldc 36, 2) := by decide +kernel
theorem dX1_pass_90 : decode cX1_pass 90 = .ok (.fmul, 1) := by decide +kernel
theorem dX1_pass_91 : decode cX1_pass 91 = .ok (.fstore_n 3, 1) := by decide +kernel
theorem dX1_pass_92 : decode cX1_pass 92 = .ok (.aload_n 0, 1) := by decide +kernel
theorem dX1_pass_93 : decode cX1_pass 93 = .ok (.getfield 15, 3) := by decide +kernel
theorem dX1_pass_96 : decode cX1_pass 96 = .ok (.iload_n 1, 1) := by decide +kernel
theorem dX1_pass_97 : decode cX1_pass 97 = .ok (.iload_n 2, 1) := by decide +kernel
theorem dX1_pass_98 : decode cX1_pass 98 = .ok (.ifCond .eq 10, 3) := by decide +kernel
theorem dX1_pass_101 : decode cX1_pass 101 = .ok (.fload_n 3, 1) := by decide +kernel
theorem dX1_pass_102 : decode cX1_pass 102 = .ok (.ldc 37, 2) := by decide +kernel
theorem dX1_pass_104 : decode cX1_pass 104 = .ok (.fadd, 1) := by decide +kernel
theorem dX1_pass_105 : decode cX1_pass 105 = .ok (.goto 4, 3) := by decide +kernel
theorem dX1_pass_108 : decode cX1_pass 108 = .ok (.fload_n 3, 1) := by decide +kernel
theorem dX1_pass_109 : decode cX1_pass 109 = .ok (.fastore, 1) := by decide +kernel
theorem dX1_pass_110 : decode cX1_pass 110 = .ok (.iinc 1 1, 3) := by decide +kernel
theorem dX1_pass_113 : decode cX1_pass 113 = .ok (.goto (-106), 3) := by decide +kernel
theorem dX1_pass_116 : decode cX1_pass 116 = .ok (.return_, 1) := by decide +kernel
theorem dX1_calls_0 : decode cX1_calls 0 = .ok (.aload_n 0, 1) := by decide +kernel
theorem dX1_calls_1 : decode cX1_calls 1 = .ok (.getfield 19, 3) := by decide +kernel
theorem dX1_calls_4 : decode cX1_calls 4 = .ok (.aload_n 0, 1) := by decide +kernel
theorem dX1_calls_5 : decode cX1_calls 5 = .ok (.getfield 23, 3) := by decide +kernel
theorem dX1_calls_8 : decode cX1_calls 8 = .ok (.ior, 1) := by decide +kernel
theorem dX1_calls_9 : decode cX1_calls 9 = .ok (.iload_n 1, 1) := by decide +kernel
theorem dX1_calls_10 : decode cX1_calls 10 = .ok (.invokestatic 26, 3) := by decide +kernel
theorem dX1_calls_13 : decode cX1_calls 13 = .ok (.iand, 1) := by decide +kernel
theorem dX1_calls_14 : decode cX1_calls 14 = .ok (.ifCond .eq 7, 3) := by decide +kernel
theorem dX1_calls_17 : decode cX1_calls 17 = .ok (.iconst 1, 1) := by decide +kernel
theorem dX1_calls_18 : decode cX1_calls 18 = .ok (.goto 4, 3) := by decide +kernel
theorem dX1_calls_21 : decode cX1_calls 21 = .ok (.iconst 0, 1) := by decide +kernel
theorem dX1_calls_22 : decode cX1_calls 22 = .ok (.ireturn, 1) := by decide +kernel
theorem dX1_extendsGreen_0 : decode cX1_extendsGreen 0 = .ok (.aload_n 0, 1) := by decide +kernel
theorem dX1_extendsGreen_1 : decode cX1_extendsGreen 1 = .ok (.getfield 19, 3) := by decide +kernel
theorem dX1_extendsGreen_4 : decode cX1_extendsGreen 4 = .ok (.aload_n 0, 1) := by decide +kernel
theorem dX1_extendsGreen_5 : decode cX1_extendsGreen 5 = .ok (.getfield 23, 3) := by decide +kernel
theorem dX1_extendsGreen_8 : decode cX1_extendsGreen 8 = .ok (.iconst (-1), 1) := by decide +kernel
theorem dX1_extendsGreen_9 : decode cX1_extendsGreen 9 = .ok (.ixor, 1) := by decide +kernel
theorem dX1_extendsGreen_10 : decode cX1_extendsGreen 10 = .ok (.iand, 1) := by decide +kernel
theorem dX1_extendsGreen_11 : decode cX1_extendsGreen 11 = .ok (.iload_n 1, 1) := by decide +kernel
theorem dX1_extendsGreen_12 : decode cX1_extendsGreen 12 = .ok (.invokestatic 26, 3) := by decide +kernel
theorem dX1_extendsGreen_15 : decode cX1_extendsGreen 15 = .ok (.iand, 1) := by decide +kernel
theorem dX1_extendsGreen_16 : decode cX1_extendsGreen 16 = .ok (.ifCond .eq 7, 3) := by decide +kernel
theorem dX1_extendsGreen_19 : decode cX1_extendsGreen 19 = .ok (.iconst 1, 1) := by decide +kernel
theorem dX1_extendsGreen_20 : decode cX1_extendsGreen 20 = .ok (.goto 4, 3) := by decide +kernel
theorem dX1_extendsGreen_23 : decode cX1_extendsGreen 23 = .ok (.iconst 0, 1) := by decide +kernel
theorem dX1_extendsGreen_24 : decode cX1_extendsGreen 24 = .ok (.ireturn, 1) := by decide +kernel
theorem dX2_init_0 : decode cX2_init 0 = .ok (.aload_n 0, 1) := by decide +kernel
theorem dX2_init_1 : decode cX2_init 1 = .ok (.invokespecial 3, 3) := by decide +kernel
theorem dX2_init_4 : decode cX2_init 4 = .ok (.aload_n 0, 1) := by decide +kernel
theorem dX2_init_5 : decode cX2_init 5 = .ok (.iconst 2, 1) := by decide +kernel
theorem dX2_init_6 : decode cX2_init 6 = .ok (.newarray .boolean, 2) := by decide +kernel
theorem dX2_init_8 : decode cX2_init 8 = .ok (.putfield 9, 3) := by decide +kernel
theorem dX2_init_11 : decode cX2_init 11 = .ok (.aload_n 0, 1) := by decide +kernel
theorem dX2_init_12 : decode cX2_init 12 = .ok (.iconst 2, 1) := by decide +kernel
theorem dX2_init_13 : decode cX2_init 13 = .ok (.newarray .int, 2) := by decide +kernel
theorem dX2_init_15 : decode cX2_init 15 = .ok (.dup, 1) := by decide +kernel
theorem dX2_init_16 : decode cX2_init 16 = .ok (.iconst 0, 1) := by decide +kernel
theorem dX2_init_17 : decode cX2_init 17 = .ok (.iconst (-1), 1) := by decide +kernel
theorem dX2_init_18 : decode cX2_init 18 = .ok (.iastore, 1) := by decide +kernel
theorem dX2_init_19 : decode cX2_init 19 = .ok (.dup, 1) := by decide +kernel
theorem dX2_init_20 : decode cX2_init 20 = .ok (.iconst 1, 1) := by decide +kernel
theorem dX2_init_21 : decode cX2_init 21 = .ok (.iconst (-1), 1) := by decide +kernel
theorem dX2_init_22 : decode cX2_init 22 = .ok (.iastore, 1) := by decide +kernel
theorem dX2_init_23 : decode cX2_init 23 = .ok (.putfield 15, 3) := by decide +kernel
theorem dX2_init_26 : decode cX2_init 26 = .ok (.return_, 1) := by decide +kernel
theorem dX2_turn_0 : decode cX2_turn 0 = .ok (.iload_n 1, 1) := by decide +kernel
theorem dX2_turn_1 : decode cX2_turn 1 = .ok (.invokestatic 19, 3) := by decide +kernel
theorem dX2_turn_4 : decode cX2_turn 4 = .ok (.ifCond .eq 10, 3) := by decide +kernel
theorem dX2_turn_7 : decode cX2_turn 7 = .ok (.aload_n 0, 1) := by decide +kernel
theorem dX2_turn_8 : decode cX2_turn 8 = .ok (.getfield 9, 3) := by decide +kernel
theorem dX2_turn_11 : decode cX2_turn 11 = .ok (.iload_n 1, 1) := by decide +kernel
theorem dX2_turn_12 : decode cX2_turn 12 = .ok (.iload_n 2, 1) := by decide +kernel
theorem dX2_turn_13 : decode cX2_turn 13 = .ok (.bastore, 1) := by decide +kernel
theorem dX2_turn_14 : decode cX2_turn 14 = .ok (.return_, 1) := by decide +kernel
theorem dX2_aim_0 : decode cX2_aim 0 = .ok (.iload_n 1, 1) := by decide +kernel
theorem dX2_aim_1 : decode cX2_aim 1 = .ok (.invokestatic 19, 3) := by decide +kernel
theorem dX2_aim_4 : decode cX2_aim 4 = .ok (.ifCond .eq 10, 3) := by decide +kernel
theorem dX2_aim_7 : decode cX2_aim 7 = .ok (.aload_n 0, 1) := by decide +kernel
theorem dX2_aim_8 : decode cX2_aim 8 = .ok (.getfield 15, 3) := by decide +kernel
theorem dX2_aim_11 : decode cX2_aim 11 = .ok (.iload_n 1, 1) := by decide +kernel
theorem dX2_aim_12 : decode cX2_aim 12 = .ok (.iload_n 2, 1) := by decide +kernel
theorem dX2_aim_13 : decode cX2_aim 13 = .ok (.iastore, 1) := by decide +kernel
theorem dX2_aim_14 : decode cX2_aim 14 = .ok (.return_, 1) := by decide +kernel
theorem dX2_targetInForce_0 : decode cX2_targetInForce 0 = .ok (.iconst (-1), 1) := by decide +kernel
theorem dX2_targetInForce_1 : decode cX2_targetInForce 1 = .ok (.istore_n 2, 1) := by decide +kernel
theorem dX2_targetInForce_2 : decode cX2_targetInForce 2 = .ok (.aload_n 0, 1) := by decide +kernel
theorem dX2_targetInForce_3 : decode cX2_targetInForce 3 = .ok (.getfield 9, 3) := by decide +kernel
theorem dX2_targetInForce_6 : decode cX2_targetInForce 6 = .ok (.iconst 0, 1) := by decide +kernel
theorem dX2_targetInForce_7 : decode cX2_targetInForce 7 = .ok (.baload, 1) := by decide +kernel
theorem dX2_targetInForce_8 : decode cX2_targetInForce 8 = .ok (.ifCond .eq 13, 3) := by decide +kernel
theorem dX2_targetInForce_11 : decode cX2_targetInForce 11 = .ok (.aload_n 0, 1) := by decide +kernel
theorem dX2_targetInForce_12 : decode cX2_targetInForce 12 = .ok (.getfield 15, 3) := by decide +kernel
theorem dX2_targetInForce_15 : decode cX2_targetInForce 15 = .ok (.iconst 0, 1) := by decide +kernel
theorem dX2_targetInForce_16 : decode cX2_targetInForce 16 = .ok (.iaload, 1) := by decide +kernel
theorem dX2_targetInForce_17 : decode cX2_targetInForce 17 = .ok (.istore_n 2, 1) := by decide +kernel
theorem dX2_targetInForce_18 : decode cX2_targetInForce 18 = .ok (.goto 19, 3) := by decide +kernel
theorem dX2_targetInForce_21 : decode cX2_targetInForce 21 = .ok (.aload_n 0, 1) := by decide +kernel
theorem dX2_targetInForce_22 : decode cX2_targetInForce 22 = .ok (.getfield 9, 3) := by decide +kernel
theorem dX2_targetInForce_25 : decode cX2_targetInForce 25 = .ok (.iconst 1, 1) := by decide +kernel
theorem dX2_targetInForce_26 : decode cX2_targetInForce 26 = .ok (.baload, 1) := by decide +kernel
theorem dX2_targetInForce_27 : decode cX2_targetInForce 27 = .ok (.ifCond .eq 10, 3) := by decide +kernel
theorem dX2_targetInForce_30 : decode cX2_targetInForce 30 = .ok (.aload_n 0, 1) := by decide +kernel
theorem dX2_targetInForce_31 : decode cX2_targetInForce 31 = .ok (.getfield 15, 3) := by decide +kernel
theorem dX2_targetInForce_34 : decode cX2_targetInForce 34 = .ok (.iconst 1, 1) := by decide +kernel
theorem dX2_targetInForce_35 : decode cX2_targetInForce 35 = .ok (.iaload, 1) := by decide +kernel
theorem dX2_targetInForce_36 : decode cX2_targetInForce 36 = .ok (.istore_n 2, 1) := by decide +kernel
theorem dX2_targetInForce_37 : decode cX2_targetInForce 37 = .ok (.iload_n 1, 1) := by decide +kernel
theorem dX2_targetInForce_38 : decode cX2_targetInForce 38 = .ok (.iload_n 2, 1) := by decide +kernel
theorem dX2_targetInForce_39 : decode cX2_targetInForce 39 = .ok (.invokestatic 23, 3) := by decide +kernel
theorem dX2_targetInForce_42 : decode cX2_targetInForce 42 = .ok (.iand, 1) := by decide +kernel
theorem dX2_targetInForce_43 : decode cX2_targetInForce 43 = .ok (.ifCond .eq 7, 3) := by decide +kernel
theorem dX2_targetInForce_46 : decode cX2_targetInForce 46 = .ok (.iload_n 2, 1) := by decide +kernel
theorem dX2_targetInForce_47 : decode cX2_targetInForce 47 = .ok (.goto 4, 3) := by decide +kernel
theorem dX2_targetInForce_50 : decode cX2_targetInForce 50 = .ok (.iconst (-1), 1) := by decide +kernel
theorem dX2_targetInForce_51 : decode cX2_targetInForce 51 = .ok (.ireturn, 1) := by decide +kernel
theorem dX3_init_0 : decode cX3_init 0 = .ok (.aload_n 0, 1) := by decide +kernel
theorem dX3_init_1 : decode cX3_init 1 = .ok (.invokespecial 3, 3) := by decide +kernel
theorem dX3_init_4 : decode cX3_init 4 = .ok (.aload_n 0, 1) := by decide +kernel
theorem dX3_init_5 : decode cX3_init 5 = .ok (.iconst (-1), 1) := by decide +kernel
theorem dX3_init_6 : decode cX3_init 6 = .ok (.putfield 9, 3) := by decide +kernel
theorem dX3_init_9 : decode cX3_init 9 = .ok (.aload_n 0, 1) := by decide +kernel
theorem dX3_init_10 : decode cX3_init 10 = .ok (.iconst 0, 1) := by decide +kernel
theorem dX3_init_11 : decode cX3_init 11 = .ok (.putfield 15, 3) := by decide +kernel
theorem dX3_init_14 : decode cX3_init 14 = .ok (.aload_n 0, 1) := by decide +kernel
theorem dX3_init_15 : decode cX3_init 15 = .ok (.iconst 0, 1) := by decide +kernel
theorem dX3_init_16 : decode cX3_init 16 = .ok (.putfield 18, 3) := by decide +kernel
theorem dX3_init_19 : decode cX3_init 19 = .ok (.aload_n 0, 1) := by decide +kernel
theorem dX3_init_20 : decode cX3_init 20 = .ok (.iconst (-1), 1) := by decide +kernel
theorem dX3_init_21 : decode cX3_init 21 = .ok (.putfield 21, 3) := by decide +kernel
theorem dX3_init_24 : decode cX3_init 24 = .ok (.return_, 1) := by decide +kernel
theorem dX3_expects_0 : decode cX3_expects 0 = .ok (.iload_n 1, 1) := by decide +kernel
theorem dX3_expects_1 : decode cX3_expects 1 = .ok (.ifCond .lt 9, 3) := by decide +kernel
theorem dX3_expects_4 : decode cX3_expects 4 = .ok (.iload_n 1, 1) := by decide +kernel
theorem dX3_expects_5 : decode cX3_expects 5 = .ok (.bipush 8, 2) := by decide +kernel
theorem dX3_expects_7 : decode cX3_expects 7 = .ok (.if_icmp .lt 5, 3) := by decide +kernel
theorem dX3_expects_10 : decode cX3_expects 10 = .ok (.iconst 0, 1) := by decide +kernel
theorem dX3_expects_11 : decode cX3_expects 11 = .ok (.ireturn, 1) := by decide +kernel
theorem dX3_expects_12 : decode cX3_expects 12 = .ok (.aload_n 0, 1) := by decide +kernel
theorem dX3_expects_13 : decode cX3_expects 13 = .ok (.getfield 21, 3) := by decide +kernel
theorem dX3_expects_16 : decode cX3_expects 16 = .ok (.iconst (-1), 1) := by decide +kernel
theorem dX3_expects_17 : decode cX3_expects 17 = .ok (.if_icmp .eq 16, 3) := by decide +kernel
theorem dX3_expects_20 : decode cX3_expects 20 = .ok (.iload_n 1, 1) := by decide +kernel
theorem dX3_expects_21 : decode cX3_expects 21 = .ok (.aload_n 0, 1) := by decide +kernel
theorem dX3_expects_22 : decode cX3_expects 22 = .ok (.getfield 21, 3) := by decide +kernel
theorem dX3_expects_25 : decode cX3_expects 25 = .ok (.iconst 1, 1) := by decide +kernel
theorem dX3_expects_26 : decode cX3_expects 26 = .ok (.iadd, 1) := by decide +kernel
theorem dX3_expects_27 : decode cX3_expects 27 = .ok (.bipush 8, 2) := by decide +kernel
theorem dX3_expects_29 : decode cX3_expects 29 = .ok (.irem, 1) := by decide +kernel
theorem dX3_expects_30 : decode cX3_expects 30 = .ok (.if_icmp .ne 7, 3) := by decide +kernel
theorem dX3_expects_33 : decode cX3_expects 33 = .ok (.iconst 1, 1) := by decide +kernel
theorem dX3_expects_34 : decode cX3_expects 34 = .ok (.goto 4, 3) := by decide +kernel
theorem dX3_expects_37 : decode cX3_expects 37 = .ok (.iconst 0, 1) := by decide +kernel
theorem dX3_expects_38 : decode cX3_expects 38 = .ok (.ireturn, 1) := by decide +kernel
theorem dX3_take_0 : decode cX3_take 0 = .ok (.aload_n 0, 1) := by decide +kernel
theorem dX3_take_1 : decode cX3_take 1 = .ok (.aload_n 0, 1) := by decide +kernel
theorem dX3_take_2 : decode cX3_take 2 = .ok (.getfield 9, 3) := by decide +kernel
theorem dX3_take_5 : decode cX3_take 5 = .ok (.iconst (-1), 1) := by decide +kernel
theorem dX3_take_6 : decode cX3_take 6 = .ok (.if_icmp .ne 7, 3) := by decide +kernel
theorem dX3_take_9 : decode cX3_take 9 = .ok (.iconst 0, 1) := by decide +kernel
theorem dX3_take_10 : decode cX3_take 10 = .ok (.goto 11, 3) := by decide +kernel
theorem dX3_take_13 : decode cX3_take 13 = .ok (.aload_n 0, 1) := by decide +kernel
theorem dX3_take_14 : decode cX3_take 14 = .ok (.getfield 15, 3) := by decide +kernel
theorem dX3_take_17 : decode cX3_take 17 = .ok (.iload_n 3, 1) := by decide +kernel
theorem dX3_take_18 : decode cX3_take 18 = .ok (.invokestatic 24, 3) := by decide +kernel
theorem dX3_take_21 : decode cX3_take 21 = .ok (.putfield 15, 3) := by decide +kernel
theorem dX3_take_24 : decode cX3_take 24 = .ok (.aload_n 0, 1) := by decide +kernel
theorem dX3_take_25 : decode cX3_take 25 = .ok (.iload_n 2, 1) := by decide +kernel
theorem dX3_take_26 : decode cX3_take 26 = .ok (.putfield 9, 3) := by decide +kernel
theorem dX3_take_29 : decode cX3_take 29 = .ok (.aload_n 0, 1) := by decide +kernel
theorem dX3_take_30 : decode cX3_take 30 = .ok (.iload_n 1, 1) := by decide +kernel
theorem dX3_take_31 : decode cX3_take 31 = .ok (.putfield 21, 3) := by decide +kernel
theorem dX3_take_34 : decode cX3_take 34 = .ok (.aload_n 0, 1) := by decide +kernel
theorem dX3_take_35 : decode cX3_take 35 = .ok (.iconst 0, 1) := by decide +kernel
theorem dX3_take_36 : decode cX3_take 36 = .ok (.putfield 18, 3) := by decide +kernel
theorem dX3_take_39 : decode cX3_take 39 = .ok (.return_, 1) := by decide +kernel
theorem dX3_fitTo_0 : decode cX3_fitTo 0 = .ok (.aload_n 0, 1) := by decide +kernel
theorem dX3_fitTo_1 : decode cX3_fitTo 1 = .ok (.getfield 9, 3) := by decide +kernel
theorem dX3_fitTo_4 : decode cX3_fitTo 4 = .ok (.iload_n 1, 1) := by decide +kernel
theorem dX3_fitTo_5 : decode cX3_fitTo 5 = .ok (.if_icmp .ne 15, 3) := by decide +kernel
theorem dX3_fitTo_8 : decode cX3_fitTo 8 = .ok (.aload_n 0, 1) := by decide +kernel
theorem dX3_fitTo_9 : decode cX3_fitTo 9 = .ok (.aload_n 0, 1) := by decide +kernel
theorem dX3_fitTo_10 : decode cX3_fitTo 10 = .ok (.getfield 15, 3) := by decide +kernel
theorem dX3_fitTo_13 : decode cX3_fitTo 13 = .ok (.iload_n 2, 1) := by decide +kernel
theorem dX3_fitTo_14 : decode cX3_fitTo 14 = .ok (.invokestatic 24, 3) := by decide +kernel
theorem dX3_fitTo_17 : decode cX3_fitTo 17 = .ok (.putfield 15, 3) := by decide +kernel
theorem dX3_fitTo_20 : decode cX3_fitTo 20 = .ok (.return_, 1) := by decide +kernel
theorem dX3_pass_0 : decode cX3_pass 0 = .ok (.aload_n 0, 1) := by decide +kernel
theorem dX3_pass_1 : decode cX3_pass 1 = .ok (.getfield 9, 3) := by decide +kernel
theorem dX3_pass_4 : decode cX3_pass 4 = .ok (.iconst (-1), 1) := by decide +kernel
theorem dX3_pass_5 : decode cX3_pass 5 = .ok (.if_icmp .ne 4, 3) := by decide +kernel
theorem dX3_pass_8 : decode cX3_pass 8 = .ok (.return_, 1) := by decide +kernel
theorem dX3_pass_9 : decode cX3_pass 9 = .ok (.aload_n 0, 1) := by decide +kernel
theorem dX3_pass_10 : decode cX3_pass 10 = .ok (.dup, 1) := by decide +kernel
theorem dX3_pass_11 : decode cX3_pass 11 = .ok (.getfield 18, 3) := by decide +kernel
theorem dX3_pass_14 : decode cX3_pass 14 = .ok (.iconst 1, 1) := by decide +kernel
theorem dX3_pass_15 : decode cX3_pass 15 = .ok (.iadd, 1) := by decide +kernel
theorem dX3_pass_16 : decode cX3_pass 16 = .ok (.putfield 18, 3) := by decide +kernel
theorem dX3_pass_19 : decode cX3_pass 19 = .ok (.aload_n 0, 1) := by decide +kernel
theorem dX3_pass_20 : decode cX3_pass 20 = .ok (.getfield 18, 3) := by decide +kernel
theorem dX3_pass_23 : decode cX3_pass 23 = .ok (.bipush 30, 2) := by decide +kernel
theorem dX3_pass_25 : decode cX3_pass 25 = .ok (.if_icmp .lt 9, 3) := by decide +kernel
theorem dX3_pass_28 : decode cX3_pass 28 = .ok (.aload_n 0, 1) := by decide +kernel
theorem dX3_pass_29 : decode cX3_pass 29 = .ok (.iconst (-1), 1) := by decide +kernel
theorem dX3_pass_30 : decode cX3_pass 30 = .ok (.putfield 9, 3) := by decide +kernel
theorem dX3_pass_33 : decode cX3_pass 33 = .ok (.return_, 1) := by decide +kernel
theorem dX3_pass_34 : decode cX3_pass 34 = .ok (.aload_n 1, 1) := by decide +kernel
theorem dX3_pass_35 : decode cX3_pass 35 = .ok (.aload_n 0, 1) := by decide +kernel
theorem dX3_pass_36 : decode cX3_pass 36 = .ok (.getfield 9, 3) := by decide +kernel
theorem dX3_pass_39 : decode cX3_pass 39 = .ok (.invokevirtual 28, 3) := by decide +kernel
theorem dX3_pass_42 : decode cX3_pass 42 = .ok (.istore_n 3, 1) := by decide +kernel
theorem dX3_pass_43 : decode cX3_pass 43 = .ok (.aload_n 0, 1) := by decide +kernel
theorem dX3_pass_44 : decode cX3_pass 44 = .ok (.aload_n 0, 1) := by decide +kernel
theorem dX3_pass_45 : decode cX3_pass 45 = .ok (.getfield 15, 3) := by decide +kernel
theorem dX3_pass_48 : decode cX3_pass 48 = .ok (.iconst 1, 1) := by decide +kernel
theorem dX3_pass_49 : decode cX3_pass 49 = .ok (.iadd, 1) := by decide +kernel
theorem dX3_pass_50 : decode cX3_pass 50 = .ok (.iload_n 3, 1) := by decide +kernel
theorem dX3_pass_51 : decode cX3_pass 51 = .ok (.invokestatic 24, 3) := by decide +kernel
theorem dX3_pass_54 : decode cX3_pass 54 = .ok (.putfield 15, 3) := by decide +kernel
theorem dX3_pass_57 : decode cX3_pass 57 = .ok (.iload_n 2, 1) := by decide +kernel
theorem dX3_pass_58 : decode cX3_pass 58 = .ok (.iconst 5, 1) := by decide +kernel
theorem dX3_pass_59 : decode cX3_pass 59 = .ok (.irem, 1) := by decide +kernel
theorem dX3_pass_60 : decode cX3_pass 60 = .ok (.ifCond .ne 43, 3) := by decide +kernel
theorem dX3_pass_63 : decode cX3_pass 63 = .ok (.iload_n 2, 1) := by decide +kernel
theorem dX3_pass_64 : decode cX3_pass 64 = .ok (.aload_n 1, 1) := by decide +kernel
theorem dX3_pass_65 : decode cX3_pass 65 = .ok (.aload_n 0, 1) := by decide +kernel
theorem dX3_pass_66 : decode cX3_pass 66 = .ok (.getfield 9, 3) := by decide +kernel
theorem dX3_pass_69 : decode cX3_pass 69 = .ok (.invokevirtual 34, 3) := by decide +kernel
theorem dX3_pass_72 : decode cX3_pass 72 = .ok (.isub, 1) := by decide +kernel
theorem dX3_pass_73 : decode cX3_pass 73 = .ok (.aload_n 0, 1) := by decide +kernel
theorem dX3_pass_74 : decode cX3_pass 74 = .ok (.getfield 15, 3) := by decide +kernel
theorem dX3_pass_77 : decode cX3_pass 77 = .ok (.isub, 1) := by decide +kernel
theorem dX3_pass_78 : decode cX3_pass 78 = .ok (.iload_n 3, 1) := by decide +kernel
theorem dX3_pass_79 : decode cX3_pass 79 = .ok (.invokestatic 24, 3) := by decide +kernel
theorem dX3_pass_82 : decode cX3_pass 82 = .ok (.istore 4, 2) := by decide +kernel
theorem dX3_pass_84 : decode cX3_pass 84 = .ok (.aload_n 0, 1) := by decide +kernel
theorem dX3_pass_85 : decode cX3_pass 85 = .ok (.aload_n 0, 1) := by decide +kernel
theorem dX3_pass_86 : decode cX3_pass 86 = .ok (.getfield 15, 3) := by decide +kernel
theorem dX3_pass_89 : decode cX3_pass 89 = .ok (.iload 4, 2) := by decide +kernel
theorem dX3_pass_91 : decode cX3_pass 91 = .ok (.iload_n 3, 1) := by decide +kernel
theorem dX3_pass_92 : decode cX3_pass 92 = .ok (.invokestatic 37, 3) := by decide +kernel
theorem dX3_pass_95 : decode cX3_pass 95 = .ok (.iadd, 1) := by decide +kernel
theorem dX3_pass_96 : decode cX3_pass 96 = .ok (.iload_n 3, 1) := by decide +kernel
theorem dX3_pass_97 : decode cX3_pass 97 = .ok (.invokestatic 24, 3) := by decide +kernel
theorem dX3_pass_100 : decode cX3_pass 100 = .ok (.putfield 15, 3) := by decide +kernel
theorem dX3_pass_103 : decode cX3_pass 103 = .ok (.return_, 1) := by decide +kernel
theorem dX3_shorterWay_0 : decode cX3_shorterWay 0 = .ok (.iload_n 0, 1) := by decide +kernel
theorem dX3_shorterWay_1 : decode cX3_shorterWay 1 = .ok (.ifCond .ne 5, 3) := by decide +kernel
theorem dX3_shorterWay_4 : decode cX3_shorterWay 4 = .ok (.iconst 0, 1) := by decide +kernel
theorem dX3_shorterWay_5 : decode cX3_shorterWay 5 = .ok (.ireturn, 1) := by decide +kernel
theorem dX3_shorterWay_6 : decode cX3_shorterWay 6 = .ok (.iload_n 0, 1) := by decide +kernel
theorem dX3_shorterWay_7 : decode cX3_shorterWay 7 = .ok (.iload_n 1, 1) := by decide +kernel
theorem dX3_shorterWay_8 : decode cX3_shorterWay 8 = .ok (.iload_n 0, 1) := by decide +kernel
theorem dX3_shorterWay_9 : decode cX3_shorterWay 9 = .ok (.isub, 1) := by decide +kernel
theorem dX3_shorterWay_10 : decode cX3_shorterWay 10 = .ok (.if_icmp .gt 7, 3) := by decide +kernel
theorem dX3_shorterWay_13 : decode cX3_shorterWay 13 = .ok (.iconst 1, 1) := by decide +kernel
theorem dX3_shorterWay_14 : decode cX3_shorterWay 14 = .ok (.goto 4, 3) := by decide +kernel
theorem dX3_shorterWay_17 : decode cX3_shorterWay 17 = .ok (.iconst (-1), 1) := by decide +kernel
theorem dX3_shorterWay_18 : decode cX3_shorterWay 18 = .ok (.ireturn, 1) := by decide +kernel
theorem dX3_shownClock_0 : decode cX3_shownClock 0 = .ok (.aload_n 0, 1) := by decide +kernel
theorem dX3_shownClock_1 : decode cX3_shownClock 1 = .ok (.getfield 9, 3) := by decide +kernel
theorem dX3_shownClock_4 : decode cX3_shownClock 4 = .ok (.iconst (-1), 1) := by decide +kernel
theorem dX3_shownClock_5 : decode cX3_shownClock 5 = .ok (.if_icmp .ne 7, 3) := by decide +kernel
theorem dX3_shownClock_8 : decode cX3_shownClock 8 = .ok (.iconst (-1), 1) := by decide +kernel
theorem dX3_shownClock_9 : decode cX3_shownClock 9 = .ok (.goto 7, 3) := by decide +kernel
theorem dX3_shownClock_12 : decode cX3_shownClock 12 = .ok (.aload_n 0, 1) := by decide +kernel
theorem dX3_shownClock_13 : decode cX3_shownClock 13 = .ok (.getfield 15, 3) := by decide +kernel
theorem dX3_shownClock_16 : decode cX3_shownClock 16 = .ok (.ireturn, 1) := by decide +kernel
theorem dX3_isBeforeSplit_0 : decode cX3_isBeforeSplit 0 = .ok (.aload_n 0, 1) := by decide +kernel
theorem dX3_isBeforeSplit_1 : decode cX3_isBeforeSplit 1 = .ok (.getfield 9, 3) := by decide +kernel
theorem dX3_isBeforeSplit_4 : decode cX3_isBeforeSplit 4 = .ok (.iconst (-1), 1) := by decide +kernel
theorem dX3_isBeforeSplit_5 : decode cX3_isBeforeSplit 5 = .ok (.if_icmp .eq 22, 3) := by decide +kernel
theorem dX3_isBeforeSplit_8 : decode cX3_isBeforeSplit 8 = .ok (.aload_n 0, 1) := by decide +kernel
theorem dX3_isBeforeSplit_9 : decode cX3_isBeforeSplit 9 = .ok (.getfield 15, 3) := by decide +kernel
theorem dX3_isBeforeSplit_12 : decode cX3_isBeforeSplit 12 = .ok (.aload_n 1, 1) := by decide +kernel
theorem dX3_isBeforeSplit_13 : decode cX3_isBeforeSplit 13 = .ok (.aload_n 0, 1) := by decide +kernel
theorem dX3_isBeforeSplit_14 : decode cX3_isBeforeSplit 14 = .ok (.getfield 9, 3) := by decide +kernel
theorem dX3_isBeforeSplit_17 : decode cX3_isBeforeSplit 17 = .ok (.invokevirtual 40, 3) := by decide +kernel
theorem dX3_isBeforeSplit_20 : decode cX3_isBeforeSplit 20 = .ok (.if_icmp .ge 7, 3) := by decide +kernel
theorem dX3_isBeforeSplit_23 : decode cX3_isBeforeSplit 23 = .ok (.iconst 1, 1) := by decide +kernel
theorem dX3_isBeforeSplit_24 : decode cX3_isBeforeSplit 24 = .ok (.goto 4, 3) := by decide +kernel
theorem dX3_isBeforeSplit_27 : decode cX3_isBeforeSplit 27 = .ok (.iconst 0, 1) := by decide +kernel
theorem dX3_isBeforeSplit_28 : decode cX3_isBeforeSplit 28 = .ok (.ireturn, 1) := by decide +kernel
theorem dX4_init_0 : decode cX4_init 0 = .ok (.aload_n 0, 1) := by decide +kernel
theorem dX4_init_1 : decode cX4_init 1 = .ok (.invokespecial 3, 3) := by decide +kernel
theorem dX4_init_4 : decode cX4_init 4 = .ok (.aload_n 0, 1) := by decide +kernel
theorem dX4_init_5 : decode cX4_init 5 = .ok (.bipush 8, 2) := by decide +kernel
theorem dX4_init_7 : decode cX4_init 7 = .ok (.newarray .int, 2) := by decide +kernel
theorem dX4_init_9 : decode cX4_init 9 = .ok (.putfield 9, 3) := by decide +kernel
theorem dX4_init_12 : decode cX4_init 12 = .ok (.aload_n 0, 1) := by decide +kernel
theorem dX4_init_13 : decode cX4_init 13 = .ok (.bipush 8, 2) := by decide +kernel
theorem dX4_init_15 : decode cX4_init 15 = .ok (.newarray .int, 2) := by decide +kernel
theorem dX4_init_17 : decode cX4_init 17 = .ok (.putfield 15, 3) := by decide +kernel
theorem dX4_init_20 : decode cX4_init 20 = .ok (.aload_n 0, 1) := by decide +kernel
theorem dX4_init_21 : decode cX4_init 21 = .ok (.bipush 8, 2) := by decide +kernel
theorem dX4_init_23 : decode cX4_init 23 = .ok (.newarray .int, 2) := by decide +kernel
theorem dX4_init_25 : decode cX4_init 25 = .ok (.putfield 18, 3) := by decide +kernel
theorem dX4_init_28 : decode cX4_init 28 = .ok (.aload_n 0, 1) := by decide +kernel
theorem dX4_init_29 : decode cX4_init 29 = .ok (.iconst 0, 1) := by decide +kernel
theorem dX4_init_30 : decode cX4_init 30 = .ok (.putfield 21, 3) := by decide +kernel
theorem dX4_init_33 : decode cX4_init 33 = .ok (.return_, 1) := by decide +kernel
theorem dX4_beginAnew_0 : decode cX4_beginAnew 0 = .ok (.aload_n 0, 1) := by decide +kernel
theorem dX4_beginAnew_1 : decode cX4_beginAnew 1 = .ok (.iconst 0, 1) := by decide +kernel
theorem dX4_beginAnew_2 : decode cX4_beginAnew 2 = .ok (.putfield 21, 3) := by decide +kernel
theorem dX4_beginAnew_5 : decode cX4_beginAnew 5 = .ok (.iconst 0, 1) := by decide +kernel
theorem dX4_beginAnew_6 : decode cX4_beginAnew 6 = .ok (.istore_n 1, 1) := by decide +kernel
theorem dX4_beginAnew_7 : decode cX4_beginAnew 7 = .ok (.iload_n 1, 1) := by decide +kernel
theorem dX4_beginAnew_8 : decode cX4_beginAnew 8 = .ok (.bipush 8, 2) := by decide +kernel
theorem dX4_beginAnew_10 : decode cX4_beginAnew 10 = .ok (.if_icmp .ge 23, 3) := by decide +kernel
theorem dX4_beginAnew_13 : decode cX4_beginAnew 13 = .ok (.aload_n 0, 1) := by decide +kernel
theorem dX4_beginAnew_14 : decode cX4_beginAnew 14 = .ok (.getfield 15, 3) := by decide +kernel
theorem dX4_beginAnew_17 : decode cX4_beginAnew 17 = .ok (.iload_n 1, 1) := by decide +kernel
theorem dX4_beginAnew_18 : decode cX4_beginAnew 18 = .ok (.iconst 0, 1) := by decide +kernel
theorem dX4_beginAnew_19 : decode cX4_beginAnew 19 = .ok (.iastore, 1) := by decide +kernel
theorem dX4_beginAnew_20 : decode cX4_beginAnew 20 = .ok (.aload_n 0, 1) := by decide +kernel
theorem dX4_beginAnew_21 : decode cX4_beginAnew 21 = .ok (.getfield 18, 3) := by decide +kernel
theorem dX4_beginAnew_24 : decode cX4_beginAnew 24 = .ok (.iload_n 1, 1) := by decide +kernel
theorem dX4_beginAnew_25 : decode cX4_beginAnew 25 = .ok (.iconst 0, 1) := by decide +kernel
theorem dX4_beginAnew_26 : decode cX4_beginAnew 26 = .ok (.iastore, 1) := by decide +kernel
theorem dX4_beginAnew_27 : decode cX4_beginAnew 27 = .ok (.iinc 1 1, 3) := by decide +kernel
theorem dX4_beginAnew_30 : decode cX4_beginAnew 30 = .ok (.goto (-23), 3) := by decide +kernel
theorem dX4_beginAnew_33 : decode cX4_beginAnew 33 = .ok (.return_, 1) := by decide +kernel
theorem dX4_see_0 : decode cX4_see 0 = .ok (.iload_n 1, 1) := by decide +kernel
theorem dX4_see_1 : decode cX4_see 1 = .ok (.invokestatic 25, 3) := by decide +kernel
theorem dX4_see_4 : decode cX4_see 4 = .ok (.ifCond .eq 10, 3) := by decide +kernel
theorem dX4_see_7 : decode cX4_see 7 = .ok (.aload_n 0, 1) := by decide +kernel
theorem dX4_see_8 : decode cX4_see 8 = .ok (.getfield 9, 3) := by decide +kernel
theorem dX4_see_11 : decode cX4_see 11 = .ok (.iload_n 1, 1) := by decide +kernel
theorem dX4_see_12 : decode cX4_see 12 = .ok (.iload_n 2, 1) := by decide +kernel
theorem dX4_see_13 : decode cX4_see 13 = .ok (.iastore, 1) := by decide +kernel
theorem dX4_see_14 : decode cX4_see 14 = .ok (.return_, 1) := by decide +kernel
theorem dX4_look_0 : decode cX4_look 0 = .ok (.iconst 0, 1) := by decide +kernel
theorem dX4_look_1 : decode cX4_look 1 = .ok (.istore_n 2, 1) := by decide +kernel
theorem dX4_look_2 : decode cX4_look 2 = .ok (.aload_n 0, 1) := by decide +kernel
theorem dX4_look_3 : decode cX4_look 3 = .ok (.iload_n 1, 1) := by decide +kernel
theorem dX4_look_4 : decode cX4_look 4 = .ok (.invokevirtual 29, 3) := by decide +kernel
theorem dX4_look_7 : decode cX4_look 7 = .ok (.ifCond .eq 8, 3) := by decide +kernel
theorem dX4_look_10 : decode cX4_look 10 = .ok (.iconst 1, 1) := by decide +kernel
theorem dX4_look_11 : decode cX4_look 11 = .ok (.istore_n 2, 1) := by decide +kernel
theorem dX4_look_12 : decode cX4_look 12 = .ok (.goto 26, 3) := by decide +kernel
theorem dX4_look_15 : decode cX4_look 15 = .ok (.aload_n 0, 1) := by decide +kernel
theorem dX4_look_16 : decode cX4_look 16 = .ok (.iload_n 1, 1) := by decide +kernel
theorem dX4_look_17 : decode cX4_look 17 = .ok (.invokevirtual 32, 3) := by decide +kernel
theorem dX4_look_20 : decode cX4_look 20 = .ok (.ifCond .eq 8, 3) := by decide +kernel
theorem dX4_look_23 : decode cX4_look 23 = .ok (.iconst 2, 1) := by decide +kernel
theorem dX4_look_24 : decode cX4_look 24 = .ok (.istore_n 2, 1) := by decide +kernel
theorem dX4_look_25 : decode cX4_look 25 = .ok (.goto 13, 3) := by decide +kernel
theorem dX4_look_28 : decode cX4_look 28 = .ok (.aload_n 0, 1) := by decide +kernel
theorem dX4_look_29 : decode cX4_look 29 = .ok (.iload_n 1, 1) := by decide +kernel
theorem dX4_look_30 : decode cX4_look 30 = .ok (.invokevirtual 35, 3) := by decide +kernel
theorem dX4_look_33 : decode cX4_look 33 = .ok (.ifCond .eq 5, 3) := by decide +kernel
theorem dX4_look_36 : decode cX4_look 36 = .ok (.iconst 3, 1) := by decide +kernel
theorem dX4_look_37 : decode cX4_look 37 = .ok (.istore_n 2, 1) := by decide +kernel
theorem dX4_look_38 : decode cX4_look 38 = .ok (.aload_n 0, 1) := by decide +kernel
theorem dX4_look_39 : decode cX4_look 39 = .ok (.invokevirtual 38, 3) := by decide +kernel
theorem dX4_look_42 : decode cX4_look 42 = .ok (.iload_n 2, 1) := by decide +kernel
theorem dX4_look_43 : decode cX4_look 43 = .ok (.ireturn, 1) := by decide +kernel
theorem dX4_seesConflict_0 : decode cX4_seesConflict 0 = .ok (.iconst 0, 1) := by decide +kernel
theorem dX4_seesConflict_1 : decode cX4_seesConflict 1 = .ok (.istore_n 2, 1) := by decide +kernel
theorem dX4_seesConflict_2 : decode cX4_seesConflict 2 = .ok (.iload_n 2, 1) := by decide +kernel
theorem dX4_seesConflict_3 : decode cX4_seesConflict 3 = .ok (.bipush 8, 2) := by decide +kernel
theorem dX4_seesConflict_5 : decode cX4_seesConflict 5 = .ok (.if_icmp .ge 89, 3) := by decide +kernel
theorem dX4_seesConflict_8 : decode cX4_seesConflict 8 = .ok (.iload_n 2, 1) := by decide +kernel
theorem dX4_seesConflict_9 : decode cX4_seesConflict 9 = .ok (.iconst 1, 1) := by decide +kernel
theorem dX4_seesConflict_10 : decode cX4_seesConflict 10 = .ok (.iadd, 1) := by decide +kernel
theorem dX4_seesConflict_11 : decode cX4_seesConflict 11 = .ok (.istore_n 3, 1) := by decide +kernel
theorem dX4_seesConflict_12 : decode cX4_seesConflict 12 = .ok (.iload_n 3, 1) := by decide +kernel
theorem dX4_seesConflict_13 : decode cX4_seesConflict 13 = .ok (.bipush 8, 2) := by decide +kernel
theorem dX4_seesConflict_15 : decode cX4_seesConflict 15 = .ok (.if_icmp .ge 73, 3) := by decide +kernel
theorem dX4_seesConflict_18 : decode cX4_seesConflict 18 = .ok (.iload_n 1, 1) := by decide +kernel
theorem dX4_seesConflict_19 : decode cX4_seesConflict 19 = .ok (.iload_n 2, 1) := by decide +kernel
theorem dX4_seesConflict_20 : decode cX4_seesConflict 20 = .ok (.invokestatic 41, 3) := by decide +kernel
theorem dX4_seesConflict_23 : decode cX4_seesConflict 23 = .ok (.iand, 1) := by decide +kernel
theorem dX4_seesConflict_24 : decode cX4_seesConflict 24 = .ok (.ifCond .eq 16, 3) := by decide +kernel
theorem dX4_seesConflict_27 : decode cX4_seesConflict 27 = .ok (.iload_n 1, 1) := by decide +kernel
theorem dX4_seesConflict_28 : decode cX4_seesConflict 28 = .ok (.iload_n 3, 1) := by decide +kernel
theorem dX4_seesConflict_29 : decode cX4_seesConflict 29 = .ok (.invokestatic 41, 3) := by decide +kernel
theorem dX4_seesConflict_32 : decode cX4_seesConflict 32 = .ok (.iand, 1) := by decide +kernel
theorem dX4_seesConflict_33 : decode cX4_seesConflict 33 = .ok (.ifCond .eq 7, 3) := by decide +kernel
theorem dX4_seesConflict_36 : decode cX4_seesConflict 36 = .ok (.iconst 1, 1) := by decide +kernel
theorem dX4_seesConflict_37 : decode cX4_seesConflict 37 = .ok (.goto 4, 3) := by decide +kernel
theorem dX4_seesConflict_40 : decode cX4_seesConflict 40 = .ok (.iconst 0, 1) := by decide +kernel
theorem dX4_seesConflict_41 : decode cX4_seesConflict 41 = .ok (.istore 4, 2) := by decide +kernel
theorem dX4_seesConflict_43 : decode cX4_seesConflict 43 = .ok (.iload 4, 2) := by decide +kernel
theorem dX4_seesConflict_45 : decode cX4_seesConflict 45 = .ok (.ifCond .eq 37, 3) := by decide +kernel
theorem dX4_seesConflict_48 : decode cX4_seesConflict 48 = .ok (.aload_n 0, 1) := by decide +kernel
theorem dX4_seesConflict_49 : decode cX4_seesConflict 49 = .ok (.getfield 9, 3) := by decide +kernel
theorem dX4_seesConflict_52 : decode cX4_seesConflict 52 = .ok (.iload_n 2, 1) := by decide +kernel
theorem dX4_seesConflict_53 : decode cX4_seesConflict 53 = .ok (.iaload, 1) := by decide +kernel
theorem dX4_seesConflict_54 : decode cX4_seesConflict 54 = .ok (.invokestatic 45, 3) := by decide +kernel
theorem dX4_seesConflict_57 : decode cX4_seesConflict 57 = .ok (.ifCond .eq 25, 3) := by decide +kernel
theorem dX4_seesConflict_60 : decode cX4_seesConflict 60 = .ok (.aload_n 0, 1) := by decide +kernel
theorem dX4_seesConflict_61 : decode cX4_seesConflict 61 = .ok (.getfield 9, 3) := by decide +kernel
theorem dX4_seesConflict_64 : decode cX4_seesConflict 64 = .ok (.iload_n 3, 1) := by decide +kernel
theorem dX4_seesConflict_65 : decode cX4_seesConflict 65 = .ok (.iaload, 1) := by decide +kernel
theorem dX4_seesConflict_66 : decode cX4_seesConflict 66 = .ok (.invokestatic 45, 3) := by decide +kernel
theorem dX4_seesConflict_69 : decode cX4_seesConflict 69 = .ok (.ifCond .eq 13, 3) := by decide +kernel
theorem dX4_seesConflict_72 : decode cX4_seesConflict 72 = .ok (.iload_n 2, 1) := by decide +kernel
theorem dX4_seesConflict_73 : decode cX4_seesConflict 73 = .ok (.iload_n 3, 1) := by decide +kernel
theorem dX4_seesConflict_74 : decode cX4_seesConflict 74 = .ok (.invokestatic 48, 3) := by decide +kernel
theorem dX4_seesConflict_77 : decode cX4_seesConflict 77 = .ok (.ifCond .ne 5, 3) := by decide +kernel
theorem dX4_seesConflict_80 : decode cX4_seesConflict 80 = .ok (.iconst 1, 1) := by decide +kernel
theorem dX4_seesConflict_81 : decode cX4_seesConflict 81 = .ok (.ireturn, 1) := by decide +kernel
theorem dX4_seesConflict_82 : decode cX4_seesConflict 82 = .ok (.iinc 3 1, 3) := by decide +kernel
theorem dX4_seesConflict_85 : decode cX4_seesConflict 85 = .ok (.goto (-73), 3) := by decide +kernel
theorem dX4_seesConflict_88 : decode cX4_seesConflict 88 = .ok (.iinc 2 1, 3) := by decide +kernel
theorem dX4_seesConflict_91 : decode cX4_seesConflict 91 = .ok (.goto (-89), 3) := by decide +kernel
theorem dX4_seesConflict_94 : decode cX4_seesConflict 94 = .ok (.iconst 0, 1) := by decide +kernel
theorem dX4_seesConflict_95 : decode cX4_seesConflict 95 = .ok (.ireturn, 1) := by decide +kernel
theorem dX4_seesDark_0 : decode cX4_seesDark 0 = .ok (.iconst 0, 1) := by decide +kernel
theorem dX4_seesDark_1 : decode cX4_seesDark 1 = .ok (.istore_n 2, 1) := by decide +kernel
theorem dX4_seesDark_2 : decode cX4_seesDark 2 = .ok (.iload_n 2, 1) := by decide +kernel
theorem dX4_seesDark_3 : decode cX4_seesDark 3 = .ok (.bipush 8, 2) := by decide +kernel
theorem dX4_seesDark_5 : decode cX4_seesDark 5 = .ok (.if_icmp .ge 55, 3) := by decide +kernel
theorem dX4_seesDark_8 : decode cX4_seesDark 8 = .ok (.iload_n 1, 1) := by decide +kernel
theorem dX4_seesDark_9 : decode cX4_seesDark 9 = .ok (.iload_n 2, 1) := by decide +kernel
theorem dX4_seesDark_10 : decode cX4_seesDark 10 = .ok (.invokestatic 41, 3) := by decide +kernel
theorem dX4_seesDark_13 : decode cX4_seesDark 13 = .ok (.iand, 1) := by decide +kernel
theorem dX4_seesDark_14 : decode cX4_seesDark 14 = .ok (.ifCond .eq 7, 3) := by decide +kernel
theorem dX4_seesDark_17 : decode cX4_seesDark 17 = .ok (.iconst 1, 1) := by decide +kernel
theorem dX4_seesDark_18 : decode cX4_seesDark 18 = .ok (.goto 4, 3) := by decide +kernel
theorem dX4_seesDark_21 : decode cX4_seesDark 21 = .ok (.iconst 0, 1) := by decide +kernel
theorem dX4_seesDark_22 : decode cX4_seesDark 22 = .ok (.istore_n 3, 1) := by decide +kernel
theorem dX4_seesDark_23 : decode cX4_seesDark 23 = .ok (.iload_n 3, 1) := by decide +kernel
theorem dX4_seesDark_24 : decode cX4_seesDark 24 = .ok (.ifCond .eq 30, 3) := by decide +kernel
theorem dX4_seesDark_27 : decode cX4_seesDark 27 = .ok (.aload_n 0, 1) := by decide +kernel
theorem dX4_seesDark_28 : decode cX4_seesDark 28 = .ok (.getfield 21, 3) := by decide +kernel
theorem dX4_seesDark_31 : decode cX4_seesDark 31 = .ok (.ifCond .eq 23, 3) := by decide +kernel
theorem dX4_seesDark_34 : decode cX4_seesDark 34 = .ok (.aload_n 0, 1) := by decide +kernel
theorem dX4_seesDark_35 : decode cX4_seesDark 35 = .ok (.getfield 9, 3) := by decide +kernel
theorem dX4_seesDark_38 : decode cX4_seesDark 38 = .ok (.iload_n 2, 1) := by decide +kernel
theorem dX4_seesDark_39 : decode cX4_seesDark 39 = .ok (.iaload, 1) := by decide +kernel
theorem dX4_seesDark_40 : decode cX4_seesDark 40 = .ok (.ifCond .ne 14, 3) := by decide +kernel
theorem dX4_seesDark_43 : decode cX4_seesDark 43 = .ok (.aload_n 0, 1) := by decide +kernel
theorem dX4_seesDark_44 : decode cX4_seesDark 44 = .ok (.getfield 15, 3) := by decide +kernel
theorem dX4_seesDark_47 : decode cX4_seesDark 47 = .ok (.iload_n 2, 1) := by decide +kernel
theorem dX4_seesDark_48 : decode cX4_seesDark 48 = .ok (.iaload, 1) := by decide +kernel
theorem dX4_seesDark_49 : decode cX4_seesDark 49 = .ok (.ifCond .ne 5, 3) := by decide +kernel
theorem dX4_seesDark_52 : decode cX4_seesDark 52 = .ok (.iconst 1, 1) := by decide +kernel
theorem dX4_seesDark_53 : decode cX4_seesDark 53 = .ok (.ireturn, 1) := by decide +kernel
theorem dX4_seesDark_54 : decode cX4_seesDark 54 = .ok (.iinc 2 1, 3) := by decide +kernel
theorem dX4_seesDark_57 : decode cX4_seesDark 57 = .ok (.goto (-55), 3) := by decide +kernel
theorem dX4_seesDark_60 : decode cX4_seesDark 60 = .ok (.iconst 0, 1) := by decide +kernel
theorem dX4_seesDark_61 : decode cX4_seesDark 61 = .ok (.ireturn, 1) := by decide +kernel
theorem dX4_seesShort_0 : decode cX4_seesShort 0 = .ok (.iconst 0, 1) := by decide +kernel
theorem dX4_seesShort_1 : decode cX4_seesShort 1 = .ok (.istore_n 2, 1) := by decide +kernel
theorem dX4_seesShort_2 : decode cX4_seesShort 2 = .ok (.iload_n 2, 1) := by decide +kernel
theorem dX4_seesShort_3 : decode cX4_seesShort 3 = .ok (.bipush 8, 2) := by decide +kernel
theorem dX4_seesShort_5 : decode cX4_seesShort 5 = .ok (.if_icmp .ge 64, 3) := by decide +kernel
theorem dX4_seesShort_8 : decode cX4_seesShort 8 = .ok (.aload_n 0, 1) := by decide +kernel
theorem dX4_seesShort_9 : decode cX4_seesShort 9 = .ok (.getfield 15, 3) := by decide +kernel
theorem dX4_seesShort_12 : decode cX4_seesShort 12 = .ok (.iload_n 2, 1) := by decide +kernel
theorem dX4_seesShort_13 : decode cX4_seesShort 13 = .ok (.iaload, 1) := by decide +kernel
theorem dX4_seesShort_14 : decode cX4_seesShort 14 = .ok (.invokestatic 45, 3) := by decide +kernel
theorem dX4_seesShort_17 : decode cX4_seesShort 17 = .ok (.ifCond .eq 19, 3) := by decide +kernel
theorem dX4_seesShort_20 : decode cX4_seesShort 20 = .ok (.aload_n 0, 1) := by decide +kernel
theorem dX4_seesShort_21 : decode cX4_seesShort 21 = .ok (.getfield 9, 3) := by decide +kernel
theorem dX4_seesShort_24 : decode cX4_seesShort 24 = .ok (.iload_n 2, 1) := by decide +kernel
theorem dX4_seesShort_25 : decode cX4_seesShort 25 = .ok (.iaload, 1) := by decide +kernel
theorem dX4_seesShort_26 : decode cX4_seesShort 26 = .ok (.invokestatic 45, 3) := by decide +kernel
theorem dX4_seesShort_29 : decode cX4_seesShort 29 = .ok (.ifCond .ne 7, 3) := by decide +kernel
theorem dX4_seesShort_32 : decode cX4_seesShort 32 = .ok (.iconst 1, 1) := by decide +kernel
theorem dX4_seesShort_33 : decode cX4_seesShort 33 = .ok (.goto 4, 3) := by decide +kernel
theorem dX4_seesShort_36 : decode cX4_seesShort 36 = .ok (.iconst 0, 1) := by decide +kernel
theorem dX4_seesShort_37 : decode cX4_seesShort 37 = .ok (.istore_n 3, 1) := by decide +kernel
theorem dX4_seesShort_38 : decode cX4_seesShort 38 = .ok (.iload_n 1, 1) := by decide +kernel
theorem dX4_seesShort_39 : decode cX4_seesShort 39 = .ok (.iload_n 2, 1) := by decide +kernel
theorem dX4_seesShort_40 : decode cX4_seesShort 40 = .ok (.invokestatic 41, 3) := by decide +kernel
theorem dX4_seesShort_43 : decode cX4_seesShort 43 = .ok (.iand, 1) := by decide +kernel
theorem dX4_seesShort_44 : decode cX4_seesShort 44 = .ok (.ifCond .eq 19, 3) := by decide +kernel
theorem dX4_seesShort_47 : decode cX4_seesShort 47 = .ok (.iload_n 3, 1) := by decide +kernel
theorem dX4_seesShort_48 : decode cX4_seesShort 48 = .ok (.ifCond .eq 15, 3) := by decide +kernel
theorem dX4_seesShort_51 : decode cX4_seesShort 51 = .ok (.aload_n 0, 1) := by decide +kernel
theorem dX4_seesShort_52 : decode cX4_seesShort 52 = .ok (.getfield 18, 3) := by decide +kernel
theorem dX4_seesShort_55 : decode cX4_seesShort 55 = .ok (.iload_n 2, 1) := by decide +kernel
theorem dX4_seesShort_56 : decode cX4_seesShort 56 = .ok (.iaload, 1) := by decide +kernel
theorem dX4_seesShort_57 : decode cX4_seesShort 57 = .ok (.iconst 3, 1) := by decide +kernel
theorem dX4_seesShort_58 : decode cX4_seesShort 58 = .ok (.if_icmp .ge 5, 3) := by decide +kernel
theorem dX4_seesShort_61 : decode cX4_seesShort 61 = .ok (.iconst 1, 1) := by decide +kernel
theorem dX4_seesShort_62 : decode cX4_seesShort 62 = .ok (.ireturn, 1) := by decide +kernel
theorem dX4_seesShort_63 : decode cX4_seesShort 63 = .ok (.iinc 2 1, 3) := by decide +kernel
theorem dX4_seesShort_66 : decode cX4_seesShort 66 = .ok (.goto (-64), 3) := by decide +kernel
theorem dX4_seesShort_69 : decode cX4_seesShort 69 = .ok (.iconst 0, 1) := by decide +kernel
theorem dX4_seesShort_70 : decode cX4_seesShort 70 = .ok (.ireturn, 1) := by decide +kernel
theorem dX4_remember_0 : decode cX4_remember 0 = .ok (.aload_n 0, 1) := by decide +kernel
theorem dX4_remember_1 : decode cX4_remember 1 = .ok (.iconst 1, 1) := by decide +kernel
theorem dX4_remember_2 : decode cX4_remember 2 = .ok (.putfield 21, 3) := by decide +kernel
theorem dX4_remember_5 : decode cX4_remember 5 = .ok (.iconst 0, 1) := by decide +kernel
theorem dX4_remember_6 : decode cX4_remember 6 = .ok (.istore_n 1, 1) := by decide +kernel
theorem dX4_remember_7 : decode cX4_remember 7 = .ok (.iload_n 1, 1) := by decide +kernel
theorem dX4_remember_8 : decode cX4_remember 8 = .ok (.bipush 8, 2) := by decide +kernel
theorem dX4_remember_10 : decode cX4_remember 10 = .ok (.if_icmp .ge 63, 3) := by decide +kernel
theorem dX4_remember_13 : decode cX4_remember 13 = .ok (.aload_n 0, 1) := by decide +kernel
theorem dX4_remember_14 : decode cX4_remember 14 = .ok (.getfield 15, 3) := by decide +kernel
theorem dX4_remember_17 : decode cX4_remember 17 = .ok (.iload_n 1, 1) := by decide +kernel
theorem dX4_remember_18 : decode cX4_remember 18 = .ok (.aload_n 0, 1) := by decide +kernel
theorem dX4_remember_19 : decode cX4_remember 19 = .ok (.getfield 9, 3) := by decide +kernel
theorem dX4_remember_22 : decode cX4_remember 22 = .ok (.iload_n 1, 1) := by decide +kernel
theorem dX4_remember_23 : decode cX4_remember 23 = .ok (.iaload, 1) := by decide +kernel
theorem dX4_remember_24 : decode cX4_remember 24 = .ok (.iastore, 1) := by decide +kernel
theorem dX4_remember_25 : decode cX4_remember 25 = .ok (.aload_n 0, 1) := by decide +kernel
theorem dX4_remember_26 : decode cX4_remember 26 = .ok (.getfield 9, 3) := by decide +kernel
theorem dX4_remember_29 : decode cX4_remember 29 = .ok (.iload_n 1, 1) := by decide +kernel
theorem dX4_remember_30 : decode cX4_remember 30 = .ok (.iaload, 1) := by decide +kernel
theorem dX4_remember_31 : decode cX4_remember 31 = .ok (.iconst 4, 1) := by decide +kernel
theorem dX4_remember_32 : decode cX4_remember 32 = .ok (.iand, 1) := by decide +kernel
theorem dX4_remember_33 : decode cX4_remember 33 = .ok (.ifCond .eq 13, 3) := by decide +kernel
theorem dX4_remember_36 : decode cX4_remember 36 = .ok (.aload_n 0, 1) := by decide +kernel
theorem dX4_remember_37 : decode cX4_remember 37 = .ok (.getfield 18, 3) := by decide +kernel
theorem dX4_remember_40 : decode cX4_remember 40 = .ok (.iload_n 1, 1) := by decide +kernel
theorem dX4_remember_41 : decode cX4_remember 41 = .ok (.iconst 0, 1) := by decide +kernel
theorem dX4_remember_42 : decode cX4_remember 42 = .ok (.iastore, 1) := by decide +kernel
theorem dX4_remember_43 : decode cX4_remember 43 = .ok (.goto 24, 3) := by decide +kernel
theorem dX4_remember_46 : decode cX4_remember 46 = .ok (.aload_n 0, 1) := by decide +kernel
theorem dX4_remember_47 : decode cX4_remember 47 = .ok (.getfield 9, 3) := by decide +kernel
theorem dX4_remember_50 : decode cX4_remember 50 = .ok (.iload_n 1, 1) := by decide +kernel
theorem dX4_remember_51 : decode cX4_remember 51 = .ok (.iaload, 1) := by decide +kernel
theorem dX4_remember_52 : decode cX4_remember 52 = .ok (.iconst 2, 1) := by decide +kernel
theorem dX4_remember_53 : decode cX4_remember 53 = .ok (.iand, 1) := by decide +kernel
theorem dX4_remember_54 : decode cX4_remember 54 = .ok (.ifCond .eq 13, 3) := by decide +kernel
theorem dX4_remember_57 : decode cX4_remember 57 = .ok (.aload_n 0, 1) := by decide +kernel
theorem dX4_remember_58 : decode cX4_remember 58 = .ok (.getfield 18, 3) := by decide +kernel
theorem dX4_remember_61 : decode cX4_remember 61 = .ok (.iload_n 1, 1) := by decide +kernel
theorem dX4_remember_62 : decode cX4_remember 62 = .ok (.dup2, 1) := by decide +kernel
theorem dX4_remember_63 : decode cX4_remember 63 = .ok (.iaload, 1) := by decide +kernel
theorem dX4_remember_64 : decode cX4_remember 64 = .ok (.iconst 1, 1) := by decide +kernel
theorem dX4_remember_65 : decode cX4_remember 65 = .ok (.iadd, 1) := by decide +kernel
theorem dX4_remember_66 : decode cX4_remember 66 = .ok (.iastore, 1) := by decide +kernel
theorem dX4_remember_67 : decode cX4_remember 67 = .ok (.iinc 1 1, 3) := by decide +kernel
theorem dX4_remember_70 : decode cX4_remember 70 = .ok (.goto (-63), 3) := by decide +kernel
theorem dX4_remember_73 : decode cX4_remember 73 = .ok (.return_, 1) := by decide +kernel
theorem dX4_goes_0 : decode cX4_goes 0 = .ok (.iload_n 0, 1) := by decide +kernel
theorem dX4_goes_1 : decode cX4_goes 1 = .ok (.bipush 6, 2) := by decide +kernel
theorem dX4_goes_3 : decode cX4_goes 3 = .ok (.iand, 1) := by decide +kernel
theorem dX4_goes_4 : decode cX4_goes 4 = .ok (.ifCond .eq 7, 3) := by decide +kernel
theorem dX4_goes_7 : decode cX4_goes 7 = .ok (.iconst 1, 1) := by decide +kernel
theorem dX4_goes_8 : decode cX4_goes 8 = .ok (.goto 4, 3) := by decide +kernel
theorem dX4_goes_11 : decode cX4_goes 11 = .ok (.iconst 0, 1) := by decide +kernel
theorem dX4_goes_12 : decode cX4_goes 12 = .ok (.ireturn, 1) := by decide +kernel
theorem dX4_goTogether_0 : decode cX4_goTogether 0 = .ok (.iload_n 0, 1) := by decide +kernel
theorem dX4_goTogether_1 : decode cX4_goTogether 1 = .ok (.invokestatic 52, 3) := by decide +kernel
theorem dX4_goTogether_4 : decode cX4_goTogether 4 = .ok (.iload_n 1, 1) := by decide +kernel
theorem dX4_goTogether_5 : decode cX4_goTogether 5 = .ok (.invokestatic 52, 3) := by decide +kernel
theorem dX4_goTogether_8 : decode cX4_goTogether 8 = .ok (.if_icmp .eq 18, 3) := by decide +kernel
theorem dX4_goTogether_11 : decode cX4_goTogether 11 = .ok (.iload_n 0, 1) := by decide +kernel
theorem dX4_goTogether_12 : decode cX4_goTogether 12 = .ok (.invokestatic 55, 3) := by decide +kernel
theorem dX4_goTogether_15 : decode cX4_goTogether 15 = .ok (.iload_n 1, 1) := by decide +kernel
theorem dX4_goTogether_16 : decode cX4_goTogether 16 = .ok (.invokestatic 55, 3) := by decide +kernel
theorem dX4_goTogether_19 : decode cX4_goTogether 19 = .ok (.if_icmp .ne 7, 3) := by decide +kernel
theorem dX4_goTogether_22 : decode cX4_goTogether 22 = .ok (.iconst 1, 1) := by decide +kernel
theorem dX4_goTogether_23 : decode cX4_goTogether 23 = .ok (.goto 4, 3) := by decide +kernel
theorem dX4_goTogether_26 : decode cX4_goTogether 26 = .ok (.iconst 0, 1) := by decide +kernel
theorem dX4_goTogether_27 : decode cX4_goTogether 27 = .ok (.ireturn, 1) := by decide +kernel
theorem dX5_init_0 : decode cX5_init 0 = .ok (.aload_n 0, 1) := by decide +kernel
theorem dX5_init_1 : decode cX5_init 1 = .ok (.invokespecial 3, 3) := by decide +kernel
theorem dX5_init_4 : decode cX5_init 4 = .ok (.aload_n 0, 1) := by decide +kernel
theorem dX5_init_5 : decode cX5_init 5 = .ok (.iconst 4, 1) := by decide +kernel
theorem dX5_init_6 : decode cX5_init 6 = .ok (.newarray .int, 2) := by decide +kernel
theorem dX5_init_8 : decode cX5_init 8 = .ok (.putfield 9, 3) := by decide +kernel
theorem dX5_init_11 : decode cX5_init 11 = .ok (.aload_n 0, 1) := by decide +kernel
theorem dX5_init_12 : decode cX5_init 12 = .ok (.iconst 4, 1) := by decide +kernel
theorem dX5_init_13 : decode cX5_init 13 = .ok (.newarray .int, 2) := by decide +kernel
theorem dX5_init_15 : decode cX5_init 15 = .ok (.putfield 15, 3) := by decide +kernel
theorem dX5_init_18 : decode cX5_init 18 = .ok (.aload_n 0, 1) := by decide +kernel
theorem dX5_init_19 : decode cX5_init 19 = .ok (.iconst 4, 1) := by decide +kernel
theorem dX5_init_20 : decode cX5_init 20 = .ok (.newarray .int, 2) := by decide +kernel
theorem dX5_init_22 : decode cX5_init 22 = .ok (.putfield 18, 3) := by decide +kernel
theorem dX5_init_25 : decode cX5_init 25 = .ok (.return_, 1) := by decide +kernel
theorem dX5_make_0 : decode cX5_make 0 = .ok (.iload_n 1, 1) := by decide +kernel
theorem dX5_make_1 : decode cX5_make 1 = .ok (.ifCond .lt 45, 3) := by decide +kernel
theorem dX5_make_4 : decode cX5_make 4 = .ok (.iload_n 1, 1) := by decide +kernel
theorem dX5_make_5 : decode cX5_make 5 = .ok (.iconst 4, 1) := by decide +kernel
theorem dX5_make_6 : decode cX5_make 6 = .ok (.if_icmp .ge 40, 3) := by decide +kernel
theorem dX5_make_9 : decode cX5_make 9 = .ok (.iload_n 2, 1) := by decide +kernel
theorem dX5_make_10 : decode cX5_make 10 = .ok (.bipush 20, 2) := by decide +kernel
theorem dX5_make_12 : decode cX5_make 12 = .ok (.if_icmp .lt 34, 3) := by decide +kernel
theorem dX5_make_15 : decode cX5_make 15 = .ok (.iload_n 2, 1) := by decide +kernel
theorem dX5_make_16 : decode cX5_make 16 = .ok (.bipush 120, 2) := by decide +kernel
theorem dX5_make_18 : decode cX5_make 18 = .ok (.if_icmp .gt 28, 3) := by decide +kernel
theorem dX5_make_21 : decode cX5_make 21 = .ok (.iload_n 3, 1) := by decide +kernel
theorem dX5_make_22 : decode cX5_make 22 = .ok (.ifCond .lt 24, 3) := by decide +kernel
theorem dX5_make_25 : decode cX5_make 25 = .ok (.iload_n 3, 1) := by decide +kernel
theorem dX5_make_26 : decode cX5_make 26 = .ok (.iload_n 2, 1) := by decide +kernel
theorem dX5_make_27 : decode cX5_make 27 = .ok (.if_icmp .ge 19, 3) := by decide +kernel
theorem dX5_make_30 : decode cX5_make 30 = .ok (.iload 4, 2) := by decide +kernel
theorem dX5_make_32 : decode cX5_make 32 = .ok (.iconst 1, 1) := by decide +kernel
theorem dX5_make_33 : decode cX5_make 33 = .ok (.if_icmp .lt 13, 3) := by decide +kernel
theorem dX5_make_36 : decode cX5_make 36 = .ok (.iload 4, 2) := by decide +kernel
theorem dX5_make_38 : decode cX5_make 38 = .ok (.iload_n 2, 1) := by decide +kernel
theorem dX5_make_39 : decode cX5_make 39 = .ok (.if_icmp .ge 7, 3) := by decide +kernel
theorem dX5_make_42 : decode cX5_make 42 = .ok (.iconst 1, 1) := by decide +kernel
theorem dX5_make_43 : decode cX5_make 43 = .ok (.goto 4, 3) := by decide +kernel
theorem dX5_make_46 : decode cX5_make 46 = .ok (.iconst 0, 1) := by decide +kernel
theorem dX5_make_47 : decode cX5_make 47 = .ok (.istore 5, 2) := by decide +kernel
theorem dX5_make_49 : decode cX5_make 49 = .ok (.iload 5, 2) := by decide +kernel
theorem dX5_make_51 : decode cX5_make 51 = .ok (.ifCond .eq 25, 3) := by decide +kernel
theorem dX5_make_54 : decode cX5_make 54 = .ok (.aload_n 0, 1) := by decide +kernel
theorem dX5_make_55 : decode cX5_make 55 = .ok (.getfield 9, 3) := by decide +kernel
theorem dX5_make_58 : decode cX5_make 58 = .ok (.iload_n 1, 1) := by decide +kernel
theorem dX5_make_59 : decode cX5_make 59 = .ok (.iload_n 2, 1) := by decide +kernel
theorem dX5_make_60 : decode cX5_make 60 = .ok (.iastore, 1) := by decide +kernel
theorem dX5_make_61 : decode cX5_make 61 = .ok (.aload_n 0, 1) := by decide +kernel
theorem dX5_make_62 : decode cX5_make 62 = .ok (.getfield 15, 3) := by decide +kernel
theorem dX5_make_65 : decode cX5_make 65 = .ok (.iload_n 1, 1) := by decide +kernel
theorem dX5_make_66 : decode cX5_make 66 = .ok (.iload_n 3, 1) := by decide +kernel
theorem dX5_make_67 : decode cX5_make 67 = .ok (.iastore, 1) := by decide +kernel
theorem dX5_make_68 : decode cX5_make 68 = .ok (.aload_n 0, 1) := by decide +kernel
theorem dX5_make_69 : decode cX5_make 69 = .ok (.getfield 18, 3) := by decide +kernel
theorem dX5_make_72 : decode cX5_make 72 = .ok (.iload_n 1, 1) := by decide +kernel
theorem dX5_make_73 : decode cX5_make 73 = .ok (.iload 4, 2) := by decide +kernel
theorem dX5_make_75 : decode cX5_make 75 = .ok (.iastore, 1) := by decide +kernel
theorem dX5_make_76 : decode cX5_make 76 = .ok (.iload 5, 2) := by decide +kernel
theorem dX5_make_78 : decode cX5_make 78 = .ok (.ireturn, 1) := by decide +kernel
theorem dX5_isMade_0 : decode cX5_isMade 0 = .ok (.iload_n 1, 1) := by decide +kernel
theorem dX5_isMade_1 : decode cX5_isMade 1 = .ok (.ifCond .lt 21, 3) := by decide +kernel
theorem dX5_isMade_4 : decode cX5_isMade 4 = .ok (.iload_n 1, 1) := by decide +kernel
theorem dX5_isMade_5 : decode cX5_isMade 5 = .ok (.iconst 4, 1) := by decide +kernel
theorem dX5_isMade_6 : decode cX5_isMade 6 = .ok (.if_icmp .ge 16, 3) := by decide +kernel
theorem dX5_isMade_9 : decode cX5_isMade 9 = .ok (.aload_n 0, 1) := by decide +kernel
theorem dX5_isMade_10 : decode cX5_isMade 10 = .ok (.getfield 9, 3) := by decide +kernel
theorem dX5_isMade_13 : decode cX5_isMade 13 = .ok (.iload_n 1, 1) := by decide +kernel
theorem dX5_isMade_14 : decode cX5_isMade 14 = .ok (.iaload, 1) := by decide +kernel
theorem dX5_isMade_15 : decode cX5_isMade 15 = .ok (.ifCond .eq 7, 3) := by decide +kernel
theorem dX5_isMade_18 : decode cX5_isMade 18 = .ok (.iconst 1, 1) := by decide +kernel
theorem dX5_isMade_19 : decode cX5_isMade 19 = .ok (.goto 4, 3) := by decide +kernel
theorem dX5_isMade_22 : decode cX5_isMade 22 = .ok (.iconst 0, 1) := by decide +kernel
theorem dX5_isMade_23 : decode cX5_isMade 23 = .ok (.ireturn, 1) := by decide +kernel
theorem dX5_cycleOf_0 : decode cX5_cycleOf 0 = .ok (.aload_n 0, 1) := by decide +kernel
theorem dX5_cycleOf_1 : decode cX5_cycleOf 1 = .ok (.iload_n 1, 1) := by decide +kernel
theorem dX5_cycleOf_2 : decode cX5_cycleOf 2 = .ok (.invokevirtual 21, 3) := by decide +kernel
theorem dX5_cycleOf_5 : decode cX5_cycleOf 5 = .ok (.ifCond .eq 12, 3) := by decide +kernel
theorem dX5_cycleOf_8 : decode cX5_cycleOf 8 = .ok (.aload_n 0, 1) := by decide +kernel
theorem dX5_cycleOf_9 : decode cX5_cycleOf 9 = .ok (.getfield 9, 3) := by decide +kernel
theorem dX5_cycleOf_12 : decode cX5_cycleOf 12 = .ok (.iload_n 1, 1) := by decide +kernel
theorem dX5_cycleOf_13 : decode cX5_cycleOf 13 = .ok (.iaload, 1) := by decide +kernel
theorem dX5_cycleOf_14 : decode cX5_cycleOf 14 = .ok (.goto 4, 3) := by decide +kernel
theorem dX5_cycleOf_17 : decode cX5_cycleOf 17 = .ok (.iconst 0, 1) := by decide +kernel
theorem dX5_cycleOf_18 : decode cX5_cycleOf 18 = .ok (.ireturn, 1) := by decide +kernel
theorem dX5_offsetOf_0 : decode cX5_offsetOf 0 = .ok (.aload_n 0, 1) := by decide +kernel
theorem dX5_offsetOf_1 : decode cX5_offsetOf 1 = .ok (.iload_n 1, 1) := by decide +kernel
theorem dX5_offsetOf_2 : decode cX5_offsetOf 2 = .ok (.invokevirtual 21, 3) := by decide +kernel
theorem dX5_offsetOf_5 : decode cX5_offsetOf 5 = .ok (.ifCond .eq 12, 3) := by decide +kernel
theorem dX5_offsetOf_8 : decode cX5_offsetOf 8 = .ok (.aload_n 0, 1) := by decide +kernel
theorem dX5_offsetOf_9 : decode cX5_offsetOf 9 = .ok (.getfield 15, 3) := by decide +kernel
theorem dX5_offsetOf_12 : decode cX5_offsetOf 12 = .ok (.iload_n 1, 1) := by decide +kernel
theorem dX5_offsetOf_13 : decode cX5_offsetOf 13 = .ok (.iaload, 1) := by decide +kernel
theorem dX5_offsetOf_14 : decode cX5_offsetOf 14 = .ok (.goto 4, 3) := by decide +kernel
theorem dX5_offsetOf_17 : decode cX5_offsetOf 17 = .ok (.iconst 0, 1) := by decide +kernel
theorem dX5_offsetOf_18 : decode cX5_offsetOf 18 = .ok (.ireturn, 1) := by decide +kernel
theorem dX5_splitOf_0 : decode cX5_splitOf 0 = .ok (.aload_n 0, 1) := by decide +kernel
theorem dX5_splitOf_1 : decode cX5_splitOf 1 = .ok (.iload_n 1, 1) := by decide +kernel
theorem dX5_splitOf_2 : decode cX5_splitOf 2 = .ok (.invokevirtual 21, 3) := by decide +kernel
theorem dX5_splitOf_5 : decode cX5_splitOf 5 = .ok (.ifCond .eq 12, 3) := by decide +kernel
theorem dX5_splitOf_8 : decode cX5_splitOf 8 = .ok (.aload_n 0, 1) := by decide +kernel
theorem dX5_splitOf_9 : decode cX5_splitOf 9 = .ok (.getfield 18, 3) := by decide +kernel
theorem dX5_splitOf_12 : decode cX5_splitOf 12 = .ok (.iload_n 1, 1) := by decide +kernel
theorem dX5_splitOf_13 : decode cX5_splitOf 13 = .ok (.iaload, 1) := by decide +kernel
theorem dX5_splitOf_14 : decode cX5_splitOf 14 = .ok (.goto 4, 3) := by decide +kernel
theorem dX5_splitOf_17 : decode cX5_splitOf 17 = .ok (.iconst 0, 1) := by decide +kernel
theorem dX5_splitOf_18 : decode cX5_splitOf 18 = .ok (.ireturn, 1) := by decide +kernel
theorem dX6_init_0 : decode cX6_init 0 = .ok (.aload_n 0, 1) := by decide +kernel
theorem dX6_init_1 : decode cX6_init 1 = .ok (.invokespecial 3, 3) := by decide +kernel
theorem dX6_init_4 : decode cX6_init 4 = .ok (.aload_n 0, 1) := by decide +kernel
theorem dX6_init_5 : decode cX6_init 5 = .ok (.iconst (-1), 1) := by decide +kernel
theorem dX6_init_6 : decode cX6_init 6 = .ok (.putfield 9, 3) := by decide +kernel
theorem dX6_init_9 : decode cX6_init 9 = .ok (.aload_n 0, 1) := by decide +kernel
theorem dX6_init_10 : decode cX6_init 10 = .ok (.iconst (-1), 1) := by decide +kernel
theorem dX6_init_11 : decode cX6_init 11 = .ok (.putfield 15, 3) := by decide +kernel
theorem dX6_init_14 : decode cX6_init 14 = .ok (.aload_n 0, 1) := by decide +kernel
theorem dX6_init_15 : decode cX6_init 15 = .ok (.iconst (-1), 1) := by decide +kernel
theorem dX6_init_16 : decode cX6_init 16 = .ok (.putfield 18, 3) := by decide +kernel
theorem dX6_init_19 : decode cX6_init 19 = .ok (.aload_n 0, 1) := by decide +kernel
theorem dX6_init_20 : decode cX6_init 20 = .ok (.iconst 0, 1) := by decide +kernel
theorem dX6_init_21 : decode cX6_init 21 = .ok (.putfield 21, 3) := by decide +kernel
theorem dX6_init_24 : decode cX6_init 24 = .ok (.aload_n 0, 1) := by decide +kernel
theorem dX6_init_25 : decode cX6_init 25 = .ok (.iconst 0, 1) := by decide +kernel
theorem dX6_init_26 : decode cX6_init 26 = .ok (.putfield 25, 3) := by decide +kernel
theorem dX6_init_29 : decode cX6_init 29 = .ok (.aload_n 0, 1) := by decide +kernel
theorem dX6_init_30 : decode cX6_init 30 = .ok (.iconst 0, 1) := by decide +kernel
theorem dX6_init_31 : decode cX6_init 31 = .ok (.putfield 28, 3) := by decide +kernel
theorem dX6_init_34 : decode cX6_init 34 = .ok (.aload_n 0, 1) := by decide +kernel
theorem dX6_init_35 : decode cX6_init 35 = .ok (.iconst 0, 1) := by decide +kernel
theorem dX6_init_36 : decode cX6_init 36 = .ok (.putfield 31, 3) := by decide +kernel
theorem dX6_init_39 : decode cX6_init 39 = .ok (.aload_n 0, 1) := by decide +kernel
theorem dX6_init_40 : decode cX6_init 40 = .ok (.iconst 0, 1) := by decide +kernel
theorem dX6_init_41 : decode cX6_init 41 = .ok (.putfield 34, 3) := by decide +kernel
theorem dX6_init_44 : decode cX6_init 44 = .ok (.aload_n 0, 1) := by decide +kernel
theorem dX6_init_45 : decode cX6_init 45 = .ok (.iconst 0, 1) := by decide +kernel
theorem dX6_init_46 : decode cX6_init 46 = .ok (.putfield 37, 3) := by decide +kernel
theorem dX6_init_49 : decode cX6_init 49 = .ok (.aload_n 0, 1) := by decide +kernel
theorem dX6_init_50 : decode cX6_init 50 = .ok (.iconst 0, 1) := by decide +kernel
theorem dX6_init_51 : decode cX6_init 51 = .ok (.putfield 40, 3) := by decide +kernel
theorem dX6_init_54 : decode cX6_init 54 = .ok (.return_, 1) := by decide +kernel
theorem dX6_waits_0 : decode cX6_waits 0 = .ok (.aload_n 0, 1) := by decide +kernel
theorem dX6_waits_1 : decode cX6_waits 1 = .ok (.getfield 9, 3) := by decide +kernel
theorem dX6_waits_4 : decode cX6_waits 4 = .ok (.iconst (-1), 1) := by decide +kernel
theorem dX6_waits_5 : decode cX6_waits 5 = .ok (.if_icmp .ne 7, 3) := by decide +kernel
theorem dX6_waits_8 : decode cX6_waits 8 = .ok (.iconst 1, 1) := by decide +kernel
theorem dX6_waits_9 : decode cX6_waits 9 = .ok (.goto 4, 3) := by decide +kernel
theorem dX6_waits_12 : decode cX6_waits 12 = .ok (.iconst 0, 1) := by decide +kernel
theorem dX6_waits_13 : decode cX6_waits 13 = .ok (.ireturn, 1) := by decide +kernel
theorem dX6_isGreen_0 : decode cX6_isGreen 0 = .ok (.aload_n 0, 1) := by decide +kernel
theorem dX6_isGreen_1 : decode cX6_isGreen 1 = .ok (.getfield 25, 3) := by decide +kernel
theorem dX6_isGreen_4 : decode cX6_isGreen 4 = .ok (.iconst 4, 1) := by decide +kernel
theorem dX6_isGreen_5 : decode cX6_isGreen 5 = .ok (.if_icmp .ne 7, 3) := by decide +kernel
theorem dX6_isGreen_8 : decode cX6_isGreen 8 = .ok (.iconst 1, 1) := by decide +kernel
theorem dX6_isGreen_9 : decode cX6_isGreen 9 = .ok (.goto 4, 3) := by decide +kernel
theorem dX6_isGreen_12 : decode cX6_isGreen 12 = .ok (.iconst 0, 1) := by decide +kernel
theorem dX6_isGreen_13 : decode cX6_isGreen 13 = .ok (.ireturn, 1) := by decide +kernel
theorem dX6_mayEnd_0 : decode cX6_mayEnd 0 = .ok (.aload_n 0, 1) := by decide +kernel
theorem dX6_mayEnd_1 : decode cX6_mayEnd 1 = .ok (.getfield 25, 3) := by decide +kernel
theorem dX6_mayEnd_4 : decode cX6_mayEnd 4 = .ok (.iconst 4, 1) := by decide +kernel
theorem dX6_mayEnd_5 : decode cX6_mayEnd 5 = .ok (.if_icmp .ne 22, 3) := by decide +kernel
theorem dX6_mayEnd_8 : decode cX6_mayEnd 8 = .ok (.aload_n 0, 1) := by decide +kernel
theorem dX6_mayEnd_9 : decode cX6_mayEnd 9 = .ok (.getfield 37, 3) := by decide +kernel
theorem dX6_mayEnd_12 : decode cX6_mayEnd 12 = .ok (.ifCond .ne 15, 3) := by decide +kernel
theorem dX6_mayEnd_15 : decode cX6_mayEnd 15 = .ok (.aload_n 0, 1) := by decide +kernel
theorem dX6_mayEnd_16 : decode cX6_mayEnd 16 = .ok (.getfield 28, 3) := by decide +kernel
theorem dX6_mayEnd_19 : decode cX6_mayEnd 19 = .ok (.iload_n 1, 1) := by decide +kernel
theorem dX6_mayEnd_20 : decode cX6_mayEnd 20 = .ok (.if_icmp .lt 7, 3) := by decide +kernel
theorem dX6_mayEnd_23 : decode cX6_mayEnd 23 = .ok (.iconst 1, 1) := by decide +kernel
theorem dX6_mayEnd_24 : decode cX6_mayEnd 24 = .ok (.goto 4, 3) := by decide +kernel
theorem dX6_mayEnd_27 : decode cX6_mayEnd 27 = .ok (.iconst 0, 1) := by decide +kernel
theorem dX6_mayEnd_28 : decode cX6_mayEnd 28 = .ok (.ireturn, 1) := by decide +kernel
theorem dX6_greenPhase_0 : decode cX6_greenPhase 0 = .ok (.aload_n 0, 1) := by decide +kernel
theorem dX6_greenPhase_1 : decode cX6_greenPhase 1 = .ok (.getfield 25, 3) := by decide +kernel
theorem dX6_greenPhase_4 : decode cX6_greenPhase 4 = .ok (.iconst 4, 1) := by decide +kernel
theorem dX6_greenPhase_5 : decode cX6_greenPhase 5 = .ok (.if_icmp .ne 13, 3) := by decide +kernel
theorem dX6_greenPhase_8 : decode cX6_greenPhase 8 = .ok (.aload_n 0, 1) := by decide +kernel
theorem dX6_greenPhase_9 : decode cX6_greenPhase 9 = .ok (.getfield 9, 3) := by decide +kernel
theorem dX6_greenPhase_12 : decode cX6_greenPhase 12 = .ok (.invokestatic 43, 3) := by decide +kernel
theorem dX6_greenPhase_15 : decode cX6_greenPhase 15 = .ok (.goto 4, 3) := by decide +kernel
theorem dX6_greenPhase_18 : decode cX6_greenPhase 18 = .ok (.iconst 0, 1) := by decide +kernel
theorem dX6_greenPhase_19 : decode cX6_greenPhase 19 = .ok (.ireturn, 1) := by decide +kernel
theorem dX6_phaseBefore_0 : decode cX6_phaseBefore 0 = .ok (.aload_n 0, 1) := by decide +kernel
theorem dX6_phaseBefore_1 : decode cX6_phaseBefore 1 = .ok (.invokevirtual 47, 3) := by decide +kernel
theorem dX6_phaseBefore_4 : decode cX6_phaseBefore 4 = .ok (.ifCond .ne 12, 3) := by decide +kernel
theorem dX6_phaseBefore_7 : decode cX6_phaseBefore 7 = .ok (.aload_n 0, 1) := by decide +kernel
theorem dX6_phaseBefore_8 : decode cX6_phaseBefore 8 = .ok (.getfield 9, 3) := by decide +kernel
theorem dX6_phaseBefore_11 : decode cX6_phaseBefore 11 = .ok (.iconst 2, 1) := by decide +kernel
theorem dX6_phaseBefore_12 : decode cX6_phaseBefore 12 = .ok (.irem, 1) := by decide +kernel
theorem dX6_phaseBefore_13 : decode cX6_phaseBefore 13 = .ok (.ifCond .ne 7, 3) := by decide +kernel
theorem dX6_phaseBefore_16 : decode cX6_phaseBefore 16 = .ok (.iconst 0, 1) := by decide +kernel
theorem dX6_phaseBefore_17 : decode cX6_phaseBefore 17 = .ok (.goto 12, 3) := by decide +kernel
theorem dX6_phaseBefore_20 : decode cX6_phaseBefore 20 = .ok (.aload_n 0, 1) := by decide +kernel
theorem dX6_phaseBefore_21 : decode cX6_phaseBefore 21 = .ok (.getfield 9, 3) := by decide +kernel
theorem dX6_phaseBefore_24 : decode cX6_phaseBefore 24 = .ok (.iconst 1, 1) := by decide +kernel
theorem dX6_phaseBefore_25 : decode cX6_phaseBefore 25 = .ok (.isub, 1) := by decide +kernel
theorem dX6_phaseBefore_26 : decode cX6_phaseBefore 26 = .ok (.invokestatic 43, 3) := by decide +kernel
theorem dX6_phaseBefore_29 : decode cX6_phaseBefore 29 = .ok (.ireturn, 1) := by decide +kernel
theorem dX6_phaseBehind_0 : decode cX6_phaseBehind 0 = .ok (.aload_n 0, 1) := by decide +kernel
theorem dX6_phaseBehind_1 : decode cX6_phaseBehind 1 = .ok (.invokevirtual 47, 3) := by decide +kernel
theorem dX6_phaseBehind_4 : decode cX6_phaseBehind 4 = .ok (.ifCond .ne 12, 3) := by decide +kernel
theorem dX6_phaseBehind_7 : decode cX6_phaseBehind 7 = .ok (.aload_n 0, 1) := by decide +kernel
theorem dX6_phaseBehind_8 : decode cX6_phaseBehind 8 = .ok (.getfield 9, 3) := by decide +kernel
theorem dX6_phaseBehind_11 : decode cX6_phaseBehind 11 = .ok (.iconst 2, 1) := by decide +kernel
theorem dX6_phaseBehind_12 : decode cX6_phaseBehind 12 = .ok (.irem, 1) := by decide +kernel
theorem dX6_phaseBehind_13 : decode cX6_phaseBehind 13 = .ok (.ifCond .eq 7, 3) := by decide +kernel
theorem dX6_phaseBehind_16 : decode cX6_phaseBehind 16 = .ok (.iconst 0, 1) := by decide +kernel
theorem dX6_phaseBehind_17 : decode cX6_phaseBehind 17 = .ok (.goto 12, 3) := by decide +kernel
theorem dX6_phaseBehind_20 : decode cX6_phaseBehind 20 = .ok (.aload_n 0, 1) := by decide +kernel
theorem dX6_phaseBehind_21 : decode cX6_phaseBehind 21 = .ok (.getfield 9, 3) := by decide +kernel
theorem dX6_phaseBehind_24 : decode cX6_phaseBehind 24 = .ok (.iconst 1, 1) := by decide +kernel
theorem dX6_phaseBehind_25 : decode cX6_phaseBehind 25 = .ok (.iadd, 1) := by decide +kernel
theorem dX6_phaseBehind_26 : decode cX6_phaseBehind 26 = .ok (.invokestatic 43, 3) := by decide +kernel
theorem dX6_phaseBehind_29 : decode cX6_phaseBehind 29 = .ok (.ireturn, 1) := by decide +kernel
theorem dX6_rest_0 : decode cX6_rest 0 = .ok (.aload_n 0, 1) := by decide +kernel
theorem dX6_rest_1 : decode cX6_rest 1 = .ok (.iconst (-1), 1) := by decide +kernel
theorem dX6_rest_2 : decode cX6_rest 2 = .ok (.putfield 9, 3) := by decide +kernel
theorem dX6_rest_5 : decode cX6_rest 5 = .ok (.aload_n 0, 1) := by decide +kernel
theorem dX6_rest_6 : decode cX6_rest 6 = .ok (.iconst (-1), 1) := by decide +kernel
theorem dX6_rest_7 : decode cX6_rest 7 = .ok (.putfield 15, 3) := by decide +kernel
theorem dX6_rest_10 : decode cX6_rest 10 = .ok (.aload_n 0, 1) := by decide +kernel
theorem dX6_rest_11 : decode cX6_rest 11 = .ok (.iconst 0, 1) := by decide +kernel
theorem dX6_rest_12 : decode cX6_rest 12 = .ok (.putfield 25, 3) := by decide +kernel
theorem dX6_rest_15 : decode cX6_rest 15 = .ok (.aload_n 0, 1) := by decide +kernel
theorem dX6_rest_16 : decode cX6_rest 16 = .ok (.iconst 0, 1) := by decide +kernel
theorem dX6_rest_17 : decode cX6_rest 17 = .ok (.putfield 37, 3) := by decide +kernel
theorem dX6_rest_20 : decode cX6_rest 20 = .ok (.return_, 1) := by decide +kernel
theorem dX6_begin_0 : decode cX6_begin 0 = .ok (.aload_n 0, 1) := by decide +kernel
theorem dX6_begin_1 : decode cX6_begin 1 = .ok (.iload_n 1, 1) := by decide +kernel
theorem dX6_begin_2 : decode cX6_begin 2 = .ok (.putfield 9, 3) := by decide +kernel
theorem dX6_begin_5 : decode cX6_begin 5 = .ok (.aload_n 0, 1) := by decide +kernel
theorem dX6_begin_6 : decode cX6_begin 6 = .ok (.iconst (-1), 1) := by decide +kernel
theorem dX6_begin_7 : decode cX6_begin 7 = .ok (.putfield 15, 3) := by decide +kernel
theorem dX6_begin_10 : decode cX6_begin 10 = .ok (.aload_n 0, 1) := by decide +kernel
theorem dX6_begin_11 : decode cX6_begin 11 = .ok (.iconst 0, 1) := by decide +kernel
theorem dX6_begin_12 : decode cX6_begin 12 = .ok (.putfield 31, 3) := by decide +kernel
theorem dX6_begin_15 : decode cX6_begin 15 = .ok (.aload_n 0, 1) := by decide +kernel
theorem dX6_begin_16 : decode cX6_begin 16 = .ok (.iload_n 2, 1) := by decide +kernel
theorem dX6_begin_17 : decode cX6_begin 17 = .ok (.putfield 34, 3) := by decide +kernel
theorem dX6_begin_20 : decode cX6_begin 20 = .ok (.aload_n 0, 1) := by decide +kernel
theorem dX6_begin_21 : decode cX6_begin 21 = .ok (.iconst 0, 1) := by decide +kernel
theorem dX6_begin_22 : decode cX6_begin 22 = .ok (.putfield 37, 3) := by decide +kernel
theorem dX6_begin_25 : decode cX6_begin 25 = .ok (.aload_n 0, 1) := by decide +kernel
theorem dX6_begin_26 : decode cX6_begin 26 = .ok (.iconst 4, 1) := by decide +kernel
theorem dX6_begin_27 : decode cX6_begin 27 = .ok (.invokevirtual 51, 3) := by decide +kernel
theorem dX6_begin_30 : decode cX6_begin 30 = .ok (.return_, 1) := by decide +kernel
theorem dX6_turnYellow_0 : decode cX6_turnYellow 0 = .ok (.aload_n 0, 1) := by decide +kernel
theorem dX6_turnYellow_1 : decode cX6_turnYellow 1 = .ok (.iload_n 1, 1) := by decide +kernel
theorem dX6_turnYellow_2 : decode cX6_turnYellow 2 = .ok (.putfield 15, 3) := by decide +kernel
theorem dX6_turnYellow_5 : decode cX6_turnYellow 5 = .ok (.aload_n 0, 1) := by decide +kernel
theorem dX6_turnYellow_6 : decode cX6_turnYellow 6 = .ok (.iconst 2, 1) := by decide +kernel
theorem dX6_turnYellow_7 : decode cX6_turnYellow 7 = .ok (.invokevirtual 51, 3) := by decide +kernel
theorem dX6_turnYellow_10 : decode cX6_turnYellow 10 = .ok (.return_, 1) := by decide +kernel
theorem dX6_show_0 : decode cX6_show 0 = .ok (.aload_n 0, 1) := by decide +kernel
theorem dX6_show_1 : decode cX6_show 1 = .ok (.iload_n 1, 1) := by decide +kernel
theorem dX6_show_2 : decode cX6_show 2 = .ok (.putfield 25, 3) := by decide +kernel
theorem dX6_show_5 : decode cX6_show 5 = .ok (.aload_n 0, 1) := by decide +kernel
theorem dX6_show_6 : decode cX6_show 6 = .ok (.iconst 0, 1) := by decide +kernel
theorem dX6_show_7 : decode cX6_show 7 = .ok (.putfield 28, 3) := by decide +kernel
theorem dX6_show_10 : decode cX6_show 10 = .ok (.return_, 1) := by decide +kernel
theorem dX6_beginWalk_0 : decode cX6_beginWalk 0 = .ok (.aload_n 0, 1) := by decide +kernel
theorem dX6_beginWalk_1 : decode cX6_beginWalk 1 = .ok (.iconst 4, 1) := by decide +kernel
theorem dX6_beginWalk_2 : decode cX6_beginWalk 2 = .ok (.putfield 37, 3) := by decide +kernel
theorem dX6_beginWalk_5 : decode cX6_beginWalk 5 = .ok (.aload_n 0, 1) := by decide +kernel
theorem dX6_beginWalk_6 : decode cX6_beginWalk 6 = .ok (.iconst 0, 1) := by decide +kernel
theorem dX6_beginWalk_7 : decode cX6_beginWalk 7 = .ok (.putfield 40, 3) := by decide +kernel
theorem dX6_beginWalk_10 : decode cX6_beginWalk 10 = .ok (.return_, 1) := by decide +kernel
theorem dX6_beginClear_0 : decode cX6_beginClear 0 = .ok (.aload_n 0, 1) := by decide +kernel
theorem dX6_beginClear_1 : decode cX6_beginClear 1 = .ok (.bipush 8, 2) := by decide +kernel
theorem dX6_beginClear_3 : decode cX6_beginClear 3 = .ok (.putfield 37, 3) := by decide +kernel
theorem dX6_beginClear_6 : decode cX6_beginClear 6 = .ok (.aload_n 0, 1) := by decide +kernel
theorem dX6_beginClear_7 : decode cX6_beginClear 7 = .ok (.iconst 0, 1) := by decide +kernel
theorem dX6_beginClear_8 : decode cX6_beginClear 8 = .ok (.putfield 40, 3) := by decide +kernel
theorem dX6_beginClear_11 : decode cX6_beginClear 11 = .ok (.return_, 1) := by decide +kernel
theorem dX6_passWalk_0 : decode cX6_passWalk 0 = .ok (.aload_n 0, 1) := by decide +kernel
theorem dX6_passWalk_1 : decode cX6_passWalk 1 = .ok (.dup, 1) := by decide +kernel
theorem dX6_passWalk_2 : decode cX6_passWalk 2 = .ok (.getfield 40, 3) := by decide +kernel
theorem dX6_passWalk_5 : decode cX6_passWalk 5 = .ok (.iconst 1, 1) := by decide +kernel
theorem dX6_passWalk_6 : decode cX6_passWalk 6 = .ok (.iadd, 1) := by decide +kernel
theorem dX6_passWalk_7 : decode cX6_passWalk 7 = .ok (.putfield 40, 3) := by decide +kernel
theorem dX6_passWalk_10 : decode cX6_passWalk 10 = .ok (.aload_n 0, 1) := by decide +kernel
theorem dX6_passWalk_11 : decode cX6_passWalk 11 = .ok (.getfield 37, 3) := by decide +kernel
theorem dX6_passWalk_14 : decode cX6_passWalk 14 = .ok (.iconst 4, 1) := by decide +kernel
theorem dX6_passWalk_15 : decode cX6_passWalk 15 = .ok (.if_icmp .ne 18, 3) := by decide +kernel
theorem dX6_passWalk_18 : decode cX6_passWalk 18 = .ok (.aload_n 0, 1) := by decide +kernel
theorem dX6_passWalk_19 : decode cX6_passWalk 19 = .ok (.getfield 40, 3) := by decide +kernel
theorem dX6_passWalk_22 : decode cX6_passWalk 22 = .ok (.iload_n 1, 1) := by decide +kernel
theorem dX6_passWalk_23 : decode cX6_passWalk 23 = .ok (.if_icmp .lt 10, 3) := by decide +kernel
theorem dX6_passWalk_26 : decode cX6_passWalk 26 = .ok (.aload_n 0, 1) := by decide +kernel
theorem dX6_passWalk_27 : decode cX6_passWalk 27 = .ok (.invokevirtual 55, 3) := by decide +kernel
theorem dX6_passWalk_30 : decode cX6_passWalk 30 = .ok (.goto 25, 3) := by decide +kernel
theorem dX6_passWalk_33 : decode cX6_passWalk 33 = .ok (.aload_n 0, 1) := by decide +kernel
theorem dX6_passWalk_34 : decode cX6_passWalk 34 = .ok (.getfield 37, 3) := by decide +kernel
theorem dX6_passWalk_37 : decode cX6_passWalk 37 = .ok (.bipush 8, 2) := by decide +kernel
theorem dX6_passWalk_39 : decode cX6_passWalk 39 = .ok (.if_icmp .ne 16, 3) := by decide +kernel
theorem dX6_passWalk_42 : decode cX6_passWalk 42 = .ok (.aload_n 0, 1) := by decide +kernel
theorem dX6_passWalk_43 : decode cX6_passWalk 43 = .ok (.getfield 40, 3) := by decide +kernel
theorem dX6_passWalk_46 : decode cX6_passWalk 46 = .ok (.iload_n 2, 1) := by decide +kernel
theorem dX6_passWalk_47 : decode cX6_passWalk 47 = .ok (.if_icmp .lt 8, 3) := by decide +kernel
theorem dX6_passWalk_50 : decode cX6_passWalk 50 = .ok (.aload_n 0, 1) := by decide +kernel
theorem dX6_passWalk_51 : decode cX6_passWalk 51 = .ok (.iconst 0, 1) := by decide +kernel
theorem dX6_passWalk_52 : decode cX6_passWalk 52 = .ok (.putfield 37, 3) := by decide +kernel
theorem dX6_passWalk_55 : decode cX6_passWalk 55 = .ok (.return_, 1) := by decide +kernel
theorem dX7_init_0 : decode cX7_init 0 = .ok (.aload_n 0, 1) := by decide +kernel
theorem dX7_init_1 : decode cX7_init 1 = .ok (.invokespecial 3, 3) := by decide +kernel
theorem dX7_init_4 : decode cX7_init 4 = .ok (.aload_n 0, 1) := by decide +kernel
theorem dX7_init_5 : decode cX7_init 5 = .ok (.bipush 64, 2) := by decide +kernel
theorem dX7_init_7 : decode cX7_init 7 = .ok (.newarray .int, 2) := by decide +kernel
theorem dX7_init_9 : decode cX7_init 9 = .ok (.putfield 9, 3) := by decide +kernel
theorem dX7_init_12 : decode cX7_init 12 = .ok (.return_, 1) := by decide +kernel
theorem dX7_at_0 : decode cX7_at 0 = .ok (.iload_n 1, 1) := by decide +kernel
theorem dX7_at_1 : decode cX7_at 1 = .ok (.bipush 8, 2) := by decide +kernel
theorem dX7_at_3 : decode cX7_at 3 = .ok (.imul, 1) := by decide +kernel
theorem dX7_at_4 : decode cX7_at 4 = .ok (.iload_n 2, 1) := by decide +kernel
theorem dX7_at_5 : decode cX7_at 5 = .ok (.iadd, 1) := by decide +kernel
theorem dX7_at_6 : decode cX7_at 6 = .ok (.istore_n 3, 1) := by decide +kernel
theorem dX7_at_7 : decode cX7_at 7 = .ok (.iload_n 3, 1) := by decide +kernel
theorem dX7_at_8 : decode cX7_at 8 = .ok (.ifCond .lt 21, 3) := by decide +kernel
theorem dX7_at_11 : decode cX7_at 11 = .ok (.iload_n 3, 1) := by decide +kernel
theorem dX7_at_12 : decode cX7_at 12 = .ok (.aload_n 0, 1) := by decide +kernel
theorem dX7_at_13 : decode cX7_at 13 = .ok (.getfield 9, 3) := by decide +kernel
theorem dX7_at_16 : decode cX7_at 16 = .ok (.arraylength, 1) := by decide +kernel
theorem dX7_at_17 : decode cX7_at 17 = .ok (.if_icmp .ge 12, 3) := by decide +kernel
theorem dX7_at_20 : decode cX7_at 20 = .ok (.aload_n 0, 1) := by decide +kernel
theorem dX7_at_21 : decode cX7_at 21 = .ok (.getfield 9, 3) := by decide +kernel
theorem dX7_at_24 : decode cX7_at 24 = .ok (.iload_n 3, 1) := by decide +kernel
theorem dX7_at_25 : decode cX7_at 25 = .ok (.iaload, 1) := by decide +kernel
theorem dX7_at_26 : decode cX7_at 26 = .ok (.goto 4, 3) := by decide +kernel
theorem dX7_at_29 : decode cX7_at 29 = .ok (.iconst 0, 1) := by decide +kernel
theorem dX7_at_30 : decode cX7_at 30 = .ok (.ireturn, 1) := by decide +kernel
theorem dX7_write_0 : decode cX7_write 0 = .ok (.iload_n 1, 1) := by decide +kernel
theorem dX7_write_1 : decode cX7_write 1 = .ok (.bipush 8, 2) := by decide +kernel
theorem dX7_write_3 : decode cX7_write 3 = .ok (.imul, 1) := by decide +kernel
theorem dX7_write_4 : decode cX7_write 4 = .ok (.iload_n 2, 1) := by decide +kernel
theorem dX7_write_5 : decode cX7_write 5 = .ok (.iadd, 1) := by decide +kernel
theorem dX7_write_6 : decode cX7_write 6 = .ok (.istore 4, 2) := by decide +kernel
theorem dX7_write_8 : decode cX7_write 8 = .ok (.iload 4, 2) := by decide +kernel
theorem dX7_write_10 : decode cX7_write 10 = .ok (.ifCond .lt 21, 3) := by decide +kernel
theorem dX7_write_13 : decode cX7_write 13 = .ok (.iload 4, 2) := by decide +kernel
theorem dX7_write_15 : decode cX7_write 15 = .ok (.aload_n 0, 1) := by decide +kernel
theorem dX7_write_16 : decode cX7_write 16 = .ok (.getfield 9, 3) := by decide +kernel
theorem dX7_write_19 : decode cX7_write 19 = .ok (.arraylength, 1) := by decide +kernel
theorem dX7_write_20 : decode cX7_write 20 = .ok (.if_icmp .ge 11, 3) := by decide +kernel
theorem dX7_write_23 : decode cX7_write 23 = .ok (.aload_n 0, 1) := by decide +kernel
theorem dX7_write_24 : decode cX7_write 24 = .ok (.getfield 9, 3) := by decide +kernel
theorem dX7_write_27 : decode cX7_write 27 = .ok (.iload 4, 2) := by decide +kernel
theorem dX7_write_29 : decode cX7_write 29 = .ok (.iload_n 3, 1) := by decide +kernel
theorem dX7_write_30 : decode cX7_write 30 = .ok (.iastore, 1) := by decide +kernel
theorem dX7_write_31 : decode cX7_write 31 = .ok (.return_, 1) := by decide +kernel
theorem dX7_copyFrom_0 : decode cX7_copyFrom 0 = .ok (.aload_n 1, 1) := by decide +kernel
theorem dX7_copyFrom_1 : decode cX7_copyFrom 1 = .ok (.getfield 9, 3) := by decide +kernel
theorem dX7_copyFrom_4 : decode cX7_copyFrom 4 = .ok (.iconst 0, 1) := by decide +kernel
theorem dX7_copyFrom_5 : decode cX7_copyFrom 5 = .ok (.aload_n 0, 1) := by decide +kernel
theorem dX7_copyFrom_6 : decode cX7_copyFrom 6 = .ok (.getfield 9, 3) := by decide +kernel
theorem dX7_copyFrom_9 : decode cX7_copyFrom 9 = .ok (.iconst 0, 1) := by decide +kernel
theorem dX7_copyFrom_10 : decode cX7_copyFrom 10 = .ok (.aload_n 0, 1) := by decide +kernel
theorem dX7_copyFrom_11 : decode cX7_copyFrom 11 = .ok (.getfield 9, 3) := by decide +kernel
theorem dX7_copyFrom_14 : decode cX7_copyFrom 14 = .ok (.arraylength, 1) := by decide +kernel
theorem dX7_copyFrom_15 : decode cX7_copyFrom 15 = .ok (.invokestatic 15, 3) := by decide +kernel
theorem dX7_copyFrom_18 : decode cX7_copyFrom 18 = .ok (.return_, 1) := by decide +kernel
theorem dX7_isUsed_0 : decode cX7_isUsed 0 = .ok (.aload_n 0, 1) := by decide +kernel
theorem dX7_isUsed_1 : decode cX7_isUsed 1 = .ok (.iload_n 1, 1) := by decide +kernel
theorem dX7_isUsed_2 : decode cX7_isUsed 2 = .ok (.iconst 0, 1) := by decide +kernel
theorem dX7_isUsed_3 : decode cX7_isUsed 3 = .ok (.invokevirtual 21, 3) := by decide +kernel
theorem dX7_isUsed_6 : decode cX7_isUsed 6 = .ok (.ifCond .eq 7, 3) := by decide +kernel
theorem dX7_isUsed_9 : decode cX7_isUsed 9 = .ok (.iconst 1, 1) := by decide +kernel
theorem dX7_isUsed_10 : decode cX7_isUsed 10 = .ok (.goto 4, 3) := by decide +kernel
theorem dX7_isUsed_13 : decode cX7_isUsed 13 = .ok (.iconst 0, 1) := by decide +kernel
theorem dX7_isUsed_14 : decode cX7_isUsed 14 = .ok (.ireturn, 1) := by decide +kernel
theorem dX7_used_0 : decode cX7_used 0 = .ok (.iconst 0, 1) := by decide +kernel
theorem dX7_used_1 : decode cX7_used 1 = .ok (.istore_n 1, 1) := by decide +kernel
theorem dX7_used_2 : decode cX7_used 2 = .ok (.iconst 0, 1) := by decide +kernel
theorem dX7_used_3 : decode cX7_used 3 = .ok (.istore_n 2, 1) := by decide +kernel
theorem dX7_used_4 : decode cX7_used 4 = .ok (.iload_n 2, 1) := by decide +kernel
theorem dX7_used_5 : decode cX7_used 5 = .ok (.bipush 8, 2) := by decide +kernel
theorem dX7_used_7 : decode cX7_used 7 = .ok (.if_icmp .ge 24, 3) := by decide +kernel
theorem dX7_used_10 : decode cX7_used 10 = .ok (.aload_n 0, 1) := by decide +kernel
theorem dX7_used_11 : decode cX7_used 11 = .ok (.iload_n 2, 1) := by decide +kernel
theorem dX7_used_12 : decode cX7_used 12 = .ok (.invokevirtual 25, 3) := by decide +kernel
theorem dX7_used_15 : decode cX7_used 15 = .ok (.ifCond .eq 10, 3) := by decide +kernel
theorem dX7_used_18 : decode cX7_used 18 = .ok (.iload_n 1, 1) := by decide +kernel
theorem dX7_used_19 : decode cX7_used 19 = .ok (.iload_n 2, 1) := by decide +kernel
theorem dX7_used_20 : decode cX7_used 20 = .ok (.invokestatic 29, 3) := by decide +kernel
theorem dX7_used_23 : decode cX7_used 23 = .ok (.ior, 1) := by decide +kernel
theorem dX7_used_24 : decode cX7_used 24 = .ok (.istore_n 1, 1) := by decide +kernel
theorem dX7_used_25 : decode cX7_used 25 = .ok (.iinc 2 1, 3) := by decide +kernel
theorem dX7_used_28 : decode cX7_used 28 = .ok (.goto (-24), 3) := by decide +kernel
theorem dX7_used_31 : decode cX7_used 31 = .ok (.iload_n 1, 1) := by decide +kernel
theorem dX7_used_32 : decode cX7_used 32 = .ok (.ireturn, 1) := by decide +kernel
theorem dX7_wrongPlace_0 : decode cX7_wrongPlace 0 = .ok (.iconst 0, 1) := by decide +kernel
theorem dX7_wrongPlace_1 : decode cX7_wrongPlace 1 = .ok (.istore_n 1, 1) := by decide +kernel
theorem dX7_wrongPlace_2 : decode cX7_wrongPlace 2 = .ok (.iload_n 1, 1) := by decide +kernel
theorem dX7_wrongPlace_3 : decode cX7_wrongPlace 3 = .ok (.bipush 8, 2) := by decide +kernel
theorem dX7_wrongPlace_5 : decode cX7_wrongPlace 5 = .ok (.if_icmp .ge 47, 3) := by decide +kernel
theorem dX7_wrongPlace_8 : decode cX7_wrongPlace 8 = .ok (.iconst 0, 1) := by decide +kernel
theorem dX7_wrongPlace_9 : decode cX7_wrongPlace 9 = .ok (.istore_n 2, 1) := by decide +kernel
theorem dX7_wrongPlace_10 : decode cX7_wrongPlace 10 = .ok (.iload_n 2, 1) := by decide +kernel
theorem dX7_wrongPlace_11 : decode cX7_wrongPlace 11 = .ok (.bipush 8, 2) := by decide +kernel
theorem dX7_wrongPlace_13 : decode cX7_wrongPlace 13 = .ok (.if_icmp .ge 33, 3) := by decide +kernel
theorem dX7_wrongPlace_16 : decode cX7_wrongPlace 16 = .ok (.aload_n 0, 1) := by decide +kernel
theorem dX7_wrongPlace_17 : decode cX7_wrongPlace 17 = .ok (.iload_n 1, 1) := by decide +kernel
theorem dX7_wrongPlace_18 : decode cX7_wrongPlace 18 = .ok (.invokevirtual 25, 3) := by decide +kernel
theorem dX7_wrongPlace_21 : decode cX7_wrongPlace 21 = .ok (.ifCond .eq 19, 3) := by decide +kernel
theorem dX7_wrongPlace_24 : decode cX7_wrongPlace 24 = .ok (.aload_n 0, 1) := by decide +kernel
theorem dX7_wrongPlace_25 : decode cX7_wrongPlace 25 = .ok (.iload_n 1, 1) := by decide +kernel
theorem dX7_wrongPlace_26 : decode cX7_wrongPlace 26 = .ok (.iload_n 2, 1) := by decide +kernel
theorem dX7_wrongPlace_27 : decode cX7_wrongPlace 27 = .ok (.invokevirtual 33, 3) := by decide +kernel
theorem dX7_wrongPlace_30 : decode cX7_wrongPlace 30 = .ok (.ifCond .ne 10, 3) := by decide +kernel
theorem dX7_wrongPlace_33 : decode cX7_wrongPlace 33 = .ok (.iload_n 1, 1) := by decide +kernel
theorem dX7_wrongPlace_34 : decode cX7_wrongPlace 34 = .ok (.bipush 8, 2) := by decide +kernel
theorem dX7_wrongPlace_36 : decode cX7_wrongPlace 36 = .ok (.imul, 1) := by decide +kernel
theorem dX7_wrongPlace_37 : decode cX7_wrongPlace 37 = .ok (.iload_n 2, 1) := by decide +kernel
theorem dX7_wrongPlace_38 : decode cX7_wrongPlace 38 = .ok (.iadd, 1) := by decide +kernel
theorem dX7_wrongPlace_39 : decode cX7_wrongPlace 39 = .ok (.ireturn, 1) := by decide +kernel
theorem dX7_wrongPlace_40 : decode cX7_wrongPlace 40 = .ok (.iinc 2 1, 3) := by decide +kernel
theorem dX7_wrongPlace_43 : decode cX7_wrongPlace 43 = .ok (.goto (-33), 3) := by decide +kernel
theorem dX7_wrongPlace_46 : decode cX7_wrongPlace 46 = .ok (.iinc 1 1, 3) := by decide +kernel
theorem dX7_wrongPlace_49 : decode cX7_wrongPlace 49 = .ok (.goto (-47), 3) := by decide +kernel
theorem dX7_wrongPlace_52 : decode cX7_wrongPlace 52 = .ok (.aload_n 0, 1) := by decide +kernel
theorem dX7_wrongPlace_53 : decode cX7_wrongPlace 53 = .ok (.invokevirtual 37, 3) := by decide +kernel
theorem dX7_wrongPlace_56 : decode cX7_wrongPlace 56 = .ok (.bipush 51, 2) := by decide +kernel
theorem dX7_wrongPlace_58 : decode cX7_wrongPlace 58 = .ok (.iand, 1) := by decide +kernel
theorem dX7_wrongPlace_59 : decode cX7_wrongPlace 59 = .ok (.ifCond .ne 6, 3) := by decide +kernel
theorem dX7_wrongPlace_62 : decode cX7_wrongPlace 62 = .ok (.bipush 64, 2) := by decide +kernel
theorem dX7_wrongPlace_64 : decode cX7_wrongPlace 64 = .ok (.ireturn, 1) := by decide +kernel
theorem dX7_wrongPlace_65 : decode cX7_wrongPlace 65 = .ok (.aload_n 0, 1) := by decide +kernel
theorem dX7_wrongPlace_66 : decode cX7_wrongPlace 66 = .ok (.invokevirtual 37, 3) := by decide +kernel
theorem dX7_wrongPlace_69 : decode cX7_wrongPlace 69 = .ok (.sipush 204, 3) := by decide +kernel
theorem dX7_wrongPlace_72 : decode cX7_wrongPlace 72 = .ok (.iand, 1) := by decide +kernel
theorem dX7_wrongPlace_73 : decode cX7_wrongPlace 73 = .ok (.ifCond .ne 8, 3) := by decide +kernel
theorem dX7_wrongPlace_76 : decode cX7_wrongPlace 76 = .ok (.bipush 65, 2) := by decide +kernel
theorem dX7_wrongPlace_78 : decode cX7_wrongPlace 78 = .ok (.goto 4, 3) := by decide +kernel
theorem dX7_wrongPlace_81 : decode cX7_wrongPlace 81 = .ok (.iconst (-1), 1) := by decide +kernel
theorem dX7_wrongPlace_82 : decode cX7_wrongPlace 82 = .ok (.ireturn, 1) := by decide +kernel
theorem dX7_isRight_0 : decode cX7_isRight 0 = .ok (.aload_n 0, 1) := by decide +kernel
theorem dX7_isRight_1 : decode cX7_isRight 1 = .ok (.iload_n 1, 1) := by decide +kernel
theorem dX7_isRight_2 : decode cX7_isRight 2 = .ok (.iload_n 2, 1) := by decide +kernel
theorem dX7_isRight_3 : decode cX7_isRight 3 = .ok (.invokevirtual 21, 3) := by decide +kernel
theorem dX7_isRight_6 : decode cX7_isRight 6 = .ok (.istore_n 3, 1) := by decide +kernel
theorem dX7_isRight_7 : decode cX7_isRight 7 = .ok (.aload_n 0, 1) := by decide +kernel
theorem dX7_isRight_8 : decode cX7_isRight 8 = .ok (.iload_n 1, 1) := by decide +kernel
theorem dX7_isRight_9 : decode cX7_isRight 9 = .ok (.iconst 5, 1) := by decide +kernel
theorem dX7_isRight_10 : decode cX7_isRight 10 = .ok (.invokevirtual 21, 3) := by decide +kernel
theorem dX7_isRight_13 : decode cX7_isRight 13 = .ok (.ifCond .eq 7, 3) := by decide +kernel
theorem dX7_isRight_16 : decode cX7_isRight 16 = .ok (.iconst 1, 1) := by decide +kernel
theorem dX7_isRight_17 : decode cX7_isRight 17 = .ok (.goto 4, 3) := by decide +kernel
theorem dX7_isRight_20 : decode cX7_isRight 20 = .ok (.iconst 0, 1) := by decide +kernel
theorem dX7_isRight_21 : decode cX7_isRight 21 = .ok (.istore 4, 2) := by decide +kernel
theorem dX7_isRight_23 : decode cX7_isRight 23 = .ok (.iload_n 2, 1) := by decide +kernel
theorem dX7_isRight_24 : decode cX7_isRight 24 = .ok (.tableswitch 164 0 6 #[44, 56, 68, 90, 107, 118, 130], 44) := by decide +kernel
theorem dX7_isRight_68 : decode cX7_isRight 68 = .ok (.iload_n 3, 1) := by decide +kernel
theorem dX7_isRight_69 : decode cX7_isRight 69 = .ok (.bipush 30, 2) := by decide +kernel
theorem dX7_isRight_71 : decode cX7_isRight 71 = .ok (.if_icmp .gt 7, 3) := by decide +kernel
theorem dX7_isRight_74 : decode cX7_isRight 74 = .ok (.iconst 1, 1) := by decide +kernel
theorem dX7_isRight_75 : decode cX7_isRight 75 = .ok (.goto 4, 3) := by decide +kernel
theorem dX7_isRight_78 : decode cX7_isRight 78 = .ok (.iconst 0, 1) := by decide +kernel
theorem dX7_isRight_79 : decode cX7_isRight 79 = .ok (.ireturn, 1) := by decide +kernel
theorem dX7_isRight_80 : decode cX7_isRight 80 = .ok (.iload_n 3, 1) := by decide +kernel
theorem dX7_isRight_81 : decode cX7_isRight 81 = .ok (.bipush 10, 2) := by decide +kernel
theorem dX7_isRight_83 : decode cX7_isRight 83 = .ok (.if_icmp .gt 7, 3) := by decide +kernel
theorem dX7_isRight_86 : decode cX7_isRight 86 = .ok (.iconst 1, 1) := by decide +kernel
theorem dX7_isRight_87 : decode cX7_isRight 87 = .ok (.goto 4, 3) := by decide +kernel
theorem dX7_isRight_90 : decode cX7_isRight 90 = .ok (.iconst 0, 1) := by decide +kernel
theorem dX7_isRight_91 : decode cX7_isRight 91 = .ok (.ireturn, 1) := by decide +kernel
theorem dX7_isRight_92 : decode cX7_isRight 92 = .ok (.iload_n 3, 1) := by decide +kernel
theorem dX7_isRight_93 : decode cX7_isRight 93 = .ok (.aload_n 0, 1) := by decide +kernel
theorem dX7_isRight_94 : decode cX7_isRight 94 = .ok (.iload_n 1, 1) := by decide +kernel
theorem dX7_isRight_95 : decode cX7_isRight 95 = .ok (.iconst 0, 1) := by decide +kernel
theorem dX7_isRight_96 : decode cX7_isRight 96 = .ok (.invokevirtual 21, 3) := by decide +kernel
theorem dX7_isRight_99 : decode cX7_isRight 99 = .ok (.if_icmp .lt 13, 3) := by decide +kernel
theorem dX7_isRight_102 : decode cX7_isRight 102 = .ok (.iload_n 3, 1) := by decide +kernel
theorem dX7_isRight_103 : decode cX7_isRight 103 = .ok (.bipush 60, 2) := by decide +kernel
theorem dX7_isRight_105 : decode cX7_isRight 105 = .ok (.if_icmp .gt 7, 3) := by decide +kernel
theorem dX7_isRight_108 : decode cX7_isRight 108 = .ok (.iconst 1, 1) := by decide +kernel
theorem dX7_isRight_109 : decode cX7_isRight 109 = .ok (.goto 4, 3) := by decide +kernel
theorem dX7_isRight_112 : decode cX7_isRight 112 = .ok (.iconst 0, 1) := by decide +kernel
theorem dX7_isRight_113 : decode cX7_isRight 113 = .ok (.ireturn, 1) := by decide +kernel
theorem dX7_isRight_114 : decode cX7_isRight 114 = .ok (.iload_n 3, 1) := by decide +kernel
theorem dX7_isRight_115 : decode cX7_isRight 115 = .ok (.iconst 3, 1) := by decide +kernel
theorem dX7_isRight_116 : decode cX7_isRight 116 = .ok (.if_icmp .lt 13, 3) := by decide +kernel
theorem dX7_isRight_119 : decode cX7_isRight 119 = .ok (.iload_n 3, 1) := by decide +kernel
theorem dX7_isRight_120 : decode cX7_isRight 120 = .ok (.bipush 6, 2) := by decide +kernel
theorem dX7_isRight_122 : decode cX7_isRight 122 = .ok (.if_icmp .gt 7, 3) := by decide +kernel
theorem dX7_isRight_125 : decode cX7_isRight 125 = .ok (.iconst 1, 1) := by decide +kernel
theorem dX7_isRight_126 : decode cX7_isRight 126 = .ok (.goto 4, 3) := by decide +kernel
theorem dX7_isRight_129 : decode cX7_isRight 129 = .ok (.iconst 0, 1) := by decide +kernel
theorem dX7_isRight_130 : decode cX7_isRight 130 = .ok (.ireturn, 1) := by decide +kernel
theorem dX7_isRight_131 : decode cX7_isRight 131 = .ok (.iload_n 3, 1) := by decide +kernel
theorem dX7_isRight_132 : decode cX7_isRight 132 = .ok (.iconst 4, 1) := by decide +kernel
theorem dX7_isRight_133 : decode cX7_isRight 133 = .ok (.if_icmp .gt 7, 3) := by decide +kernel
theorem dX7_isRight_136 : decode cX7_isRight 136 = .ok (.iconst 1, 1) := by decide +kernel
theorem dX7_isRight_137 : decode cX7_isRight 137 = .ok (.goto 4, 3) := by decide +kernel
theorem dX7_isRight_140 : decode cX7_isRight 140 = .ok (.iconst 0, 1) := by decide +kernel
theorem dX7_isRight_141 : decode cX7_isRight 141 = .ok (.ireturn, 1) := by decide +kernel
theorem dX7_isRight_142 : decode cX7_isRight 142 = .ok (.iload_n 3, 1) := by decide +kernel
theorem dX7_isRight_143 : decode cX7_isRight 143 = .ok (.bipush 20, 2) := by decide +kernel
theorem dX7_isRight_145 : decode cX7_isRight 145 = .ok (.if_icmp .gt 7, 3) := by decide +kernel
theorem dX7_isRight_148 : decode cX7_isRight 148 = .ok (.iconst 1, 1) := by decide +kernel
theorem dX7_isRight_149 : decode cX7_isRight 149 = .ok (.goto 4, 3) := by decide +kernel
theorem dX7_isRight_152 : decode cX7_isRight 152 = .ok (.iconst 0, 1) := by decide +kernel
theorem dX7_isRight_153 : decode cX7_isRight 153 = .ok (.ireturn, 1) := by decide +kernel
theorem dX7_isRight_154 : decode cX7_isRight 154 = .ok (.iload 4, 2) := by decide +kernel
theorem dX7_isRight_156 : decode cX7_isRight 156 = .ok (.ifCond .eq 22, 3) := by decide +kernel
theorem dX7_isRight_159 : decode cX7_isRight 159 = .ok (.iload_n 3, 1) := by decide +kernel
theorem dX7_isRight_160 : decode cX7_isRight 160 = .ok (.iconst 1, 1) := by decide +kernel
theorem dX7_isRight_161 : decode cX7_isRight 161 = .ok (.if_icmp .lt 13, 3) := by decide +kernel
theorem dX7_isRight_164 : decode cX7_isRight 164 = .ok (.iload_n 3, 1) := by decide +kernel
theorem dX7_isRight_165 : decode cX7_isRight 165 = .ok (.bipush 20, 2) := by decide +kernel
theorem dX7_isRight_167 : decode cX7_isRight 167 = .ok (.if_icmp .gt 7, 3) := by decide +kernel
theorem dX7_isRight_170 : decode cX7_isRight 170 = .ok (.iconst 1, 1) := by decide +kernel
theorem dX7_isRight_171 : decode cX7_isRight 171 = .ok (.goto 16, 3) := by decide +kernel
theorem dX7_isRight_174 : decode cX7_isRight 174 = .ok (.iconst 0, 1) := by decide +kernel
theorem dX7_isRight_175 : decode cX7_isRight 175 = .ok (.goto 12, 3) := by decide +kernel
theorem dX7_isRight_178 : decode cX7_isRight 178 = .ok (.iload_n 3, 1) := by decide +kernel
theorem dX7_isRight_179 : decode cX7_isRight 179 = .ok (.ifCond .ne 7, 3) := by decide +kernel
theorem dX7_isRight_182 : decode cX7_isRight 182 = .ok (.iconst 1, 1) := by decide +kernel
theorem dX7_isRight_183 : decode cX7_isRight 183 = .ok (.goto 4, 3) := by decide +kernel
theorem dX7_isRight_186 : decode cX7_isRight 186 = .ok (.iconst 0, 1) := by decide +kernel
theorem dX7_isRight_187 : decode cX7_isRight 187 = .ok (.ireturn, 1) := by decide +kernel
theorem dX7_isRight_188 : decode cX7_isRight 188 = .ok (.iload_n 3, 1) := by decide +kernel
theorem dX7_isRight_189 : decode cX7_isRight 189 = .ok (.iconst 3, 1) := by decide +kernel
theorem dX7_isRight_190 : decode cX7_isRight 190 = .ok (.if_icmp .lt 13, 3) := by decide +kernel
theorem dX7_isRight_193 : decode cX7_isRight 193 = .ok (.iload_n 3, 1) := by decide +kernel
theorem dX7_isRight_194 : decode cX7_isRight 194 = .ok (.iconst 3, 1) := by decide +kernel
theorem dX7_isRight_195 : decode cX7_isRight 195 = .ok (.if_icmp .ne 12, 3) := by decide +kernel
theorem dX7_isRight_198 : decode cX7_isRight 198 = .ok (.iload 4, 2) := by decide +kernel
theorem dX7_isRight_200 : decode cX7_isRight 200 = .ok (.ifCond .eq 7, 3) := by decide +kernel
theorem dX7_isRight_203 : decode cX7_isRight 203 = .ok (.iconst 1, 1) := by decide +kernel
theorem dX7_isRight_204 : decode cX7_isRight 204 = .ok (.goto 4, 3) := by decide +kernel
theorem dX7_isRight_207 : decode cX7_isRight 207 = .ok (.iconst 0, 1) := by decide +kernel
theorem dX7_isRight_208 : decode cX7_isRight 208 = .ok (.ireturn, 1) := by decide +kernel
theorem dX8_init_0 : decode cX8_init 0 = .ok (.aload_n 0, 1) := by decide +kernel
theorem dX8_init_1 : decode cX8_init 1 = .ok (.invokespecial 1, 3) := by decide +kernel
theorem dX8_init_4 : decode cX8_init 4 = .ok (.aload_n 0, 1) := by decide +kernel
theorem dX8_init_5 : decode cX8_init 5 = .ok (.new 7, 3) := by decide +kernel
theorem dX8_init_8 : decode cX8_init 8 = .ok (.dup, 1) := by decide +kernel
theorem dX8_init_9 : decode cX8_init 9 = .ok (.invokespecial 9, 3) := by decide +kernel
theorem dX8_init_12 : decode cX8_init 12 = .ok (.putfield 10, 3) := by decide +kernel
theorem dX8_init_15 : decode cX8_init 15 = .ok (.aload_n 0, 1) := by decide +kernel
theorem dX8_init_16 : decode cX8_init 16 = .ok (.new 16, 3) := by decide +kernel
theorem dX8_init_19 : decode cX8_init 19 = .ok (.dup, 1) := by decide +kernel
theorem dX8_init_20 : decode cX8_init 20 = .ok (.invokespecial 18, 3) := by decide +kernel
theorem dX8_init_23 : decode cX8_init 23 = .ok (.putfield 19, 3) := by decide +kernel
theorem dX8_init_26 : decode cX8_init 26 = .ok (.aload_n 0, 1) := by decide +kernel
theorem dX8_init_27 : decode cX8_init 27 = .ok (.new 16, 3) := by decide +kernel
theorem dX8_init_30 : decode cX8_init 30 = .ok (.dup, 1) := by decide +kernel
theorem dX8_init_31 : decode cX8_init 31 = .ok (.invokespecial 18, 3) := by decide +kernel
theorem dX8_init_34 : decode cX8_init 34 = .ok (.putfield 23, 3) := by decide +kernel
theorem dX8_init_37 : decode cX8_init 37 = .ok (.aload_n 0, 1) := by decide +kernel
theorem dX8_init_38 : decode cX8_init 38 = .ok (.iconst 0, 1) := by decide +kernel
theorem dX8_init_39 : decode cX8_init 39 = .ok (.putfield 26, 3) := by decide +kernel
theorem dX8_init_42 : decode cX8_init 42 = .ok (.return_, 1) := by decide +kernel
theorem dX8_put_0 : decode cX8_put 0 = .ok (.aload_n 0, 1) := by decide +kernel
theorem dX8_put_1 : decode cX8_put 1 = .ok (.iload_n 1, 1) := by decide +kernel
theorem dX8_put_2 : decode cX8_put 2 = .ok (.invokevirtual 30, 3) := by decide +kernel
theorem dX8_put_5 : decode cX8_put 5 = .ok (.astore 5, 2) := by decide +kernel
theorem dX8_put_7 : decode cX8_put 7 = .ok (.aload 5, 2) := by decide +kernel
theorem dX8_put_9 : decode cX8_put 9 = .ok (.ifnull 10, 3) := by decide +kernel
theorem dX8_put_12 : decode cX8_put 12 = .ok (.iload_n 2, 1) := by decide +kernel
theorem dX8_put_13 : decode cX8_put 13 = .ok (.invokestatic 34, 3) := by decide +kernel
theorem dX8_put_16 : decode cX8_put 16 = .ok (.ifCond .ne 5, 3) := by decide +kernel
theorem dX8_put_19 : decode cX8_put 19 = .ok (.iconst 0, 1) := by decide +kernel
theorem dX8_put_20 : decode cX8_put 20 = .ok (.ireturn, 1) := by decide +kernel
theorem dX8_put_21 : decode cX8_put 21 = .ok (.iload_n 3, 1) := by decide +kernel
theorem dX8_put_22 : decode cX8_put 22 = .ok (.ifCond .lt 21, 3) := by decide +kernel
theorem dX8_put_25 : decode cX8_put 25 = .ok (.iload_n 3, 1) := by decide +kernel
theorem dX8_put_26 : decode cX8_put 26 = .ok (.bipush 8, 2) := by decide +kernel
theorem dX8_put_28 : decode cX8_put 28 = .ok (.if_icmp .ge 15, 3) := by decide +kernel
theorem dX8_put_31 : decode cX8_put 31 = .ok (.iload 4, 2) := by decide +kernel
theorem dX8_put_33 : decode cX8_put 33 = .ok (.ifCond .lt 10, 3) := by decide +kernel
theorem dX8_put_36 : decode cX8_put 36 = .ok (.iload 4, 2) := by decide +kernel
theorem dX8_put_38 : decode cX8_put 38 = .ok (.bipush 99, 2) := by decide +kernel
theorem dX8_put_40 : decode cX8_put 40 = .ok (.if_icmp .le 5, 3) := by decide +kernel
theorem dX8_put_43 : decode cX8_put 43 = .ok (.iconst 0, 1) := by decide +kernel
theorem dX8_put_44 : decode cX8_put 44 = .ok (.ireturn, 1) := by decide +kernel
theorem dX8_put_45 : decode cX8_put 45 = .ok (.aload 5, 2) := by decide +kernel
theorem dX8_put_47 : decode cX8_put 47 = .ok (.getfield 38, 3) := by decide +kernel
theorem dX8_put_50 : decode cX8_put 50 = .ok (.iload_n 2, 1) := by decide +kernel
theorem dX8_put_51 : decode cX8_put 51 = .ok (.iload_n 3, 1) := by decide +kernel
theorem dX8_put_52 : decode cX8_put 52 = .ok (.iload 4, 2) := by decide +kernel
theorem dX8_put_54 : decode cX8_put 54 = .ok (.invokevirtual 42, 3) := by decide +kernel
theorem dX8_put_57 : decode cX8_put 57 = .ok (.iconst 1, 1) := by decide +kernel
theorem dX8_put_58 : decode cX8_put 58 = .ok (.ireturn, 1) := by decide +kernel
theorem dX8_enact_0 : decode cX8_enact 0 = .ok (.aload_n 0, 1) := by decide +kernel
theorem dX8_enact_1 : decode cX8_enact 1 = .ok (.iload_n 1, 1) := by decide +kernel
theorem dX8_enact_2 : decode cX8_enact 2 = .ok (.invokevirtual 30, 3) := by decide +kernel
theorem dX8_enact_5 : decode cX8_enact 5 = .ok (.astore_n 2, 1) := by decide +kernel
theorem dX8_enact_6 : decode cX8_enact 6 = .ok (.aload_n 2, 1) := by decide +kernel
theorem dX8_enact_7 : decode cX8_enact 7 = .ok (.ifnonnull 13, 3) := by decide +kernel
theorem dX8_enact_10 : decode cX8_enact 10 = .ok (.new 48, 3) := by decide +kernel
theorem dX8_enact_13 : decode cX8_enact 13 = .ok (.dup, 1) := by decide +kernel
theorem dX8_enact_14 : decode cX8_enact 14 = .ok (.ldc 50, 2) := by decide +kernel
theorem dX8_enact_16 : decode cX8_enact 16 = .ok (.invokespecial 52, 3) := by decide +kernel
theorem dX8_enact_19 : decode cX8_enact 19 = .ok (.athrow, 1) := by decide +kernel
theorem dX8_enact_20 : decode cX8_enact 20 = .ok (.aload_n 2, 1) := by decide +kernel
theorem dX8_enact_21 : decode cX8_enact 21 = .ok (.invokevirtual 55, 3) := by decide +kernel
theorem dX8_enact_24 : decode cX8_enact 24 = .ok (.ifCond .ne 13, 3) := by decide +kernel
theorem dX8_enact_27 : decode cX8_enact 27 = .ok (.new 59, 3) := by decide +kernel
theorem dX8_enact_30 : decode cX8_enact 30 = .ok (.dup, 1) := by decide +kernel
theorem dX8_enact_31 : decode cX8_enact 31 = .ok (.ldc 61, 2) := by decide +kernel
theorem dX8_enact_33 : decode cX8_enact 33 = .ok (.invokespecial 63, 3) := by decide +kernel
theorem dX8_enact_36 : decode cX8_enact 36 = .ok (.athrow, 1) := by decide +kernel
theorem dX8_enact_37 : decode cX8_enact 37 = .ok (.aload_n 2, 1) := by decide +kernel
theorem dX8_enact_38 : decode cX8_enact 38 = .ok (.getfield 64, 3) := by decide +kernel
theorem dX8_enact_41 : decode cX8_enact 41 = .ok (.invokestatic 67, 3) := by decide +kernel
theorem dX8_enact_44 : decode cX8_enact 44 = .ok (.ireturn, 1) := by decide +kernel
theorem dX8_place_0 : decode cX8_place 0 = .ok (.aload_n 0, 1) := by decide +kernel
theorem dX8_place_1 : decode cX8_place 1 = .ok (.iload_n 1, 1) := by decide +kernel
theorem dX8_place_2 : decode cX8_place 2 = .ok (.invokevirtual 30, 3) := by decide +kernel
theorem dX8_place_5 : decode cX8_place 5 = .ok (.astore_n 2, 1) := by decide +kernel
theorem dX8_place_6 : decode cX8_place 6 = .ok (.aload_n 2, 1) := by decide +kernel
theorem dX8_place_7 : decode cX8_place 7 = .ok (.ifnonnull 7, 3) := by decide +kernel
theorem dX8_place_10 : decode cX8_place 10 = .ok (.iconst (-1), 1) := by decide +kernel
theorem dX8_place_11 : decode cX8_place 11 = .ok (.goto 7, 3) := by decide +kernel
theorem dX8_place_14 : decode cX8_place 14 = .ok (.aload_n 2, 1) := by decide +kernel
theorem dX8_place_15 : decode cX8_place 15 = .ok (.getfield 73, 3) := by decide +kernel
theorem dX8_place_18 : decode cX8_place 18 = .ok (.ireturn, 1) := by decide +kernel
theorem dX8_detect_0 : decode cX8_detect 0 = .ok (.aload_n 0, 1) := by decide +kernel
theorem dX8_detect_1 : decode cX8_detect 1 = .ok (.iload_n 1, 1) := by decide +kernel
theorem dX8_detect_2 : decode cX8_detect 2 = .ok (.invokevirtual 30, 3) := by decide +kernel
theorem dX8_detect_5 : decode cX8_detect 5 = .ok (.astore 4, 2) := by decide +kernel
theorem dX8_detect_7 : decode cX8_detect 7 = .ok (.aload 4, 2) := by decide +kernel
theorem dX8_detect_9 : decode cX8_detect 9 = .ok (.ifnull 10, 3) := by decide +kernel
theorem dX8_detect_12 : decode cX8_detect 12 = .ok (.iload_n 2, 1) := by decide +kernel
theorem dX8_detect_13 : decode cX8_detect 13 = .ok (.invokestatic 34, 3) := by decide +kernel
theorem dX8_detect_16 : decode cX8_detect 16 = .ok (.ifCond .ne 5, 3) := by decide +kernel
theorem dX8_detect_19 : decode cX8_detect 19 = .ok (.iconst 0, 1) := by decide +kernel
theorem dX8_detect_20 : decode cX8_detect 20 = .ok (.ireturn, 1) := by decide +kernel
theorem dX8_detect_21 : decode cX8_detect 21 = .ok (.aload 4, 2) := by decide +kernel
theorem dX8_detect_23 : decode cX8_detect 23 = .ok (.getfield 76, 3) := by decide +kernel
theorem dX8_detect_26 : decode cX8_detect 26 = .ok (.iload_n 2, 1) := by decide +kernel
theorem dX8_detect_27 : decode cX8_detect 27 = .ok (.iload_n 3, 1) := by decide +kernel
theorem dX8_detect_28 : decode cX8_detect 28 = .ok (.invokevirtual 80, 3) := by decide +kernel
theorem dX8_detect_31 : decode cX8_detect 31 = .ok (.iconst 1, 1) := by decide +kernel
theorem dX8_detect_32 : decode cX8_detect 32 = .ok (.ireturn, 1) := by decide +kernel
theorem dX8_press_0 : decode cX8_press 0 = .ok (.aload_n 0, 1) := by decide +kernel
theorem dX8_press_1 : decode cX8_press 1 = .ok (.iload_n 1, 1) := by decide +kernel
theorem dX8_press_2 : decode cX8_press 2 = .ok (.invokevirtual 30, 3) := by decide +kernel
theorem dX8_press_5 : decode cX8_press 5 = .ok (.astore_n 3, 1) := by decide +kernel
theorem dX8_press_6 : decode cX8_press 6 = .ok (.aload_n 3, 1) := by decide +kernel
theorem dX8_press_7 : decode cX8_press 7 = .ok (.ifnull 22, 3) := by decide +kernel
theorem dX8_press_10 : decode cX8_press 10 = .ok (.iload_n 2, 1) := by decide +kernel
theorem dX8_press_11 : decode cX8_press 11 = .ok (.invokestatic 34, 3) := by decide +kernel
theorem dX8_press_14 : decode cX8_press 14 = .ok (.ifCond .eq 15, 3) := by decide +kernel
theorem dX8_press_17 : decode cX8_press 17 = .ok (.aload_n 3, 1) := by decide +kernel
theorem dX8_press_18 : decode cX8_press 18 = .ok (.iload_n 2, 1) := by decide +kernel
theorem dX8_press_19 : decode cX8_press 19 = .ok (.invokevirtual 86, 3) := by decide +kernel
theorem dX8_press_22 : decode cX8_press 22 = .ok (.ifCond .eq 7, 3) := by decide +kernel
theorem dX8_press_25 : decode cX8_press 25 = .ok (.iconst 1, 1) := by decide +kernel
theorem dX8_press_26 : decode cX8_press 26 = .ok (.goto 4, 3) := by decide +kernel
theorem dX8_press_29 : decode cX8_press 29 = .ok (.iconst 0, 1) := by decide +kernel
theorem dX8_press_30 : decode cX8_press 30 = .ok (.ireturn, 1) := by decide +kernel
theorem dX8_target_0 : decode cX8_target 0 = .ok (.aload_n 0, 1) := by decide +kernel
theorem dX8_target_1 : decode cX8_target 1 = .ok (.iload_n 1, 1) := by decide +kernel
theorem dX8_target_2 : decode cX8_target 2 = .ok (.invokevirtual 30, 3) := by decide +kernel
theorem dX8_target_5 : decode cX8_target 5 = .ok (.astore 4, 2) := by decide +kernel
theorem dX8_target_7 : decode cX8_target 7 = .ok (.aload 4, 2) := by decide +kernel
theorem dX8_target_9 : decode cX8_target 9 = .ok (.ifnull 17, 3) := by decide +kernel
theorem dX8_target_12 : decode cX8_target 12 = .ok (.iload_n 2, 1) := by decide +kernel
theorem dX8_target_13 : decode cX8_target 13 = .ok (.invokestatic 89, 3) := by decide +kernel
theorem dX8_target_16 : decode cX8_target 16 = .ok (.ifCond .eq 10, 3) := by decide +kernel
theorem dX8_target_19 : decode cX8_target 19 = .ok (.iload_n 3, 1) := by decide +kernel
theorem dX8_target_20 : decode cX8_target 20 = .ok (.invokestatic 34, 3) := by decide +kernel
theorem dX8_target_23 : decode cX8_target 23 = .ok (.ifCond .ne 5, 3) := by decide +kernel
theorem dX8_target_26 : decode cX8_target 26 = .ok (.iconst 0, 1) := by decide +kernel
theorem dX8_target_27 : decode cX8_target 27 = .ok (.ireturn, 1) := by decide +kernel
theorem dX8_target_28 : decode cX8_target 28 = .ok (.aload 4, 2) := by decide +kernel
theorem dX8_target_30 : decode cX8_target 30 = .ok (.getfield 92, 3) := by decide +kernel
theorem dX8_target_33 : decode cX8_target 33 = .ok (.iload_n 2, 1) := by decide +kernel
theorem dX8_target_34 : decode cX8_target 34 = .ok (.iload_n 3, 1) := by decide +kernel
theorem dX8_target_35 : decode cX8_target 35 = .ok (.invokevirtual 96, 3) := by decide +kernel
theorem dX8_target_38 : decode cX8_target 38 = .ok (.iconst 1, 1) := by decide +kernel
theorem dX8_target_39 : decode cX8_target 39 = .ok (.ireturn, 1) := by decide +kernel
theorem dX8_preempt_0 : decode cX8_preempt 0 = .ok (.aload_n 0, 1) := by decide +kernel
theorem dX8_preempt_1 : decode cX8_preempt 1 = .ok (.iload_n 1, 1) := by decide +kernel
theorem dX8_preempt_2 : decode cX8_preempt 2 = .ok (.invokevirtual 30, 3) := by decide +kernel
theorem dX8_preempt_5 : decode cX8_preempt 5 = .ok (.astore 4, 2) := by decide +kernel
theorem dX8_preempt_7 : decode cX8_preempt 7 = .ok (.aload 4, 2) := by decide +kernel
theorem dX8_preempt_9 : decode cX8_preempt 9 = .ok (.ifnull 10, 3) := by decide +kernel
theorem dX8_preempt_12 : decode cX8_preempt 12 = .ok (.iload_n 2, 1) := by decide +kernel
theorem dX8_preempt_13 : decode cX8_preempt 13 = .ok (.invokestatic 89, 3) := by decide +kernel
theorem dX8_preempt_16 : decode cX8_preempt 16 = .ok (.ifCond .ne 5, 3) := by decide +kernel
theorem dX8_preempt_19 : decode cX8_preempt 19 = .ok (.iconst 0, 1) := by decide +kernel
theorem dX8_preempt_20 : decode cX8_preempt 20 = .ok (.ireturn, 1) := by decide +kernel
theorem dX8_preempt_21 : decode cX8_preempt 21 = .ok (.aload 4, 2) := by decide +kernel
theorem dX8_preempt_23 : decode cX8_preempt 23 = .ok (.getfield 92, 3) := by decide +kernel
theorem dX8_preempt_26 : decode cX8_preempt 26 = .ok (.iload_n 2, 1) := by decide +kernel
theorem dX8_preempt_27 : decode cX8_preempt 27 = .ok (.iload_n 3, 1) := by decide +kernel
theorem dX8_preempt_28 : decode cX8_preempt 28 = .ok (.invokevirtual 102, 3) := by decide +kernel
theorem dX8_preempt_31 : decode cX8_preempt 31 = .ok (.iconst 1, 1) := by decide +kernel
theorem dX8_preempt_32 : decode cX8_preempt 32 = .ok (.ireturn, 1) := by decide +kernel
theorem dX8_plan_0 : decode cX8_plan 0 = .ok (.aload_n 0, 1) := by decide +kernel
theorem dX8_plan_1 : decode cX8_plan 1 = .ok (.getfield 10, 3) := by decide +kernel
theorem dX8_plan_4 : decode cX8_plan 4 = .ok (.iload_n 1, 1) := by decide +kernel
theorem dX8_plan_5 : decode cX8_plan 5 = .ok (.iload_n 2, 1) := by decide +kernel
theorem dX8_plan_6 : decode cX8_plan 6 = .ok (.iload_n 3, 1) := by decide +kernel
theorem dX8_plan_7 : decode cX8_plan 7 = .ok (.iload 4, 2) := by decide +kernel
theorem dX8_plan_9 : decode cX8_plan 9 = .ok (.invokevirtual 103, 3) := by decide +kernel
theorem dX8_plan_12 : decode cX8_plan 12 = .ok (.ifCond .ne 5, 3) := by decide +kernel
theorem dX8_plan_15 : decode cX8_plan 15 = .ok (.iconst 0, 1) := by decide +kernel
theorem dX8_plan_16 : decode cX8_plan 16 = .ok (.ireturn, 1) := by decide +kernel
theorem dX8_plan_17 : decode cX8_plan 17 = .ok (.aload_n 0, 1) := by decide +kernel
theorem dX8_plan_18 : decode cX8_plan 18 = .ok (.getfield 19, 3) := by decide +kernel
theorem dX8_plan_21 : decode cX8_plan 21 = .ok (.getfield 107, 3) := by decide +kernel
theorem dX8_plan_24 : decode cX8_plan 24 = .ok (.iload_n 1, 1) := by decide +kernel
theorem dX8_plan_25 : decode cX8_plan 25 = .ok (.iload_n 2, 1) := by decide +kernel
theorem dX8_plan_26 : decode cX8_plan 26 = .ok (.invokevirtual 111, 3) := by decide +kernel
theorem dX8_plan_29 : decode cX8_plan 29 = .ok (.aload_n 0, 1) := by decide +kernel
theorem dX8_plan_30 : decode cX8_plan 30 = .ok (.getfield 23, 3) := by decide +kernel
theorem dX8_plan_33 : decode cX8_plan 33 = .ok (.getfield 107, 3) := by decide +kernel
theorem dX8_plan_36 : decode cX8_plan 36 = .ok (.iload_n 1, 1) := by decide +kernel
theorem dX8_plan_37 : decode cX8_plan 37 = .ok (.iload_n 2, 1) := by decide +kernel
theorem dX8_plan_38 : decode cX8_plan 38 = .ok (.invokevirtual 111, 3) := by decide +kernel
theorem dX8_plan_41 : decode cX8_plan 41 = .ok (.iconst 1, 1) := by decide +kernel
theorem dX8_plan_42 : decode cX8_plan 42 = .ok (.ireturn, 1) := by decide +kernel
theorem dX8_message_0 : decode cX8_message 0 = .ok (.aload_n 0, 1) := by decide +kernel
theorem dX8_message_1 : decode cX8_message 1 = .ok (.iload_n 1, 1) := by decide +kernel
theorem dX8_message_2 : decode cX8_message 2 = .ok (.invokevirtual 30, 3) := by decide +kernel
theorem dX8_message_5 : decode cX8_message 5 = .ok (.astore 4, 2) := by decide +kernel
theorem dX8_message_7 : decode cX8_message 7 = .ok (.aload 4, 2) := by decide +kernel
theorem dX8_message_9 : decode cX8_message 9 = .ok (.ifnull 26, 3) := by decide +kernel
theorem dX8_message_12 : decode cX8_message 12 = .ok (.aload_n 0, 1) := by decide +kernel
theorem dX8_message_13 : decode cX8_message 13 = .ok (.getfield 10, 3) := by decide +kernel
theorem dX8_message_16 : decode cX8_message 16 = .ok (.iload_n 3, 1) := by decide +kernel
theorem dX8_message_17 : decode cX8_message 17 = .ok (.invokevirtual 116, 3) := by decide +kernel
theorem dX8_message_20 : decode cX8_message 20 = .ok (.ifCond .eq 15, 3) := by decide +kernel
theorem dX8_message_23 : decode cX8_message 23 = .ok (.aload 4, 2) := by decide +kernel
theorem dX8_message_25 : decode cX8_message 25 = .ok (.getfield 107, 3) := by decide +kernel
theorem dX8_message_28 : decode cX8_message 28 = .ok (.iload_n 2, 1) := by decide +kernel
theorem dX8_message_29 : decode cX8_message 29 = .ok (.invokevirtual 119, 3) := by decide +kernel
theorem dX8_message_32 : decode cX8_message 32 = .ok (.ifCond .ne 5, 3) := by decide +kernel
theorem dX8_message_35 : decode cX8_message 35 = .ok (.iconst 0, 1) := by decide +kernel
theorem dX8_message_36 : decode cX8_message 36 = .ok (.ireturn, 1) := by decide +kernel
theorem dX8_message_37 : decode cX8_message 37 = .ok (.aload 4, 2) := by decide +kernel
theorem dX8_message_39 : decode cX8_message 39 = .ok (.getfield 107, 3) := by decide +kernel
theorem dX8_message_42 : decode cX8_message 42 = .ok (.iload_n 2, 1) := by decide +kernel
theorem dX8_message_43 : decode cX8_message 43 = .ok (.iload_n 3, 1) := by decide +kernel
theorem dX8_message_44 : decode cX8_message 44 = .ok (.aload_n 0, 1) := by decide +kernel
theorem dX8_message_45 : decode cX8_message 45 = .ok (.getfield 10, 3) := by decide +kernel
theorem dX8_message_48 : decode cX8_message 48 = .ok (.iload_n 3, 1) := by decide +kernel
theorem dX8_message_49 : decode cX8_message 49 = .ok (.invokevirtual 122, 3) := by decide +kernel
theorem dX8_message_52 : decode cX8_message 52 = .ok (.invokevirtual 125, 3) := by decide +kernel
theorem dX8_message_55 : decode cX8_message 55 = .ok (.iconst 1, 1) := by decide +kernel
theorem dX8_message_56 : decode cX8_message 56 = .ok (.ireturn, 1) := by decide +kernel
theorem dX8_fault_0 : decode cX8_fault 0 = .ok (.aload_n 0, 1) := by decide +kernel
theorem dX8_fault_1 : decode cX8_fault 1 = .ok (.iload_n 1, 1) := by decide +kernel
theorem dX8_fault_2 : decode cX8_fault 2 = .ok (.invokevirtual 30, 3) := by decide +kernel
theorem dX8_fault_5 : decode cX8_fault 5 = .ok (.astore 4, 2) := by decide +kernel
theorem dX8_fault_7 : decode cX8_fault 7 = .ok (.aload 4, 2) := by decide +kernel
theorem dX8_fault_9 : decode cX8_fault 9 = .ok (.ifnull 19, 3) := by decide +kernel
theorem dX8_fault_12 : decode cX8_fault 12 = .ok (.iload_n 2, 1) := by decide +kernel
theorem dX8_fault_13 : decode cX8_fault 13 = .ok (.invokestatic 34, 3) := by decide +kernel
theorem dX8_fault_16 : decode cX8_fault 16 = .ok (.ifCond .eq 12, 3) := by decide +kernel
theorem dX8_fault_19 : decode cX8_fault 19 = .ok (.iload_n 3, 1) := by decide +kernel
theorem dX8_fault_20 : decode cX8_fault 20 = .ok (.ifCond .lt 8, 3) := by decide +kernel
theorem dX8_fault_23 : decode cX8_fault 23 = .ok (.iload_n 3, 1) := by decide +kernel
theorem dX8_fault_24 : decode cX8_fault 24 = .ok (.iconst 3, 1) := by decide +kernel
theorem dX8_fault_25 : decode cX8_fault 25 = .ok (.if_icmp .le 5, 3) := by decide +kernel
theorem dX8_fault_28 : decode cX8_fault 28 = .ok (.iconst 0, 1) := by decide +kernel
theorem dX8_fault_29 : decode cX8_fault 29 = .ok (.ireturn, 1) := by decide +kernel
theorem dX8_fault_30 : decode cX8_fault 30 = .ok (.aload 4, 2) := by decide +kernel
theorem dX8_fault_32 : decode cX8_fault 32 = .ok (.getfield 128, 3) := by decide +kernel
theorem dX8_fault_35 : decode cX8_fault 35 = .ok (.iload_n 2, 1) := by decide +kernel
theorem dX8_fault_36 : decode cX8_fault 36 = .ok (.iload_n 3, 1) := by decide +kernel
theorem dX8_fault_37 : decode cX8_fault 37 = .ok (.iastore, 1) := by decide +kernel
theorem dX8_fault_38 : decode cX8_fault 38 = .ok (.iconst 1, 1) := by decide +kernel
theorem dX8_fault_39 : decode cX8_fault 39 = .ok (.ireturn, 1) := by decide +kernel
theorem dX8_reset_0 : decode cX8_reset 0 = .ok (.aload_n 0, 1) := by decide +kernel
theorem dX8_reset_1 : decode cX8_reset 1 = .ok (.iload_n 1, 1) := by decide +kernel
theorem dX8_reset_2 : decode cX8_reset 2 = .ok (.invokevirtual 30, 3) := by decide +kernel
theorem dX8_reset_5 : decode cX8_reset 5 = .ok (.astore_n 2, 1) := by decide +kernel
theorem dX8_reset_6 : decode cX8_reset 6 = .ok (.aload_n 2, 1) := by decide +kernel
theorem dX8_reset_7 : decode cX8_reset 7 = .ok (.ifnull 10, 3) := by decide +kernel
theorem dX8_reset_10 : decode cX8_reset 10 = .ok (.aload_n 2, 1) := by decide +kernel
theorem dX8_reset_11 : decode cX8_reset 11 = .ok (.getfield 132, 3) := by decide +kernel
theorem dX8_reset_14 : decode cX8_reset 14 = .ok (.ifCond .ne 5, 3) := by decide +kernel
theorem dX8_reset_17 : decode cX8_reset 17 = .ok (.iconst 0, 1) := by decide +kernel
theorem dX8_reset_18 : decode cX8_reset 18 = .ok (.ireturn, 1) := by decide +kernel
theorem dX8_reset_19 : decode cX8_reset 19 = .ok (.aload_n 2, 1) := by decide +kernel
theorem dX8_reset_20 : decode cX8_reset 20 = .ok (.invokevirtual 135, 3) := by decide +kernel
theorem dX8_reset_23 : decode cX8_reset 23 = .ok (.iconst 1, 1) := by decide +kernel
theorem dX8_reset_24 : decode cX8_reset 24 = .ok (.ireturn, 1) := by decide +kernel
theorem dX8_tick_0 : decode cX8_tick 0 = .ok (.iload_n 1, 1) := by decide +kernel
theorem dX8_tick_1 : decode cX8_tick 1 = .ok (.ifCond .lt 9, 3) := by decide +kernel
theorem dX8_tick_4 : decode cX8_tick 4 = .ok (.iload_n 1, 1) := by decide +kernel
theorem dX8_tick_5 : decode cX8_tick 5 = .ok (.bipush 20, 2) := by decide +kernel
theorem dX8_tick_7 : decode cX8_tick 7 = .ok (.if_icmp .le 13, 3) := by decide +kernel
theorem dX8_tick_10 : decode cX8_tick 10 = .ok (.new 48, 3) := by decide +kernel
theorem dX8_tick_13 : decode cX8_tick 13 = .ok (.dup, 1) := by decide +kernel
theorem dX8_tick_14 : decode cX8_tick 14 = .ok (.ldc 138, 2) := by decide +kernel
theorem dX8_tick_16 : decode cX8_tick 16 = .ok (.invokespecial 52, 3) := by decide +kernel
theorem dX8_tick_19 : decode cX8_tick 19 = .ok (.athrow, 1) := by decide +kernel
theorem dX8_tick_20 : decode cX8_tick 20 = .ok (.iconst 0, 1) := by decide +kernel
theorem dX8_tick_21 : decode cX8_tick 21 = .ok (.istore_n 2, 1) := by decide +kernel
theorem dX8_tick_22 : decode cX8_tick 22 = .ok (.iload_n 2, 1) := by decide +kernel
theorem dX8_tick_23 : decode cX8_tick 23 = .ok (.iload_n 1, 1) := by decide +kernel
theorem dX8_tick_24 : decode cX8_tick 24 = .ok (.if_icmp .ge 49, 3) := by decide +kernel
theorem dX8_tick_27 : decode cX8_tick 27 = .ok (.aload_n 0, 1) := by decide +kernel
theorem dX8_tick_28 : decode cX8_tick 28 = .ok (.getfield 19, 3) := by decide +kernel
theorem dX8_tick_31 : decode cX8_tick 31 = .ok (.aload_n 0, 1) := by decide +kernel
theorem dX8_tick_32 : decode cX8_tick 32 = .ok (.getfield 10, 3) := by decide +kernel
theorem dX8_tick_35 : decode cX8_tick 35 = .ok (.aload_n 0, 1) := by decide +kernel
theorem dX8_tick_36 : decode cX8_tick 36 = .ok (.getfield 26, 3) := by decide +kernel
theorem dX8_tick_39 : decode cX8_tick 39 = .ok (.invokevirtual 140, 3) := by decide +kernel
theorem dX8_tick_42 : decode cX8_tick 42 = .ok (.aload_n 0, 1) := by decide +kernel
theorem dX8_tick_43 : decode cX8_tick 43 = .ok (.getfield 23, 3) := by decide +kernel
theorem dX8_tick_46 : decode cX8_tick 46 = .ok (.aload_n 0, 1) := by decide +kernel
theorem dX8_tick_47 : decode cX8_tick 47 = .ok (.getfield 10, 3) := by decide +kernel
theorem dX8_tick_50 : decode cX8_tick 50 = .ok (.aload_n 0, 1) := by decide +kernel
theorem dX8_tick_51 : decode cX8_tick 51 = .ok (.getfield 26, 3) := by decide +kernel
theorem dX8_tick_54 : decode cX8_tick 54 = .ok (.invokevirtual 140, 3) := by decide +kernel
theorem dX8_tick_57 : decode cX8_tick 57 = .ok (.aload_n 0, 1) := by decide +kernel
theorem dX8_tick_58 : decode cX8_tick 58 = .ok (.dup, 1) := by decide +kernel
theorem dX8_tick_59 : decode cX8_tick 59 = .ok (.getfield 26, 3) := by decide +kernel
theorem dX8_tick_62 : decode cX8_tick 62 = .ok (.iconst 1, 1) := by decide +kernel
theorem dX8_tick_63 : decode cX8_tick 63 = .ok (.iadd, 1) := by decide +kernel
theorem dX8_tick_64 : decode cX8_tick 64 = .ok (.putfield 26, 3) := by decide +kernel
theorem dX8_tick_67 : decode cX8_tick 67 = .ok (.iinc 2 1, 3) := by decide +kernel
theorem dX8_tick_70 : decode cX8_tick 70 = .ok (.goto (-48), 3) := by decide +kernel
theorem dX8_tick_73 : decode cX8_tick 73 = .ok (.aload_n 0, 1) := by decide +kernel
theorem dX8_tick_74 : decode cX8_tick 74 = .ok (.getfield 26, 3) := by decide +kernel
theorem dX8_tick_77 : decode cX8_tick 77 = .ok (.ireturn, 1) := by decide +kernel
theorem dX8_lamp_0 : decode cX8_lamp 0 = .ok (.aload_n 0, 1) := by decide +kernel
theorem dX8_lamp_1 : decode cX8_lamp 1 = .ok (.iload_n 1, 1) := by decide +kernel
theorem dX8_lamp_2 : decode cX8_lamp 2 = .ok (.invokevirtual 30, 3) := by decide +kernel
theorem dX8_lamp_5 : decode cX8_lamp 5 = .ok (.astore_n 3, 1) := by decide +kernel
theorem dX8_lamp_6 : decode cX8_lamp 6 = .ok (.aload_n 3, 1) := by decide +kernel
theorem dX8_lamp_7 : decode cX8_lamp 7 = .ok (.ifnull 10, 3) := by decide +kernel
theorem dX8_lamp_10 : decode cX8_lamp 10 = .ok (.iload_n 2, 1) := by decide +kernel
theorem dX8_lamp_11 : decode cX8_lamp 11 = .ok (.invokestatic 34, 3) := by decide +kernel
theorem dX8_lamp_14 : decode cX8_lamp 14 = .ok (.ifCond .ne 7, 3) := by decide +kernel
theorem dX8_lamp_17 : decode cX8_lamp 17 = .ok (.iconst (-1), 1) := by decide +kernel
theorem dX8_lamp_18 : decode cX8_lamp 18 = .ok (.goto 8, 3) := by decide +kernel
theorem dX8_lamp_21 : decode cX8_lamp 21 = .ok (.aload_n 3, 1) := by decide +kernel
theorem dX8_lamp_22 : decode cX8_lamp 22 = .ok (.iload_n 2, 1) := by decide +kernel
theorem dX8_lamp_23 : decode cX8_lamp 23 = .ok (.invokevirtual 144, 3) := by decide +kernel
theorem dX8_lamp_26 : decode cX8_lamp 26 = .ok (.ireturn, 1) := by decide +kernel
theorem dX8_signs_0 : decode cX8_signs 0 = .ok (.aload_n 0, 1) := by decide +kernel
theorem dX8_signs_1 : decode cX8_signs 1 = .ok (.iload_n 1, 1) := by decide +kernel
theorem dX8_signs_2 : decode cX8_signs 2 = .ok (.invokevirtual 30, 3) := by decide +kernel
theorem dX8_signs_5 : decode cX8_signs 5 = .ok (.astore_n 3, 1) := by decide +kernel
theorem dX8_signs_6 : decode cX8_signs 6 = .ok (.aload_n 3, 1) := by decide +kernel
theorem dX8_signs_7 : decode cX8_signs 7 = .ok (.ifnull 10, 3) := by decide +kernel
theorem dX8_signs_10 : decode cX8_signs 10 = .ok (.iload_n 2, 1) := by decide +kernel
theorem dX8_signs_11 : decode cX8_signs 11 = .ok (.invokestatic 34, 3) := by decide +kernel
theorem dX8_signs_14 : decode cX8_signs 14 = .ok (.ifCond .ne 7, 3) := by decide +kernel
theorem dX8_signs_17 : decode cX8_signs 17 = .ok (.iconst (-1), 1) := by decide +kernel
theorem dX8_signs_18 : decode cX8_signs 18 = .ok (.goto 8, 3) := by decide +kernel
theorem dX8_signs_21 : decode cX8_signs 21 = .ok (.aload_n 3, 1) := by decide +kernel
theorem dX8_signs_22 : decode cX8_signs 22 = .ok (.iload_n 2, 1) := by decide +kernel
theorem dX8_signs_23 : decode cX8_signs 23 = .ok (.invokevirtual 147, 3) := by decide +kernel
theorem dX8_signs_26 : decode cX8_signs 26 = .ok (.ireturn, 1) := by decide +kernel
theorem dX8_crossing_0 : decode cX8_crossing 0 = .ok (.aload_n 0, 1) := by decide +kernel
theorem dX8_crossing_1 : decode cX8_crossing 1 = .ok (.iload_n 1, 1) := by decide +kernel
theorem dX8_crossing_2 : decode cX8_crossing 2 = .ok (.invokevirtual 30, 3) := by decide +kernel
theorem dX8_crossing_5 : decode cX8_crossing 5 = .ok (.astore_n 3, 1) := by decide +kernel
theorem dX8_crossing_6 : decode cX8_crossing 6 = .ok (.aload_n 3, 1) := by decide +kernel
theorem dX8_crossing_7 : decode cX8_crossing 7 = .ok (.ifnonnull 5, 3) := by decide +kernel
theorem dX8_crossing_10 : decode cX8_crossing 10 = .ok (.iconst (-1), 1) := by decide +kernel
theorem dX8_crossing_11 : decode cX8_crossing 11 = .ok (.ireturn, 1) := by decide +kernel
theorem dX8_crossing_12 : decode cX8_crossing 12 = .ok (.iload_n 2, 1) := by decide +kernel
theorem dX8_crossing_13 : decode cX8_crossing 13 = .ok (.tableswitch 90 0 6 #[43, 48, 53, 58, 66, 74, 82], 43) := by decide +kernel
theorem dX8_crossing_56 : decode cX8_crossing 56 = .ok (.aload_n 3, 1) := by decide +kernel
theorem dX8_crossing_57 : decode cX8_crossing 57 = .ok (.getfield 150, 3) := by decide +kernel
theorem dX8_crossing_60 : decode cX8_crossing 60 = .ok (.ireturn, 1) := by decide +kernel
theorem dX8_crossing_61 : decode cX8_crossing 61 = .ok (.aload_n 3, 1) := by decide +kernel
theorem dX8_crossing_62 : decode cX8_crossing 62 = .ok (.invokevirtual 153, 3) := by decide +kernel
theorem dX8_crossing_65 : decode cX8_crossing 65 = .ok (.ireturn, 1) := by decide +kernel
theorem dX8_crossing_66 : decode cX8_crossing 66 = .ok (.aload_n 3, 1) := by decide +kernel
theorem dX8_crossing_67 : decode cX8_crossing 67 = .ok (.getfield 132, 3) := by decide +kernel
theorem dX8_crossing_70 : decode cX8_crossing 70 = .ok (.ireturn, 1) := by decide +kernel
theorem dX8_crossing_71 : decode cX8_crossing 71 = .ok (.aload_n 3, 1) := by decide +kernel
theorem dX8_crossing_72 : decode cX8_crossing 72 = .ok (.getfield 107, 3) := by decide +kernel
theorem dX8_crossing_75 : decode cX8_crossing 75 = .ok (.getfield 157, 3) := by decide +kernel
theorem dX8_crossing_78 : decode cX8_crossing 78 = .ok (.ireturn, 1) := by decide +kernel
theorem dX8_crossing_79 : decode cX8_crossing 79 = .ok (.aload_n 3, 1) := by decide +kernel
theorem dX8_crossing_80 : decode cX8_crossing 80 = .ok (.getfield 107, 3) := by decide +kernel
theorem dX8_crossing_83 : decode cX8_crossing 83 = .ok (.invokevirtual 160, 3) := by decide +kernel
theorem dX8_crossing_86 : decode cX8_crossing 86 = .ok (.ireturn, 1) := by decide +kernel
theorem dX8_crossing_87 : decode cX8_crossing 87 = .ok (.aload_n 3, 1) := by decide +kernel
theorem dX8_crossing_88 : decode cX8_crossing 88 = .ok (.getfield 163, 3) := by decide +kernel
theorem dX8_crossing_91 : decode cX8_crossing 91 = .ok (.getfield 167, 3) := by decide +kernel
theorem dX8_crossing_94 : decode cX8_crossing 94 = .ok (.ireturn, 1) := by decide +kernel
theorem dX8_crossing_95 : decode cX8_crossing 95 = .ok (.aload_n 3, 1) := by decide +kernel
theorem dX8_crossing_96 : decode cX8_crossing 96 = .ok (.getfield 172, 3) := by decide +kernel
theorem dX8_crossing_99 : decode cX8_crossing 99 = .ok (.getfield 167, 3) := by decide +kernel
theorem dX8_crossing_102 : decode cX8_crossing 102 = .ok (.ireturn, 1) := by decide +kernel
theorem dX8_crossing_103 : decode cX8_crossing 103 = .ok (.iconst (-1), 1) := by decide +kernel
theorem dX8_crossing_104 : decode cX8_crossing 104 = .ok (.ireturn, 1) := by decide +kernel
theorem dX8_occupancy_0 : decode cX8_occupancy 0 = .ok (.aload_n 0, 1) := by decide +kernel
theorem dX8_occupancy_1 : decode cX8_occupancy 1 = .ok (.iload_n 1, 1) := by decide +kernel
theorem dX8_occupancy_2 : decode cX8_occupancy 2 = .ok (.invokevirtual 30, 3) := by decide +kernel
theorem dX8_occupancy_5 : decode cX8_occupancy 5 = .ok (.astore_n 3, 1) := by decide +kernel
theorem dX8_occupancy_6 : decode cX8_occupancy 6 = .ok (.aload_n 3, 1) := by decide +kernel
theorem dX8_occupancy_7 : decode cX8_occupancy 7 = .ok (.ifnull 10, 3) := by decide +kernel
theorem dX8_occupancy_10 : decode cX8_occupancy 10 = .ok (.iload_n 2, 1) := by decide +kernel
theorem dX8_occupancy_11 : decode cX8_occupancy 11 = .ok (.invokestatic 34, 3) := by decide +kernel
theorem dX8_occupancy_14 : decode cX8_occupancy 14 = .ok (.ifCond .ne 7, 3) := by decide +kernel
theorem dX8_occupancy_17 : decode cX8_occupancy 17 = .ok (.fconst 0, 1) := by decide +kernel
theorem dX8_occupancy_18 : decode cX8_occupancy 18 = .ok (.goto 12, 3) := by decide +kernel
theorem dX8_occupancy_21 : decode cX8_occupancy 21 = .ok (.aload_n 3, 1) := by decide +kernel
theorem dX8_occupancy_22 : decode cX8_occupancy 22 = .ok (.getfield 76, 3) := by decide +kernel
theorem dX8_occupancy_25 : decode cX8_occupancy 25 = .ok (.getfield 175, 3) := by decide +kernel
theorem dX8_occupancy_28 : decode cX8_occupancy 28 = .ok (.iload_n 2, 1) := by decide +kernel
theorem dX8_occupancy_29 : decode cX8_occupancy 29 = .ok (.faload, 1) := by decide +kernel
theorem dX8_occupancy_30 : decode cX8_occupancy 30 = .ok (.freturn, 1) := by decide +kernel
theorem dX8_controllerOf_0 : decode cX8_controllerOf 0 = .ok (.iload_n 1, 1) := by decide +kernel
theorem dX8_controllerOf_1 : decode cX8_controllerOf 1 = .ok (.ifCond .ne 8, 3) := by decide +kernel
theorem dX8_controllerOf_4 : decode cX8_controllerOf 4 = .ok (.aload_n 0, 1) := by decide +kernel
theorem dX8_controllerOf_5 : decode cX8_controllerOf 5 = .ok (.getfield 19, 3) := by decide +kernel
theorem dX8_controllerOf_8 : decode cX8_controllerOf 8 = .ok (.areturn, 1) := by decide +kernel
theorem dX8_controllerOf_9 : decode cX8_controllerOf 9 = .ok (.iload_n 1, 1) := by decide +kernel
theorem dX8_controllerOf_10 : decode cX8_controllerOf 10 = .ok (.iconst 1, 1) := by decide +kernel
theorem dX8_controllerOf_11 : decode cX8_controllerOf 11 = .ok (.if_icmp .ne 10, 3) := by decide +kernel
theorem dX8_controllerOf_14 : decode cX8_controllerOf 14 = .ok (.aload_n 0, 1) := by decide +kernel
theorem dX8_controllerOf_15 : decode cX8_controllerOf 15 = .ok (.getfield 23, 3) := by decide +kernel
theorem dX8_controllerOf_18 : decode cX8_controllerOf 18 = .ok (.goto 4, 3) := by decide +kernel
theorem dX8_controllerOf_21 : decode cX8_controllerOf 21 = .ok (.aconst_null, 1) := by decide +kernel
theorem dX8_controllerOf_22 : decode cX8_controllerOf 22 = .ok (.areturn, 1) := by decide +kernel
theorem dX8_isPhase_0 : decode cX8_isPhase 0 = .ok (.iload_n 0, 1) := by decide +kernel
theorem dX8_isPhase_1 : decode cX8_isPhase 1 = .ok (.ifCond .lt 13, 3) := by decide +kernel
theorem dX8_isPhase_4 : decode cX8_isPhase 4 = .ok (.iload_n 0, 1) := by decide +kernel
theorem dX8_isPhase_5 : decode cX8_isPhase 5 = .ok (.bipush 8, 2) := by decide +kernel
theorem dX8_isPhase_7 : decode cX8_isPhase 7 = .ok (.if_icmp .ge 7, 3) := by decide +kernel
theorem dX8_isPhase_10 : decode cX8_isPhase 10 = .ok (.iconst 1, 1) := by decide +kernel
theorem dX8_isPhase_11 : decode cX8_isPhase 11 = .ok (.goto 4, 3) := by decide +kernel
theorem dX8_isPhase_14 : decode cX8_isPhase 14 = .ok (.iconst 0, 1) := by decide +kernel
theorem dX8_isPhase_15 : decode cX8_isPhase 15 = .ok (.ireturn, 1) := by decide +kernel
theorem dX8_isInput_0 : decode cX8_isInput 0 = .ok (.iload_n 0, 1) := by decide +kernel
theorem dX8_isInput_1 : decode cX8_isInput 1 = .ok (.ifCond .lt 12, 3) := by decide +kernel
theorem dX8_isInput_4 : decode cX8_isInput 4 = .ok (.iload_n 0, 1) := by decide +kernel
theorem dX8_isInput_5 : decode cX8_isInput 5 = .ok (.iconst 2, 1) := by decide +kernel
theorem dX8_isInput_6 : decode cX8_isInput 6 = .ok (.if_icmp .ge 7, 3) := by decide +kernel
theorem dX8_isInput_9 : decode cX8_isInput 9 = .ok (.iconst 1, 1) := by decide +kernel
theorem dX8_isInput_10 : decode cX8_isInput 10 = .ok (.goto 4, 3) := by decide +kernel
theorem dX8_isInput_13 : decode cX8_isInput 13 = .ok (.iconst 0, 1) := by decide +kernel
theorem dX8_isInput_14 : decode cX8_isInput 14 = .ok (.ireturn, 1) := by decide +kernel
theorem dX8_ringOf_0 : decode cX8_ringOf 0 = .ok (.iload_n 0, 1) := by decide +kernel
theorem dX8_ringOf_1 : decode cX8_ringOf 1 = .ok (.iconst 4, 1) := by decide +kernel
theorem dX8_ringOf_2 : decode cX8_ringOf 2 = .ok (.if_icmp .ge 7, 3) := by decide +kernel
theorem dX8_ringOf_5 : decode cX8_ringOf 5 = .ok (.iconst 0, 1) := by decide +kernel
theorem dX8_ringOf_6 : decode cX8_ringOf 6 = .ok (.goto 4, 3) := by decide +kernel
theorem dX8_ringOf_9 : decode cX8_ringOf 9 = .ok (.iconst 1, 1) := by decide +kernel
theorem dX8_ringOf_10 : decode cX8_ringOf 10 = .ok (.ireturn, 1) := by decide +kernel
theorem dX8_sideOf_0 : decode cX8_sideOf 0 = .ok (.iload_n 0, 1) := by decide +kernel
theorem dX8_sideOf_1 : decode cX8_sideOf 1 = .ok (.iconst 2, 1) := by decide +kernel
theorem dX8_sideOf_2 : decode cX8_sideOf 2 = .ok (.idiv, 1) := by decide +kernel
theorem dX8_sideOf_3 : decode cX8_sideOf 3 = .ok (.iconst 2, 1) := by decide +kernel
theorem dX8_sideOf_4 : decode cX8_sideOf 4 = .ok (.irem, 1) := by decide +kernel
theorem dX8_sideOf_5 : decode cX8_sideOf 5 = .ok (.ireturn, 1) := by decide +kernel
theorem dX8_phasesOfSide_0 : decode cX8_phasesOfSide 0 = .ok (.iload_n 0, 1) := by decide +kernel
theorem dX8_phasesOfSide_1 : decode cX8_phasesOfSide 1 = .ok (.ifCond .ne 8, 3) := by decide +kernel
theorem dX8_phasesOfSide_4 : decode cX8_phasesOfSide 4 = .ok (.bipush 51, 2) := by decide +kernel
theorem dX8_phasesOfSide_6 : decode cX8_phasesOfSide 6 = .ok (.goto 6, 3) := by decide +kernel
theorem dX8_phasesOfSide_9 : decode cX8_phasesOfSide 9 = .ok (.sipush 204, 3) := by decide +kernel
theorem dX8_phasesOfSide_12 : decode cX8_phasesOfSide 12 = .ok (.ireturn, 1) := by decide +kernel
theorem dX8_bit_0 : decode cX8_bit 0 = .ok (.iload_n 0, 1) := by decide +kernel
theorem dX8_bit_1 : decode cX8_bit 1 = .ok (.ifCond .lt 15, 3) := by decide +kernel
theorem dX8_bit_4 : decode cX8_bit 4 = .ok (.iload_n 0, 1) := by decide +kernel
theorem dX8_bit_5 : decode cX8_bit 5 = .ok (.bipush 8, 2) := by decide +kernel
theorem dX8_bit_7 : decode cX8_bit 7 = .ok (.if_icmp .ge 9, 3) := by decide +kernel
theorem dX8_bit_10 : decode cX8_bit 10 = .ok (.iconst 1, 1) := by decide +kernel
theorem dX8_bit_11 : decode cX8_bit 11 = .ok (.iload_n 0, 1) := by decide +kernel
theorem dX8_bit_12 : decode cX8_bit 12 = .ok (.ishl, 1) := by decide +kernel
theorem dX8_bit_13 : decode cX8_bit 13 = .ok (.goto 4, 3) := by decide +kernel
theorem dX8_bit_16 : decode cX8_bit 16 = .ok (.iconst 0, 1) := by decide +kernel
theorem dX8_bit_17 : decode cX8_bit 17 = .ok (.ireturn, 1) := by decide +kernel
theorem dX8_wrap_0 : decode cX8_wrap 0 = .ok (.iload_n 1, 1) := by decide +kernel
theorem dX8_wrap_1 : decode cX8_wrap 1 = .ok (.ifCond .le 11, 3) := by decide +kernel
theorem dX8_wrap_4 : decode cX8_wrap 4 = .ok (.iload_n 0, 1) := by decide +kernel
theorem dX8_wrap_5 : decode cX8_wrap 5 = .ok (.iload_n 1, 1) := by decide +kernel
theorem dX8_wrap_6 : decode cX8_wrap 6 = .ok (.invokestatic 179, 3) := by decide +kernel
theorem dX8_wrap_9 : decode cX8_wrap 9 = .ok (.goto 4, 3) := by decide +kernel
theorem dX8_wrap_12 : decode cX8_wrap 12 = .ok (.iconst 0, 1) := by decide +kernel
theorem dX8_wrap_13 : decode cX8_wrap 13 = .ok (.ireturn, 1) := by decide +kernel
theorem dJ6_bitCount_0f7a4_0 : decode cJ6_bitCount_0f7a4 0 = .ok (.iload_n 0, 1) := by decide +kernel
theorem dJ6_bitCount_0f7a4_1 : decode cJ6_bitCount_0f7a4 1 = .ok (.iload_n 0, 1) := by decide +kernel
theorem dJ6_bitCount_0f7a4_2 : decode cJ6_bitCount_0f7a4 2 = .ok (.iconst 1, 1) := by decide +kernel
theorem dJ6_bitCount_0f7a4_3 : decode cJ6_bitCount_0f7a4 3 = .ok (.iushr, 1) := by decide +kernel
theorem dJ6_bitCount_0f7a4_4 : decode cJ6_bitCount_0f7a4 4 = .ok (.ldc_w 265, 3) := by decide +kernel
theorem dJ6_bitCount_0f7a4_7 : decode cJ6_bitCount_0f7a4 7 = .ok (.iand, 1) := by decide +kernel
theorem dJ6_bitCount_0f7a4_8 : decode cJ6_bitCount_0f7a4 8 = .ok (.isub, 1) := by decide +kernel
theorem dJ6_bitCount_0f7a4_9 : decode cJ6_bitCount_0f7a4 9 = .ok (.istore_n 0, 1) := by decide +kernel
theorem dJ6_bitCount_0f7a4_10 : decode cJ6_bitCount_0f7a4 10 = .ok (.iload_n 0, 1) := by decide +kernel
theorem dJ6_bitCount_0f7a4_11 : decode cJ6_bitCount_0f7a4 11 = .ok (.ldc_w 266, 3) := by decide +kernel
theorem dJ6_bitCount_0f7a4_14 : decode cJ6_bitCount_0f7a4 14 = .ok (.iand, 1) := by decide +kernel
theorem dJ6_bitCount_0f7a4_15 : decode cJ6_bitCount_0f7a4 15 = .ok (.iload_n 0, 1) := by decide +kernel
theorem dJ6_bitCount_0f7a4_16 : decode cJ6_bitCount_0f7a4 16 = .ok (.iconst 2, 1) := by decide +kernel
theorem dJ6_bitCount_0f7a4_17 : decode cJ6_bitCount_0f7a4 17 = .ok (.iushr, 1) := by decide +kernel
theorem dJ6_bitCount_0f7a4_18 : decode cJ6_bitCount_0f7a4 18 = .ok (.ldc_w 266, 3) := by decide +kernel
theorem dJ6_bitCount_0f7a4_21 : decode cJ6_bitCount_0f7a4 21 = .ok (.iand, 1) := by decide +kernel
theorem dJ6_bitCount_0f7a4_22 : decode cJ6_bitCount_0f7a4 22 = .ok (.iadd, 1) := by decide +kernel
theorem dJ6_bitCount_0f7a4_23 : decode cJ6_bitCount_0f7a4 23 = .ok (.istore_n 0, 1) := by decide +kernel
theorem dJ6_bitCount_0f7a4_24 : decode cJ6_bitCount_0f7a4 24 = .ok (.iload_n 0, 1) := by decide +kernel
theorem dJ6_bitCount_0f7a4_25 : decode cJ6_bitCount_0f7a4 25 = .ok (.iload_n 0, 1) := by decide +kernel
theorem dJ6_bitCount_0f7a4_26 : decode cJ6_bitCount_0f7a4 26 = .ok (.iconst 4, 1) := by decide +kernel
theorem dJ6_bitCount_0f7a4_27 : decode cJ6_bitCount_0f7a4 27 = .ok (.iushr, 1) := by decide +kernel
theorem dJ6_bitCount_0f7a4_28 : decode cJ6_bitCount_0f7a4 28 = .ok (.iadd, 1) := by decide +kernel
theorem dJ6_bitCount_0f7a4_29 : decode cJ6_bitCount_0f7a4 29 = .ok (.ldc_w 267, 3) := by decide +kernel
theorem dJ6_bitCount_0f7a4_32 : decode cJ6_bitCount_0f7a4 32 = .ok (.iand, 1) := by decide +kernel
theorem dJ6_bitCount_0f7a4_33 : decode cJ6_bitCount_0f7a4 33 = .ok (.istore_n 0, 1) := by decide +kernel
theorem dJ6_bitCount_0f7a4_34 : decode cJ6_bitCount_0f7a4 34 = .ok (.iload_n 0, 1) := by decide +kernel
theorem dJ6_bitCount_0f7a4_35 : decode cJ6_bitCount_0f7a4 35 = .ok (.iload_n 0, 1) := by decide +kernel
theorem dJ6_bitCount_0f7a4_36 : decode cJ6_bitCount_0f7a4 36 = .ok (.bipush 8, 2) := by decide +kernel
theorem dJ6_bitCount_0f7a4_38 : decode cJ6_bitCount_0f7a4 38 = .ok (.iushr, 1) := by decide +kernel
theorem dJ6_bitCount_0f7a4_39 : decode cJ6_bitCount_0f7a4 39 = .ok (.iadd, 1) := by decide +kernel
theorem dJ6_bitCount_0f7a4_40 : decode cJ6_bitCount_0f7a4 40 = .ok (.istore_n 0, 1) := by decide +kernel
theorem dJ6_bitCount_0f7a4_41 : decode cJ6_bitCount_0f7a4 41 = .ok (.iload_n 0, 1) := by decide +kernel
theorem dJ6_bitCount_0f7a4_42 : decode cJ6_bitCount_0f7a4 42 = .ok (.iload_n 0, 1) := by decide +kernel
theorem dJ6_bitCount_0f7a4_43 : decode cJ6_bitCount_0f7a4 43 = .ok (.bipush 16, 2) := by decide +kernel
theorem dJ6_bitCount_0f7a4_45 : decode cJ6_bitCount_0f7a4 45 = .ok (.iushr, 1) := by decide +kernel
theorem dJ6_bitCount_0f7a4_46 : decode cJ6_bitCount_0f7a4 46 = .ok (.iadd, 1) := by decide +kernel
theorem dJ6_bitCount_0f7a4_47 : decode cJ6_bitCount_0f7a4 47 = .ok (.istore_n 0, 1) := by decide +kernel
theorem dJ6_bitCount_0f7a4_48 : decode cJ6_bitCount_0f7a4 48 = .ok (.iload_n 0, 1) := by decide +kernel
theorem dJ6_bitCount_0f7a4_49 : decode cJ6_bitCount_0f7a4 49 = .ok (.bipush 63, 2) := by decide +kernel
theorem dJ6_bitCount_0f7a4_51 : decode cJ6_bitCount_0f7a4 51 = .ok (.iand, 1) := by decide +kernel
theorem dJ6_bitCount_0f7a4_52 : decode cJ6_bitCount_0f7a4 52 = .ok (.ireturn, 1) := by decide +kernel
theorem dJ9_floorMod_7cf53_0 : decode cJ9_floorMod_7cf53 0 = .ok (.iload_n 0, 1) := by decide +kernel
theorem dJ9_floorMod_7cf53_1 : decode cJ9_floorMod_7cf53 1 = .ok (.iload_n 1, 1) := by decide +kernel
theorem dJ9_floorMod_7cf53_2 : decode cJ9_floorMod_7cf53 2 = .ok (.irem, 1) := by decide +kernel
theorem dJ9_floorMod_7cf53_3 : decode cJ9_floorMod_7cf53 3 = .ok (.istore_n 2, 1) := by decide +kernel
theorem dJ9_floorMod_7cf53_4 : decode cJ9_floorMod_7cf53 4 = .ok (.iload_n 0, 1) := by decide +kernel
theorem dJ9_floorMod_7cf53_5 : decode cJ9_floorMod_7cf53 5 = .ok (.iload_n 1, 1) := by decide +kernel
theorem dJ9_floorMod_7cf53_6 : decode cJ9_floorMod_7cf53 6 = .ok (.ixor, 1) := by decide +kernel
theorem dJ9_floorMod_7cf53_7 : decode cJ9_floorMod_7cf53 7 = .ok (.ifCond .ge 11, 3) := by decide +kernel
theorem dJ9_floorMod_7cf53_10 : decode cJ9_floorMod_7cf53 10 = .ok (.iload_n 2, 1) := by decide +kernel
theorem dJ9_floorMod_7cf53_11 : decode cJ9_floorMod_7cf53 11 = .ok (.ifCond .eq 7, 3) := by decide +kernel
theorem dJ9_floorMod_7cf53_14 : decode cJ9_floorMod_7cf53 14 = .ok (.iload_n 2, 1) := by decide +kernel
theorem dJ9_floorMod_7cf53_15 : decode cJ9_floorMod_7cf53 15 = .ok (.iload_n 1, 1) := by decide +kernel
theorem dJ9_floorMod_7cf53_16 : decode cJ9_floorMod_7cf53 16 = .ok (.iadd, 1) := by decide +kernel
theorem dJ9_floorMod_7cf53_17 : decode cJ9_floorMod_7cf53 17 = .ok (.ireturn, 1) := by decide +kernel
theorem dJ9_floorMod_7cf53_18 : decode cJ9_floorMod_7cf53 18 = .ok (.iload_n 2, 1) := by decide +kernel
theorem dJ9_floorMod_7cf53_19 : decode cJ9_floorMod_7cf53 19 = .ok (.ireturn, 1) := by decide +kernel
theorem dJ9_min_7cf53_0 : decode cJ9_min_7cf53 0 = .ok (.iload_n 0, 1) := by decide +kernel
theorem dJ9_min_7cf53_1 : decode cJ9_min_7cf53 1 = .ok (.iload_n 1, 1) := by decide +kernel
theorem dJ9_min_7cf53_2 : decode cJ9_min_7cf53 2 = .ok (.if_icmp .gt 7, 3) := by decide +kernel
theorem dJ9_min_7cf53_5 : decode cJ9_min_7cf53 5 = .ok (.iload_n 0, 1) := by decide +kernel
theorem dJ9_min_7cf53_6 : decode cJ9_min_7cf53 6 = .ok (.goto 4, 3) := by decide +kernel
theorem dJ9_min_7cf53_9 : decode cJ9_min_7cf53 9 = .ok (.iload_n 1, 1) := by decide +kernel
theorem dJ9_min_7cf53_10 : decode cJ9_min_7cf53 10 = .ok (.ireturn, 1) := by decide +kernel
