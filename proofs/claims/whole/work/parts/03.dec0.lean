theorem dX0_init_0 : decode cX0_init 0 = .ok (.aload_n 0, 1) := by decide +kernel
theorem dX0_init_1 : decode cX0_init 1 = .ok (.invokespecial 3, 3) := by decide +kernel
theorem dX0_init_4 : decode cX0_init 4 = .ok (.aload_n 0, 1) := by decide +kernel
theorem dX0_init_5 : decode cX0_init 5 = .ok (.bipush 20, 2) := by decide +kernel
theorem dX0_init_7 : decode cX0_init 7 = .ok (.newarray .int, 2) := by decide +kernel
theorem dX0_init_9 : decode cX0_init 9 = .ok (.putfield 9, 3) := by decide +kernel
theorem dX0_init_12 : decode cX0_init 12 = .ok (.return_, 1) := by decide +kernel
theorem dX0_forgetTrace_0 : decode cX0_forgetTrace 0 = .ok (.aload_n 0, 1) := by decide +kernel
theorem dX0_forgetTrace_1 : decode cX0_forgetTrace 1 = .ok (.iconst 0, 1) := by decide +kernel
theorem dX0_forgetTrace_2 : decode cX0_forgetTrace 2 = .ok (.putfield 15, 3) := by decide +kernel
theorem dX0_forgetTrace_5 : decode cX0_forgetTrace 5 = .ok (.return_, 1) := by decide +kernel
theorem dX0_bodyAt_0 : decode cX0_bodyAt 0 = .ok (.iload_n 1, 1) := by decide +kernel
theorem dX0_bodyAt_1 : decode cX0_bodyAt 1 = .ok (.ifCond .lt 29, 3) := by decide +kernel
theorem dX0_bodyAt_4 : decode cX0_bodyAt 4 = .ok (.iload_n 1, 1) := by decide +kernel
theorem dX0_bodyAt_5 : decode cX0_bodyAt 5 = .ok (.aload_n 0, 1) := by decide +kernel
theorem dX0_bodyAt_6 : decode cX0_bodyAt 6 = .ok (.getfield 15, 3) := by decide +kernel
theorem dX0_bodyAt_9 : decode cX0_bodyAt 9 = .ok (.if_icmp .ge 21, 3) := by decide +kernel
theorem dX0_bodyAt_12 : decode cX0_bodyAt 12 = .ok (.iload_n 1, 1) := by decide +kernel
theorem dX0_bodyAt_13 : decode cX0_bodyAt 13 = .ok (.aload_n 0, 1) := by decide +kernel
theorem dX0_bodyAt_14 : decode cX0_bodyAt 14 = .ok (.getfield 9, 3) := by decide +kernel
theorem dX0_bodyAt_17 : decode cX0_bodyAt 17 = .ok (.arraylength, 1) := by decide +kernel
theorem dX0_bodyAt_18 : decode cX0_bodyAt 18 = .ok (.if_icmp .ge 12, 3) := by decide +kernel
theorem dX0_bodyAt_21 : decode cX0_bodyAt 21 = .ok (.aload_n 0, 1) := by decide +kernel
theorem dX0_bodyAt_22 : decode cX0_bodyAt 22 = .ok (.getfield 9, 3) := by decide +kernel
theorem dX0_bodyAt_25 : decode cX0_bodyAt 25 = .ok (.iload_n 1, 1) := by decide +kernel
theorem dX0_bodyAt_26 : decode cX0_bodyAt 26 = .ok (.iaload, 1) := by decide +kernel
theorem dX0_bodyAt_27 : decode cX0_bodyAt 27 = .ok (.goto 4, 3) := by decide +kernel
theorem dX0_bodyAt_30 : decode cX0_bodyAt 30 = .ok (.iconst (-1), 1) := by decide +kernel
theorem dX0_bodyAt_31 : decode cX0_bodyAt 31 = .ok (.ireturn, 1) := by decide +kernel
theorem dX0_perform_0 : decode cX0_perform 0 = .ok (.aload_n 0, 1) := by decide +kernel
theorem dX0_perform_1 : decode cX0_perform 1 = .ok (.aload_n 1, 1) := by decide +kernel
theorem dX0_perform_2 : decode cX0_perform 2 = .ok (.getfield 19, 3) := by decide +kernel
theorem dX0_perform_5 : decode cX0_perform 5 = .ok (.putfield 24, 3) := by decide +kernel
theorem dX0_perform_8 : decode cX0_perform 8 = .ok (.aload_n 0, 1) := by decide +kernel
theorem dX0_perform_9 : decode cX0_perform 9 = .ok (.iload_n 2, 1) := by decide +kernel
theorem dX0_perform_10 : decode cX0_perform 10 = .ok (.putfield 25, 3) := by decide +kernel
theorem dX0_perform_13 : decode cX0_perform 13 = .ok (.aload_n 0, 1) := by decide +kernel
theorem dX0_perform_14 : decode cX0_perform 14 = .ok (.aload_n 1, 1) := by decide +kernel
theorem dX0_perform_15 : decode cX0_perform 15 = .ok (.getfield 28, 3) := by decide +kernel
theorem dX0_perform_18 : decode cX0_perform 18 = .ok (.putfield 31, 3) := by decide +kernel
theorem dX0_perform_21 : decode cX0_perform 21 = .ok (.iload_n 3, 1) := by decide +kernel
theorem dX0_perform_22 : decode cX0_perform 22 = .ok (.ifCond .ne 14, 3) := by decide +kernel
theorem dX0_perform_25 : decode cX0_perform 25 = .ok (.aload_n 0, 1) := by decide +kernel
theorem dX0_perform_26 : decode cX0_perform 26 = .ok (.aload_n 0, 1) := by decide +kernel
theorem dX0_perform_27 : decode cX0_perform 27 = .ok (.getfield 24, 3) := by decide +kernel
theorem dX0_perform_30 : decode cX0_perform 30 = .ok (.iload 4, 2) := by decide +kernel
theorem dX0_perform_32 : decode cX0_perform 32 = .ok (.invokevirtual 32, 3) := by decide +kernel
theorem dX0_perform_35 : decode cX0_perform 35 = .ok (.ireturn, 1) := by decide +kernel
theorem dX0_perform_36 : decode cX0_perform 36 = .ok (.iload_n 3, 1) := by decide +kernel
theorem dX0_perform_37 : decode cX0_perform 37 = .ok (.iconst 1, 1) := by decide +kernel
theorem dX0_perform_38 : decode cX0_perform 38 = .ok (.if_icmp .ne 16, 3) := by decide +kernel
theorem dX0_perform_41 : decode cX0_perform 41 = .ok (.aload_n 0, 1) := by decide +kernel
theorem dX0_perform_42 : decode cX0_perform 42 = .ok (.aload_n 0, 1) := by decide +kernel
theorem dX0_perform_43 : decode cX0_perform 43 = .ok (.getfield 24, 3) := by decide +kernel
theorem dX0_perform_46 : decode cX0_perform 46 = .ok (.iload 4, 2) := by decide +kernel
theorem dX0_perform_48 : decode cX0_perform 48 = .ok (.invokevirtual 36, 3) := by decide +kernel
theorem dX0_perform_51 : decode cX0_perform 51 = .ok (.goto 13, 3) := by decide +kernel
theorem dX0_perform_54 : decode cX0_perform 54 = .ok (.aload_n 0, 1) := by decide +kernel
theorem dX0_perform_55 : decode cX0_perform 55 = .ok (.aload_n 0, 1) := by decide +kernel
theorem dX0_perform_56 : decode cX0_perform 56 = .ok (.getfield 24, 3) := by decide +kernel
theorem dX0_perform_59 : decode cX0_perform 59 = .ok (.iload 4, 2) := by decide +kernel
theorem dX0_perform_61 : decode cX0_perform 61 = .ok (.invokevirtual 39, 3) := by decide +kernel
theorem dX0_perform_64 : decode cX0_perform 64 = .ok (.ireturn, 1) := by decide +kernel
theorem dX0_begin_0 : decode cX0_begin 0 = .ok (.aload_n 0, 1) := by decide +kernel
theorem dX0_begin_1 : decode cX0_begin 1 = .ok (.getfield 15, 3) := by decide +kernel
theorem dX0_begin_4 : decode cX0_begin 4 = .ok (.aload_n 0, 1) := by decide +kernel
theorem dX0_begin_5 : decode cX0_begin 5 = .ok (.getfield 9, 3) := by decide +kernel
theorem dX0_begin_8 : decode cX0_begin 8 = .ok (.arraylength, 1) := by decide +kernel
theorem dX0_begin_9 : decode cX0_begin 9 = .ok (.if_icmp .ge 13, 3) := by decide +kernel
theorem dX0_begin_12 : decode cX0_begin 12 = .ok (.aload_n 0, 1) := by decide +kernel
theorem dX0_begin_13 : decode cX0_begin 13 = .ok (.getfield 9, 3) := by decide +kernel
theorem dX0_begin_16 : decode cX0_begin 16 = .ok (.aload_n 0, 1) := by decide +kernel
theorem dX0_begin_17 : decode cX0_begin 17 = .ok (.getfield 15, 3) := by decide +kernel
theorem dX0_begin_20 : decode cX0_begin 20 = .ok (.iload_n 1, 1) := by decide +kernel
theorem dX0_begin_21 : decode cX0_begin 21 = .ok (.iastore, 1) := by decide +kernel
theorem dX0_begin_22 : decode cX0_begin 22 = .ok (.aload_n 0, 1) := by decide +kernel
theorem dX0_begin_23 : decode cX0_begin 23 = .ok (.dup, 1) := by decide +kernel
theorem dX0_begin_24 : decode cX0_begin 24 = .ok (.getfield 15, 3) := by decide +kernel
theorem dX0_begin_27 : decode cX0_begin 27 = .ok (.iconst 1, 1) := by decide +kernel
theorem dX0_begin_28 : decode cX0_begin 28 = .ok (.iadd, 1) := by decide +kernel
theorem dX0_begin_29 : decode cX0_begin 29 = .ok (.putfield 15, 3) := by decide +kernel
theorem dX0_begin_32 : decode cX0_begin 32 = .ok (.return_, 1) := by decide +kernel
theorem dX0_doCounts_0 : decode cX0_doCounts 0 = .ok (.iload_n 1, 1) := by decide +kernel
theorem dX0_doCounts_1 : decode cX0_doCounts 1 = .ok (.tableswitch 116 0 6 #[43, 56, 116, 116, 77, 116, 98], 43) := by decide +kernel
theorem dX0_doCounts_44 : decode cX0_doCounts 44 = .ok (.aload_n 0, 1) := by decide +kernel
theorem dX0_doCounts_45 : decode cX0_doCounts 45 = .ok (.bipush 10, 2) := by decide +kernel
theorem dX0_doCounts_47 : decode cX0_doCounts 47 = .ok (.invokevirtual 42, 3) := by decide +kernel
theorem dX0_doCounts_50 : decode cX0_doCounts 50 = .ok (.iload_n 2, 1) := by decide +kernel
theorem dX0_doCounts_51 : decode cX0_doCounts 51 = .ok (.aload_n 0, 1) := by decide +kernel
theorem dX0_doCounts_52 : decode cX0_doCounts 52 = .ok (.getfield 25, 3) := by decide +kernel
theorem dX0_doCounts_55 : decode cX0_doCounts 55 = .ok (.iadd, 1) := by decide +kernel
theorem dX0_doCounts_56 : decode cX0_doCounts 56 = .ok (.ireturn, 1) := by decide +kernel
theorem dX0_doCounts_57 : decode cX0_doCounts 57 = .ok (.aload_n 0, 1) := by decide +kernel
theorem dX0_doCounts_58 : decode cX0_doCounts 58 = .ok (.bipush 20, 2) := by decide +kernel
theorem dX0_doCounts_60 : decode cX0_doCounts 60 = .ok (.invokevirtual 42, 3) := by decide +kernel
theorem dX0_doCounts_63 : decode cX0_doCounts 63 = .ok (.aload_n 0, 1) := by decide +kernel
theorem dX0_doCounts_64 : decode cX0_doCounts 64 = .ok (.iload_n 1, 1) := by decide +kernel
theorem dX0_doCounts_65 : decode cX0_doCounts 65 = .ok (.invokestatic 46, 3) := by decide +kernel
theorem dX0_doCounts_68 : decode cX0_doCounts 68 = .ok (.iload_n 2, 1) := by decide +kernel
theorem dX0_doCounts_69 : decode cX0_doCounts 69 = .ok (.invokevirtual 32, 3) := by decide +kernel
theorem dX0_doCounts_72 : decode cX0_doCounts 72 = .ok (.aload_n 0, 1) := by decide +kernel
theorem dX0_doCounts_73 : decode cX0_doCounts 73 = .ok (.getfield 31, 3) := by decide +kernel
theorem dX0_doCounts_76 : decode cX0_doCounts 76 = .ok (.iadd, 1) := by decide +kernel
theorem dX0_doCounts_77 : decode cX0_doCounts 77 = .ok (.ireturn, 1) := by decide +kernel
theorem dX0_doCounts_78 : decode cX0_doCounts 78 = .ok (.aload_n 0, 1) := by decide +kernel
theorem dX0_doCounts_79 : decode cX0_doCounts 79 = .ok (.bipush 51, 2) := by decide +kernel
theorem dX0_doCounts_81 : decode cX0_doCounts 81 = .ok (.invokevirtual 42, 3) := by decide +kernel
theorem dX0_doCounts_84 : decode cX0_doCounts 84 = .ok (.aload_n 0, 1) := by decide +kernel
theorem dX0_doCounts_85 : decode cX0_doCounts 85 = .ok (.iload_n 1, 1) := by decide +kernel
theorem dX0_doCounts_86 : decode cX0_doCounts 86 = .ok (.invokestatic 46, 3) := by decide +kernel
theorem dX0_doCounts_89 : decode cX0_doCounts 89 = .ok (.iload_n 2, 1) := by decide +kernel
theorem dX0_doCounts_90 : decode cX0_doCounts 90 = .ok (.invokevirtual 32, 3) := by decide +kernel
theorem dX0_doCounts_93 : decode cX0_doCounts 93 = .ok (.aload_n 0, 1) := by decide +kernel
theorem dX0_doCounts_94 : decode cX0_doCounts 94 = .ok (.getfield 25, 3) := by decide +kernel
theorem dX0_doCounts_97 : decode cX0_doCounts 97 = .ok (.isub, 1) := by decide +kernel
theorem dX0_doCounts_98 : decode cX0_doCounts 98 = .ok (.ireturn, 1) := by decide +kernel
theorem dX0_doCounts_99 : decode cX0_doCounts 99 = .ok (.aload_n 0, 1) := by decide +kernel
theorem dX0_doCounts_100 : decode cX0_doCounts 100 = .ok (.bipush 70, 2) := by decide +kernel
theorem dX0_doCounts_102 : decode cX0_doCounts 102 = .ok (.invokevirtual 42, 3) := by decide +kernel
theorem dX0_doCounts_105 : decode cX0_doCounts 105 = .ok (.aload_n 0, 1) := by decide +kernel
theorem dX0_doCounts_106 : decode cX0_doCounts 106 = .ok (.iload_n 1, 1) := by decide +kernel
theorem dX0_doCounts_107 : decode cX0_doCounts 107 = .ok (.invokestatic 46, 3) := by decide +kernel
theorem dX0_doCounts_110 : decode cX0_doCounts 110 = .ok (.iload_n 2, 1) := by decide +kernel
theorem dX0_doCounts_111 : decode cX0_doCounts 111 = .ok (.invokevirtual 32, 3) := by decide +kernel
theorem dX0_doCounts_114 : decode cX0_doCounts 114 = .ok (.iconst 2, 1) := by decide +kernel
theorem dX0_doCounts_115 : decode cX0_doCounts 115 = .ok (.imul, 1) := by decide +kernel
theorem dX0_doCounts_116 : decode cX0_doCounts 116 = .ok (.ireturn, 1) := by decide +kernel
theorem dX0_doCounts_117 : decode cX0_doCounts 117 = .ok (.iload_n 1, 1) := by decide +kernel
theorem dX0_doCounts_118 : decode cX0_doCounts 118 = .ok (.invokestatic 50, 3) := by decide +kernel
theorem dX0_doCounts_121 : decode cX0_doCounts 121 = .ok (.ifCond .eq 15, 3) := by decide +kernel
theorem dX0_doCounts_124 : decode cX0_doCounts 124 = .ok (.aload_n 0, 1) := by decide +kernel
theorem dX0_doCounts_125 : decode cX0_doCounts 125 = .ok (.iload_n 1, 1) := by decide +kernel
theorem dX0_doCounts_126 : decode cX0_doCounts 126 = .ok (.invokestatic 46, 3) := by decide +kernel
theorem dX0_doCounts_129 : decode cX0_doCounts 129 = .ok (.iload_n 2, 1) := by decide +kernel
theorem dX0_doCounts_130 : decode cX0_doCounts 130 = .ok (.invokevirtual 32, 3) := by decide +kernel
theorem dX0_doCounts_133 : decode cX0_doCounts 133 = .ok (.goto 4, 3) := by decide +kernel
theorem dX0_doCounts_136 : decode cX0_doCounts 136 = .ok (.iconst 0, 1) := by decide +kernel
theorem dX0_doCounts_137 : decode cX0_doCounts 137 = .ok (.ireturn, 1) := by decide +kernel
theorem dX0_doAsks_0 : decode cX0_doAsks 0 = .ok (.iload_n 1, 1) := by decide +kernel
theorem dX0_doAsks_1 : decode cX0_doAsks 1 = .ok (.tableswitch 118 0 6 #[43, 118, 61, 79, 118, 118, 97], 43) := by decide +kernel
theorem dX0_doAsks_44 : decode cX0_doAsks 44 = .ok (.aload_n 0, 1) := by decide +kernel
theorem dX0_doAsks_45 : decode cX0_doAsks 45 = .ok (.bipush 11, 2) := by decide +kernel
theorem dX0_doAsks_47 : decode cX0_doAsks 47 = .ok (.invokevirtual 42, 3) := by decide +kernel
theorem dX0_doAsks_50 : decode cX0_doAsks 50 = .ok (.aload_n 0, 1) := by decide +kernel
theorem dX0_doAsks_51 : decode cX0_doAsks 51 = .ok (.aload_n 0, 1) := by decide +kernel
theorem dX0_doAsks_52 : decode cX0_doAsks 52 = .ok (.getfield 24, 3) := by decide +kernel
theorem dX0_doAsks_55 : decode cX0_doAsks 55 = .ok (.iload_n 2, 1) := by decide +kernel
theorem dX0_doAsks_56 : decode cX0_doAsks 56 = .ok (.invokevirtual 32, 3) := by decide +kernel
theorem dX0_doAsks_59 : decode cX0_doAsks 59 = .ok (.iconst 2, 1) := by decide +kernel
theorem dX0_doAsks_60 : decode cX0_doAsks 60 = .ok (.imul, 1) := by decide +kernel
theorem dX0_doAsks_61 : decode cX0_doAsks 61 = .ok (.ireturn, 1) := by decide +kernel
theorem dX0_doAsks_62 : decode cX0_doAsks 62 = .ok (.aload_n 0, 1) := by decide +kernel
theorem dX0_doAsks_63 : decode cX0_doAsks 63 = .ok (.bipush 30, 2) := by decide +kernel
theorem dX0_doAsks_65 : decode cX0_doAsks 65 = .ok (.invokevirtual 42, 3) := by decide +kernel
theorem dX0_doAsks_68 : decode cX0_doAsks 68 = .ok (.aload_n 0, 1) := by decide +kernel
theorem dX0_doAsks_69 : decode cX0_doAsks 69 = .ok (.iload_n 1, 1) := by decide +kernel
theorem dX0_doAsks_70 : decode cX0_doAsks 70 = .ok (.invokestatic 46, 3) := by decide +kernel
theorem dX0_doAsks_73 : decode cX0_doAsks 73 = .ok (.iload_n 2, 1) := by decide +kernel
theorem dX0_doAsks_74 : decode cX0_doAsks 74 = .ok (.invokevirtual 36, 3) := by decide +kernel
theorem dX0_doAsks_77 : decode cX0_doAsks 77 = .ok (.iconst 3, 1) := by decide +kernel
theorem dX0_doAsks_78 : decode cX0_doAsks 78 = .ok (.imul, 1) := by decide +kernel
theorem dX0_doAsks_79 : decode cX0_doAsks 79 = .ok (.ireturn, 1) := by decide +kernel
theorem dX0_doAsks_80 : decode cX0_doAsks 80 = .ok (.aload_n 0, 1) := by decide +kernel
theorem dX0_doAsks_81 : decode cX0_doAsks 81 = .ok (.bipush 40, 2) := by decide +kernel
theorem dX0_doAsks_83 : decode cX0_doAsks 83 = .ok (.invokevirtual 42, 3) := by decide +kernel
theorem dX0_doAsks_86 : decode cX0_doAsks 86 = .ok (.aload_n 0, 1) := by decide +kernel
theorem dX0_doAsks_87 : decode cX0_doAsks 87 = .ok (.iload_n 1, 1) := by decide +kernel
theorem dX0_doAsks_88 : decode cX0_doAsks 88 = .ok (.invokestatic 46, 3) := by decide +kernel
theorem dX0_doAsks_91 : decode cX0_doAsks 91 = .ok (.iload_n 2, 1) := by decide +kernel
theorem dX0_doAsks_92 : decode cX0_doAsks 92 = .ok (.iconst 1, 1) := by decide +kernel
theorem dX0_doAsks_93 : decode cX0_doAsks 93 = .ok (.iadd, 1) := by decide +kernel
theorem dX0_doAsks_94 : decode cX0_doAsks 94 = .ok (.invokevirtual 36, 3) := by decide +kernel
theorem dX0_doAsks_97 : decode cX0_doAsks 97 = .ok (.ireturn, 1) := by decide +kernel
theorem dX0_doAsks_98 : decode cX0_doAsks 98 = .ok (.aload_n 0, 1) := by decide +kernel
theorem dX0_doAsks_99 : decode cX0_doAsks 99 = .ok (.bipush 71, 2) := by decide +kernel
theorem dX0_doAsks_101 : decode cX0_doAsks 101 = .ok (.invokevirtual 42, 3) := by decide +kernel
theorem dX0_doAsks_104 : decode cX0_doAsks 104 = .ok (.aload_n 0, 1) := by decide +kernel
theorem dX0_doAsks_105 : decode cX0_doAsks 105 = .ok (.iload_n 1, 1) := by decide +kernel
theorem dX0_doAsks_106 : decode cX0_doAsks 106 = .ok (.invokestatic 46, 3) := by decide +kernel
theorem dX0_doAsks_109 : decode cX0_doAsks 109 = .ok (.iload_n 2, 1) := by decide +kernel
theorem dX0_doAsks_110 : decode cX0_doAsks 110 = .ok (.aload_n 0, 1) := by decide +kernel
theorem dX0_doAsks_111 : decode cX0_doAsks 111 = .ok (.getfield 31, 3) := by decide +kernel
theorem dX0_doAsks_114 : decode cX0_doAsks 114 = .ok (.isub, 1) := by decide +kernel
theorem dX0_doAsks_115 : decode cX0_doAsks 115 = .ok (.invokevirtual 36, 3) := by decide +kernel
theorem dX0_doAsks_118 : decode cX0_doAsks 118 = .ok (.ireturn, 1) := by decide +kernel
theorem dX0_doAsks_119 : decode cX0_doAsks 119 = .ok (.iload_n 1, 1) := by decide +kernel
theorem dX0_doAsks_120 : decode cX0_doAsks 120 = .ok (.invokestatic 50, 3) := by decide +kernel
theorem dX0_doAsks_123 : decode cX0_doAsks 123 = .ok (.ifCond .eq 15, 3) := by decide +kernel
theorem dX0_doAsks_126 : decode cX0_doAsks 126 = .ok (.aload_n 0, 1) := by decide +kernel
theorem dX0_doAsks_127 : decode cX0_doAsks 127 = .ok (.iload_n 1, 1) := by decide +kernel
theorem dX0_doAsks_128 : decode cX0_doAsks 128 = .ok (.invokestatic 46, 3) := by decide +kernel
theorem dX0_doAsks_131 : decode cX0_doAsks 131 = .ok (.iload_n 2, 1) := by decide +kernel
theorem dX0_doAsks_132 : decode cX0_doAsks 132 = .ok (.invokevirtual 36, 3) := by decide +kernel
theorem dX0_doAsks_135 : decode cX0_doAsks 135 = .ok (.goto 4, 3) := by decide +kernel
theorem dX0_doAsks_138 : decode cX0_doAsks 138 = .ok (.iconst 0, 1) := by decide +kernel
theorem dX0_doAsks_139 : decode cX0_doAsks 139 = .ok (.ireturn, 1) := by decide +kernel
theorem dX0_doEnds_0 : decode cX0_doEnds 0 = .ok (.iload_n 1, 1) := by decide +kernel
theorem dX0_doEnds_1 : decode cX0_doEnds 1 = .ok (.lookupswitch 82 #[(0, 35), (4, 47), (5, 64)], 35) := by decide +kernel
theorem dX0_doEnds_36 : decode cX0_doEnds 36 = .ok (.aload_n 0, 1) := by decide +kernel
theorem dX0_doEnds_37 : decode cX0_doEnds 37 = .ok (.bipush 12, 2) := by decide +kernel
theorem dX0_doEnds_39 : decode cX0_doEnds 39 = .ok (.invokevirtual 42, 3) := by decide +kernel
theorem dX0_doEnds_42 : decode cX0_doEnds 42 = .ok (.aload_n 0, 1) := by decide +kernel
theorem dX0_doEnds_43 : decode cX0_doEnds 43 = .ok (.iload_n 2, 1) := by decide +kernel
theorem dX0_doEnds_44 : decode cX0_doEnds 44 = .ok (.invokevirtual 54, 3) := by decide +kernel
theorem dX0_doEnds_47 : decode cX0_doEnds 47 = .ok (.ireturn, 1) := by decide +kernel
theorem dX0_doEnds_48 : decode cX0_doEnds 48 = .ok (.aload_n 0, 1) := by decide +kernel
theorem dX0_doEnds_49 : decode cX0_doEnds 49 = .ok (.bipush 50, 2) := by decide +kernel
theorem dX0_doEnds_51 : decode cX0_doEnds 51 = .ok (.invokevirtual 42, 3) := by decide +kernel
theorem dX0_doEnds_54 : decode cX0_doEnds 54 = .ok (.aload_n 0, 1) := by decide +kernel
theorem dX0_doEnds_55 : decode cX0_doEnds 55 = .ok (.iload_n 1, 1) := by decide +kernel
theorem dX0_doEnds_56 : decode cX0_doEnds 56 = .ok (.invokestatic 46, 3) := by decide +kernel
theorem dX0_doEnds_59 : decode cX0_doEnds 59 = .ok (.iload_n 2, 1) := by decide +kernel
theorem dX0_doEnds_60 : decode cX0_doEnds 60 = .ok (.invokevirtual 39, 3) := by decide +kernel
theorem dX0_doEnds_63 : decode cX0_doEnds 63 = .ok (.ineg, 1) := by decide +kernel
theorem dX0_doEnds_64 : decode cX0_doEnds 64 = .ok (.ireturn, 1) := by decide +kernel
theorem dX0_doEnds_65 : decode cX0_doEnds 65 = .ok (.aload_n 0, 1) := by decide +kernel
theorem dX0_doEnds_66 : decode cX0_doEnds 66 = .ok (.bipush 60, 2) := by decide +kernel
theorem dX0_doEnds_68 : decode cX0_doEnds 68 = .ok (.invokevirtual 42, 3) := by decide +kernel
theorem dX0_doEnds_71 : decode cX0_doEnds 71 = .ok (.aload_n 0, 1) := by decide +kernel
theorem dX0_doEnds_72 : decode cX0_doEnds 72 = .ok (.iload_n 1, 1) := by decide +kernel
theorem dX0_doEnds_73 : decode cX0_doEnds 73 = .ok (.invokestatic 46, 3) := by decide +kernel
theorem dX0_doEnds_76 : decode cX0_doEnds 76 = .ok (.iload_n 2, 1) := by decide +kernel
theorem dX0_doEnds_77 : decode cX0_doEnds 77 = .ok (.invokevirtual 39, 3) := by decide +kernel
theorem dX0_doEnds_80 : decode cX0_doEnds 80 = .ok (.iconst 5, 1) := by decide +kernel
theorem dX0_doEnds_81 : decode cX0_doEnds 81 = .ok (.ixor, 1) := by decide +kernel
theorem dX0_doEnds_82 : decode cX0_doEnds 82 = .ok (.ireturn, 1) := by decide +kernel
theorem dX0_doEnds_83 : decode cX0_doEnds 83 = .ok (.iload_n 1, 1) := by decide +kernel
theorem dX0_doEnds_84 : decode cX0_doEnds 84 = .ok (.invokestatic 50, 3) := by decide +kernel
theorem dX0_doEnds_87 : decode cX0_doEnds 87 = .ok (.ifCond .eq 15, 3) := by decide +kernel
theorem dX0_doEnds_90 : decode cX0_doEnds 90 = .ok (.aload_n 0, 1) := by decide +kernel
theorem dX0_doEnds_91 : decode cX0_doEnds 91 = .ok (.iload_n 1, 1) := by decide +kernel
theorem dX0_doEnds_92 : decode cX0_doEnds 92 = .ok (.invokestatic 46, 3) := by decide +kernel
theorem dX0_doEnds_95 : decode cX0_doEnds 95 = .ok (.iload_n 2, 1) := by decide +kernel
theorem dX0_doEnds_96 : decode cX0_doEnds 96 = .ok (.invokevirtual 39, 3) := by decide +kernel
theorem dX0_doEnds_99 : decode cX0_doEnds 99 = .ok (.goto 4, 3) := by decide +kernel
theorem dX0_doEnds_102 : decode cX0_doEnds 102 = .ok (.iconst 0, 1) := by decide +kernel
theorem dX0_doEnds_103 : decode cX0_doEnds 103 = .ok (.ireturn, 1) := by decide +kernel
theorem dX0_endCounter_0 : decode cX0_endCounter 0 = .ok (.aload_n 0, 1) := by decide +kernel
theorem dX0_endCounter_1 : decode cX0_endCounter 1 = .ok (.aload_n 0, 1) := by decide +kernel
theorem dX0_endCounter_2 : decode cX0_endCounter 2 = .ok (.getfield 24, 3) := by decide +kernel
theorem dX0_endCounter_5 : decode cX0_endCounter 5 = .ok (.iload_n 1, 1) := by decide +kernel
theorem dX0_endCounter_6 : decode cX0_endCounter 6 = .ok (.invokevirtual 36, 3) := by decide +kernel
theorem dX0_endCounter_9 : decode cX0_endCounter 9 = .ok (.istore_n 2, 1) := by decide +kernel
theorem dX0_endCounter_10 : decode cX0_endCounter 10 = .ok (.iload_n 2, 1) := by decide +kernel
theorem dX0_endCounter_11 : decode cX0_endCounter 11 = .ok (.aload_n 0, 1) := by decide +kernel
theorem dX0_endCounter_12 : decode cX0_endCounter 12 = .ok (.aload_n 0, 1) := by decide +kernel
theorem dX0_endCounter_13 : decode cX0_endCounter 13 = .ok (.getfield 24, 3) := by decide +kernel
theorem dX0_endCounter_16 : decode cX0_endCounter 16 = .ok (.iload_n 1, 1) := by decide +kernel
theorem dX0_endCounter_17 : decode cX0_endCounter 17 = .ok (.aload_n 0, 1) := by decide +kernel
theorem dX0_endCounter_18 : decode cX0_endCounter 18 = .ok (.getfield 31, 3) := by decide +kernel
theorem dX0_endCounter_21 : decode cX0_endCounter 21 = .ok (.isub, 1) := by decide +kernel
theorem dX0_endCounter_22 : decode cX0_endCounter 22 = .ok (.invokevirtual 32, 3) := by decide +kernel
theorem dX0_endCounter_25 : decode cX0_endCounter 25 = .ok (.ixor, 1) := by decide +kernel
theorem dX0_endCounter_26 : decode cX0_endCounter 26 = .ok (.ireturn, 1) := by decide +kernel
theorem dX1_init_0 : decode cX1_init 0 = .ok (.aload_n 0, 1) := by decide +kernel
theorem dX1_init_1 : decode cX1_init 1 = .ok (.invokespecial 3, 3) := by decide +kernel
theorem dX1_init_4 : decode cX1_init 4 = .ok (.aload_n 0, 1) := by decide +kernel
theorem dX1_init_5 : decode cX1_init 5 = .ok (.sipush 2000, 3) := by decide +kernel
theorem dX1_init_8 : decode cX1_init 8 = .ok (.newarray .int, 2) := by decide +kernel
theorem dX1_init_10 : decode cX1_init 10 = .ok (.putfield 9, 3) := by decide +kernel
theorem dX1_init_13 : decode cX1_init 13 = .ok (.aload_n 0, 1) := by decide +kernel
theorem dX1_init_14 : decode cX1_init 14 = .ok (.sipush 2000, 3) := by decide +kernel
theorem dX1_init_17 : decode cX1_init 17 = .ok (.newarray .int, 2) := by decide +kernel
theorem dX1_init_19 : decode cX1_init 19 = .ok (.putfield 15, 3) := by decide +kernel
theorem dX1_init_22 : decode cX1_init 22 = .ok (.aload_n 0, 1) := by decide +kernel
theorem dX1_init_23 : decode cX1_init 23 = .ok (.sipush 2000, 3) := by decide +kernel
theorem dX1_init_26 : decode cX1_init 26 = .ok (.newarray .int, 2) := by decide +kernel
theorem dX1_init_28 : decode cX1_init 28 = .ok (.putfield 18, 3) := by decide +kernel
theorem dX1_init_31 : decode cX1_init 31 = .ok (.return_, 1) := by decide +kernel
theorem dX1_behind_0 : decode cX1_behind 0 = .ok (.aload_n 0, 1) := by decide +kernel
theorem dX1_behind_1 : decode cX1_behind 1 = .ok (.aload_n 1, 1) := by decide +kernel
theorem dX1_behind_2 : decode cX1_behind 2 = .ok (.iload_n 2, 1) := by decide +kernel
theorem dX1_behind_3 : decode cX1_behind 3 = .ok (.aload_n 1, 1) := by decide +kernel
theorem dX1_behind_4 : decode cX1_behind 4 = .ok (.getfield 21, 3) := by decide +kernel
theorem dX1_behind_7 : decode cX1_behind 7 = .ok (.invokevirtual 27, 3) := by decide +kernel
theorem dX1_behind_10 : decode cX1_behind 10 = .ok (.iconst 0, 1) := by decide +kernel
theorem dX1_behind_11 : decode cX1_behind 11 = .ok (.istore 4, 2) := by decide +kernel
theorem dX1_behind_13 : decode cX1_behind 13 = .ok (.iload 4, 2) := by decide +kernel
theorem dX1_behind_15 : decode cX1_behind 15 = .ok (.iload_n 3, 1) := by decide +kernel
theorem dX1_behind_16 : decode cX1_behind 16 = .ok (.if_icmp .ge 13, 3) := by decide +kernel
theorem dX1_behind_19 : decode cX1_behind 19 = .ok (.aload_n 0, 1) := by decide +kernel
theorem dX1_behind_20 : decode cX1_behind 20 = .ok (.invokevirtual 31, 3) := by decide +kernel
theorem dX1_behind_23 : decode cX1_behind 23 = .ok (.iinc 4 1, 3) := by decide +kernel
theorem dX1_behind_26 : decode cX1_behind 26 = .ok (.goto (-13), 3) := by decide +kernel
theorem dX1_behind_29 : decode cX1_behind 29 = .ok (.aload_n 0, 1) := by decide +kernel
theorem dX1_behind_30 : decode cX1_behind 30 = .ok (.getfield 34, 3) := by decide +kernel
theorem dX1_behind_33 : decode cX1_behind 33 = .ok (.ireturn, 1) := by decide +kernel
theorem dX1_untilAtLeast_0 : decode cX1_untilAtLeast 0 = .ok (.aload_n 0, 1) := by decide +kernel
theorem dX1_untilAtLeast_1 : decode cX1_untilAtLeast 1 = .ok (.aload_n 2, 1) := by decide +kernel
theorem dX1_untilAtLeast_2 : decode cX1_untilAtLeast 2 = .ok (.iload_n 3, 1) := by decide +kernel
theorem dX1_untilAtLeast_3 : decode cX1_untilAtLeast 3 = .ok (.iload 4, 2) := by decide +kernel
theorem dX1_untilAtLeast_5 : decode cX1_untilAtLeast 5 = .ok (.invokevirtual 27, 3) := by decide +kernel
theorem dX1_untilAtLeast_8 : decode cX1_untilAtLeast 8 = .ok (.iconst 0, 1) := by decide +kernel
theorem dX1_untilAtLeast_9 : decode cX1_untilAtLeast 9 = .ok (.istore 6, 2) := by decide +kernel
theorem dX1_untilAtLeast_11 : decode cX1_untilAtLeast 11 = .ok (.iload 6, 2) := by decide +kernel
theorem dX1_untilAtLeast_13 : decode cX1_untilAtLeast 13 = .ok (.iload 5, 2) := by decide +kernel
theorem dX1_untilAtLeast_15 : decode cX1_untilAtLeast 15 = .ok (.if_icmp .gt 24, 3) := by decide +kernel
theorem dX1_untilAtLeast_18 : decode cX1_untilAtLeast 18 = .ok (.aload_n 0, 1) := by decide +kernel
theorem dX1_untilAtLeast_19 : decode cX1_untilAtLeast 19 = .ok (.getfield 34, 3) := by decide +kernel
theorem dX1_untilAtLeast_22 : decode cX1_untilAtLeast 22 = .ok (.iload_n 1, 1) := by decide +kernel
theorem dX1_untilAtLeast_23 : decode cX1_untilAtLeast 23 = .ok (.if_icmp .lt 6, 3) := by decide +kernel
theorem dX1_untilAtLeast_26 : decode cX1_untilAtLeast 26 = .ok (.iload 6, 2) := by decide +kernel
theorem dX1_untilAtLeast_28 : decode cX1_untilAtLeast 28 = .ok (.ireturn, 1) := by decide +kernel
theorem dX1_untilAtLeast_29 : decode cX1_untilAtLeast 29 = .ok (.aload_n 0, 1) := by decide +kernel
theorem dX1_untilAtLeast_30 : decode cX1_untilAtLeast 30 = .ok (.invokevirtual 31, 3) := by decide +kernel
theorem dX1_untilAtLeast_33 : decode cX1_untilAtLeast 33 = .ok (.iinc 6 1, 3) := by decide +kernel
theorem dX1_untilAtLeast_36 : decode cX1_untilAtLeast 36 = .ok (.goto (-25), 3) := by decide +kernel
theorem dX1_untilAtLeast_39 : decode cX1_untilAtLeast 39 = .ok (.iconst (-1), 1) := by decide +kernel
theorem dX1_untilAtLeast_40 : decode cX1_untilAtLeast 40 = .ok (.ireturn, 1) := by decide +kernel
theorem dX1_begin_0 : decode cX1_begin 0 = .ok (.aload_n 1, 1) := by decide +kernel
theorem dX1_begin_1 : decode cX1_begin 1 = .ok (.getfield 37, 3) := by decide +kernel
theorem dX1_begin_4 : decode cX1_begin 4 = .ok (.iload_n 2, 1) := by decide +kernel
theorem dX1_begin_5 : decode cX1_begin 5 = .ok (.aaload, 1) := by decide +kernel
theorem dX1_begin_6 : decode cX1_begin 6 = .ok (.astore 4, 2) := by decide +kernel
theorem dX1_begin_8 : decode cX1_begin 8 = .ok (.aload_n 0, 1) := by decide +kernel
theorem dX1_begin_9 : decode cX1_begin 9 = .ok (.aload_n 1, 1) := by decide +kernel
theorem dX1_begin_10 : decode cX1_begin 10 = .ok (.getfield 41, 3) := by decide +kernel
theorem dX1_begin_13 : decode cX1_begin 13 = .ok (.sipush 200, 3) := by decide +kernel
theorem dX1_begin_16 : decode cX1_begin 16 = .ok (.invokestatic 44, 3) := by decide +kernel
theorem dX1_begin_19 : decode cX1_begin 19 = .ok (.putfield 50, 3) := by decide +kernel
theorem dX1_begin_22 : decode cX1_begin 22 = .ok (.aload_n 0, 1) := by decide +kernel
theorem dX1_begin_23 : decode cX1_begin 23 = .ok (.aload_n 1, 1) := by decide +kernel
theorem dX1_begin_24 : decode cX1_begin 24 = .ok (.getfield 51, 3) := by decide +kernel
theorem dX1_begin_27 : decode cX1_begin 27 = .ok (.putfield 54, 3) := by decide +kernel
theorem dX1_begin_30 : decode cX1_begin 30 = .ok (.aload_n 0, 1) := by decide +kernel
theorem dX1_begin_31 : decode cX1_begin 31 = .ok (.aload 4, 2) := by decide +kernel
theorem dX1_begin_33 : decode cX1_begin 33 = .ok (.invokevirtual 55, 3) := by decide +kernel
theorem dX1_begin_36 : decode cX1_begin 36 = .ok (.ifCond .eq 18, 3) := by decide +kernel
theorem dX1_begin_39 : decode cX1_begin 39 = .ok (.aload 4, 2) := by decide +kernel
theorem dX1_begin_41 : decode cX1_begin 41 = .ok (.getfield 61, 3) := by decide +kernel
theorem dX1_begin_44 : decode cX1_begin 44 = .ok (.bipush 9, 2) := by decide +kernel
theorem dX1_begin_46 : decode cX1_begin 46 = .ok (.invokestatic 44, 3) := by decide +kernel
theorem dX1_begin_49 : decode cX1_begin 49 = .ok (.iconst 1, 1) := by decide +kernel
theorem dX1_begin_50 : decode cX1_begin 50 = .ok (.iadd, 1) := by decide +kernel
theorem dX1_begin_51 : decode cX1_begin 51 = .ok (.goto 4, 3) := by decide +kernel
theorem dX1_begin_54 : decode cX1_begin 54 = .ok (.iconst 1, 1) := by decide +kernel
theorem dX1_begin_55 : decode cX1_begin 55 = .ok (.putfield 64, 3) := by decide +kernel
theorem dX1_begin_58 : decode cX1_begin 58 = .ok (.aload_n 0, 1) := by decide +kernel
theorem dX1_begin_59 : decode cX1_begin 59 = .ok (.getfield 9, 3) := by decide +kernel
theorem dX1_begin_62 : decode cX1_begin 62 = .ok (.iconst 0, 1) := by decide +kernel
theorem dX1_begin_63 : decode cX1_begin 63 = .ok (.invokestatic 67, 3) := by decide +kernel
theorem dX1_begin_66 : decode cX1_begin 66 = .ok (.aload_n 0, 1) := by decide +kernel
theorem dX1_begin_67 : decode cX1_begin 67 = .ok (.getfield 15, 3) := by decide +kernel
theorem dX1_begin_70 : decode cX1_begin 70 = .ok (.iconst 0, 1) := by decide +kernel
theorem dX1_begin_71 : decode cX1_begin 71 = .ok (.invokestatic 67, 3) := by decide +kernel
theorem dX1_begin_74 : decode cX1_begin 74 = .ok (.aload_n 0, 1) := by decide +kernel
theorem dX1_begin_75 : decode cX1_begin 75 = .ok (.aload 4, 2) := by decide +kernel
theorem dX1_begin_77 : decode cX1_begin 77 = .ok (.iload_n 3, 1) := by decide +kernel
theorem dX1_begin_78 : decode cX1_begin 78 = .ok (.invokevirtual 73, 3) := by decide +kernel
theorem dX1_begin_81 : decode cX1_begin 81 = .ok (.aload_n 0, 1) := by decide +kernel
theorem dX1_begin_82 : decode cX1_begin 82 = .ok (.iconst 0, 1) := by decide +kernel
theorem dX1_begin_83 : decode cX1_begin 83 = .ok (.putfield 34, 3) := by decide +kernel
theorem dX1_begin_86 : decode cX1_begin 86 = .ok (.aload_n 0, 1) := by decide +kernel
theorem dX1_begin_87 : decode cX1_begin 87 = .ok (.aload_n 0, 1) := by decide +kernel
theorem dX1_begin_88 : decode cX1_begin 88 = .ok (.getfield 50, 3) := by decide +kernel
theorem dX1_begin_91 : decode cX1_begin 91 = .ok (.putfield 77, 3) := by decide +kernel
theorem dX1_begin_94 : decode cX1_begin 94 = .ok (.aload_n 0, 1) := by decide +kernel
theorem dX1_begin_95 : decode cX1_begin 95 = .ok (.iconst (-1), 1) := by decide +kernel
theorem dX1_begin_96 : decode cX1_begin 96 = .ok (.putfield 80, 3) := by decide +kernel
theorem dX1_begin_99 : decode cX1_begin 99 = .ok (.aload_n 1, 1) := by decide +kernel
theorem dX1_begin_100 : decode cX1_begin 100 = .ok (.iload_n 2, 1) := by decide +kernel
theorem dX1_begin_101 : decode cX1_begin 101 = .ok (.invokevirtual 83, 3) := by decide +kernel
theorem dX1_begin_104 : decode cX1_begin 104 = .ok (.ifCond .eq 10, 3) := by decide +kernel
theorem dX1_begin_107 : decode cX1_begin 107 = .ok (.aload_n 0, 1) := by decide +kernel
theorem dX1_begin_108 : decode cX1_begin 108 = .ok (.ldc 87, 2) := by decide +kernel
theorem dX1_begin_110 : decode cX1_begin 110 = .ok (.putfield 34, 3) := by decide +kernel
theorem dX1_begin_113 : decode cX1_begin 113 = .ok (.return_, 1) := by decide +kernel
theorem dX1_begin_114 : decode cX1_begin 114 = .ok (.aload_n 0, 1) := by decide +kernel
theorem dX1_begin_115 : decode cX1_begin 115 = .ok (.getfield 9, 3) := by decide +kernel
theorem dX1_begin_118 : decode cX1_begin 118 = .ok (.aload 4, 2) := by decide +kernel
theorem dX1_begin_120 : decode cX1_begin 120 = .ok (.getfield 88, 3) := by decide +kernel
theorem dX1_begin_123 : decode cX1_begin 123 = .ok (.aload_n 0, 1) := by decide +kernel
theorem dX1_begin_124 : decode cX1_begin 124 = .ok (.getfield 64, 3) := by decide +kernel
theorem dX1_begin_127 : decode cX1_begin 127 = .ok (.invokestatic 91, 3) := by decide +kernel
theorem dX1_begin_130 : decode cX1_begin 130 = .ok (.sipush 200, 3) := by decide +kernel
theorem dX1_begin_133 : decode cX1_begin 133 = .ok (.imul, 1) := by decide +kernel
theorem dX1_begin_134 : decode cX1_begin 134 = .ok (.aload 4, 2) := by decide +kernel
theorem dX1_begin_136 : decode cX1_begin 136 = .ok (.getfield 94, 3) := by decide +kernel
theorem dX1_begin_139 : decode cX1_begin 139 = .ok (.iadd, 1) := by decide +kernel
theorem dX1_begin_140 : decode cX1_begin 140 = .ok (.ldc 87, 2) := by decide +kernel
theorem dX1_begin_142 : decode cX1_begin 142 = .ok (.iastore, 1) := by decide +kernel
theorem dX1_begin_143 : decode cX1_begin 143 = .ok (.aload_n 0, 1) := by decide +kernel
theorem dX1_begin_144 : decode cX1_begin 144 = .ok (.aload 4, 2) := by decide +kernel
theorem dX1_begin_146 : decode cX1_begin 146 = .ok (.getfield 94, 3) := by decide +kernel
theorem dX1_begin_149 : decode cX1_begin 149 = .ok (.putfield 77, 3) := by decide +kernel
theorem dX1_begin_152 : decode cX1_begin 152 = .ok (.aload_n 0, 1) := by decide +kernel
theorem dX1_begin_153 : decode cX1_begin 153 = .ok (.aload 4, 2) := by decide +kernel
theorem dX1_begin_155 : decode cX1_begin 155 = .ok (.getfield 94, 3) := by decide +kernel
theorem dX1_begin_158 : decode cX1_begin 158 = .ok (.putfield 80, 3) := by decide +kernel
theorem dX1_begin_161 : decode cX1_begin 161 = .ok (.return_, 1) := by decide +kernel
theorem dX1_noteLefts_0 : decode cX1_noteLefts 0 = .ok (.iconst 0, 1) := by decide +kernel
theorem dX1_noteLefts_1 : decode cX1_noteLefts 1 = .ok (.istore_n 3, 1) := by decide +kernel
theorem dX1_noteLefts_2 : decode cX1_noteLefts 2 = .ok (.iload_n 3, 1) := by decide +kernel
theorem dX1_noteLefts_3 : decode cX1_noteLefts 3 = .ok (.aload_n 0, 1) := by decide +kernel
theorem dX1_noteLefts_4 : decode cX1_noteLefts 4 = .ok (.getfield 64, 3) := by decide +kernel
theorem dX1_noteLefts_7 : decode cX1_noteLefts 7 = .ok (.if_icmp .ge 50, 3) := by decide +kernel
theorem dX1_noteLefts_10 : decode cX1_noteLefts 10 = .ok (.iconst 0, 1) := by decide +kernel
theorem dX1_noteLefts_11 : decode cX1_noteLefts 11 = .ok (.istore 4, 2) := by decide +kernel
theorem dX1_noteLefts_13 : decode cX1_noteLefts 13 = .ok (.iload 4, 2) := by decide +kernel
theorem dX1_noteLefts_15 : decode cX1_noteLefts 15 = .ok (.aload_n 0, 1) := by decide +kernel
theorem dX1_noteLefts_16 : decode cX1_noteLefts 16 = .ok (.getfield 50, 3) := by decide +kernel
theorem dX1_noteLefts_19 : decode cX1_noteLefts 19 = .ok (.if_icmp .ge 32, 3) := by decide +kernel
theorem dX1_noteLefts_22 : decode cX1_noteLefts 22 = .ok (.aload_n 0, 1) := by decide +kernel
theorem dX1_noteLefts_23 : decode cX1_noteLefts 23 = .ok (.getfield 18, 3) := by decide +kernel
theorem dX1_noteLefts_26 : decode cX1_noteLefts 26 = .ok (.iload_n 3, 1) := by decide +kernel
theorem dX1_noteLefts_27 : decode cX1_noteLefts 27 = .ok (.sipush 200, 3) := by decide +kernel
theorem dX1_noteLefts_30 : decode cX1_noteLefts 30 = .ok (.imul, 1) := by decide +kernel
theorem dX1_noteLefts_31 : decode cX1_noteLefts 31 = .ok (.iload 4, 2) := by decide +kernel
theorem dX1_noteLefts_33 : decode cX1_noteLefts 33 = .ok (.iadd, 1) := by decide +kernel
theorem dX1_noteLefts_34 : decode cX1_noteLefts 34 = .ok (.aload_n 1, 1) := by decide +kernel
theorem dX1_noteLefts_35 : decode cX1_noteLefts 35 = .ok (.iload 4, 2) := by decide +kernel
theorem dX1_noteLefts_37 : decode cX1_noteLefts 37 = .ok (.iload_n 3, 1) := by decide +kernel
theorem dX1_noteLefts_38 : decode cX1_noteLefts 38 = .ok (.iconst 1, 1) := by decide +kernel
theorem dX1_noteLefts_39 : decode cX1_noteLefts 39 = .ok (.iadd, 1) := by decide +kernel
theorem dX1_noteLefts_40 : decode cX1_noteLefts 40 = .ok (.iload_n 2, 1) := by decide +kernel
theorem dX1_noteLefts_41 : decode cX1_noteLefts 41 = .ok (.invokevirtual 97, 3) := by decide +kernel
theorem dX1_noteLefts_44 : decode cX1_noteLefts 44 = .ok (.iastore, 1) := by decide +kernel
theorem dX1_noteLefts_45 : decode cX1_noteLefts 45 = .ok (.iinc 4 1, 3) := by decide +kernel
theorem dX1_noteLefts_48 : decode cX1_noteLefts 48 = .ok (.goto (-35), 3) := by decide +kernel
theorem dX1_noteLefts_51 : decode cX1_noteLefts 51 = .ok (.iinc 3 1, 3) := by decide +kernel
theorem dX1_noteLefts_54 : decode cX1_noteLefts 54 = .ok (.goto (-52), 3) := by decide +kernel
theorem dX1_noteLefts_57 : decode cX1_noteLefts 57 = .ok (.return_, 1) := by decide +kernel
theorem dX1_pass_0 : decode cX1_pass 0 = .ok (.aload_n 0, 1) := by decide +kernel
theorem dX1_pass_1 : decode cX1_pass 1 = .ok (.getfield 77, 3) := by decide +kernel
theorem dX1_pass_4 : decode cX1_pass 4 = .ok (.istore_n 1, 1) := by decide +kernel
theorem dX1_pass_5 : decode cX1_pass 5 = .ok (.aload_n 0, 1) := by decide +kernel
theorem dX1_pass_6 : decode cX1_pass 6 = .ok (.getfield 80, 3) := by decide +kernel
theorem dX1_pass_9 : decode cX1_pass 9 = .ok (.istore_n 2, 1) := by decide +kernel
theorem dX1_pass_10 : decode cX1_pass 10 = .ok (.aload_n 0, 1) := by decide +kernel
theorem dX1_pass_11 : decode cX1_pass 11 = .ok (.aload_n 0, 1) := by decide +kernel
theorem dX1_pass_12 : decode cX1_pass 12 = .ok (.getfield 50, 3) := by decide +kernel
theorem dX1_pass_15 : decode cX1_pass 15 = .ok (.putfield 77, 3) := by decide +kernel
theorem dX1_pass_18 : decode cX1_pass 18 = .ok (.aload_n 0, 1) := by decide +kernel
theorem dX1_pass_19 : decode cX1_pass 19 = .ok (.iconst (-1), 1) := by decide +kernel
theorem dX1_pass_20 : decode cX1_pass 20 = .ok (.putfield 80, 3) := by decide +kernel
theorem dX1_pass_23 : decode cX1_pass 23 = .ok (.iconst 0, 1) := by decide +kernel
theorem dX1_pass_24 : decode cX1_pass 24 = .ok (.istore_n 3, 1) := by decide +kernel
theorem dX1_pass_25 : decode cX1_pass 25 = .ok (.iload_n 3, 1) := by decide +kernel
theorem dX1_pass_26 : decode cX1_pass 26 = .ok (.aload_n 0, 1) := by decide +kernel
theorem dX1_pass_27 : decode cX1_pass 27 = .ok (.getfield 64, 3) := by decide +kernel
theorem dX1_pass_30 : decode cX1_pass 30 = .ok (.if_icmp .ge 34, 3) := by decide +kernel
theorem dX1_pass_33 : decode cX1_pass 33 = .ok (.aload_n 0, 1) := by decide +kernel
theorem dX1_pass_34 : decode cX1_pass 34 = .ok (.iload_n 3, 1) := by decide +kernel
theorem dX1_pass_35 : decode cX1_pass 35 = .ok (.sipush 200, 3) := by decide +kernel
theorem dX1_pass_38 : decode cX1_pass 38 = .ok (.imul, 1) := by decide +kernel
theorem dX1_pass_39 : decode cX1_pass 39 = .ok (.iload_n 3, 1) := by decide +kernel
theorem dX1_pass_40 : decode cX1_pass 40 = .ok (.iconst 1, 1) := by decide +kernel
theorem dX1_pass_41 : decode cX1_pass 41 = .ok (.iadd, 1) := by decide +kernel
theorem dX1_pass_42 : decode cX1_pass 42 = .ok (.aload_n 0, 1) := by decide +kernel
theorem dX1_pass_43 : decode cX1_pass 43 = .ok (.getfield 64, 3) := by decide +kernel
theorem dX1_pass_46 : decode cX1_pass 46 = .ok (.invokestatic 91, 3) := by decide +kernel
theorem dX1_pass_49 : decode cX1_pass 49 = .ok (.sipush 200, 3) := by decide +kernel
theorem dX1_pass_52 : decode cX1_pass 52 = .ok (.imul, 1) := by decide +kernel
theorem dX1_pass_53 : decode cX1_pass 53 = .ok (.iload_n 1, 1) := by decide +kernel
theorem dX1_pass_54 : decode cX1_pass 54 = .ok (.iload_n 2, 1) := by decide +kernel
theorem dX1_pass_55 : decode cX1_pass 55 = .ok (.invokevirtual 101, 3) := by decide +kernel
theorem dX1_pass_58 : decode cX1_pass 58 = .ok (.iinc 3 1, 3) := by decide +kernel
theorem dX1_pass_61 : decode cX1_pass 61 = .ok (.goto (-36), 3) := by decide +kernel
theorem dX1_pass_64 : decode cX1_pass 64 = .ok (.aload_n 0, 1) := by decide +kernel
theorem dX1_pass_65 : decode cX1_pass 65 = .ok (.getfield 9, 3) := by decide +kernel
theorem dX1_pass_68 : decode cX1_pass 68 = .ok (.astore_n 3, 1) := by decide +kernel
theorem dX1_pass_69 : decode cX1_pass 69 = .ok (.aload_n 0, 1) := by decide +kernel
theorem dX1_pass_70 : decode cX1_pass 70 = .ok (.aload_n 0, 1) := by decide +kernel
theorem dX1_pass_71 : decode cX1_pass 71 = .ok (.getfield 15, 3) := by decide +kernel
theorem dX1_pass_74 : decode cX1_pass 74 = .ok (.putfield 9, 3) := by decide +kernel
theorem dX1_pass_77 : decode cX1_pass 77 = .ok (.aload_n 0, 1) := by decide +kernel
theorem dX1_pass_78 : decode cX1_pass 78 = .ok (.aload_n 3, 1) := by decide +kernel
theorem dX1_pass_79 : decode cX1_pass 79 = .ok (.putfield 15, 3) := by decide +kernel
theorem dX1_pass_82 : decode cX1_pass 82 = .ok (.return_, 1) := by decide +kernel
theorem dX1_passRest_0 : decode cX1_passRest 0 = .ok (.iload_n 3, 1) := by decide +kernel
theorem dX1_passRest_1 : decode cX1_passRest 1 = .ok (.istore 5, 2) := by decide +kernel
theorem dX1_passRest_3 : decode cX1_passRest 3 = .ok (.iload 5, 2) := by decide +kernel
theorem dX1_passRest_5 : decode cX1_passRest 5 = .ok (.iload 4, 2) := by decide +kernel
theorem dX1_passRest_7 : decode cX1_passRest 7 = .ok (.if_icmp .gt 203, 3) := by decide +kernel
theorem dX1_passRest_10 : decode cX1_passRest 10 = .ok (.aload_n 0, 1) := by decide +kernel
theorem dX1_passRest_11 : decode cX1_passRest 11 = .ok (.getfield 9, 3) := by decide +kernel
theorem dX1_passRest_14 : decode cX1_passRest 14 = .ok (.iload_n 1, 1) := by decide +kernel
theorem dX1_passRest_15 : decode cX1_passRest 15 = .ok (.iload 5, 2) := by decide +kernel
theorem dX1_passRest_17 : decode cX1_passRest 17 = .ok (.iadd, 1) := by decide +kernel
theorem dX1_passRest_18 : decode cX1_passRest 18 = .ok (.iaload, 1) := by decide +kernel
theorem dX1_passRest_19 : decode cX1_passRest 19 = .ok (.istore 6, 2) := by decide +kernel
theorem dX1_passRest_21 : decode cX1_passRest 21 = .ok (.iload 6, 2) := by decide +kernel
theorem dX1_passRest_23 : decode cX1_passRest 23 = .ok (.ifCond .ne 6, 3) := by decide +kernel
theorem dX1_passRest_26 : decode cX1_passRest 26 = .ok (.goto 178, 3) := by decide +kernel
theorem dX1_passRest_29 : decode cX1_passRest 29 = .ok (.aload_n 0, 1) := by decide +kernel
theorem dX1_passRest_30 : decode cX1_passRest 30 = .ok (.getfield 9, 3) := by decide +kernel
theorem dX1_passRest_33 : decode cX1_passRest 33 = .ok (.iload_n 1, 1) := by decide +kernel
theorem dX1_passRest_34 : decode cX1_passRest 34 = .ok (.iload 5, 2) := by decide +kernel
theorem dX1_passRest_36 : decode cX1_passRest 36 = .ok (.iadd, 1) := by decide +kernel
theorem dX1_passRest_37 : decode cX1_passRest 37 = .ok (.iconst 0, 1) := by decide +kernel
theorem dX1_passRest_38 : decode cX1_passRest 38 = .ok (.iastore, 1) := by decide +kernel
theorem dX1_passRest_39 : decode cX1_passRest 39 = .ok (.iload 6, 2) := by decide +kernel
theorem dX1_passRest_41 : decode cX1_passRest 41 = .ok (.aload_n 0, 1) := by decide +kernel
theorem dX1_passRest_42 : decode cX1_passRest 42 = .ok (.getfield 54, 3) := by decide +kernel
theorem dX1_passRest_45 : decode cX1_passRest 45 = .ok (.imul, 1) := by decide +kernel
theorem dX1_passRest_46 : decode cX1_passRest 46 = .ok (.sipush 1000, 3) := by decide +kernel
theorem dX1_passRest_49 : decode cX1_passRest 49 = .ok (.idiv, 1) := by decide +kernel
theorem dX1_passRest_50 : decode cX1_passRest 50 = .ok (.istore 7, 2) := by decide +kernel
theorem dX1_passRest_52 : decode cX1_passRest 52 = .ok (.iload 7, 2) := by decide +kernel
theorem dX1_passRest_54 : decode cX1_passRest 54 = .ok (.ifCond .le 58, 3) := by decide +kernel
theorem dX1_passRest_57 : decode cX1_passRest 57 = .ok (.aload_n 0, 1) := by decide +kernel
theorem dX1_passRest_58 : decode cX1_passRest 58 = .ok (.getfield 18, 3) := by decide +kernel
theorem dX1_passRest_61 : decode cX1_passRest 61 = .ok (.iload_n 1, 1) := by decide +kernel
theorem dX1_passRest_62 : decode cX1_passRest 62 = .ok (.iload 5, 2) := by decide +kernel
theorem dX1_passRest_64 : decode cX1_passRest 64 = .ok (.iadd, 1) := by decide +kernel
theorem dX1_passRest_65 : decode cX1_passRest 65 = .ok (.iaload, 1) := by decide +kernel
theorem dX1_passRest_66 : decode cX1_passRest 66 = .ok (.istore 8, 2) := by decide +kernel
theorem dX1_passRest_68 : decode cX1_passRest 68 = .ok (.aload_n 0, 1) := by decide +kernel
theorem dX1_passRest_69 : decode cX1_passRest 69 = .ok (.getfield 15, 3) := by decide +kernel
theorem dX1_passRest_72 : decode cX1_passRest 72 = .ok (.iload_n 2, 1) := by decide +kernel
theorem dX1_passRest_73 : decode cX1_passRest 73 = .ok (.iload 8, 2) := by decide +kernel
theorem dX1_passRest_75 : decode cX1_passRest 75 = .ok (.iadd, 1) := by decide +kernel
theorem dX1_passRest_76 : decode cX1_passRest 76 = .ok (.dup2, 1) := by decide +kernel
theorem dX1_passRest_77 : decode cX1_passRest 77 = .ok (.iaload, 1) := by decide +kernel
theorem dX1_passRest_78 : decode cX1_passRest 78 = .ok (.iload 7, 2) := by decide +kernel
theorem dX1_passRest_80 : decode cX1_passRest 80 = .ok (.iadd, 1) := by decide +kernel
theorem dX1_passRest_81 : decode cX1_passRest 81 = .ok (.iastore, 1) := by decide +kernel
theorem dX1_passRest_82 : decode cX1_passRest 82 = .ok (.iload 8, 2) := by decide +kernel
theorem dX1_passRest_84 : decode cX1_passRest 84 = .ok (.aload_n 0, 1) := by decide +kernel
theorem dX1_passRest_85 : decode cX1_passRest 85 = .ok (.getfield 77, 3) := by decide +kernel
theorem dX1_passRest_88 : decode cX1_passRest 88 = .ok (.if_icmp .ge 9, 3) := by decide +kernel
theorem dX1_passRest_91 : decode cX1_passRest 91 = .ok (.aload_n 0, 1) := by decide +kernel
theorem dX1_passRest_92 : decode cX1_passRest 92 = .ok (.iload 8, 2) := by decide +kernel
theorem dX1_passRest_94 : decode cX1_passRest 94 = .ok (.putfield 77, 3) := by decide +kernel
theorem dX1_passRest_97 : decode cX1_passRest 97 = .ok (.iload 8, 2) := by decide +kernel
theorem dX1_passRest_99 : decode cX1_passRest 99 = .ok (.aload_n 0, 1) := by decide +kernel
theorem dX1_passRest_100 : decode cX1_passRest 100 = .ok (.getfield 80, 3) := by decide +kernel
theorem dX1_passRest_103 : decode cX1_passRest 103 = .ok (.if_icmp .le 9, 3) := by decide +kernel
theorem dX1_passRest_106 : decode cX1_passRest 106 = .ok (.aload_n 0, 1) := by decide +kernel
theorem dX1_passRest_107 : decode cX1_passRest 107 = .ok (.iload 8, 2) := by decide +kernel
theorem dX1_passRest_109 : decode cX1_passRest 109 = .ok (.putfield 80, 3) := by decide +kernel
theorem dX1_passRest_112 : decode cX1_passRest 112 = .ok (.iload 5, 2) := by decide +kernel
theorem dX1_passRest_114 : decode cX1_passRest 114 = .ok (.iconst 1, 1) := by decide +kernel
theorem dX1_passRest_115 : decode cX1_passRest 115 = .ok (.iadd, 1) := by decide +kernel
theorem dX1_passRest_116 : decode cX1_passRest 116 = .ok (.aload_n 0, 1) := by decide +kernel
theorem dX1_passRest_117 : decode cX1_passRest 117 = .ok (.getfield 50, 3) := by decide +kernel
theorem dX1_passRest_120 : decode cX1_passRest 120 = .ok (.if_icmp .lt 20, 3) := by decide +kernel
theorem dX1_passRest_123 : decode cX1_passRest 123 = .ok (.aload_n 0, 1) := by decide +kernel
theorem dX1_passRest_124 : decode cX1_passRest 124 = .ok (.dup, 1) := by decide +kernel
theorem dX1_passRest_125 : decode cX1_passRest 125 = .ok (.getfield 34, 3) := by decide +kernel
theorem dX1_passRest_128 : decode cX1_passRest 128 = .ok (.iload 6, 2) := by decide +kernel
theorem dX1_passRest_130 : decode cX1_passRest 130 = .ok (.iload 7, 2) := by decide +kernel
theorem dX1_passRest_132 : decode cX1_passRest 132 = .ok (.isub, 1) := by decide +kernel
theorem dX1_passRest_133 : decode cX1_passRest 133 = .ok (.iadd, 1) := by decide +kernel
theorem dX1_passRest_134 : decode cX1_passRest 134 = .ok (.putfield 34, 3) := by decide +kernel
theorem dX1_passRest_137 : decode cX1_passRest 137 = .ok (.goto 67, 3) := by decide +kernel
theorem dX1_passRest_140 : decode cX1_passRest 140 = .ok (.iload 7, 2) := by decide +kernel
theorem dX1_passRest_142 : decode cX1_passRest 142 = .ok (.iload 6, 2) := by decide +kernel
theorem dX1_passRest_144 : decode cX1_passRest 144 = .ok (.if_icmp .ge 60, 3) := by decide +kernel
theorem dX1_passRest_147 : decode cX1_passRest 147 = .ok (.aload_n 0, 1) := by decide +kernel
theorem dX1_passRest_148 : decode cX1_passRest 148 = .ok (.getfield 15, 3) := by decide +kernel
theorem dX1_passRest_151 : decode cX1_passRest 151 = .ok (.iload_n 1, 1) := by decide +kernel
theorem dX1_passRest_152 : decode cX1_passRest 152 = .ok (.iload 5, 2) := by decide +kernel
theorem dX1_passRest_154 : decode cX1_passRest 154 = .ok (.iadd, 1) := by decide +kernel
theorem dX1_passRest_155 : decode cX1_passRest 155 = .ok (.iconst 1, 1) := by decide +kernel
theorem dX1_passRest_156 : decode cX1_passRest 156 = .ok (.iadd, 1) := by decide +kernel
theorem dX1_passRest_157 : decode cX1_passRest 157 = .ok (.dup2, 1) := by decide +kernel
theorem dX1_passRest_158 : decode cX1_passRest 158 = .ok (.iaload, 1) := by decide +kernel
theorem dX1_passRest_159 : decode cX1_passRest 159 = .ok (.iload 6, 2) := by decide +kernel
theorem dX1_passRest_161 : decode cX1_passRest 161 = .ok (.iload 7, 2) := by decide +kernel
theorem dX1_passRest_163 : decode cX1_passRest 163 = .ok (.isub, 1) := by decide +kernel
theorem dX1_passRest_164 : decode cX1_passRest 164 = .ok (.iadd, 1) := by decide +kernel
theorem dX1_passRest_165 : decode cX1_passRest 165 = .ok (.iastore, 1) := by decide +kernel
theorem dX1_passRest_166 : decode cX1_passRest 166 = .ok (.iload 5, 2) := by decide +kernel
theorem dX1_passRest_168 : decode cX1_passRest 168 = .ok (.iconst 1, 1) := by decide +kernel
theorem dX1_passRest_169 : decode cX1_passRest 169 = .ok (.iadd, 1) := by decide +kernel
theorem dX1_passRest_170 : decode cX1_passRest 170 = .ok (.aload_n 0, 1) := by decide +kernel
theorem dX1_passRest_171 : decode cX1_passRest 171 = .ok (.getfield 77, 3) := by decide +kernel
theorem dX1_passRest_174 : decode cX1_passRest 174 = .ok (.if_icmp .ge 11, 3) := by decide +kernel
theorem dX1_passRest_177 : decode cX1_passRest 177 = .ok (.aload_n 0, 1) := by decide +kernel
theorem dX1_passRest_178 : decode cX1_passRest 178 = .ok (.iload 5, 2) := by decide +kernel
theorem dX1_passRest_180 : decode cX1_passRest 180 = .ok (.iconst 1, 1) := by decide +kernel
theorem dX1_passRest_181 : decode cX1_passRest 181 = .ok (.iadd, 1) := by decide +kernel
theorem dX1_passRest_182 : decode cX1_passRest 182 = .ok (.putfield 77, 3) := by decide +kernel
theorem dX1_passRest_185 : decode cX1_passRest 185 = .ok (.iload 5, 2) := by decide +kernel
theorem dX1_passRest_187 : decode cX1_passRest 187 = .ok (.iconst 1, 1) := by decide +kernel
theorem dX1_passRest_188 : decode cX1_passRest 188 = .ok (.iadd, 1) := by decide +kernel
theorem dX1_passRest_189 : decode cX1_passRest 189 = .ok (.aload_n 0, 1) := by decide +kernel
theorem dX1_passRest_190 : decode cX1_passRest 190 = .ok (.getfield 80, 3) := by decide +kernel
theorem dX1_passRest_193 : decode cX1_passRest 193 = .ok (.if_icmp .le 11, 3) := by decide +kernel
theorem dX1_passRest_196 : decode cX1_passRest 196 = .ok (.aload_n 0, 1) := by decide +kernel
theorem dX1_passRest_197 : decode cX1_passRest 197 = .ok (.iload 5, 2) := by decide +kernel
theorem dX1_passRest_199 : decode cX1_passRest 199 = .ok (.iconst 1, 1) := by decide +kernel
theorem dX1_passRest_200 : decode cX1_passRest 200 = .ok (.iadd, 1) := by decide +kernel
theorem dX1_passRest_201 : decode cX1_passRest 201 = .ok (.putfield 80, 3) := by decide +kernel
theorem dX1_passRest_204 : decode cX1_passRest 204 = .ok (.iinc 5 1, 3) := by decide +kernel
theorem dX1_passRest_207 : decode cX1_passRest 207 = .ok (.goto (-204), 3) := by decide +kernel
theorem dX1_passRest_210 : decode cX1_passRest 210 = .ok (.return_, 1) := by decide +kernel
theorem dX2_init_0 : decode cX2_init 0 = .ok (.aload_n 0, 1) := by decide +kernel
theorem dX2_init_1 : decode cX2_init 1 = .ok (.invokespecial 3, 3) := by decide +kernel
theorem dX2_init_4 : decode cX2_init 4 = .ok (.return_, 1) := by decide +kernel
theorem dX2_becomeNew_0 : decode cX2_becomeNew 0 = .ok (.aload_n 0, 1) := by decide +kernel
theorem dX2_becomeNew_1 : decode cX2_becomeNew 1 = .ok (.iload_n 1, 1) := by decide +kernel
theorem dX2_becomeNew_2 : decode cX2_becomeNew 2 = .ok (.putfield 9, 3) := by decide +kernel
theorem dX2_becomeNew_5 : decode cX2_becomeNew 5 = .ok (.aload_n 0, 1) := by decide +kernel
theorem dX2_becomeNew_6 : decode cX2_becomeNew 6 = .ok (.iload_n 2, 1) := by decide +kernel
theorem dX2_becomeNew_7 : decode cX2_becomeNew 7 = .ok (.putfield 15, 3) := by decide +kernel
theorem dX2_becomeNew_10 : decode cX2_becomeNew 10 = .ok (.aload_n 0, 1) := by decide +kernel
theorem dX2_becomeNew_11 : decode cX2_becomeNew 11 = .ok (.invokevirtual 18, 3) := by decide +kernel
theorem dX2_becomeNew_14 : decode cX2_becomeNew 14 = .ok (.return_, 1) := by decide +kernel
theorem dX2_becomeLike_0 : decode cX2_becomeLike 0 = .ok (.aload_n 0, 1) := by decide +kernel
theorem dX2_becomeLike_1 : decode cX2_becomeLike 1 = .ok (.aload_n 1, 1) := by decide +kernel
theorem dX2_becomeLike_2 : decode cX2_becomeLike 2 = .ok (.getfield 9, 3) := by decide +kernel
theorem dX2_becomeLike_5 : decode cX2_becomeLike 5 = .ok (.putfield 9, 3) := by decide +kernel
theorem dX2_becomeLike_8 : decode cX2_becomeLike 8 = .ok (.aload_n 0, 1) := by decide +kernel
theorem dX2_becomeLike_9 : decode cX2_becomeLike 9 = .ok (.aload_n 1, 1) := by decide +kernel
theorem dX2_becomeLike_10 : decode cX2_becomeLike 10 = .ok (.getfield 15, 3) := by decide +kernel
theorem dX2_becomeLike_13 : decode cX2_becomeLike 13 = .ok (.putfield 15, 3) := by decide +kernel
theorem dX2_becomeLike_16 : decode cX2_becomeLike 16 = .ok (.aload_n 0, 1) := by decide +kernel
theorem dX2_becomeLike_17 : decode cX2_becomeLike 17 = .ok (.aload_n 1, 1) := by decide +kernel
theorem dX2_becomeLike_18 : decode cX2_becomeLike 18 = .ok (.getfield 21, 3) := by decide +kernel
theorem dX2_becomeLike_21 : decode cX2_becomeLike 21 = .ok (.putfield 21, 3) := by decide +kernel
theorem dX2_becomeLike_24 : decode cX2_becomeLike 24 = .ok (.aload_n 0, 1) := by decide +kernel
theorem dX2_becomeLike_25 : decode cX2_becomeLike 25 = .ok (.aload_n 1, 1) := by decide +kernel
theorem dX2_becomeLike_26 : decode cX2_becomeLike 26 = .ok (.getfield 24, 3) := by decide +kernel
theorem dX2_becomeLike_29 : decode cX2_becomeLike 29 = .ok (.putfield 24, 3) := by decide +kernel
theorem dX2_becomeLike_32 : decode cX2_becomeLike 32 = .ok (.aload_n 0, 1) := by decide +kernel
theorem dX2_becomeLike_33 : decode cX2_becomeLike 33 = .ok (.aload_n 1, 1) := by decide +kernel
theorem dX2_becomeLike_34 : decode cX2_becomeLike 34 = .ok (.getfield 27, 3) := by decide +kernel
theorem dX2_becomeLike_37 : decode cX2_becomeLike 37 = .ok (.putfield 27, 3) := by decide +kernel
theorem dX2_becomeLike_40 : decode cX2_becomeLike 40 = .ok (.return_, 1) := by decide +kernel
theorem dX2_beginAgain_0 : decode cX2_beginAgain 0 = .ok (.aload_n 0, 1) := by decide +kernel
theorem dX2_beginAgain_1 : decode cX2_beginAgain 1 = .ok (.iconst 0, 1) := by decide +kernel
theorem dX2_beginAgain_2 : decode cX2_beginAgain 2 = .ok (.putfield 21, 3) := by decide +kernel
theorem dX2_beginAgain_5 : decode cX2_beginAgain 5 = .ok (.aload_n 0, 1) := by decide +kernel
theorem dX2_beginAgain_6 : decode cX2_beginAgain 6 = .ok (.iconst 0, 1) := by decide +kernel
theorem dX2_beginAgain_7 : decode cX2_beginAgain 7 = .ok (.putfield 24, 3) := by decide +kernel
theorem dX2_beginAgain_10 : decode cX2_beginAgain 10 = .ok (.aload_n 0, 1) := by decide +kernel
theorem dX2_beginAgain_11 : decode cX2_beginAgain 11 = .ok (.iconst 0, 1) := by decide +kernel
theorem dX2_beginAgain_12 : decode cX2_beginAgain 12 = .ok (.putfield 27, 3) := by decide +kernel
theorem dX2_beginAgain_15 : decode cX2_beginAgain 15 = .ok (.return_, 1) := by decide +kernel
theorem dX2_hearsBySoMany_0 : decode cX2_hearsBySoMany 0 = .ok (.aload_n 0, 1) := by decide +kernel
theorem dX2_hearsBySoMany_1 : decode cX2_hearsBySoMany 1 = .ok (.getfield 9, 3) := by decide +kernel
theorem dX2_hearsBySoMany_4 : decode cX2_hearsBySoMany 4 = .ok (.iconst 4, 1) := by decide +kernel
theorem dX2_hearsBySoMany_5 : decode cX2_hearsBySoMany 5 = .ok (.invokestatic 30, 3) := by decide +kernel
theorem dX2_hearsBySoMany_8 : decode cX2_hearsBySoMany 8 = .ok (.ireturn, 1) := by decide +kernel
theorem dX2_leftAt_0 : decode cX2_leftAt 0 = .ok (.iload_n 3, 1) := by decide +kernel
theorem dX2_leftAt_1 : decode cX2_leftAt 1 = .ok (.iconst 1, 1) := by decide +kernel
theorem dX2_leftAt_2 : decode cX2_leftAt 2 = .ok (.if_icmp .lt 10, 3) := by decide +kernel
theorem dX2_leftAt_5 : decode cX2_leftAt 5 = .ok (.aload_n 0, 1) := by decide +kernel
theorem dX2_leftAt_6 : decode cX2_leftAt 6 = .ok (.getfield 15, 3) := by decide +kernel
theorem dX2_leftAt_9 : decode cX2_leftAt 9 = .ok (.ifCond .ge 5, 3) := by decide +kernel
theorem dX2_leftAt_12 : decode cX2_leftAt 12 = .ok (.iload_n 1, 1) := by decide +kernel
theorem dX2_leftAt_13 : decode cX2_leftAt 13 = .ok (.ireturn, 1) := by decide +kernel
theorem dX2_leftAt_14 : decode cX2_leftAt 14 = .ok (.iload_n 1, 1) := by decide +kernel
theorem dX2_leftAt_15 : decode cX2_leftAt 15 = .ok (.iload_n 1, 1) := by decide +kernel
theorem dX2_leftAt_16 : decode cX2_leftAt 16 = .ok (.iload_n 3, 1) := by decide +kernel
theorem dX2_leftAt_17 : decode cX2_leftAt 17 = .ok (.irem, 1) := by decide +kernel
theorem dX2_leftAt_18 : decode cX2_leftAt 18 = .ok (.isub, 1) := by decide +kernel
theorem dX2_leftAt_19 : decode cX2_leftAt 19 = .ok (.istore 4, 2) := by decide +kernel
theorem dX2_leftAt_21 : decode cX2_leftAt 21 = .ok (.iload_n 2, 1) := by decide +kernel
theorem dX2_leftAt_22 : decode cX2_leftAt 22 = .ok (.aload_n 0, 1) := by decide +kernel
theorem dX2_leftAt_23 : decode cX2_leftAt 23 = .ok (.getfield 15, 3) := by decide +kernel
theorem dX2_leftAt_26 : decode cX2_leftAt 26 = .ok (.iconst 1, 1) := by decide +kernel
theorem dX2_leftAt_27 : decode cX2_leftAt 27 = .ok (.iadd, 1) := by decide +kernel
theorem dX2_leftAt_28 : decode cX2_leftAt 28 = .ok (.irem, 1) := by decide +kernel
theorem dX2_leftAt_29 : decode cX2_leftAt 29 = .ok (.ifCond .ne 7, 3) := by decide +kernel
theorem dX2_leftAt_32 : decode cX2_leftAt 32 = .ok (.iconst 1, 1) := by decide +kernel
theorem dX2_leftAt_33 : decode cX2_leftAt 33 = .ok (.goto 4, 3) := by decide +kernel
theorem dX2_leftAt_36 : decode cX2_leftAt 36 = .ok (.iconst 0, 1) := by decide +kernel
theorem dX2_leftAt_37 : decode cX2_leftAt 37 = .ok (.istore 5, 2) := by decide +kernel
theorem dX2_leftAt_39 : decode cX2_leftAt 39 = .ok (.aload_n 0, 1) := by decide +kernel
theorem dX2_leftAt_40 : decode cX2_leftAt 40 = .ok (.getfield 9, 3) := by decide +kernel
theorem dX2_leftAt_43 : decode cX2_leftAt 43 = .ok (.tableswitch 95 1 6 #[37, 40, 42, 53, 64, 82], 37) := by decide +kernel
theorem dX2_leftAt_80 : decode cX2_leftAt 80 = .ok (.iload 4, 2) := by decide +kernel
theorem dX2_leftAt_82 : decode cX2_leftAt 82 = .ok (.ireturn, 1) := by decide +kernel
theorem dX2_leftAt_83 : decode cX2_leftAt 83 = .ok (.iload_n 1, 1) := by decide +kernel
theorem dX2_leftAt_84 : decode cX2_leftAt 84 = .ok (.ireturn, 1) := by decide +kernel
theorem dX2_leftAt_85 : decode cX2_leftAt 85 = .ok (.iload_n 1, 1) := by decide +kernel
theorem dX2_leftAt_86 : decode cX2_leftAt 86 = .ok (.iload_n 1, 1) := by decide +kernel
theorem dX2_leftAt_87 : decode cX2_leftAt 87 = .ok (.aload_n 0, 1) := by decide +kernel
theorem dX2_leftAt_88 : decode cX2_leftAt 88 = .ok (.getfield 15, 3) := by decide +kernel
theorem dX2_leftAt_91 : decode cX2_leftAt 91 = .ok (.iconst 2, 1) := by decide +kernel
theorem dX2_leftAt_92 : decode cX2_leftAt 92 = .ok (.iadd, 1) := by decide +kernel
theorem dX2_leftAt_93 : decode cX2_leftAt 93 = .ok (.irem, 1) := by decide +kernel
theorem dX2_leftAt_94 : decode cX2_leftAt 94 = .ok (.isub, 1) := by decide +kernel
theorem dX2_leftAt_95 : decode cX2_leftAt 95 = .ok (.ireturn, 1) := by decide +kernel
theorem dX2_leftAt_96 : decode cX2_leftAt 96 = .ok (.iload 5, 2) := by decide +kernel
theorem dX2_leftAt_98 : decode cX2_leftAt 98 = .ok (.ifCond .eq 7, 3) := by decide +kernel
theorem dX2_leftAt_101 : decode cX2_leftAt 101 = .ok (.iconst 0, 1) := by decide +kernel
theorem dX2_leftAt_102 : decode cX2_leftAt 102 = .ok (.goto 4, 3) := by decide +kernel
theorem dX2_leftAt_105 : decode cX2_leftAt 105 = .ok (.iload_n 1, 1) := by decide +kernel
theorem dX2_leftAt_106 : decode cX2_leftAt 106 = .ok (.ireturn, 1) := by decide +kernel
theorem dX2_leftAt_107 : decode cX2_leftAt 107 = .ok (.iload_n 1, 1) := by decide +kernel
theorem dX2_leftAt_108 : decode cX2_leftAt 108 = .ok (.iload 4, 2) := by decide +kernel
theorem dX2_leftAt_110 : decode cX2_leftAt 110 = .ok (.isub, 1) := by decide +kernel
theorem dX2_leftAt_111 : decode cX2_leftAt 111 = .ok (.aload_n 0, 1) := by decide +kernel
theorem dX2_leftAt_112 : decode cX2_leftAt 112 = .ok (.getfield 15, 3) := by decide +kernel
theorem dX2_leftAt_115 : decode cX2_leftAt 115 = .ok (.if_icmp .gt 7, 3) := by decide +kernel
theorem dX2_leftAt_118 : decode cX2_leftAt 118 = .ok (.iload_n 1, 1) := by decide +kernel
theorem dX2_leftAt_119 : decode cX2_leftAt 119 = .ok (.goto 5, 3) := by decide +kernel
theorem dX2_leftAt_122 : decode cX2_leftAt 122 = .ok (.iload 4, 2) := by decide +kernel
theorem dX2_leftAt_124 : decode cX2_leftAt 124 = .ok (.ireturn, 1) := by decide +kernel
theorem dX2_leftAt_125 : decode cX2_leftAt 125 = .ok (.iload 5, 2) := by decide +kernel
theorem dX2_leftAt_127 : decode cX2_leftAt 127 = .ok (.ifCond .eq 9, 3) := by decide +kernel
theorem dX2_leftAt_130 : decode cX2_leftAt 130 = .ok (.iload_n 1, 1) := by decide +kernel
theorem dX2_leftAt_131 : decode cX2_leftAt 131 = .ok (.iconst 2, 1) := by decide +kernel
theorem dX2_leftAt_132 : decode cX2_leftAt 132 = .ok (.idiv, 1) := by decide +kernel
theorem dX2_leftAt_133 : decode cX2_leftAt 133 = .ok (.goto 4, 3) := by decide +kernel
theorem dX2_leftAt_136 : decode cX2_leftAt 136 = .ok (.iload_n 1, 1) := by decide +kernel
theorem dX2_leftAt_137 : decode cX2_leftAt 137 = .ok (.ireturn, 1) := by decide +kernel
theorem dX2_leftAt_138 : decode cX2_leftAt 138 = .ok (.iconst 0, 1) := by decide +kernel
theorem dX2_leftAt_139 : decode cX2_leftAt 139 = .ok (.ireturn, 1) := by decide +kernel
theorem dX2_hear_0 : decode cX2_hear 0 = .ok (.aload_n 0, 1) := by decide +kernel
theorem dX2_hear_1 : decode cX2_hear 1 = .ok (.dup, 1) := by decide +kernel
theorem dX2_hear_2 : decode cX2_hear 2 = .ok (.getfield 27, 3) := by decide +kernel
theorem dX2_hear_5 : decode cX2_hear 5 = .ok (.iconst 1, 1) := by decide +kernel
theorem dX2_hear_6 : decode cX2_hear 6 = .ok (.iadd, 1) := by decide +kernel
theorem dX2_hear_7 : decode cX2_hear 7 = .ok (.putfield 27, 3) := by decide +kernel
theorem dX2_hear_10 : decode cX2_hear 10 = .ok (.aload_n 0, 1) := by decide +kernel
theorem dX2_hear_11 : decode cX2_hear 11 = .ok (.aload_n 0, 1) := by decide +kernel
theorem dX2_hear_12 : decode cX2_hear 12 = .ok (.aload_n 0, 1) := by decide +kernel
theorem dX2_hear_13 : decode cX2_hear 13 = .ok (.getfield 21, 3) := by decide +kernel
theorem dX2_hear_16 : decode cX2_hear 16 = .ok (.aload_n 0, 1) := by decide +kernel
theorem dX2_hear_17 : decode cX2_hear 17 = .ok (.getfield 27, 3) := by decide +kernel
theorem dX2_hear_20 : decode cX2_hear 20 = .ok (.iload_n 1, 1) := by decide +kernel
theorem dX2_hear_21 : decode cX2_hear 21 = .ok (.invokevirtual 34, 3) := by decide +kernel
theorem dX2_hear_24 : decode cX2_hear 24 = .ok (.putfield 21, 3) := by decide +kernel
theorem dX2_hear_27 : decode cX2_hear 27 = .ok (.aload_n 0, 1) := by decide +kernel
theorem dX2_hear_28 : decode cX2_hear 28 = .ok (.getfield 9, 3) := by decide +kernel
theorem dX2_hear_31 : decode cX2_hear 31 = .ok (.iconst 2, 1) := by decide +kernel
theorem dX2_hear_32 : decode cX2_hear 32 = .ok (.if_icmp .ne 18, 3) := by decide +kernel
theorem dX2_hear_35 : decode cX2_hear 35 = .ok (.aload_n 0, 1) := by decide +kernel
theorem dX2_hear_36 : decode cX2_hear 36 = .ok (.dup, 1) := by decide +kernel
theorem dX2_hear_37 : decode cX2_hear 37 = .ok (.getfield 24, 3) := by decide +kernel
theorem dX2_hear_40 : decode cX2_hear 40 = .ok (.aload_n 0, 1) := by decide +kernel
theorem dX2_hear_41 : decode cX2_hear 41 = .ok (.getfield 15, 3) := by decide +kernel
theorem dX2_hear_44 : decode cX2_hear 44 = .ok (.iconst 1, 1) := by decide +kernel
theorem dX2_hear_45 : decode cX2_hear 45 = .ok (.iadd, 1) := by decide +kernel
theorem dX2_hear_46 : decode cX2_hear 46 = .ok (.iadd, 1) := by decide +kernel
theorem dX2_hear_47 : decode cX2_hear 47 = .ok (.putfield 24, 3) := by decide +kernel
theorem dX2_hear_50 : decode cX2_hear 50 = .ok (.aload_n 0, 1) := by decide +kernel
theorem dX2_hear_51 : decode cX2_hear 51 = .ok (.getfield 9, 3) := by decide +kernel
theorem dX2_hear_54 : decode cX2_hear 54 = .ok (.iconst 3, 1) := by decide +kernel
theorem dX2_hear_55 : decode cX2_hear 55 = .ok (.if_icmp .ne 13, 3) := by decide +kernel
theorem dX2_hear_58 : decode cX2_hear 58 = .ok (.aload_n 0, 1) := by decide +kernel
theorem dX2_hear_59 : decode cX2_hear 59 = .ok (.dup, 1) := by decide +kernel
theorem dX2_hear_60 : decode cX2_hear 60 = .ok (.getfield 24, 3) := by decide +kernel
theorem dX2_hear_63 : decode cX2_hear 63 = .ok (.iconst 1, 1) := by decide +kernel
theorem dX2_hear_64 : decode cX2_hear 64 = .ok (.iadd, 1) := by decide +kernel
theorem dX2_hear_65 : decode cX2_hear 65 = .ok (.putfield 24, 3) := by decide +kernel
theorem dX2_hear_68 : decode cX2_hear 68 = .ok (.return_, 1) := by decide +kernel
theorem dX2_saysAs_0 : decode cX2_saysAs 0 = .ok (.iload_n 1, 1) := by decide +kernel
theorem dX2_saysAs_1 : decode cX2_saysAs 1 = .ok (.tableswitch 75 1 6 #[39, 53, 53, 63, 39, 68], 39) := by decide +kernel
theorem dX2_saysAs_40 : decode cX2_saysAs 40 = .ok (.aload_n 0, 1) := by decide +kernel
theorem dX2_saysAs_41 : decode cX2_saysAs 41 = .ok (.getfield 21, 3) := by decide +kernel
theorem dX2_saysAs_44 : decode cX2_saysAs 44 = .ok (.aload_n 0, 1) := by decide +kernel
theorem dX2_saysAs_45 : decode cX2_saysAs 45 = .ok (.getfield 21, 3) := by decide +kernel
theorem dX2_saysAs_48 : decode cX2_saysAs 48 = .ok (.iload_n 2, 1) := by decide +kernel
theorem dX2_saysAs_49 : decode cX2_saysAs 49 = .ok (.invokestatic 38, 3) := by decide +kernel
theorem dX2_saysAs_52 : decode cX2_saysAs 52 = .ok (.isub, 1) := by decide +kernel
theorem dX2_saysAs_53 : decode cX2_saysAs 53 = .ok (.ireturn, 1) := by decide +kernel
theorem dX2_saysAs_54 : decode cX2_saysAs 54 = .ok (.aload_n 0, 1) := by decide +kernel
theorem dX2_saysAs_55 : decode cX2_saysAs 55 = .ok (.getfield 21, 3) := by decide +kernel
theorem dX2_saysAs_58 : decode cX2_saysAs 58 = .ok (.aload_n 0, 1) := by decide +kernel
theorem dX2_saysAs_59 : decode cX2_saysAs 59 = .ok (.getfield 24, 3) := by decide +kernel
theorem dX2_saysAs_62 : decode cX2_saysAs 62 = .ok (.iadd, 1) := by decide +kernel
theorem dX2_saysAs_63 : decode cX2_saysAs 63 = .ok (.ireturn, 1) := by decide +kernel
theorem dX2_saysAs_64 : decode cX2_saysAs 64 = .ok (.aload_n 0, 1) := by decide +kernel
theorem dX2_saysAs_65 : decode cX2_saysAs 65 = .ok (.getfield 27, 3) := by decide +kernel
theorem dX2_saysAs_68 : decode cX2_saysAs 68 = .ok (.ireturn, 1) := by decide +kernel
theorem dX2_saysAs_69 : decode cX2_saysAs 69 = .ok (.aload_n 0, 1) := by decide +kernel
theorem dX2_saysAs_70 : decode cX2_saysAs 70 = .ok (.getfield 21, 3) := by decide +kernel
theorem dX2_saysAs_73 : decode cX2_saysAs 73 = .ok (.iconst 2, 1) := by decide +kernel
theorem dX2_saysAs_74 : decode cX2_saysAs 74 = .ok (.idiv, 1) := by decide +kernel
theorem dX2_saysAs_75 : decode cX2_saysAs 75 = .ok (.ireturn, 1) := by decide +kernel
theorem dX2_saysAs_76 : decode cX2_saysAs 76 = .ok (.aload_n 0, 1) := by decide +kernel
theorem dX2_saysAs_77 : decode cX2_saysAs 77 = .ok (.getfield 21, 3) := by decide +kernel
theorem dX2_saysAs_80 : decode cX2_saysAs 80 = .ok (.ireturn, 1) := by decide +kernel
theorem dX3_init_0 : decode cX3_init 0 = .ok (.aload_n 0, 1) := by decide +kernel
theorem dX3_init_1 : decode cX3_init 1 = .ok (.invokespecial 3, 3) := by decide +kernel
theorem dX3_init_4 : decode cX3_init 4 = .ok (.aload_n 0, 1) := by decide +kernel
theorem dX3_init_5 : decode cX3_init 5 = .ok (.sipush 201, 3) := by decide +kernel
theorem dX3_init_8 : decode cX3_init 8 = .ok (.newarray .int, 2) := by decide +kernel
theorem dX3_init_10 : decode cX3_init 10 = .ok (.putfield 9, 3) := by decide +kernel
theorem dX3_init_13 : decode cX3_init 13 = .ok (.aload_n 0, 1) := by decide +kernel
theorem dX3_init_14 : decode cX3_init 14 = .ok (.sipush 201, 3) := by decide +kernel
theorem dX3_init_17 : decode cX3_init 17 = .ok (.newarray .int, 2) := by decide +kernel
theorem dX3_init_19 : decode cX3_init 19 = .ok (.putfield 15, 3) := by decide +kernel
theorem dX3_init_22 : decode cX3_init 22 = .ok (.return_, 1) := by decide +kernel
theorem dX3_most_0 : decode cX3_most 0 = .ok (.aload_n 1, 1) := by decide +kernel
theorem dX3_most_1 : decode cX3_most 1 = .ok (.getfield 18, 3) := by decide +kernel
theorem dX3_most_4 : decode cX3_most 4 = .ok (.iload_n 2, 1) := by decide +kernel
theorem dX3_most_5 : decode cX3_most 5 = .ok (.aaload, 1) := by decide +kernel
theorem dX3_most_6 : decode cX3_most 6 = .ok (.astore 4, 2) := by decide +kernel
theorem dX3_most_8 : decode cX3_most 8 = .ok (.iload_n 3, 1) := by decide +kernel
theorem dX3_most_9 : decode cX3_most 9 = .ok (.istore 5, 2) := by decide +kernel
theorem dX3_most_11 : decode cX3_most 11 = .ok (.iload 5, 2) := by decide +kernel
theorem dX3_most_13 : decode cX3_most 13 = .ok (.ifCond .lt 103, 3) := by decide +kernel
theorem dX3_most_16 : decode cX3_most 16 = .ok (.aload_n 0, 1) := by decide +kernel
theorem dX3_most_17 : decode cX3_most 17 = .ok (.getfield 15, 3) := by decide +kernel
theorem dX3_most_20 : decode cX3_most 20 = .ok (.aload_n 1, 1) := by decide +kernel
theorem dX3_most_21 : decode cX3_most 21 = .ok (.getfield 24, 3) := by decide +kernel
theorem dX3_most_24 : decode cX3_most 24 = .ok (.iconst 0, 1) := by decide +kernel
theorem dX3_most_25 : decode cX3_most 25 = .ok (.iastore, 1) := by decide +kernel
theorem dX3_most_26 : decode cX3_most 26 = .ok (.aload_n 1, 1) := by decide +kernel
theorem dX3_most_27 : decode cX3_most 27 = .ok (.getfield 24, 3) := by decide +kernel
theorem dX3_most_30 : decode cX3_most 30 = .ok (.iconst 1, 1) := by decide +kernel
theorem dX3_most_31 : decode cX3_most 31 = .ok (.isub, 1) := by decide +kernel
theorem dX3_most_32 : decode cX3_most 32 = .ok (.istore 6, 2) := by decide +kernel
theorem dX3_most_34 : decode cX3_most 34 = .ok (.iload 6, 2) := by decide +kernel
theorem dX3_most_36 : decode cX3_most 36 = .ok (.ifCond .lt 70, 3) := by decide +kernel
theorem dX3_most_39 : decode cX3_most 39 = .ok (.aload_n 0, 1) := by decide +kernel
theorem dX3_most_40 : decode cX3_most 40 = .ok (.getfield 15, 3) := by decide +kernel
theorem dX3_most_43 : decode cX3_most 43 = .ok (.iload 6, 2) := by decide +kernel
theorem dX3_most_45 : decode cX3_most 45 = .ok (.iconst 1, 1) := by decide +kernel
theorem dX3_most_46 : decode cX3_most 46 = .ok (.iadd, 1) := by decide +kernel
theorem dX3_most_47 : decode cX3_most 47 = .ok (.iaload, 1) := by decide +kernel
theorem dX3_most_48 : decode cX3_most 48 = .ok (.istore 7, 2) := by decide +kernel
theorem dX3_most_50 : decode cX3_most 50 = .ok (.iload 5, 2) := by decide +kernel
theorem dX3_most_52 : decode cX3_most 52 = .ok (.iload_n 3, 1) := by decide +kernel
theorem dX3_most_53 : decode cX3_most 53 = .ok (.if_icmp .ge 36, 3) := by decide +kernel
theorem dX3_most_56 : decode cX3_most 56 = .ok (.iload 7, 2) := by decide +kernel
theorem dX3_most_58 : decode cX3_most 58 = .ok (.aload_n 0, 1) := by decide +kernel
theorem dX3_most_59 : decode cX3_most 59 = .ok (.getfield 9, 3) := by decide +kernel
theorem dX3_most_62 : decode cX3_most 62 = .ok (.aload 4, 2) := by decide +kernel
theorem dX3_most_64 : decode cX3_most 64 = .ok (.iload 6, 2) := by decide +kernel
theorem dX3_most_66 : decode cX3_most 66 = .ok (.aload 4, 2) := by decide +kernel
theorem dX3_most_68 : decode cX3_most 68 = .ok (.getfield 28, 3) := by decide +kernel
theorem dX3_most_71 : decode cX3_most 71 = .ok (.iload 5, 2) := by decide +kernel
theorem dX3_most_73 : decode cX3_most 73 = .ok (.iadd, 1) := by decide +kernel
theorem dX3_most_74 : decode cX3_most 74 = .ok (.iconst 1, 1) := by decide +kernel
theorem dX3_most_75 : decode cX3_most 75 = .ok (.iadd, 1) := by decide +kernel
theorem dX3_most_76 : decode cX3_most 76 = .ok (.aload_n 1, 1) := by decide +kernel
theorem dX3_most_77 : decode cX3_most 77 = .ok (.getfield 33, 3) := by decide +kernel
theorem dX3_most_80 : decode cX3_most 80 = .ok (.invokevirtual 36, 3) := by decide +kernel
theorem dX3_most_83 : decode cX3_most 83 = .ok (.iaload, 1) := by decide +kernel
theorem dX3_most_84 : decode cX3_most 84 = .ok (.invokestatic 40, 3) := by decide +kernel
theorem dX3_most_87 : decode cX3_most 87 = .ok (.istore 7, 2) := by decide +kernel
theorem dX3_most_89 : decode cX3_most 89 = .ok (.aload_n 0, 1) := by decide +kernel
theorem dX3_most_90 : decode cX3_most 90 = .ok (.getfield 15, 3) := by decide +kernel
theorem dX3_most_93 : decode cX3_most 93 = .ok (.iload 6, 2) := by decide +kernel
theorem dX3_most_95 : decode cX3_most 95 = .ok (.iload 7, 2) := by decide +kernel
theorem dX3_most_97 : decode cX3_most 97 = .ok (.iconst 1, 1) := by decide +kernel
theorem dX3_most_98 : decode cX3_most 98 = .ok (.iadd, 1) := by decide +kernel
theorem dX3_most_99 : decode cX3_most 99 = .ok (.iastore, 1) := by decide +kernel
theorem dX3_most_100 : decode cX3_most 100 = .ok (.iinc 6 (-1), 3) := by decide +kernel
theorem dX3_most_103 : decode cX3_most 103 = .ok (.goto (-69), 3) := by decide +kernel
theorem dX3_most_106 : decode cX3_most 106 = .ok (.aload_n 0, 1) := by decide +kernel
theorem dX3_most_107 : decode cX3_most 107 = .ok (.invokevirtual 46, 3) := by decide +kernel
theorem dX3_most_110 : decode cX3_most 110 = .ok (.iinc 5 (-1), 3) := by decide +kernel
theorem dX3_most_113 : decode cX3_most 113 = .ok (.goto (-102), 3) := by decide +kernel
theorem dX3_most_116 : decode cX3_most 116 = .ok (.aload_n 0, 1) := by decide +kernel
theorem dX3_most_117 : decode cX3_most 117 = .ok (.getfield 9, 3) := by decide +kernel
theorem dX3_most_120 : decode cX3_most 120 = .ok (.aload 4, 2) := by decide +kernel
theorem dX3_most_122 : decode cX3_most 122 = .ok (.getfield 49, 3) := by decide +kernel
theorem dX3_most_125 : decode cX3_most 125 = .ok (.iaload, 1) := by decide +kernel
theorem dX3_most_126 : decode cX3_most 126 = .ok (.ireturn, 1) := by decide +kernel
theorem dX3_fewestBreaks_0 : decode cX3_fewestBreaks 0 = .ok (.aload_n 1, 1) := by decide +kernel
theorem dX3_fewestBreaks_1 : decode cX3_fewestBreaks 1 = .ok (.getfield 18, 3) := by decide +kernel
theorem dX3_fewestBreaks_4 : decode cX3_fewestBreaks 4 = .ok (.iload_n 2, 1) := by decide +kernel
theorem dX3_fewestBreaks_5 : decode cX3_fewestBreaks 5 = .ok (.aaload, 1) := by decide +kernel
theorem dX3_fewestBreaks_6 : decode cX3_fewestBreaks 6 = .ok (.astore 4, 2) := by decide +kernel
theorem dX3_fewestBreaks_8 : decode cX3_fewestBreaks 8 = .ok (.aload_n 0, 1) := by decide +kernel
theorem dX3_fewestBreaks_9 : decode cX3_fewestBreaks 9 = .ok (.getfield 9, 3) := by decide +kernel
theorem dX3_fewestBreaks_12 : decode cX3_fewestBreaks 12 = .ok (.iconst 0, 1) := by decide +kernel
theorem dX3_fewestBreaks_13 : decode cX3_fewestBreaks 13 = .ok (.invokestatic 52, 3) := by decide +kernel
theorem dX3_fewestBreaks_16 : decode cX3_fewestBreaks 16 = .ok (.aload_n 0, 1) := by decide +kernel
theorem dX3_fewestBreaks_17 : decode cX3_fewestBreaks 17 = .ok (.getfield 9, 3) := by decide +kernel
theorem dX3_fewestBreaks_20 : decode cX3_fewestBreaks 20 = .ok (.aload 4, 2) := by decide +kernel
theorem dX3_fewestBreaks_22 : decode cX3_fewestBreaks 22 = .ok (.getfield 49, 3) := by decide +kernel
theorem dX3_fewestBreaks_25 : decode cX3_fewestBreaks 25 = .ok (.iconst 1, 1) := by decide +kernel
theorem dX3_fewestBreaks_26 : decode cX3_fewestBreaks 26 = .ok (.iastore, 1) := by decide +kernel
theorem dX3_fewestBreaks_27 : decode cX3_fewestBreaks 27 = .ok (.iconst 0, 1) := by decide +kernel
theorem dX3_fewestBreaks_28 : decode cX3_fewestBreaks 28 = .ok (.istore 5, 2) := by decide +kernel
theorem dX3_fewestBreaks_30 : decode cX3_fewestBreaks 30 = .ok (.iload 5, 2) := by decide +kernel
theorem dX3_fewestBreaks_32 : decode cX3_fewestBreaks 32 = .ok (.iload_n 3, 1) := by decide +kernel
theorem dX3_fewestBreaks_33 : decode cX3_fewestBreaks 33 = .ok (.if_icmp .ge 48, 3) := by decide +kernel
theorem dX3_fewestBreaks_36 : decode cX3_fewestBreaks 36 = .ok (.aload_n 0, 1) := by decide +kernel
theorem dX3_fewestBreaks_37 : decode cX3_fewestBreaks 37 = .ok (.getfield 15, 3) := by decide +kernel
theorem dX3_fewestBreaks_40 : decode cX3_fewestBreaks 40 = .ok (.iconst 0, 1) := by decide +kernel
theorem dX3_fewestBreaks_41 : decode cX3_fewestBreaks 41 = .ok (.invokestatic 52, 3) := by decide +kernel
theorem dX3_fewestBreaks_44 : decode cX3_fewestBreaks 44 = .ok (.iconst 0, 1) := by decide +kernel
theorem dX3_fewestBreaks_45 : decode cX3_fewestBreaks 45 = .ok (.istore 6, 2) := by decide +kernel
theorem dX3_fewestBreaks_47 : decode cX3_fewestBreaks 47 = .ok (.iload 6, 2) := by decide +kernel
theorem dX3_fewestBreaks_49 : decode cX3_fewestBreaks 49 = .ok (.aload_n 1, 1) := by decide +kernel
theorem dX3_fewestBreaks_50 : decode cX3_fewestBreaks 50 = .ok (.getfield 24, 3) := by decide +kernel
theorem dX3_fewestBreaks_53 : decode cX3_fewestBreaks 53 = .ok (.if_icmp .ge 18, 3) := by decide +kernel
theorem dX3_fewestBreaks_56 : decode cX3_fewestBreaks 56 = .ok (.aload_n 0, 1) := by decide +kernel
theorem dX3_fewestBreaks_57 : decode cX3_fewestBreaks 57 = .ok (.aload_n 1, 1) := by decide +kernel
theorem dX3_fewestBreaks_58 : decode cX3_fewestBreaks 58 = .ok (.aload 4, 2) := by decide +kernel
theorem dX3_fewestBreaks_60 : decode cX3_fewestBreaks 60 = .ok (.iload 6, 2) := by decide +kernel
theorem dX3_fewestBreaks_62 : decode cX3_fewestBreaks 62 = .ok (.invokevirtual 58, 3) := by decide +kernel
theorem dX3_fewestBreaks_65 : decode cX3_fewestBreaks 65 = .ok (.iinc 6 1, 3) := by decide +kernel
theorem dX3_fewestBreaks_68 : decode cX3_fewestBreaks 68 = .ok (.goto (-21), 3) := by decide +kernel
theorem dX3_fewestBreaks_71 : decode cX3_fewestBreaks 71 = .ok (.aload_n 0, 1) := by decide +kernel
theorem dX3_fewestBreaks_72 : decode cX3_fewestBreaks 72 = .ok (.invokevirtual 46, 3) := by decide +kernel
theorem dX3_fewestBreaks_75 : decode cX3_fewestBreaks 75 = .ok (.iinc 5 1, 3) := by decide +kernel
theorem dX3_fewestBreaks_78 : decode cX3_fewestBreaks 78 = .ok (.goto (-48), 3) := by decide +kernel
theorem dX3_fewestBreaks_81 : decode cX3_fewestBreaks 81 = .ok (.iconst 0, 1) := by decide +kernel
theorem dX3_fewestBreaks_82 : decode cX3_fewestBreaks 82 = .ok (.istore 5, 2) := by decide +kernel
theorem dX3_fewestBreaks_84 : decode cX3_fewestBreaks 84 = .ok (.iload 5, 2) := by decide +kernel
theorem dX3_fewestBreaks_86 : decode cX3_fewestBreaks 86 = .ok (.bipush 8, 2) := by decide +kernel
theorem dX3_fewestBreaks_88 : decode cX3_fewestBreaks 88 = .ok (.if_icmp .gt 29, 3) := by decide +kernel
theorem dX3_fewestBreaks_91 : decode cX3_fewestBreaks 91 = .ok (.aload_n 0, 1) := by decide +kernel
theorem dX3_fewestBreaks_92 : decode cX3_fewestBreaks 92 = .ok (.getfield 9, 3) := by decide +kernel
theorem dX3_fewestBreaks_95 : decode cX3_fewestBreaks 95 = .ok (.aload_n 1, 1) := by decide +kernel
theorem dX3_fewestBreaks_96 : decode cX3_fewestBreaks 96 = .ok (.getfield 24, 3) := by decide +kernel
theorem dX3_fewestBreaks_99 : decode cX3_fewestBreaks 99 = .ok (.iaload, 1) := by decide +kernel
theorem dX3_fewestBreaks_100 : decode cX3_fewestBreaks 100 = .ok (.iload 5, 2) := by decide +kernel
theorem dX3_fewestBreaks_102 : decode cX3_fewestBreaks 102 = .ok (.invokestatic 62, 3) := by decide +kernel
theorem dX3_fewestBreaks_105 : decode cX3_fewestBreaks 105 = .ok (.ifCond .eq 6, 3) := by decide +kernel
theorem dX3_fewestBreaks_108 : decode cX3_fewestBreaks 108 = .ok (.iload 5, 2) := by decide +kernel
theorem dX3_fewestBreaks_110 : decode cX3_fewestBreaks 110 = .ok (.ireturn, 1) := by decide +kernel
theorem dX3_fewestBreaks_111 : decode cX3_fewestBreaks 111 = .ok (.iinc 5 1, 3) := by decide +kernel
theorem dX3_fewestBreaks_114 : decode cX3_fewestBreaks 114 = .ok (.goto (-30), 3) := by decide +kernel
theorem dX3_fewestBreaks_117 : decode cX3_fewestBreaks 117 = .ok (.iconst (-1), 1) := by decide +kernel
theorem dX3_fewestBreaks_118 : decode cX3_fewestBreaks 118 = .ok (.ireturn, 1) := by decide +kernel
theorem dX3_spread_0 : decode cX3_spread 0 = .ok (.aload_n 0, 1) := by decide +kernel
theorem dX3_spread_1 : decode cX3_spread 1 = .ok (.getfield 9, 3) := by decide +kernel
theorem dX3_spread_4 : decode cX3_spread 4 = .ok (.iload_n 3, 1) := by decide +kernel
theorem dX3_spread_5 : decode cX3_spread 5 = .ok (.iaload, 1) := by decide +kernel
theorem dX3_spread_6 : decode cX3_spread 6 = .ok (.istore 4, 2) := by decide +kernel
theorem dX3_spread_8 : decode cX3_spread 8 = .ok (.iload 4, 2) := by decide +kernel
theorem dX3_spread_10 : decode cX3_spread 10 = .ok (.ifCond .ne 4, 3) := by decide +kernel
theorem dX3_spread_13 : decode cX3_spread 13 = .ok (.return_, 1) := by decide +kernel
theorem dX3_spread_14 : decode cX3_spread 14 = .ok (.aload_n 0, 1) := by decide +kernel
theorem dX3_spread_15 : decode cX3_spread 15 = .ok (.getfield 15, 3) := by decide +kernel
theorem dX3_spread_18 : decode cX3_spread 18 = .ok (.iload_n 3, 1) := by decide +kernel
theorem dX3_spread_19 : decode cX3_spread 19 = .ok (.iconst 1, 1) := by decide +kernel
theorem dX3_spread_20 : decode cX3_spread 20 = .ok (.iadd, 1) := by decide +kernel
theorem dX3_spread_21 : decode cX3_spread 21 = .ok (.dup2, 1) := by decide +kernel
theorem dX3_spread_22 : decode cX3_spread 22 = .ok (.iaload, 1) := by decide +kernel
theorem dX3_spread_23 : decode cX3_spread 23 = .ok (.iload 4, 2) := by decide +kernel
theorem dX3_spread_25 : decode cX3_spread 25 = .ok (.ior, 1) := by decide +kernel
theorem dX3_spread_26 : decode cX3_spread 26 = .ok (.iastore, 1) := by decide +kernel
theorem dX3_spread_27 : decode cX3_spread 27 = .ok (.iconst 0, 1) := by decide +kernel
theorem dX3_spread_28 : decode cX3_spread 28 = .ok (.istore 5, 2) := by decide +kernel
theorem dX3_spread_30 : decode cX3_spread 30 = .ok (.iload 5, 2) := by decide +kernel
theorem dX3_spread_32 : decode cX3_spread 32 = .ok (.bipush 8, 2) := by decide +kernel
theorem dX3_spread_34 : decode cX3_spread 34 = .ok (.if_icmp .ge 55, 3) := by decide +kernel
theorem dX3_spread_37 : decode cX3_spread 37 = .ok (.aload_n 2, 1) := by decide +kernel
theorem dX3_spread_38 : decode cX3_spread 38 = .ok (.iload_n 3, 1) := by decide +kernel
theorem dX3_spread_39 : decode cX3_spread 39 = .ok (.aload_n 2, 1) := by decide +kernel
theorem dX3_spread_40 : decode cX3_spread 40 = .ok (.getfield 28, 3) := by decide +kernel
theorem dX3_spread_43 : decode cX3_spread 43 = .ok (.iload 5, 2) := by decide +kernel
theorem dX3_spread_45 : decode cX3_spread 45 = .ok (.iadd, 1) := by decide +kernel
theorem dX3_spread_46 : decode cX3_spread 46 = .ok (.iconst 1, 1) := by decide +kernel
theorem dX3_spread_47 : decode cX3_spread 47 = .ok (.iadd, 1) := by decide +kernel
theorem dX3_spread_48 : decode cX3_spread 48 = .ok (.aload_n 1, 1) := by decide +kernel
theorem dX3_spread_49 : decode cX3_spread 49 = .ok (.getfield 33, 3) := by decide +kernel
theorem dX3_spread_52 : decode cX3_spread 52 = .ok (.invokevirtual 36, 3) := by decide +kernel
theorem dX3_spread_55 : decode cX3_spread 55 = .ok (.istore 6, 2) := by decide +kernel
theorem dX3_spread_57 : decode cX3_spread 57 = .ok (.iload 4, 2) := by decide +kernel
theorem dX3_spread_59 : decode cX3_spread 59 = .ok (.iload 5, 2) := by decide +kernel
theorem dX3_spread_61 : decode cX3_spread 61 = .ok (.invokestatic 62, 3) := by decide +kernel
theorem dX3_spread_64 : decode cX3_spread 64 = .ok (.ifCond .eq 19, 3) := by decide +kernel
theorem dX3_spread_67 : decode cX3_spread 67 = .ok (.aload_n 0, 1) := by decide +kernel
theorem dX3_spread_68 : decode cX3_spread 68 = .ok (.getfield 15, 3) := by decide +kernel
theorem dX3_spread_71 : decode cX3_spread 71 = .ok (.iload 6, 2) := by decide +kernel
theorem dX3_spread_73 : decode cX3_spread 73 = .ok (.dup2, 1) := by decide +kernel
theorem dX3_spread_74 : decode cX3_spread 74 = .ok (.iaload, 1) := by decide +kernel
theorem dX3_spread_75 : decode cX3_spread 75 = .ok (.iconst 1, 1) := by decide +kernel
theorem dX3_spread_76 : decode cX3_spread 76 = .ok (.iload 5, 2) := by decide +kernel
theorem dX3_spread_78 : decode cX3_spread 78 = .ok (.iconst 1, 1) := by decide +kernel
theorem dX3_spread_79 : decode cX3_spread 79 = .ok (.iadd, 1) := by decide +kernel
theorem dX3_spread_80 : decode cX3_spread 80 = .ok (.ishl, 1) := by decide +kernel
theorem dX3_spread_81 : decode cX3_spread 81 = .ok (.ior, 1) := by decide +kernel
theorem dX3_spread_82 : decode cX3_spread 82 = .ok (.iastore, 1) := by decide +kernel
theorem dX3_spread_83 : decode cX3_spread 83 = .ok (.iinc 5 1, 3) := by decide +kernel
theorem dX3_spread_86 : decode cX3_spread 86 = .ok (.goto (-56), 3) := by decide +kernel
theorem dX3_spread_89 : decode cX3_spread 89 = .ok (.return_, 1) := by decide +kernel
theorem dX3_hasBit_0 : decode cX3_hasBit 0 = .ok (.iload_n 0, 1) := by decide +kernel
theorem dX3_hasBit_1 : decode cX3_hasBit 1 = .ok (.iload_n 1, 1) := by decide +kernel
theorem dX3_hasBit_2 : decode cX3_hasBit 2 = .ok (.ishr, 1) := by decide +kernel
theorem dX3_hasBit_3 : decode cX3_hasBit 3 = .ok (.iconst 1, 1) := by decide +kernel
theorem dX3_hasBit_4 : decode cX3_hasBit 4 = .ok (.iand, 1) := by decide +kernel
theorem dX3_hasBit_5 : decode cX3_hasBit 5 = .ok (.ifCond .eq 7, 3) := by decide +kernel
theorem dX3_hasBit_8 : decode cX3_hasBit 8 = .ok (.iconst 1, 1) := by decide +kernel
theorem dX3_hasBit_9 : decode cX3_hasBit 9 = .ok (.goto 4, 3) := by decide +kernel
theorem dX3_hasBit_12 : decode cX3_hasBit 12 = .ok (.iconst 0, 1) := by decide +kernel
theorem dX3_hasBit_13 : decode cX3_hasBit 13 = .ok (.ireturn, 1) := by decide +kernel
theorem dX3_swap_0 : decode cX3_swap 0 = .ok (.aload_n 0, 1) := by decide +kernel
theorem dX3_swap_1 : decode cX3_swap 1 = .ok (.getfield 9, 3) := by decide +kernel
theorem dX3_swap_4 : decode cX3_swap 4 = .ok (.astore_n 1, 1) := by decide +kernel
theorem dX3_swap_5 : decode cX3_swap 5 = .ok (.aload_n 0, 1) := by decide +kernel
theorem dX3_swap_6 : decode cX3_swap 6 = .ok (.aload_n 0, 1) := by decide +kernel
theorem dX3_swap_7 : decode cX3_swap 7 = .ok (.getfield 15, 3) := by decide +kernel
theorem dX3_swap_10 : decode cX3_swap 10 = .ok (.putfield 9, 3) := by decide +kernel
theorem dX3_swap_13 : decode cX3_swap 13 = .ok (.aload_n 0, 1) := by decide +kernel
theorem dX3_swap_14 : decode cX3_swap 14 = .ok (.aload_n 1, 1) := by decide +kernel
theorem dX3_swap_15 : decode cX3_swap 15 = .ok (.putfield 15, 3) := by decide +kernel
theorem dX3_swap_18 : decode cX3_swap 18 = .ok (.return_, 1) := by decide +kernel
theorem dX4_init_0 : decode cX4_init 0 = .ok (.aload_n 0, 1) := by decide +kernel
theorem dX4_init_1 : decode cX4_init 1 = .ok (.invokespecial 3, 3) := by decide +kernel
theorem dX4_init_4 : decode cX4_init 4 = .ok (.aload_n 0, 1) := by decide +kernel
theorem dX4_init_5 : decode cX4_init 5 = .ok (.bipush 6, 2) := by decide +kernel
theorem dX4_init_7 : decode cX4_init 7 = .ok (.anewarray 9, 3) := by decide +kernel
theorem dX4_init_10 : decode cX4_init 10 = .ok (.putfield 11, 3) := by decide +kernel
theorem dX4_init_13 : decode cX4_init 13 = .ok (.aload_n 0, 1) := by decide +kernel
theorem dX4_init_14 : decode cX4_init 14 = .ok (.bipush 20, 2) := by decide +kernel
theorem dX4_init_16 : decode cX4_init 16 = .ok (.putfield 17, 3) := by decide +kernel
theorem dX4_init_19 : decode cX4_init 19 = .ok (.aload_n 0, 1) := by decide +kernel
theorem dX4_init_20 : decode cX4_init 20 = .ok (.iconst 5, 1) := by decide +kernel
theorem dX4_init_21 : decode cX4_init 21 = .ok (.putfield 21, 3) := by decide +kernel
theorem dX4_init_24 : decode cX4_init 24 = .ok (.aload_n 0, 1) := by decide +kernel
theorem dX4_init_25 : decode cX4_init 25 = .ok (.bipush 100, 2) := by decide +kernel
theorem dX4_init_27 : decode cX4_init 27 = .ok (.putfield 24, 3) := by decide +kernel
theorem dX4_init_30 : decode cX4_init 30 = .ok (.aload_n 0, 1) := by decide +kernel
theorem dX4_init_31 : decode cX4_init 31 = .ok (.iconst 1, 1) := by decide +kernel
theorem dX4_init_32 : decode cX4_init 32 = .ok (.putfield 27, 3) := by decide +kernel
theorem dX4_init_35 : decode cX4_init 35 = .ok (.aload_n 0, 1) := by decide +kernel
theorem dX4_init_36 : decode cX4_init 36 = .ok (.bipush 8, 2) := by decide +kernel
theorem dX4_init_38 : decode cX4_init 38 = .ok (.newarray .int, 2) := by decide +kernel
theorem dX4_init_40 : decode cX4_init 40 = .ok (.putfield 30, 3) := by decide +kernel
theorem dX4_init_43 : decode cX4_init 43 = .ok (.aload_n 0, 1) := by decide +kernel
theorem dX4_init_44 : decode cX4_init 44 = .ok (.iconst 1, 1) := by decide +kernel
theorem dX4_init_45 : decode cX4_init 45 = .ok (.putfield 34, 3) := by decide +kernel
theorem dX4_init_48 : decode cX4_init 48 = .ok (.iconst 0, 1) := by decide +kernel
theorem dX4_init_49 : decode cX4_init 49 = .ok (.istore_n 1, 1) := by decide +kernel
theorem dX4_init_50 : decode cX4_init 50 = .ok (.iload_n 1, 1) := by decide +kernel
theorem dX4_init_51 : decode cX4_init 51 = .ok (.aload_n 0, 1) := by decide +kernel
theorem dX4_init_52 : decode cX4_init 52 = .ok (.getfield 11, 3) := by decide +kernel
theorem dX4_init_55 : decode cX4_init 55 = .ok (.arraylength, 1) := by decide +kernel
theorem dX4_init_56 : decode cX4_init 56 = .ok (.if_icmp .ge 22, 3) := by decide +kernel
theorem dX4_init_59 : decode cX4_init 59 = .ok (.aload_n 0, 1) := by decide +kernel
theorem dX4_init_60 : decode cX4_init 60 = .ok (.getfield 11, 3) := by decide +kernel
theorem dX4_init_63 : decode cX4_init 63 = .ok (.iload_n 1, 1) := by decide +kernel
theorem dX4_init_64 : decode cX4_init 64 = .ok (.new 9, 3) := by decide +kernel
theorem dX4_init_67 : decode cX4_init 67 = .ok (.dup, 1) := by decide +kernel
theorem dX4_init_68 : decode cX4_init 68 = .ok (.invokespecial 37, 3) := by decide +kernel
theorem dX4_init_71 : decode cX4_init 71 = .ok (.aastore, 1) := by decide +kernel
theorem dX4_init_72 : decode cX4_init 72 = .ok (.iinc 1 1, 3) := by decide +kernel
theorem dX4_init_75 : decode cX4_init 75 = .ok (.goto (-25), 3) := by decide +kernel
theorem dX4_init_78 : decode cX4_init 78 = .ok (.return_, 1) := by decide +kernel
theorem dX4_becomeLike_0 : decode cX4_becomeLike 0 = .ok (.iconst 0, 1) := by decide +kernel
theorem dX4_becomeLike_1 : decode cX4_becomeLike 1 = .ok (.istore_n 2, 1) := by decide +kernel
theorem dX4_becomeLike_2 : decode cX4_becomeLike 2 = .ok (.iload_n 2, 1) := by decide +kernel
theorem dX4_becomeLike_3 : decode cX4_becomeLike 3 = .ok (.aload_n 0, 1) := by decide +kernel
theorem dX4_becomeLike_4 : decode cX4_becomeLike 4 = .ok (.getfield 11, 3) := by decide +kernel
theorem dX4_becomeLike_7 : decode cX4_becomeLike 7 = .ok (.arraylength, 1) := by decide +kernel
theorem dX4_becomeLike_8 : decode cX4_becomeLike 8 = .ok (.if_icmp .ge 24, 3) := by decide +kernel
theorem dX4_becomeLike_11 : decode cX4_becomeLike 11 = .ok (.aload_n 0, 1) := by decide +kernel
theorem dX4_becomeLike_12 : decode cX4_becomeLike 12 = .ok (.getfield 11, 3) := by decide +kernel
theorem dX4_becomeLike_15 : decode cX4_becomeLike 15 = .ok (.iload_n 2, 1) := by decide +kernel
theorem dX4_becomeLike_16 : decode cX4_becomeLike 16 = .ok (.aaload, 1) := by decide +kernel
theorem dX4_becomeLike_17 : decode cX4_becomeLike 17 = .ok (.aload_n 1, 1) := by decide +kernel
theorem dX4_becomeLike_18 : decode cX4_becomeLike 18 = .ok (.getfield 11, 3) := by decide +kernel
theorem dX4_becomeLike_21 : decode cX4_becomeLike 21 = .ok (.iload_n 2, 1) := by decide +kernel
theorem dX4_becomeLike_22 : decode cX4_becomeLike 22 = .ok (.aaload, 1) := by decide +kernel
theorem dX4_becomeLike_23 : decode cX4_becomeLike 23 = .ok (.invokevirtual 38, 3) := by decide +kernel
theorem dX4_becomeLike_26 : decode cX4_becomeLike 26 = .ok (.iinc 2 1, 3) := by decide +kernel
theorem dX4_becomeLike_29 : decode cX4_becomeLike 29 = .ok (.goto (-27), 3) := by decide +kernel
theorem dX4_becomeLike_32 : decode cX4_becomeLike 32 = .ok (.aload_n 0, 1) := by decide +kernel
theorem dX4_becomeLike_33 : decode cX4_becomeLike 33 = .ok (.aload_n 1, 1) := by decide +kernel
theorem dX4_becomeLike_34 : decode cX4_becomeLike 34 = .ok (.getfield 42, 3) := by decide +kernel
theorem dX4_becomeLike_37 : decode cX4_becomeLike 37 = .ok (.putfield 42, 3) := by decide +kernel
theorem dX4_becomeLike_40 : decode cX4_becomeLike 40 = .ok (.aload_n 0, 1) := by decide +kernel
theorem dX4_becomeLike_41 : decode cX4_becomeLike 41 = .ok (.aload_n 1, 1) := by decide +kernel
theorem dX4_becomeLike_42 : decode cX4_becomeLike 42 = .ok (.getfield 17, 3) := by decide +kernel
theorem dX4_becomeLike_45 : decode cX4_becomeLike 45 = .ok (.putfield 17, 3) := by decide +kernel
theorem dX4_becomeLike_48 : decode cX4_becomeLike 48 = .ok (.aload_n 0, 1) := by decide +kernel
theorem dX4_becomeLike_49 : decode cX4_becomeLike 49 = .ok (.aload_n 1, 1) := by decide +kernel
theorem dX4_becomeLike_50 : decode cX4_becomeLike 50 = .ok (.getfield 21, 3) := by decide +kernel
theorem dX4_becomeLike_53 : decode cX4_becomeLike 53 = .ok (.putfield 21, 3) := by decide +kernel
theorem dX4_becomeLike_56 : decode cX4_becomeLike 56 = .ok (.aload_n 0, 1) := by decide +kernel
theorem dX4_becomeLike_57 : decode cX4_becomeLike 57 = .ok (.aload_n 1, 1) := by decide +kernel
theorem dX4_becomeLike_58 : decode cX4_becomeLike 58 = .ok (.getfield 24, 3) := by decide +kernel
theorem dX4_becomeLike_61 : decode cX4_becomeLike 61 = .ok (.putfield 24, 3) := by decide +kernel
theorem dX4_becomeLike_64 : decode cX4_becomeLike 64 = .ok (.aload_n 0, 1) := by decide +kernel
theorem dX4_becomeLike_65 : decode cX4_becomeLike 65 = .ok (.aload_n 1, 1) := by decide +kernel
theorem dX4_becomeLike_66 : decode cX4_becomeLike 66 = .ok (.getfield 27, 3) := by decide +kernel
theorem dX4_becomeLike_69 : decode cX4_becomeLike 69 = .ok (.putfield 27, 3) := by decide +kernel
theorem dX4_becomeLike_72 : decode cX4_becomeLike 72 = .ok (.iconst 0, 1) := by decide +kernel
theorem dX4_becomeLike_73 : decode cX4_becomeLike 73 = .ok (.istore_n 2, 1) := by decide +kernel
theorem dX4_becomeLike_74 : decode cX4_becomeLike 74 = .ok (.iload_n 2, 1) := by decide +kernel
theorem dX4_becomeLike_75 : decode cX4_becomeLike 75 = .ok (.aload_n 0, 1) := by decide +kernel
theorem dX4_becomeLike_76 : decode cX4_becomeLike 76 = .ok (.getfield 30, 3) := by decide +kernel
theorem dX4_becomeLike_79 : decode cX4_becomeLike 79 = .ok (.arraylength, 1) := by decide +kernel
theorem dX4_becomeLike_80 : decode cX4_becomeLike 80 = .ok (.if_icmp .ge 21, 3) := by decide +kernel
theorem dX4_becomeLike_83 : decode cX4_becomeLike 83 = .ok (.aload_n 0, 1) := by decide +kernel
theorem dX4_becomeLike_84 : decode cX4_becomeLike 84 = .ok (.getfield 30, 3) := by decide +kernel
theorem dX4_becomeLike_87 : decode cX4_becomeLike 87 = .ok (.iload_n 2, 1) := by decide +kernel
theorem dX4_becomeLike_88 : decode cX4_becomeLike 88 = .ok (.aload_n 1, 1) := by decide +kernel
theorem dX4_becomeLike_89 : decode cX4_becomeLike 89 = .ok (.getfield 30, 3) := by decide +kernel
theorem dX4_becomeLike_92 : decode cX4_becomeLike 92 = .ok (.iload_n 2, 1) := by decide +kernel
theorem dX4_becomeLike_93 : decode cX4_becomeLike 93 = .ok (.iaload, 1) := by decide +kernel
theorem dX4_becomeLike_94 : decode cX4_becomeLike 94 = .ok (.iastore, 1) := by decide +kernel
theorem dX4_becomeLike_95 : decode cX4_becomeLike 95 = .ok (.iinc 2 1, 3) := by decide +kernel
theorem dX4_becomeLike_98 : decode cX4_becomeLike 98 = .ok (.goto (-24), 3) := by decide +kernel
theorem dX4_becomeLike_101 : decode cX4_becomeLike 101 = .ok (.aload_n 0, 1) := by decide +kernel
theorem dX4_becomeLike_102 : decode cX4_becomeLike 102 = .ok (.aload_n 1, 1) := by decide +kernel
theorem dX4_becomeLike_103 : decode cX4_becomeLike 103 = .ok (.getfield 45, 3) := by decide +kernel
theorem dX4_becomeLike_106 : decode cX4_becomeLike 106 = .ok (.putfield 45, 3) := by decide +kernel
theorem dX4_becomeLike_109 : decode cX4_becomeLike 109 = .ok (.aload_n 0, 1) := by decide +kernel
theorem dX4_becomeLike_110 : decode cX4_becomeLike 110 = .ok (.aload_n 1, 1) := by decide +kernel
theorem dX4_becomeLike_111 : decode cX4_becomeLike 111 = .ok (.getfield 48, 3) := by decide +kernel
theorem dX4_becomeLike_114 : decode cX4_becomeLike 114 = .ok (.putfield 48, 3) := by decide +kernel
theorem dX4_becomeLike_117 : decode cX4_becomeLike 117 = .ok (.aload_n 0, 1) := by decide +kernel
theorem dX4_becomeLike_118 : decode cX4_becomeLike 118 = .ok (.aload_n 1, 1) := by decide +kernel
theorem dX4_becomeLike_119 : decode cX4_becomeLike 119 = .ok (.getfield 34, 3) := by decide +kernel
theorem dX4_becomeLike_122 : decode cX4_becomeLike 122 = .ok (.putfield 34, 3) := by decide +kernel
theorem dX4_becomeLike_125 : decode cX4_becomeLike 125 = .ok (.return_, 1) := by decide +kernel
theorem dX4_hasRoomForCounter_0 : decode cX4_hasRoomForCounter 0 = .ok (.aload_n 0, 1) := by decide +kernel
theorem dX4_hasRoomForCounter_1 : decode cX4_hasRoomForCounter 1 = .ok (.getfield 42, 3) := by decide +kernel
theorem dX4_hasRoomForCounter_4 : decode cX4_hasRoomForCounter 4 = .ok (.aload_n 0, 1) := by decide +kernel
theorem dX4_hasRoomForCounter_5 : decode cX4_hasRoomForCounter 5 = .ok (.getfield 11, 3) := by decide +kernel
theorem dX4_hasRoomForCounter_8 : decode cX4_hasRoomForCounter 8 = .ok (.arraylength, 1) := by decide +kernel
theorem dX4_hasRoomForCounter_9 : decode cX4_hasRoomForCounter 9 = .ok (.if_icmp .ge 7, 3) := by decide +kernel
theorem dX4_hasRoomForCounter_12 : decode cX4_hasRoomForCounter 12 = .ok (.iconst 1, 1) := by decide +kernel
theorem dX4_hasRoomForCounter_13 : decode cX4_hasRoomForCounter 13 = .ok (.goto 4, 3) := by decide +kernel
theorem dX4_hasRoomForCounter_16 : decode cX4_hasRoomForCounter 16 = .ok (.iconst 0, 1) := by decide +kernel
theorem dX4_hasRoomForCounter_17 : decode cX4_hasRoomForCounter 17 = .ok (.ireturn, 1) := by decide +kernel
theorem dX4_addCounter_0 : decode cX4_addCounter 0 = .ok (.aload_n 0, 1) := by decide +kernel
theorem dX4_addCounter_1 : decode cX4_addCounter 1 = .ok (.getfield 11, 3) := by decide +kernel
theorem dX4_addCounter_4 : decode cX4_addCounter 4 = .ok (.aload_n 0, 1) := by decide +kernel
theorem dX4_addCounter_5 : decode cX4_addCounter 5 = .ok (.getfield 42, 3) := by decide +kernel
theorem dX4_addCounter_8 : decode cX4_addCounter 8 = .ok (.aaload, 1) := by decide +kernel
theorem dX4_addCounter_9 : decode cX4_addCounter 9 = .ok (.iload_n 1, 1) := by decide +kernel
theorem dX4_addCounter_10 : decode cX4_addCounter 10 = .ok (.iload_n 2, 1) := by decide +kernel
theorem dX4_addCounter_11 : decode cX4_addCounter 11 = .ok (.invokevirtual 51, 3) := by decide +kernel
theorem dX4_addCounter_14 : decode cX4_addCounter 14 = .ok (.aload_n 0, 1) := by decide +kernel
theorem dX4_addCounter_15 : decode cX4_addCounter 15 = .ok (.dup, 1) := by decide +kernel
theorem dX4_addCounter_16 : decode cX4_addCounter 16 = .ok (.getfield 42, 3) := by decide +kernel
theorem dX4_addCounter_19 : decode cX4_addCounter 19 = .ok (.iconst 1, 1) := by decide +kernel
theorem dX4_addCounter_20 : decode cX4_addCounter 20 = .ok (.iadd, 1) := by decide +kernel
theorem dX4_addCounter_21 : decode cX4_addCounter 21 = .ok (.putfield 42, 3) := by decide +kernel
theorem dX4_addCounter_24 : decode cX4_addCounter 24 = .ok (.aload_n 0, 1) := by decide +kernel
theorem dX4_addCounter_25 : decode cX4_addCounter 25 = .ok (.getfield 42, 3) := by decide +kernel
theorem dX4_addCounter_28 : decode cX4_addCounter 28 = .ok (.iconst 1, 1) := by decide +kernel
theorem dX4_addCounter_29 : decode cX4_addCounter 29 = .ok (.isub, 1) := by decide +kernel
theorem dX4_addCounter_30 : decode cX4_addCounter 30 = .ok (.ireturn, 1) := by decide +kernel
theorem dX4_hasRoomForTally_0 : decode cX4_hasRoomForTally 0 = .ok (.aload_n 0, 1) := by decide +kernel
theorem dX4_hasRoomForTally_1 : decode cX4_hasRoomForTally 1 = .ok (.getfield 45, 3) := by decide +kernel
theorem dX4_hasRoomForTally_4 : decode cX4_hasRoomForTally 4 = .ok (.aload_n 0, 1) := by decide +kernel
theorem dX4_hasRoomForTally_5 : decode cX4_hasRoomForTally 5 = .ok (.getfield 30, 3) := by decide +kernel
theorem dX4_hasRoomForTally_8 : decode cX4_hasRoomForTally 8 = .ok (.arraylength, 1) := by decide +kernel
theorem dX4_hasRoomForTally_9 : decode cX4_hasRoomForTally 9 = .ok (.if_icmp .ge 7, 3) := by decide +kernel
theorem dX4_hasRoomForTally_12 : decode cX4_hasRoomForTally 12 = .ok (.iconst 1, 1) := by decide +kernel
theorem dX4_hasRoomForTally_13 : decode cX4_hasRoomForTally 13 = .ok (.goto 4, 3) := by decide +kernel
theorem dX4_hasRoomForTally_16 : decode cX4_hasRoomForTally 16 = .ok (.iconst 0, 1) := by decide +kernel
theorem dX4_hasRoomForTally_17 : decode cX4_hasRoomForTally 17 = .ok (.ireturn, 1) := by decide +kernel
theorem dX4_addTally_0 : decode cX4_addTally 0 = .ok (.aload_n 0, 1) := by decide +kernel
theorem dX4_addTally_1 : decode cX4_addTally 1 = .ok (.getfield 30, 3) := by decide +kernel
theorem dX4_addTally_4 : decode cX4_addTally 4 = .ok (.aload_n 0, 1) := by decide +kernel
theorem dX4_addTally_5 : decode cX4_addTally 5 = .ok (.getfield 45, 3) := by decide +kernel
theorem dX4_addTally_8 : decode cX4_addTally 8 = .ok (.iload_n 1, 1) := by decide +kernel
theorem dX4_addTally_9 : decode cX4_addTally 9 = .ok (.iastore, 1) := by decide +kernel
theorem dX4_addTally_10 : decode cX4_addTally 10 = .ok (.aload_n 0, 1) := by decide +kernel
theorem dX4_addTally_11 : decode cX4_addTally 11 = .ok (.dup, 1) := by decide +kernel
theorem dX4_addTally_12 : decode cX4_addTally 12 = .ok (.getfield 45, 3) := by decide +kernel
theorem dX4_addTally_15 : decode cX4_addTally 15 = .ok (.iconst 1, 1) := by decide +kernel
theorem dX4_addTally_16 : decode cX4_addTally 16 = .ok (.iadd, 1) := by decide +kernel
theorem dX4_addTally_17 : decode cX4_addTally 17 = .ok (.putfield 45, 3) := by decide +kernel
theorem dX4_addTally_20 : decode cX4_addTally 20 = .ok (.aload_n 0, 1) := by decide +kernel
theorem dX4_addTally_21 : decode cX4_addTally 21 = .ok (.getfield 45, 3) := by decide +kernel
theorem dX4_addTally_24 : decode cX4_addTally 24 = .ok (.ireturn, 1) := by decide +kernel
theorem dX4_change_0 : decode cX4_change 0 = .ok (.iload_n 1, 1) := by decide +kernel
theorem dX4_change_1 : decode cX4_change 1 = .ok (.tableswitch 67 0 2 #[27, 43, 55], 27) := by decide +kernel
theorem dX4_change_28 : decode cX4_change 28 = .ok (.aload_n 0, 1) := by decide +kernel
theorem dX4_change_29 : decode cX4_change 29 = .ok (.getfield 17, 3) := by decide +kernel
theorem dX4_change_32 : decode cX4_change 32 = .ok (.istore_n 3, 1) := by decide +kernel
theorem dX4_change_33 : decode cX4_change 33 = .ok (.aload_n 0, 1) := by decide +kernel
theorem dX4_change_34 : decode cX4_change 34 = .ok (.iload_n 2, 1) := by decide +kernel
theorem dX4_change_35 : decode cX4_change 35 = .ok (.putfield 17, 3) := by decide +kernel
theorem dX4_change_38 : decode cX4_change 38 = .ok (.aload_n 0, 1) := by decide +kernel
theorem dX4_change_39 : decode cX4_change 39 = .ok (.invokevirtual 55, 3) := by decide +kernel
theorem dX4_change_42 : decode cX4_change 42 = .ok (.iload_n 3, 1) := by decide +kernel
theorem dX4_change_43 : decode cX4_change 43 = .ok (.ireturn, 1) := by decide +kernel
theorem dX4_change_44 : decode cX4_change 44 = .ok (.aload_n 0, 1) := by decide +kernel
theorem dX4_change_45 : decode cX4_change 45 = .ok (.getfield 21, 3) := by decide +kernel
theorem dX4_change_48 : decode cX4_change 48 = .ok (.istore_n 3, 1) := by decide +kernel
theorem dX4_change_49 : decode cX4_change 49 = .ok (.aload_n 0, 1) := by decide +kernel
theorem dX4_change_50 : decode cX4_change 50 = .ok (.iload_n 2, 1) := by decide +kernel
theorem dX4_change_51 : decode cX4_change 51 = .ok (.putfield 21, 3) := by decide +kernel
theorem dX4_change_54 : decode cX4_change 54 = .ok (.iload_n 3, 1) := by decide +kernel
theorem dX4_change_55 : decode cX4_change 55 = .ok (.ireturn, 1) := by decide +kernel
theorem dX4_change_56 : decode cX4_change 56 = .ok (.aload_n 0, 1) := by decide +kernel
theorem dX4_change_57 : decode cX4_change 57 = .ok (.getfield 24, 3) := by decide +kernel
theorem dX4_change_60 : decode cX4_change 60 = .ok (.istore_n 3, 1) := by decide +kernel
theorem dX4_change_61 : decode cX4_change 61 = .ok (.aload_n 0, 1) := by decide +kernel
theorem dX4_change_62 : decode cX4_change 62 = .ok (.iload_n 2, 1) := by decide +kernel
theorem dX4_change_63 : decode cX4_change 63 = .ok (.putfield 24, 3) := by decide +kernel
theorem dX4_change_66 : decode cX4_change 66 = .ok (.iload_n 3, 1) := by decide +kernel
theorem dX4_change_67 : decode cX4_change 67 = .ok (.ireturn, 1) := by decide +kernel
theorem dX4_change_68 : decode cX4_change 68 = .ok (.aload_n 0, 1) := by decide +kernel
theorem dX4_change_69 : decode cX4_change 69 = .ok (.getfield 27, 3) := by decide +kernel
theorem dX4_change_72 : decode cX4_change 72 = .ok (.istore_n 3, 1) := by decide +kernel
theorem dX4_change_73 : decode cX4_change 73 = .ok (.aload_n 0, 1) := by decide +kernel
theorem dX4_change_74 : decode cX4_change 74 = .ok (.iload_n 2, 1) := by decide +kernel
theorem dX4_change_75 : decode cX4_change 75 = .ok (.putfield 27, 3) := by decide +kernel
theorem dX4_change_78 : decode cX4_change 78 = .ok (.iload_n 3, 1) := by decide +kernel
theorem dX4_change_79 : decode cX4_change 79 = .ok (.ireturn, 1) := by decide +kernel
theorem dX4_holdAllWithinN_0 : decode cX4_holdAllWithinN 0 = .ok (.iconst 0, 1) := by decide +kernel
theorem dX4_holdAllWithinN_1 : decode cX4_holdAllWithinN 1 = .ok (.istore_n 1, 1) := by decide +kernel
theorem dX4_holdAllWithinN_2 : decode cX4_holdAllWithinN 2 = .ok (.iload_n 1, 1) := by decide +kernel
theorem dX4_holdAllWithinN_3 : decode cX4_holdAllWithinN 3 = .ok (.aload_n 0, 1) := by decide +kernel
theorem dX4_holdAllWithinN_4 : decode cX4_holdAllWithinN 4 = .ok (.getfield 42, 3) := by decide +kernel
theorem dX4_holdAllWithinN_7 : decode cX4_holdAllWithinN 7 = .ok (.if_icmp .ge 34, 3) := by decide +kernel
theorem dX4_holdAllWithinN_10 : decode cX4_holdAllWithinN 10 = .ok (.aload_n 0, 1) := by decide +kernel
theorem dX4_holdAllWithinN_11 : decode cX4_holdAllWithinN 11 = .ok (.getfield 11, 3) := by decide +kernel
theorem dX4_holdAllWithinN_14 : decode cX4_holdAllWithinN 14 = .ok (.iload_n 1, 1) := by decide +kernel
theorem dX4_holdAllWithinN_15 : decode cX4_holdAllWithinN 15 = .ok (.aaload, 1) := by decide +kernel
theorem dX4_holdAllWithinN_16 : decode cX4_holdAllWithinN 16 = .ok (.aload_n 0, 1) := by decide +kernel
theorem dX4_holdAllWithinN_17 : decode cX4_holdAllWithinN 17 = .ok (.getfield 11, 3) := by decide +kernel
theorem dX4_holdAllWithinN_20 : decode cX4_holdAllWithinN 20 = .ok (.iload_n 1, 1) := by decide +kernel
theorem dX4_holdAllWithinN_21 : decode cX4_holdAllWithinN 21 = .ok (.aaload, 1) := by decide +kernel
theorem dX4_holdAllWithinN_22 : decode cX4_holdAllWithinN 22 = .ok (.getfield 58, 3) := by decide +kernel
theorem dX4_holdAllWithinN_25 : decode cX4_holdAllWithinN 25 = .ok (.aload_n 0, 1) := by decide +kernel
theorem dX4_holdAllWithinN_26 : decode cX4_holdAllWithinN 26 = .ok (.getfield 17, 3) := by decide +kernel
theorem dX4_holdAllWithinN_29 : decode cX4_holdAllWithinN 29 = .ok (.invokestatic 61, 3) := by decide +kernel
theorem dX4_holdAllWithinN_32 : decode cX4_holdAllWithinN 32 = .ok (.putfield 58, 3) := by decide +kernel
theorem dX4_holdAllWithinN_35 : decode cX4_holdAllWithinN 35 = .ok (.iinc 1 1, 3) := by decide +kernel
theorem dX4_holdAllWithinN_38 : decode cX4_holdAllWithinN 38 = .ok (.goto (-36), 3) := by decide +kernel
theorem dX4_holdAllWithinN_41 : decode cX4_holdAllWithinN 41 = .ok (.return_, 1) := by decide +kernel
theorem dX4_isThrough_0 : decode cX4_isThrough 0 = .ok (.aload_n 0, 1) := by decide +kernel
theorem dX4_isThrough_1 : decode cX4_isThrough 1 = .ok (.getfield 11, 3) := by decide +kernel
theorem dX4_isThrough_4 : decode cX4_isThrough 4 = .ok (.iload_n 1, 1) := by decide +kernel
theorem dX4_isThrough_5 : decode cX4_isThrough 5 = .ok (.aaload, 1) := by decide +kernel
theorem dX4_isThrough_6 : decode cX4_isThrough 6 = .ok (.getfield 58, 3) := by decide +kernel
theorem dX4_isThrough_9 : decode cX4_isThrough 9 = .ok (.aload_n 0, 1) := by decide +kernel
theorem dX4_isThrough_10 : decode cX4_isThrough 10 = .ok (.getfield 17, 3) := by decide +kernel
theorem dX4_isThrough_13 : decode cX4_isThrough 13 = .ok (.if_icmp .lt 7, 3) := by decide +kernel
theorem dX4_isThrough_16 : decode cX4_isThrough 16 = .ok (.iconst 1, 1) := by decide +kernel
theorem dX4_isThrough_17 : decode cX4_isThrough 17 = .ok (.goto 4, 3) := by decide +kernel
theorem dX4_isThrough_20 : decode cX4_isThrough 20 = .ok (.iconst 0, 1) := by decide +kernel
theorem dX4_isThrough_21 : decode cX4_isThrough 21 = .ok (.ireturn, 1) := by decide +kernel
theorem dX4_countThrough_0 : decode cX4_countThrough 0 = .ok (.iconst 0, 1) := by decide +kernel
theorem dX4_countThrough_1 : decode cX4_countThrough 1 = .ok (.istore_n 1, 1) := by decide +kernel
theorem dX4_countThrough_2 : decode cX4_countThrough 2 = .ok (.iconst 0, 1) := by decide +kernel
theorem dX4_countThrough_3 : decode cX4_countThrough 3 = .ok (.istore_n 2, 1) := by decide +kernel
theorem dX4_countThrough_4 : decode cX4_countThrough 4 = .ok (.iload_n 2, 1) := by decide +kernel
theorem dX4_countThrough_5 : decode cX4_countThrough 5 = .ok (.aload_n 0, 1) := by decide +kernel
theorem dX4_countThrough_6 : decode cX4_countThrough 6 = .ok (.getfield 42, 3) := by decide +kernel
theorem dX4_countThrough_9 : decode cX4_countThrough 9 = .ok (.if_icmp .ge 20, 3) := by decide +kernel
theorem dX4_countThrough_12 : decode cX4_countThrough 12 = .ok (.aload_n 0, 1) := by decide +kernel
theorem dX4_countThrough_13 : decode cX4_countThrough 13 = .ok (.iload_n 2, 1) := by decide +kernel
theorem dX4_countThrough_14 : decode cX4_countThrough 14 = .ok (.invokevirtual 67, 3) := by decide +kernel
theorem dX4_countThrough_17 : decode cX4_countThrough 17 = .ok (.ifCond .eq 6, 3) := by decide +kernel
theorem dX4_countThrough_20 : decode cX4_countThrough 20 = .ok (.iinc 1 1, 3) := by decide +kernel
theorem dX4_countThrough_23 : decode cX4_countThrough 23 = .ok (.iinc 2 1, 3) := by decide +kernel
theorem dX4_countThrough_26 : decode cX4_countThrough 26 = .ok (.goto (-22), 3) := by decide +kernel
theorem dX4_countThrough_29 : decode cX4_countThrough 29 = .ok (.iload_n 1, 1) := by decide +kernel
theorem dX4_countThrough_30 : decode cX4_countThrough 30 = .ok (.ireturn, 1) := by decide +kernel
theorem dX4_pass_0 : decode cX4_pass 0 = .ok (.aload_n 0, 1) := by decide +kernel
theorem dX4_pass_1 : decode cX4_pass 1 = .ok (.iload_n 1, 1) := by decide +kernel
theorem dX4_pass_2 : decode cX4_pass 2 = .ok (.invokevirtual 67, 3) := by decide +kernel
theorem dX4_pass_5 : decode cX4_pass 5 = .ok (.ifCond .eq 4, 3) := by decide +kernel
theorem dX4_pass_8 : decode cX4_pass 8 = .ok (.return_, 1) := by decide +kernel
theorem dX4_pass_9 : decode cX4_pass 9 = .ok (.iload_n 2, 1) := by decide +kernel
theorem dX4_pass_10 : decode cX4_pass 10 = .ok (.ifCond .eq 19, 3) := by decide +kernel
theorem dX4_pass_13 : decode cX4_pass 13 = .ok (.aload_n 0, 1) := by decide +kernel
theorem dX4_pass_14 : decode cX4_pass 14 = .ok (.getfield 11, 3) := by decide +kernel
theorem dX4_pass_17 : decode cX4_pass 17 = .ok (.iload_n 1, 1) := by decide +kernel
theorem dX4_pass_18 : decode cX4_pass 18 = .ok (.aaload, 1) := by decide +kernel
theorem dX4_pass_19 : decode cX4_pass 19 = .ok (.aload_n 0, 1) := by decide +kernel
theorem dX4_pass_20 : decode cX4_pass 20 = .ok (.getfield 21, 3) := by decide +kernel
theorem dX4_pass_23 : decode cX4_pass 23 = .ok (.invokevirtual 71, 3) := by decide +kernel
theorem dX4_pass_26 : decode cX4_pass 26 = .ok (.goto 18, 3) := by decide +kernel
theorem dX4_pass_29 : decode cX4_pass 29 = .ok (.aload_n 0, 1) := by decide +kernel
theorem dX4_pass_30 : decode cX4_pass 30 = .ok (.getfield 11, 3) := by decide +kernel
theorem dX4_pass_33 : decode cX4_pass 33 = .ok (.iload_n 1, 1) := by decide +kernel
theorem dX4_pass_34 : decode cX4_pass 34 = .ok (.aaload, 1) := by decide +kernel
theorem dX4_pass_35 : decode cX4_pass 35 = .ok (.dup, 1) := by decide +kernel
theorem dX4_pass_36 : decode cX4_pass 36 = .ok (.getfield 58, 3) := by decide +kernel
theorem dX4_pass_39 : decode cX4_pass 39 = .ok (.iconst 1, 1) := by decide +kernel
theorem dX4_pass_40 : decode cX4_pass 40 = .ok (.iadd, 1) := by decide +kernel
theorem dX4_pass_41 : decode cX4_pass 41 = .ok (.putfield 58, 3) := by decide +kernel
theorem dX4_pass_44 : decode cX4_pass 44 = .ok (.aload_n 0, 1) := by decide +kernel
theorem dX4_pass_45 : decode cX4_pass 45 = .ok (.iload_n 1, 1) := by decide +kernel
theorem dX4_pass_46 : decode cX4_pass 46 = .ok (.invokevirtual 67, 3) := by decide +kernel
theorem dX4_pass_49 : decode cX4_pass 49 = .ok (.ifCond .eq 13, 3) := by decide +kernel
theorem dX4_pass_52 : decode cX4_pass 52 = .ok (.aload_n 0, 1) := by decide +kernel
theorem dX4_pass_53 : decode cX4_pass 53 = .ok (.dup, 1) := by decide +kernel
theorem dX4_pass_54 : decode cX4_pass 54 = .ok (.getfield 48, 3) := by decide +kernel
theorem dX4_pass_57 : decode cX4_pass 57 = .ok (.iconst 1, 1) := by decide +kernel
theorem dX4_pass_58 : decode cX4_pass 58 = .ok (.iadd, 1) := by decide +kernel
theorem dX4_pass_59 : decode cX4_pass 59 = .ok (.putfield 48, 3) := by decide +kernel
theorem dX4_pass_62 : decode cX4_pass 62 = .ok (.return_, 1) := by decide +kernel
theorem dX4_passEvening_0 : decode cX4_passEvening 0 = .ok (.iconst 0, 1) := by decide +kernel
theorem dX4_passEvening_1 : decode cX4_passEvening 1 = .ok (.istore_n 1, 1) := by decide +kernel
theorem dX4_passEvening_2 : decode cX4_passEvening 2 = .ok (.iload_n 1, 1) := by decide +kernel
theorem dX4_passEvening_3 : decode cX4_passEvening 3 = .ok (.aload_n 0, 1) := by decide +kernel
theorem dX4_passEvening_4 : decode cX4_passEvening 4 = .ok (.getfield 42, 3) := by decide +kernel
theorem dX4_passEvening_7 : decode cX4_passEvening 7 = .ok (.if_icmp .ge 18, 3) := by decide +kernel
theorem dX4_passEvening_10 : decode cX4_passEvening 10 = .ok (.aload_n 0, 1) := by decide +kernel
theorem dX4_passEvening_11 : decode cX4_passEvening 11 = .ok (.getfield 11, 3) := by decide +kernel
theorem dX4_passEvening_14 : decode cX4_passEvening 14 = .ok (.iload_n 1, 1) := by decide +kernel
theorem dX4_passEvening_15 : decode cX4_passEvening 15 = .ok (.aaload, 1) := by decide +kernel
theorem dX4_passEvening_16 : decode cX4_passEvening 16 = .ok (.invokevirtual 75, 3) := by decide +kernel
theorem dX4_passEvening_19 : decode cX4_passEvening 19 = .ok (.iinc 1 1, 3) := by decide +kernel
theorem dX4_passEvening_22 : decode cX4_passEvening 22 = .ok (.goto (-20), 3) := by decide +kernel
theorem dX4_passEvening_25 : decode cX4_passEvening 25 = .ok (.iconst 0, 1) := by decide +kernel
theorem dX4_passEvening_26 : decode cX4_passEvening 26 = .ok (.istore_n 1, 1) := by decide +kernel
theorem dX4_passEvening_27 : decode cX4_passEvening 27 = .ok (.iload_n 1, 1) := by decide +kernel
theorem dX4_passEvening_28 : decode cX4_passEvening 28 = .ok (.bipush 60, 2) := by decide +kernel
theorem dX4_passEvening_30 : decode cX4_passEvening 30 = .ok (.if_icmp .ge 65, 3) := by decide +kernel
theorem dX4_passEvening_33 : decode cX4_passEvening 33 = .ok (.aload_n 0, 1) := by decide +kernel
theorem dX4_passEvening_34 : decode cX4_passEvening 34 = .ok (.invokevirtual 78, 3) := by decide +kernel
theorem dX4_passEvening_37 : decode cX4_passEvening 37 = .ok (.aload_n 0, 1) := by decide +kernel
theorem dX4_passEvening_38 : decode cX4_passEvening 38 = .ok (.getfield 42, 3) := by decide +kernel
theorem dX4_passEvening_41 : decode cX4_passEvening 41 = .ok (.if_icmp .ge 54, 3) := by decide +kernel
theorem dX4_passEvening_44 : decode cX4_passEvening 44 = .ok (.iconst 0, 1) := by decide +kernel
theorem dX4_passEvening_45 : decode cX4_passEvening 45 = .ok (.istore_n 2, 1) := by decide +kernel
theorem dX4_passEvening_46 : decode cX4_passEvening 46 = .ok (.iload_n 2, 1) := by decide +kernel
theorem dX4_passEvening_47 : decode cX4_passEvening 47 = .ok (.aload_n 0, 1) := by decide +kernel
theorem dX4_passEvening_48 : decode cX4_passEvening 48 = .ok (.getfield 42, 3) := by decide +kernel
theorem dX4_passEvening_51 : decode cX4_passEvening 51 = .ok (.if_icmp .ge 38, 3) := by decide +kernel
theorem dX4_passEvening_54 : decode cX4_passEvening 54 = .ok (.aload_n 0, 1) := by decide +kernel
theorem dX4_passEvening_55 : decode cX4_passEvening 55 = .ok (.iload_n 2, 1) := by decide +kernel
theorem dX4_passEvening_56 : decode cX4_passEvening 56 = .ok (.invokevirtual 67, 3) := by decide +kernel
theorem dX4_passEvening_59 : decode cX4_passEvening 59 = .ok (.ifCond .ne 24, 3) := by decide +kernel
theorem dX4_passEvening_62 : decode cX4_passEvening 62 = .ok (.aload_n 0, 1) := by decide +kernel
theorem dX4_passEvening_63 : decode cX4_passEvening 63 = .ok (.iload_n 2, 1) := by decide +kernel
theorem dX4_passEvening_64 : decode cX4_passEvening 64 = .ok (.aload_n 0, 1) := by decide +kernel
theorem dX4_passEvening_65 : decode cX4_passEvening 65 = .ok (.invokevirtual 82, 3) := by decide +kernel
theorem dX4_passEvening_68 : decode cX4_passEvening 68 = .ok (.aload_n 0, 1) := by decide +kernel
theorem dX4_passEvening_69 : decode cX4_passEvening 69 = .ok (.getfield 24, 3) := by decide +kernel
theorem dX4_passEvening_72 : decode cX4_passEvening 72 = .ok (.if_icmp .ge 7, 3) := by decide +kernel
theorem dX4_passEvening_75 : decode cX4_passEvening 75 = .ok (.iconst 1, 1) := by decide +kernel
theorem dX4_passEvening_76 : decode cX4_passEvening 76 = .ok (.goto 4, 3) := by decide +kernel
theorem dX4_passEvening_79 : decode cX4_passEvening 79 = .ok (.iconst 0, 1) := by decide +kernel
theorem dX4_passEvening_80 : decode cX4_passEvening 80 = .ok (.invokevirtual 85, 3) := by decide +kernel
theorem dX4_passEvening_83 : decode cX4_passEvening 83 = .ok (.iinc 2 1, 3) := by decide +kernel
theorem dX4_passEvening_86 : decode cX4_passEvening 86 = .ok (.goto (-40), 3) := by decide +kernel
theorem dX4_passEvening_89 : decode cX4_passEvening 89 = .ok (.iinc 1 1, 3) := by decide +kernel
theorem dX4_passEvening_92 : decode cX4_passEvening 92 = .ok (.goto (-65), 3) := by decide +kernel
theorem dX4_passEvening_95 : decode cX4_passEvening 95 = .ok (.return_, 1) := by decide +kernel
theorem dX4_drawThousandth_0 : decode cX4_drawThousandth 0 = .ok (.aload_n 0, 1) := by decide +kernel
theorem dX4_drawThousandth_1 : decode cX4_drawThousandth 1 = .ok (.aload_n 0, 1) := by decide +kernel
theorem dX4_drawThousandth_2 : decode cX4_drawThousandth 2 = .ok (.getfield 34, 3) := by decide +kernel
theorem dX4_drawThousandth_5 : decode cX4_drawThousandth 5 = .ok (.ldc 89, 2) := by decide +kernel
theorem dX4_drawThousandth_7 : decode cX4_drawThousandth 7 = .ok (.imul, 1) := by decide +kernel
theorem dX4_drawThousandth_8 : decode cX4_drawThousandth 8 = .ok (.sipush 12345, 3) := by decide +kernel
theorem dX4_drawThousandth_11 : decode cX4_drawThousandth 11 = .ok (.iadd, 1) := by decide +kernel
theorem dX4_drawThousandth_12 : decode cX4_drawThousandth 12 = .ok (.putfield 34, 3) := by decide +kernel
theorem dX4_drawThousandth_15 : decode cX4_drawThousandth 15 = .ok (.aload_n 0, 1) := by decide +kernel
theorem dX4_drawThousandth_16 : decode cX4_drawThousandth 16 = .ok (.getfield 34, 3) := by decide +kernel
theorem dX4_drawThousandth_19 : decode cX4_drawThousandth 19 = .ok (.bipush 16, 2) := by decide +kernel
theorem dX4_drawThousandth_21 : decode cX4_drawThousandth 21 = .ok (.iushr, 1) := by decide +kernel
theorem dX4_drawThousandth_22 : decode cX4_drawThousandth 22 = .ok (.sipush 1000, 3) := by decide +kernel
theorem dX4_drawThousandth_25 : decode cX4_drawThousandth 25 = .ok (.irem, 1) := by decide +kernel
theorem dX4_drawThousandth_26 : decode cX4_drawThousandth 26 = .ok (.ireturn, 1) := by decide +kernel
theorem dX4_leastTrue_0 : decode cX4_leastTrue 0 = .ok (.iconst (-1), 1) := by decide +kernel
theorem dX4_leastTrue_1 : decode cX4_leastTrue 1 = .ok (.istore_n 1, 1) := by decide +kernel
theorem dX4_leastTrue_2 : decode cX4_leastTrue 2 = .ok (.iconst 0, 1) := by decide +kernel
theorem dX4_leastTrue_3 : decode cX4_leastTrue 3 = .ok (.istore_n 2, 1) := by decide +kernel
theorem dX4_leastTrue_4 : decode cX4_leastTrue 4 = .ok (.iload_n 2, 1) := by decide +kernel
theorem dX4_leastTrue_5 : decode cX4_leastTrue 5 = .ok (.aload_n 0, 1) := by decide +kernel
theorem dX4_leastTrue_6 : decode cX4_leastTrue 6 = .ok (.getfield 45, 3) := by decide +kernel
theorem dX4_leastTrue_9 : decode cX4_leastTrue 9 = .ok (.if_icmp .ge 54, 3) := by decide +kernel
theorem dX4_leastTrue_12 : decode cX4_leastTrue 12 = .ok (.aload_n 0, 1) := by decide +kernel
theorem dX4_leastTrue_13 : decode cX4_leastTrue 13 = .ok (.getfield 30, 3) := by decide +kernel
theorem dX4_leastTrue_16 : decode cX4_leastTrue 16 = .ok (.iload_n 2, 1) := by decide +kernel
theorem dX4_leastTrue_17 : decode cX4_leastTrue 17 = .ok (.iaload, 1) := by decide +kernel
theorem dX4_leastTrue_18 : decode cX4_leastTrue 18 = .ok (.istore_n 3, 1) := by decide +kernel
theorem dX4_leastTrue_19 : decode cX4_leastTrue 19 = .ok (.aload_n 0, 1) := by decide +kernel
theorem dX4_leastTrue_20 : decode cX4_leastTrue 20 = .ok (.iload_n 3, 1) := by decide +kernel
theorem dX4_leastTrue_21 : decode cX4_leastTrue 21 = .ok (.invokevirtual 90, 3) := by decide +kernel
theorem dX4_leastTrue_24 : decode cX4_leastTrue 24 = .ok (.aload_n 0, 1) := by decide +kernel
theorem dX4_leastTrue_25 : decode cX4_leastTrue 25 = .ok (.getfield 45, 3) := by decide +kernel
theorem dX4_leastTrue_28 : decode cX4_leastTrue 28 = .ok (.iconst 1, 1) := by decide +kernel
theorem dX4_leastTrue_29 : decode cX4_leastTrue 29 = .ok (.isub, 1) := by decide +kernel
theorem dX4_leastTrue_30 : decode cX4_leastTrue 30 = .ok (.if_icmp .lt 7, 3) := by decide +kernel
theorem dX4_leastTrue_33 : decode cX4_leastTrue 33 = .ok (.iconst 1, 1) := by decide +kernel
theorem dX4_leastTrue_34 : decode cX4_leastTrue 34 = .ok (.goto 4, 3) := by decide +kernel
theorem dX4_leastTrue_37 : decode cX4_leastTrue 37 = .ok (.iconst 0, 1) := by decide +kernel
theorem dX4_leastTrue_38 : decode cX4_leastTrue 38 = .ok (.istore 4, 2) := by decide +kernel
theorem dX4_leastTrue_40 : decode cX4_leastTrue 40 = .ok (.iload 4, 2) := by decide +kernel
theorem dX4_leastTrue_42 : decode cX4_leastTrue 42 = .ok (.ifCond .eq 15, 3) := by decide +kernel
theorem dX4_leastTrue_45 : decode cX4_leastTrue 45 = .ok (.iload_n 1, 1) := by decide +kernel
theorem dX4_leastTrue_46 : decode cX4_leastTrue 46 = .ok (.iconst (-1), 1) := by decide +kernel
theorem dX4_leastTrue_47 : decode cX4_leastTrue 47 = .ok (.if_icmp .eq 8, 3) := by decide +kernel
theorem dX4_leastTrue_50 : decode cX4_leastTrue 50 = .ok (.iload_n 3, 1) := by decide +kernel
theorem dX4_leastTrue_51 : decode cX4_leastTrue 51 = .ok (.iload_n 1, 1) := by decide +kernel
theorem dX4_leastTrue_52 : decode cX4_leastTrue 52 = .ok (.if_icmp .ge 5, 3) := by decide +kernel
theorem dX4_leastTrue_55 : decode cX4_leastTrue 55 = .ok (.iload_n 3, 1) := by decide +kernel
theorem dX4_leastTrue_56 : decode cX4_leastTrue 56 = .ok (.istore_n 1, 1) := by decide +kernel
theorem dX4_leastTrue_57 : decode cX4_leastTrue 57 = .ok (.iinc 2 1, 3) := by decide +kernel
theorem dX4_leastTrue_60 : decode cX4_leastTrue 60 = .ok (.goto (-56), 3) := by decide +kernel
theorem dX4_leastTrue_63 : decode cX4_leastTrue 63 = .ok (.iload_n 1, 1) := by decide +kernel
theorem dX4_leastTrue_64 : decode cX4_leastTrue 64 = .ok (.ireturn, 1) := by decide +kernel
theorem dX4_liar_0 : decode cX4_liar 0 = .ok (.aload_n 0, 1) := by decide +kernel
theorem dX4_liar_1 : decode cX4_liar 1 = .ok (.getfield 45, 3) := by decide +kernel
theorem dX4_liar_4 : decode cX4_liar 4 = .ok (.iconst 3, 1) := by decide +kernel
theorem dX4_liar_5 : decode cX4_liar 5 = .ok (.if_icmp .ge 5, 3) := by decide +kernel
theorem dX4_liar_8 : decode cX4_liar 8 = .ok (.iconst (-1), 1) := by decide +kernel
theorem dX4_liar_9 : decode cX4_liar 9 = .ok (.ireturn, 1) := by decide +kernel
theorem dX4_liar_10 : decode cX4_liar 10 = .ok (.iconst 0, 1) := by decide +kernel
theorem dX4_liar_11 : decode cX4_liar 11 = .ok (.istore_n 1, 1) := by decide +kernel
theorem dX4_liar_12 : decode cX4_liar 12 = .ok (.iload_n 1, 1) := by decide +kernel
theorem dX4_liar_13 : decode cX4_liar 13 = .ok (.aload_n 0, 1) := by decide +kernel
theorem dX4_liar_14 : decode cX4_liar 14 = .ok (.getfield 45, 3) := by decide +kernel
theorem dX4_liar_17 : decode cX4_liar 17 = .ok (.if_icmp .ge 50, 3) := by decide +kernel
theorem dX4_liar_20 : decode cX4_liar 20 = .ok (.aload_n 0, 1) := by decide +kernel
theorem dX4_liar_21 : decode cX4_liar 21 = .ok (.getfield 30, 3) := by decide +kernel
theorem dX4_liar_24 : decode cX4_liar 24 = .ok (.iload_n 1, 1) := by decide +kernel
theorem dX4_liar_25 : decode cX4_liar 25 = .ok (.ifCond .ne 7, 3) := by decide +kernel
theorem dX4_liar_28 : decode cX4_liar 28 = .ok (.iconst 1, 1) := by decide +kernel
theorem dX4_liar_29 : decode cX4_liar 29 = .ok (.goto 4, 3) := by decide +kernel
theorem dX4_liar_32 : decode cX4_liar 32 = .ok (.iconst 0, 1) := by decide +kernel
theorem dX4_liar_33 : decode cX4_liar 33 = .ok (.iaload, 1) := by decide +kernel
theorem dX4_liar_34 : decode cX4_liar 34 = .ok (.istore_n 2, 1) := by decide +kernel
theorem dX4_liar_35 : decode cX4_liar 35 = .ok (.aload_n 0, 1) := by decide +kernel
theorem dX4_liar_36 : decode cX4_liar 36 = .ok (.getfield 30, 3) := by decide +kernel
theorem dX4_liar_39 : decode cX4_liar 39 = .ok (.iload_n 1, 1) := by decide +kernel
theorem dX4_liar_40 : decode cX4_liar 40 = .ok (.iaload, 1) := by decide +kernel
theorem dX4_liar_41 : decode cX4_liar 41 = .ok (.iload_n 2, 1) := by decide +kernel
theorem dX4_liar_42 : decode cX4_liar 42 = .ok (.if_icmp .eq 19, 3) := by decide +kernel
theorem dX4_liar_45 : decode cX4_liar 45 = .ok (.aload_n 0, 1) := by decide +kernel
theorem dX4_liar_46 : decode cX4_liar 46 = .ok (.iload_n 2, 1) := by decide +kernel
theorem dX4_liar_47 : decode cX4_liar 47 = .ok (.invokevirtual 90, 3) := by decide +kernel
theorem dX4_liar_50 : decode cX4_liar 50 = .ok (.aload_n 0, 1) := by decide +kernel
theorem dX4_liar_51 : decode cX4_liar 51 = .ok (.getfield 45, 3) := by decide +kernel
theorem dX4_liar_54 : decode cX4_liar 54 = .ok (.iconst 1, 1) := by decide +kernel
theorem dX4_liar_55 : decode cX4_liar 55 = .ok (.isub, 1) := by decide +kernel
theorem dX4_liar_56 : decode cX4_liar 56 = .ok (.if_icmp .ne 5, 3) := by decide +kernel
theorem dX4_liar_59 : decode cX4_liar 59 = .ok (.iload_n 1, 1) := by decide +kernel
theorem dX4_liar_60 : decode cX4_liar 60 = .ok (.ireturn, 1) := by decide +kernel
theorem dX4_liar_61 : decode cX4_liar 61 = .ok (.iinc 1 1, 3) := by decide +kernel
theorem dX4_liar_64 : decode cX4_liar 64 = .ok (.goto (-52), 3) := by decide +kernel
theorem dX4_liar_67 : decode cX4_liar 67 = .ok (.iconst (-1), 1) := by decide +kernel
theorem dX4_liar_68 : decode cX4_liar 68 = .ok (.ireturn, 1) := by decide +kernel
theorem dX4_spread_0 : decode cX4_spread 0 = .ok (.aload_n 0, 1) := by decide +kernel
theorem dX4_spread_1 : decode cX4_spread 1 = .ok (.getfield 45, 3) := by decide +kernel
theorem dX4_spread_4 : decode cX4_spread 4 = .ok (.ifCond .ne 5, 3) := by decide +kernel
theorem dX4_spread_7 : decode cX4_spread 7 = .ok (.iconst 0, 1) := by decide +kernel
theorem dX4_spread_8 : decode cX4_spread 8 = .ok (.ireturn, 1) := by decide +kernel
theorem dX4_spread_9 : decode cX4_spread 9 = .ok (.aload_n 0, 1) := by decide +kernel
theorem dX4_spread_10 : decode cX4_spread 10 = .ok (.getfield 30, 3) := by decide +kernel
theorem dX4_spread_13 : decode cX4_spread 13 = .ok (.iconst 0, 1) := by decide +kernel
theorem dX4_spread_14 : decode cX4_spread 14 = .ok (.iaload, 1) := by decide +kernel
theorem dX4_spread_15 : decode cX4_spread 15 = .ok (.istore_n 1, 1) := by decide +kernel
theorem dX4_spread_16 : decode cX4_spread 16 = .ok (.aload_n 0, 1) := by decide +kernel
theorem dX4_spread_17 : decode cX4_spread 17 = .ok (.getfield 30, 3) := by decide +kernel
theorem dX4_spread_20 : decode cX4_spread 20 = .ok (.iconst 0, 1) := by decide +kernel
theorem dX4_spread_21 : decode cX4_spread 21 = .ok (.iaload, 1) := by decide +kernel
theorem dX4_spread_22 : decode cX4_spread 22 = .ok (.istore_n 2, 1) := by decide +kernel
theorem dX4_spread_23 : decode cX4_spread 23 = .ok (.iconst 1, 1) := by decide +kernel
theorem dX4_spread_24 : decode cX4_spread 24 = .ok (.istore_n 3, 1) := by decide +kernel
theorem dX4_spread_25 : decode cX4_spread 25 = .ok (.iload_n 3, 1) := by decide +kernel
theorem dX4_spread_26 : decode cX4_spread 26 = .ok (.aload_n 0, 1) := by decide +kernel
theorem dX4_spread_27 : decode cX4_spread 27 = .ok (.getfield 45, 3) := by decide +kernel
theorem dX4_spread_30 : decode cX4_spread 30 = .ok (.if_icmp .ge 31, 3) := by decide +kernel
theorem dX4_spread_33 : decode cX4_spread 33 = .ok (.iload_n 1, 1) := by decide +kernel
theorem dX4_spread_34 : decode cX4_spread 34 = .ok (.aload_n 0, 1) := by decide +kernel
theorem dX4_spread_35 : decode cX4_spread 35 = .ok (.getfield 30, 3) := by decide +kernel
theorem dX4_spread_38 : decode cX4_spread 38 = .ok (.iload_n 3, 1) := by decide +kernel
theorem dX4_spread_39 : decode cX4_spread 39 = .ok (.iaload, 1) := by decide +kernel
theorem dX4_spread_40 : decode cX4_spread 40 = .ok (.invokestatic 61, 3) := by decide +kernel
theorem dX4_spread_43 : decode cX4_spread 43 = .ok (.istore_n 1, 1) := by decide +kernel
theorem dX4_spread_44 : decode cX4_spread 44 = .ok (.iload_n 2, 1) := by decide +kernel
theorem dX4_spread_45 : decode cX4_spread 45 = .ok (.aload_n 0, 1) := by decide +kernel
theorem dX4_spread_46 : decode cX4_spread 46 = .ok (.getfield 30, 3) := by decide +kernel
theorem dX4_spread_49 : decode cX4_spread 49 = .ok (.iload_n 3, 1) := by decide +kernel
theorem dX4_spread_50 : decode cX4_spread 50 = .ok (.iaload, 1) := by decide +kernel
theorem dX4_spread_51 : decode cX4_spread 51 = .ok (.invokestatic 94, 3) := by decide +kernel
theorem dX4_spread_54 : decode cX4_spread 54 = .ok (.istore_n 2, 1) := by decide +kernel
theorem dX4_spread_55 : decode cX4_spread 55 = .ok (.iinc 3 1, 3) := by decide +kernel
theorem dX4_spread_58 : decode cX4_spread 58 = .ok (.goto (-33), 3) := by decide +kernel
theorem dX4_spread_61 : decode cX4_spread 61 = .ok (.iload_n 2, 1) := by decide +kernel
theorem dX4_spread_62 : decode cX4_spread 62 = .ok (.iload_n 1, 1) := by decide +kernel
theorem dX4_spread_63 : decode cX4_spread 63 = .ok (.isub, 1) := by decide +kernel
theorem dX4_spread_64 : decode cX4_spread 64 = .ok (.ireturn, 1) := by decide +kernel
theorem dX4_countAlike_0 : decode cX4_countAlike 0 = .ok (.iconst 0, 1) := by decide +kernel
theorem dX4_countAlike_1 : decode cX4_countAlike 1 = .ok (.istore_n 2, 1) := by decide +kernel
theorem dX4_countAlike_2 : decode cX4_countAlike 2 = .ok (.iconst 0, 1) := by decide +kernel
theorem dX4_countAlike_3 : decode cX4_countAlike 3 = .ok (.istore_n 3, 1) := by decide +kernel
theorem dX4_countAlike_4 : decode cX4_countAlike 4 = .ok (.iload_n 3, 1) := by decide +kernel
theorem dX4_countAlike_5 : decode cX4_countAlike 5 = .ok (.aload_n 0, 1) := by decide +kernel
theorem dX4_countAlike_6 : decode cX4_countAlike 6 = .ok (.getfield 45, 3) := by decide +kernel
theorem dX4_countAlike_9 : decode cX4_countAlike 9 = .ok (.if_icmp .ge 22, 3) := by decide +kernel
theorem dX4_countAlike_12 : decode cX4_countAlike 12 = .ok (.aload_n 0, 1) := by decide +kernel
theorem dX4_countAlike_13 : decode cX4_countAlike 13 = .ok (.getfield 30, 3) := by decide +kernel
theorem dX4_countAlike_16 : decode cX4_countAlike 16 = .ok (.iload_n 3, 1) := by decide +kernel
theorem dX4_countAlike_17 : decode cX4_countAlike 17 = .ok (.iaload, 1) := by decide +kernel
theorem dX4_countAlike_18 : decode cX4_countAlike 18 = .ok (.iload_n 1, 1) := by decide +kernel
theorem dX4_countAlike_19 : decode cX4_countAlike 19 = .ok (.if_icmp .ne 6, 3) := by decide +kernel
theorem dX4_countAlike_22 : decode cX4_countAlike 22 = .ok (.iinc 2 1, 3) := by decide +kernel
theorem dX4_countAlike_25 : decode cX4_countAlike 25 = .ok (.iinc 3 1, 3) := by decide +kernel
theorem dX4_countAlike_28 : decode cX4_countAlike 28 = .ok (.goto (-24), 3) := by decide +kernel
theorem dX4_countAlike_31 : decode cX4_countAlike 31 = .ok (.iload_n 2, 1) := by decide +kernel
theorem dX4_countAlike_32 : decode cX4_countAlike 32 = .ok (.ireturn, 1) := by decide +kernel
theorem dX5_init_0 : decode cX5_init 0 = .ok (.aload_n 0, 1) := by decide +kernel
theorem dX5_init_1 : decode cX5_init 1 = .ok (.invokespecial 3, 3) := by decide +kernel
theorem dX5_init_4 : decode cX5_init 4 = .ok (.aload_n 0, 1) := by decide +kernel
theorem dX5_init_5 : decode cX5_init 5 = .ok (.iconst (-1), 1) := by decide +kernel
theorem dX5_init_6 : decode cX5_init 6 = .ok (.putfield 9, 3) := by decide +kernel
theorem dX5_init_9 : decode cX5_init 9 = .ok (.aload_n 0, 1) := by decide +kernel
theorem dX5_init_10 : decode cX5_init 10 = .ok (.new 15, 3) := by decide +kernel
theorem dX5_init_13 : decode cX5_init 13 = .ok (.dup, 1) := by decide +kernel
theorem dX5_init_14 : decode cX5_init 14 = .ok (.invokespecial 17, 3) := by decide +kernel
theorem dX5_init_17 : decode cX5_init 17 = .ok (.putfield 18, 3) := by decide +kernel
theorem dX5_init_20 : decode cX5_init 20 = .ok (.aload_n 0, 1) := by decide +kernel
theorem dX5_init_21 : decode cX5_init 21 = .ok (.sipush 160, 3) := by decide +kernel
theorem dX5_init_24 : decode cX5_init 24 = .ok (.newarray .int, 2) := by decide +kernel
theorem dX5_init_26 : decode cX5_init 26 = .ok (.putfield 22, 3) := by decide +kernel
theorem dX5_init_29 : decode cX5_init 29 = .ok (.return_, 1) := by decide +kernel
theorem dX5_read_0 : decode cX5_read 0 = .ok (.aload_n 0, 1) := by decide +kernel
theorem dX5_read_1 : decode cX5_read 1 = .ok (.getfield 18, 3) := by decide +kernel
theorem dX5_read_4 : decode cX5_read 4 = .ok (.aload_n 2, 1) := by decide +kernel
theorem dX5_read_5 : decode cX5_read 5 = .ok (.invokevirtual 26, 3) := by decide +kernel
theorem dX5_read_8 : decode cX5_read 8 = .ok (.aload_n 0, 1) := by decide +kernel
theorem dX5_read_9 : decode cX5_read 9 = .ok (.aload_n 1, 1) := by decide +kernel
theorem dX5_read_10 : decode cX5_read 10 = .ok (.getfield 30, 3) := by decide +kernel
theorem dX5_read_13 : decode cX5_read 13 = .ok (.aload_n 0, 1) := by decide +kernel
theorem dX5_read_14 : decode cX5_read 14 = .ok (.getfield 22, 3) := by decide +kernel
theorem dX5_read_17 : decode cX5_read 17 = .ok (.arraylength, 1) := by decide +kernel
theorem dX5_read_18 : decode cX5_read 18 = .ok (.invokestatic 35, 3) := by decide +kernel
theorem dX5_read_21 : decode cX5_read 21 = .ok (.putfield 41, 3) := by decide +kernel
theorem dX5_read_24 : decode cX5_read 24 = .ok (.iconst 0, 1) := by decide +kernel
theorem dX5_read_25 : decode cX5_read 25 = .ok (.istore_n 3, 1) := by decide +kernel
theorem dX5_read_26 : decode cX5_read 26 = .ok (.iload_n 3, 1) := by decide +kernel
theorem dX5_read_27 : decode cX5_read 27 = .ok (.aload_n 0, 1) := by decide +kernel
theorem dX5_read_28 : decode cX5_read 28 = .ok (.getfield 41, 3) := by decide +kernel
theorem dX5_read_31 : decode cX5_read 31 = .ok (.if_icmp .ge 20, 3) := by decide +kernel
theorem dX5_read_34 : decode cX5_read 34 = .ok (.aload_n 0, 1) := by decide +kernel
theorem dX5_read_35 : decode cX5_read 35 = .ok (.getfield 22, 3) := by decide +kernel
theorem dX5_read_38 : decode cX5_read 38 = .ok (.iload_n 3, 1) := by decide +kernel
theorem dX5_read_39 : decode cX5_read 39 = .ok (.aload_n 1, 1) := by decide +kernel
theorem dX5_read_40 : decode cX5_read 40 = .ok (.iload_n 3, 1) := by decide +kernel
theorem dX5_read_41 : decode cX5_read 41 = .ok (.invokevirtual 42, 3) := by decide +kernel
theorem dX5_read_44 : decode cX5_read 44 = .ok (.iastore, 1) := by decide +kernel
theorem dX5_read_45 : decode cX5_read 45 = .ok (.iinc 3 1, 3) := by decide +kernel
theorem dX5_read_48 : decode cX5_read 48 = .ok (.goto (-22), 3) := by decide +kernel
theorem dX5_read_51 : decode cX5_read 51 = .ok (.aload_n 0, 1) := by decide +kernel
theorem dX5_read_52 : decode cX5_read 52 = .ok (.iconst 0, 1) := by decide +kernel
theorem dX5_read_53 : decode cX5_read 53 = .ok (.putfield 46, 3) := by decide +kernel
theorem dX5_read_56 : decode cX5_read 56 = .ok (.aload_n 0, 1) := by decide +kernel
theorem dX5_read_57 : decode cX5_read 57 = .ok (.iconst (-1), 1) := by decide +kernel
theorem dX5_read_58 : decode cX5_read 58 = .ok (.putfield 9, 3) := by decide +kernel
theorem dX5_read_61 : decode cX5_read 61 = .ok (.aload_n 0, 1) := by decide +kernel
theorem dX5_read_62 : decode cX5_read 62 = .ok (.invokevirtual 49, 3) := by decide +kernel
theorem dX5_read_65 : decode cX5_read 65 = .ok (.iconst 1, 1) := by decide +kernel
theorem dX5_read_66 : decode cX5_read 66 = .ok (.istore_n 3, 1) := by decide +kernel
theorem dX5_read_67 : decode cX5_read 67 = .ok (.iload_n 3, 1) := by decide +kernel
theorem dX5_read_68 : decode cX5_read 68 = .ok (.aload_n 0, 1) := by decide +kernel
theorem dX5_read_69 : decode cX5_read 69 = .ok (.getfield 41, 3) := by decide +kernel
theorem dX5_read_72 : decode cX5_read 72 = .ok (.if_icmp .gt 38, 3) := by decide +kernel
theorem dX5_read_75 : decode cX5_read 75 = .ok (.aload_n 0, 1) := by decide +kernel
theorem dX5_read_76 : decode cX5_read 76 = .ok (.getfield 9, 3) := by decide +kernel
theorem dX5_read_79 : decode cX5_read 79 = .ok (.iconst (-1), 1) := by decide +kernel
theorem dX5_read_80 : decode cX5_read 80 = .ok (.if_icmp .ne 30, 3) := by decide +kernel
theorem dX5_read_83 : decode cX5_read 83 = .ok (.aload_n 0, 1) := by decide +kernel
theorem dX5_read_84 : decode cX5_read 84 = .ok (.getfield 46, 3) := by decide +kernel
theorem dX5_read_87 : decode cX5_read 87 = .ok (.aload_n 0, 1) := by decide +kernel
theorem dX5_read_88 : decode cX5_read 88 = .ok (.getfield 41, 3) := by decide +kernel
theorem dX5_read_91 : decode cX5_read 91 = .ok (.if_icmp .ge 19, 3) := by decide +kernel
theorem dX5_read_94 : decode cX5_read 94 = .ok (.aload_n 0, 1) := by decide +kernel
theorem dX5_read_95 : decode cX5_read 95 = .ok (.bipush 59, 2) := by decide +kernel
theorem dX5_read_97 : decode cX5_read 97 = .ok (.invokevirtual 52, 3) := by decide +kernel
theorem dX5_read_100 : decode cX5_read 100 = .ok (.aload_n 0, 1) := by decide +kernel
theorem dX5_read_101 : decode cX5_read 101 = .ok (.invokevirtual 49, 3) := by decide +kernel
theorem dX5_read_104 : decode cX5_read 104 = .ok (.iinc 3 1, 3) := by decide +kernel
theorem dX5_read_107 : decode cX5_read 107 = .ok (.goto (-40), 3) := by decide +kernel
theorem dX5_read_110 : decode cX5_read 110 = .ok (.iload_n 3, 1) := by decide +kernel
theorem dX5_read_111 : decode cX5_read 111 = .ok (.ireturn, 1) := by decide +kernel
theorem dX5_readItem_0 : decode cX5_readItem 0 = .ok (.aload_n 0, 1) := by decide +kernel
theorem dX5_readItem_1 : decode cX5_readItem 1 = .ok (.getfield 9, 3) := by decide +kernel
theorem dX5_readItem_4 : decode cX5_readItem 4 = .ok (.iconst (-1), 1) := by decide +kernel
theorem dX5_readItem_5 : decode cX5_readItem 5 = .ok (.if_icmp .eq 4, 3) := by decide +kernel
theorem dX5_readItem_8 : decode cX5_readItem 8 = .ok (.return_, 1) := by decide +kernel
theorem dX5_readItem_9 : decode cX5_readItem 9 = .ok (.aload_n 0, 1) := by decide +kernel
theorem dX5_readItem_10 : decode cX5_readItem 10 = .ok (.getfield 46, 3) := by decide +kernel
theorem dX5_readItem_13 : decode cX5_readItem 13 = .ok (.istore_n 1, 1) := by decide +kernel
theorem dX5_readItem_14 : decode cX5_readItem 14 = .ok (.aload_n 0, 1) := by decide +kernel
theorem dX5_readItem_15 : decode cX5_readItem 15 = .ok (.invokevirtual 56, 3) := by decide +kernel
theorem dX5_readItem_18 : decode cX5_readItem 18 = .ok (.istore_n 2, 1) := by decide +kernel
theorem dX5_readItem_19 : decode cX5_readItem 19 = .ok (.aload_n 0, 1) := by decide +kernel
theorem dX5_readItem_20 : decode cX5_readItem 20 = .ok (.getfield 9, 3) := by decide +kernel
theorem dX5_readItem_23 : decode cX5_readItem 23 = .ok (.iconst (-1), 1) := by decide +kernel
theorem dX5_readItem_24 : decode cX5_readItem 24 = .ok (.if_icmp .eq 4, 3) := by decide +kernel
theorem dX5_readItem_27 : decode cX5_readItem 27 = .ok (.return_, 1) := by decide +kernel
theorem dX5_readItem_28 : decode cX5_readItem 28 = .ok (.aload_n 0, 1) := by decide +kernel
theorem dX5_readItem_29 : decode cX5_readItem 29 = .ok (.iload_n 2, 1) := by decide +kernel
theorem dX5_readItem_30 : decode cX5_readItem 30 = .ok (.invokevirtual 60, 3) := by decide +kernel
theorem dX5_readItem_33 : decode cX5_readItem 33 = .ok (.ifCond .ne 9, 3) := by decide +kernel
theorem dX5_readItem_36 : decode cX5_readItem 36 = .ok (.aload_n 0, 1) := by decide +kernel
theorem dX5_readItem_37 : decode cX5_readItem 37 = .ok (.iload_n 1, 1) := by decide +kernel
theorem dX5_readItem_38 : decode cX5_readItem 38 = .ok (.putfield 9, 3) := by decide +kernel
theorem dX5_readItem_41 : decode cX5_readItem 41 = .ok (.return_, 1) := by decide +kernel
theorem dX5_readItem_42 : decode cX5_readItem 42 = .ok (.aload_n 0, 1) := by decide +kernel
theorem dX5_readItem_43 : decode cX5_readItem 43 = .ok (.bipush 32, 2) := by decide +kernel
theorem dX5_readItem_45 : decode cX5_readItem 45 = .ok (.invokevirtual 52, 3) := by decide +kernel
theorem dX5_readItem_48 : decode cX5_readItem 48 = .ok (.iload_n 2, 1) := by decide +kernel
theorem dX5_readItem_49 : decode cX5_readItem 49 = .ok (.iconst 5, 1) := by decide +kernel
theorem dX5_readItem_50 : decode cX5_readItem 50 = .ok (.if_icmp .ne 10, 3) := by decide +kernel
theorem dX5_readItem_53 : decode cX5_readItem 53 = .ok (.aload_n 0, 1) := by decide +kernel
theorem dX5_readItem_54 : decode cX5_readItem 54 = .ok (.invokevirtual 64, 3) := by decide +kernel
theorem dX5_readItem_57 : decode cX5_readItem 57 = .ok (.goto 33, 3) := by decide +kernel
theorem dX5_readItem_60 : decode cX5_readItem 60 = .ok (.iload_n 2, 1) := by decide +kernel
theorem dX5_readItem_61 : decode cX5_readItem 61 = .ok (.iconst 4, 1) := by decide +kernel
theorem dX5_readItem_62 : decode cX5_readItem 62 = .ok (.if_icmp .ne 10, 3) := by decide +kernel
theorem dX5_readItem_65 : decode cX5_readItem 65 = .ok (.aload_n 0, 1) := by decide +kernel
theorem dX5_readItem_66 : decode cX5_readItem 66 = .ok (.invokevirtual 67, 3) := by decide +kernel
theorem dX5_readItem_69 : decode cX5_readItem 69 = .ok (.goto 21, 3) := by decide +kernel
theorem dX5_readItem_72 : decode cX5_readItem 72 = .ok (.iload_n 2, 1) := by decide +kernel
theorem dX5_readItem_73 : decode cX5_readItem 73 = .ok (.bipush 6, 2) := by decide +kernel
theorem dX5_readItem_75 : decode cX5_readItem 75 = .ok (.if_icmp .ne 10, 3) := by decide +kernel
theorem dX5_readItem_78 : decode cX5_readItem 78 = .ok (.aload_n 0, 1) := by decide +kernel
theorem dX5_readItem_79 : decode cX5_readItem 79 = .ok (.invokevirtual 70, 3) := by decide +kernel
theorem dX5_readItem_82 : decode cX5_readItem 82 = .ok (.goto 8, 3) := by decide +kernel
theorem dX5_readItem_85 : decode cX5_readItem 85 = .ok (.aload_n 0, 1) := by decide +kernel
theorem dX5_readItem_86 : decode cX5_readItem 86 = .ok (.iload_n 2, 1) := by decide +kernel
theorem dX5_readItem_87 : decode cX5_readItem 87 = .ok (.invokevirtual 73, 3) := by decide +kernel
theorem dX5_readItem_90 : decode cX5_readItem 90 = .ok (.return_, 1) := by decide +kernel
theorem dX5_hasRoomFor_0 : decode cX5_hasRoomFor 0 = .ok (.iload_n 1, 1) := by decide +kernel
theorem dX5_hasRoomFor_1 : decode cX5_hasRoomFor 1 = .ok (.iconst 5, 1) := by decide +kernel
theorem dX5_hasRoomFor_2 : decode cX5_hasRoomFor 2 = .ok (.if_icmp .ne 11, 3) := by decide +kernel
theorem dX5_hasRoomFor_5 : decode cX5_hasRoomFor 5 = .ok (.aload_n 0, 1) := by decide +kernel
theorem dX5_hasRoomFor_6 : decode cX5_hasRoomFor 6 = .ok (.getfield 18, 3) := by decide +kernel
theorem dX5_hasRoomFor_9 : decode cX5_hasRoomFor 9 = .ok (.invokevirtual 77, 3) := by decide +kernel
theorem dX5_hasRoomFor_12 : decode cX5_hasRoomFor 12 = .ok (.ireturn, 1) := by decide +kernel
theorem dX5_hasRoomFor_13 : decode cX5_hasRoomFor 13 = .ok (.iload_n 1, 1) := by decide +kernel
theorem dX5_hasRoomFor_14 : decode cX5_hasRoomFor 14 = .ok (.iconst 4, 1) := by decide +kernel
theorem dX5_hasRoomFor_15 : decode cX5_hasRoomFor 15 = .ok (.if_icmp .ne 13, 3) := by decide +kernel
theorem dX5_hasRoomFor_18 : decode cX5_hasRoomFor 18 = .ok (.aload_n 0, 1) := by decide +kernel
theorem dX5_hasRoomFor_19 : decode cX5_hasRoomFor 19 = .ok (.getfield 18, 3) := by decide +kernel
theorem dX5_hasRoomFor_22 : decode cX5_hasRoomFor 22 = .ok (.invokevirtual 81, 3) := by decide +kernel
theorem dX5_hasRoomFor_25 : decode cX5_hasRoomFor 25 = .ok (.ifCond .eq 7, 3) := by decide +kernel
theorem dX5_hasRoomFor_28 : decode cX5_hasRoomFor 28 = .ok (.iconst 1, 1) := by decide +kernel
theorem dX5_hasRoomFor_29 : decode cX5_hasRoomFor 29 = .ok (.goto 4, 3) := by decide +kernel
theorem dX5_hasRoomFor_32 : decode cX5_hasRoomFor 32 = .ok (.iconst 0, 1) := by decide +kernel
theorem dX5_hasRoomFor_33 : decode cX5_hasRoomFor 33 = .ok (.ireturn, 1) := by decide +kernel
theorem dX5_readCounter_0 : decode cX5_readCounter 0 = .ok (.aload_n 0, 1) := by decide +kernel
theorem dX5_readCounter_1 : decode cX5_readCounter 1 = .ok (.iconst 0, 1) := by decide +kernel
theorem dX5_readCounter_2 : decode cX5_readCounter 2 = .ok (.getstatic 84, 3) := by decide +kernel
theorem dX5_readCounter_5 : decode cX5_readCounter 5 = .ok (.arraylength, 1) := by decide +kernel
theorem dX5_readCounter_6 : decode cX5_readCounter 6 = .ok (.iconst 1, 1) := by decide +kernel
theorem dX5_readCounter_7 : decode cX5_readCounter 7 = .ok (.isub, 1) := by decide +kernel
theorem dX5_readCounter_8 : decode cX5_readCounter 8 = .ok (.invokevirtual 87, 3) := by decide +kernel
theorem dX5_readCounter_11 : decode cX5_readCounter 11 = .ok (.istore_n 1, 1) := by decide +kernel
theorem dX5_readCounter_12 : decode cX5_readCounter 12 = .ok (.aload_n 0, 1) := by decide +kernel
theorem dX5_readCounter_13 : decode cX5_readCounter 13 = .ok (.bipush 32, 2) := by decide +kernel
theorem dX5_readCounter_15 : decode cX5_readCounter 15 = .ok (.invokevirtual 52, 3) := by decide +kernel
theorem dX5_readCounter_18 : decode cX5_readCounter 18 = .ok (.aload_n 0, 1) := by decide +kernel
theorem dX5_readCounter_19 : decode cX5_readCounter 19 = .ok (.iconst 0, 1) := by decide +kernel
theorem dX5_readCounter_20 : decode cX5_readCounter 20 = .ok (.bipush 9, 2) := by decide +kernel
theorem dX5_readCounter_22 : decode cX5_readCounter 22 = .ok (.invokevirtual 87, 3) := by decide +kernel
theorem dX5_readCounter_25 : decode cX5_readCounter 25 = .ok (.istore_n 2, 1) := by decide +kernel
theorem dX5_readCounter_26 : decode cX5_readCounter 26 = .ok (.aload_n 0, 1) := by decide +kernel
theorem dX5_readCounter_27 : decode cX5_readCounter 27 = .ok (.getfield 9, 3) := by decide +kernel
theorem dX5_readCounter_30 : decode cX5_readCounter 30 = .ok (.iconst (-1), 1) := by decide +kernel
theorem dX5_readCounter_31 : decode cX5_readCounter 31 = .ok (.if_icmp .ne 13, 3) := by decide +kernel
theorem dX5_readCounter_34 : decode cX5_readCounter 34 = .ok (.aload_n 0, 1) := by decide +kernel
theorem dX5_readCounter_35 : decode cX5_readCounter 35 = .ok (.getfield 18, 3) := by decide +kernel
theorem dX5_readCounter_38 : decode cX5_readCounter 38 = .ok (.iload_n 1, 1) := by decide +kernel
theorem dX5_readCounter_39 : decode cX5_readCounter 39 = .ok (.iload_n 2, 1) := by decide +kernel
theorem dX5_readCounter_40 : decode cX5_readCounter 40 = .ok (.invokevirtual 90, 3) := by decide +kernel
theorem dX5_readCounter_43 : decode cX5_readCounter 43 = .ok (.pop, 1) := by decide +kernel
theorem dX5_readCounter_44 : decode cX5_readCounter 44 = .ok (.return_, 1) := by decide +kernel
theorem dX5_readTally_0 : decode cX5_readTally 0 = .ok (.aload_n 0, 1) := by decide +kernel
theorem dX5_readTally_1 : decode cX5_readTally 1 = .ok (.iconst 0, 1) := by decide +kernel
theorem dX5_readTally_2 : decode cX5_readTally 2 = .ok (.sipush 9999, 3) := by decide +kernel
theorem dX5_readTally_5 : decode cX5_readTally 5 = .ok (.invokevirtual 87, 3) := by decide +kernel
theorem dX5_readTally_8 : decode cX5_readTally 8 = .ok (.istore_n 1, 1) := by decide +kernel
theorem dX5_readTally_9 : decode cX5_readTally 9 = .ok (.aload_n 0, 1) := by decide +kernel
theorem dX5_readTally_10 : decode cX5_readTally 10 = .ok (.getfield 9, 3) := by decide +kernel
theorem dX5_readTally_13 : decode cX5_readTally 13 = .ok (.iconst (-1), 1) := by decide +kernel
theorem dX5_readTally_14 : decode cX5_readTally 14 = .ok (.if_icmp .ne 12, 3) := by decide +kernel
theorem dX5_readTally_17 : decode cX5_readTally 17 = .ok (.aload_n 0, 1) := by decide +kernel
theorem dX5_readTally_18 : decode cX5_readTally 18 = .ok (.getfield 18, 3) := by decide +kernel
theorem dX5_readTally_21 : decode cX5_readTally 21 = .ok (.iload_n 1, 1) := by decide +kernel
theorem dX5_readTally_22 : decode cX5_readTally 22 = .ok (.invokevirtual 93, 3) := by decide +kernel
theorem dX5_readTally_25 : decode cX5_readTally 25 = .ok (.pop, 1) := by decide +kernel
theorem dX5_readTally_26 : decode cX5_readTally 26 = .ok (.return_, 1) := by decide +kernel
theorem dX5_readAsk_0 : decode cX5_readAsk 0 = .ok (.aload_n 0, 1) := by decide +kernel
theorem dX5_readAsk_1 : decode cX5_readAsk 1 = .ok (.getfield 46, 3) := by decide +kernel
theorem dX5_readAsk_4 : decode cX5_readAsk 4 = .ok (.istore_n 1, 1) := by decide +kernel
theorem dX5_readAsk_5 : decode cX5_readAsk 5 = .ok (.aload_n 0, 1) := by decide +kernel
theorem dX5_readAsk_6 : decode cX5_readAsk 6 = .ok (.iconst 0, 1) := by decide +kernel
theorem dX5_readAsk_7 : decode cX5_readAsk 7 = .ok (.aload_n 0, 1) := by decide +kernel
theorem dX5_readAsk_8 : decode cX5_readAsk 8 = .ok (.getfield 18, 3) := by decide +kernel
theorem dX5_readAsk_11 : decode cX5_readAsk 11 = .ok (.getfield 96, 3) := by decide +kernel
theorem dX5_readAsk_14 : decode cX5_readAsk 14 = .ok (.iconst 1, 1) := by decide +kernel
theorem dX5_readAsk_15 : decode cX5_readAsk 15 = .ok (.isub, 1) := by decide +kernel
theorem dX5_readAsk_16 : decode cX5_readAsk 16 = .ok (.invokevirtual 87, 3) := by decide +kernel
theorem dX5_readAsk_19 : decode cX5_readAsk 19 = .ok (.istore_n 2, 1) := by decide +kernel
theorem dX5_readAsk_20 : decode cX5_readAsk 20 = .ok (.aload_n 0, 1) := by decide +kernel
theorem dX5_readAsk_21 : decode cX5_readAsk 21 = .ok (.getfield 9, 3) := by decide +kernel
theorem dX5_readAsk_24 : decode cX5_readAsk 24 = .ok (.iconst (-1), 1) := by decide +kernel
theorem dX5_readAsk_25 : decode cX5_readAsk 25 = .ok (.if_icmp .eq 4, 3) := by decide +kernel
theorem dX5_readAsk_28 : decode cX5_readAsk 28 = .ok (.return_, 1) := by decide +kernel
theorem dX5_readAsk_29 : decode cX5_readAsk 29 = .ok (.aload_n 0, 1) := by decide +kernel
theorem dX5_readAsk_30 : decode cX5_readAsk 30 = .ok (.getfield 18, 3) := by decide +kernel
theorem dX5_readAsk_33 : decode cX5_readAsk 33 = .ok (.iload_n 2, 1) := by decide +kernel
theorem dX5_readAsk_34 : decode cX5_readAsk 34 = .ok (.invokevirtual 99, 3) := by decide +kernel
theorem dX5_readAsk_37 : decode cX5_readAsk 37 = .ok (.ifCond .eq 11, 3) := by decide +kernel
theorem dX5_readAsk_40 : decode cX5_readAsk 40 = .ok (.aload_n 0, 1) := by decide +kernel
theorem dX5_readAsk_41 : decode cX5_readAsk 41 = .ok (.iload_n 1, 1) := by decide +kernel
theorem dX5_readAsk_42 : decode cX5_readAsk 42 = .ok (.putfield 9, 3) := by decide +kernel
theorem dX5_readAsk_45 : decode cX5_readAsk 45 = .ok (.goto 12, 3) := by decide +kernel
theorem dX5_readAsk_48 : decode cX5_readAsk 48 = .ok (.aload_n 0, 1) := by decide +kernel
theorem dX5_readAsk_49 : decode cX5_readAsk 49 = .ok (.getfield 18, 3) := by decide +kernel
theorem dX5_readAsk_52 : decode cX5_readAsk 52 = .ok (.iload_n 2, 1) := by decide +kernel
theorem dX5_readAsk_53 : decode cX5_readAsk 53 = .ok (.iconst 1, 1) := by decide +kernel
theorem dX5_readAsk_54 : decode cX5_readAsk 54 = .ok (.invokevirtual 102, 3) := by decide +kernel
theorem dX5_readAsk_57 : decode cX5_readAsk 57 = .ok (.return_, 1) := by decide +kernel
theorem dX5_readSetting_0 : decode cX5_readSetting 0 = .ok (.iload_n 1, 1) := by decide +kernel
theorem dX5_readSetting_1 : decode cX5_readSetting 1 = .ok (.invokestatic 106, 3) := by decide +kernel
theorem dX5_readSetting_4 : decode cX5_readSetting 4 = .ok (.ifCond .ne 4, 3) := by decide +kernel
theorem dX5_readSetting_7 : decode cX5_readSetting 7 = .ok (.return_, 1) := by decide +kernel
theorem dX5_readSetting_8 : decode cX5_readSetting 8 = .ok (.aload_n 0, 1) := by decide +kernel
theorem dX5_readSetting_9 : decode cX5_readSetting 9 = .ok (.getstatic 109, 3) := by decide +kernel
theorem dX5_readSetting_12 : decode cX5_readSetting 12 = .ok (.iload_n 1, 1) := by decide +kernel
theorem dX5_readSetting_13 : decode cX5_readSetting 13 = .ok (.iaload, 1) := by decide +kernel
theorem dX5_readSetting_14 : decode cX5_readSetting 14 = .ok (.getstatic 112, 3) := by decide +kernel
theorem dX5_readSetting_17 : decode cX5_readSetting 17 = .ok (.iload_n 1, 1) := by decide +kernel
theorem dX5_readSetting_18 : decode cX5_readSetting 18 = .ok (.iaload, 1) := by decide +kernel
theorem dX5_readSetting_19 : decode cX5_readSetting 19 = .ok (.invokevirtual 87, 3) := by decide +kernel
theorem dX5_readSetting_22 : decode cX5_readSetting 22 = .ok (.istore_n 2, 1) := by decide +kernel
theorem dX5_readSetting_23 : decode cX5_readSetting 23 = .ok (.aload_n 0, 1) := by decide +kernel
theorem dX5_readSetting_24 : decode cX5_readSetting 24 = .ok (.getfield 9, 3) := by decide +kernel
theorem dX5_readSetting_27 : decode cX5_readSetting 27 = .ok (.iconst (-1), 1) := by decide +kernel
theorem dX5_readSetting_28 : decode cX5_readSetting 28 = .ok (.if_icmp .ne 13, 3) := by decide +kernel
theorem dX5_readSetting_31 : decode cX5_readSetting 31 = .ok (.aload_n 0, 1) := by decide +kernel
theorem dX5_readSetting_32 : decode cX5_readSetting 32 = .ok (.getfield 18, 3) := by decide +kernel
theorem dX5_readSetting_35 : decode cX5_readSetting 35 = .ok (.iload_n 1, 1) := by decide +kernel
theorem dX5_readSetting_36 : decode cX5_readSetting 36 = .ok (.iload_n 2, 1) := by decide +kernel
theorem dX5_readSetting_37 : decode cX5_readSetting 37 = .ok (.invokevirtual 115, 3) := by decide +kernel
theorem dX5_readSetting_40 : decode cX5_readSetting 40 = .ok (.pop, 1) := by decide +kernel
theorem dX5_readSetting_41 : decode cX5_readSetting 41 = .ok (.return_, 1) := by decide +kernel
theorem dX5_readWord_0 : decode cX5_readWord 0 = .ok (.iconst 0, 1) := by decide +kernel
theorem dX5_readWord_1 : decode cX5_readWord 1 = .ok (.istore_n 1, 1) := by decide +kernel
theorem dX5_readWord_2 : decode cX5_readWord 2 = .ok (.iconst 0, 1) := by decide +kernel
theorem dX5_readWord_3 : decode cX5_readWord 3 = .ok (.istore_n 2, 1) := by decide +kernel
theorem dX5_readWord_4 : decode cX5_readWord 4 = .ok (.iload_n 2, 1) := by decide +kernel
theorem dX5_readWord_5 : decode cX5_readWord 5 = .ok (.bipush 7, 2) := by decide +kernel
theorem dX5_readWord_7 : decode cX5_readWord 7 = .ok (.if_icmp .ge 50, 3) := by decide +kernel
theorem dX5_readWord_10 : decode cX5_readWord 10 = .ok (.iload_n 2, 1) := by decide +kernel
theorem dX5_readWord_11 : decode cX5_readWord 11 = .ok (.invokestatic 118, 3) := by decide +kernel
theorem dX5_readWord_14 : decode cX5_readWord 14 = .ok (.astore_n 3, 1) := by decide +kernel
theorem dX5_readWord_15 : decode cX5_readWord 15 = .ok (.aload_n 0, 1) := by decide +kernel
theorem dX5_readWord_16 : decode cX5_readWord 16 = .ok (.aload_n 3, 1) := by decide +kernel
theorem dX5_readWord_17 : decode cX5_readWord 17 = .ok (.invokevirtual 122, 3) := by decide +kernel
theorem dX5_readWord_20 : decode cX5_readWord 20 = .ok (.istore 4, 2) := by decide +kernel
theorem dX5_readWord_22 : decode cX5_readWord 22 = .ok (.iload 4, 2) := by decide +kernel
theorem dX5_readWord_24 : decode cX5_readWord 24 = .ok (.aload_n 3, 1) := by decide +kernel
theorem dX5_readWord_25 : decode cX5_readWord 25 = .ok (.invokevirtual 126, 3) := by decide +kernel
theorem dX5_readWord_28 : decode cX5_readWord 28 = .ok (.if_icmp .ne 16, 3) := by decide +kernel
theorem dX5_readWord_31 : decode cX5_readWord 31 = .ok (.aload_n 0, 1) := by decide +kernel
theorem dX5_readWord_32 : decode cX5_readWord 32 = .ok (.dup, 1) := by decide +kernel
theorem dX5_readWord_33 : decode cX5_readWord 33 = .ok (.getfield 46, 3) := by decide +kernel
theorem dX5_readWord_36 : decode cX5_readWord 36 = .ok (.iload 4, 2) := by decide +kernel
theorem dX5_readWord_38 : decode cX5_readWord 38 = .ok (.iadd, 1) := by decide +kernel
theorem dX5_readWord_39 : decode cX5_readWord 39 = .ok (.putfield 46, 3) := by decide +kernel
theorem dX5_readWord_42 : decode cX5_readWord 42 = .ok (.iload_n 2, 1) := by decide +kernel
theorem dX5_readWord_43 : decode cX5_readWord 43 = .ok (.ireturn, 1) := by decide +kernel
theorem dX5_readWord_44 : decode cX5_readWord 44 = .ok (.iload_n 1, 1) := by decide +kernel
theorem dX5_readWord_45 : decode cX5_readWord 45 = .ok (.iload 4, 2) := by decide +kernel
theorem dX5_readWord_47 : decode cX5_readWord 47 = .ok (.invokestatic 130, 3) := by decide +kernel
theorem dX5_readWord_50 : decode cX5_readWord 50 = .ok (.istore_n 1, 1) := by decide +kernel
theorem dX5_readWord_51 : decode cX5_readWord 51 = .ok (.iinc 2 1, 3) := by decide +kernel
theorem dX5_readWord_54 : decode cX5_readWord 54 = .ok (.goto (-50), 3) := by decide +kernel
theorem dX5_readWord_57 : decode cX5_readWord 57 = .ok (.aload_n 0, 1) := by decide +kernel
theorem dX5_readWord_58 : decode cX5_readWord 58 = .ok (.aload_n 0, 1) := by decide +kernel
theorem dX5_readWord_59 : decode cX5_readWord 59 = .ok (.getfield 46, 3) := by decide +kernel
theorem dX5_readWord_62 : decode cX5_readWord 62 = .ok (.iload_n 1, 1) := by decide +kernel
theorem dX5_readWord_63 : decode cX5_readWord 63 = .ok (.iadd, 1) := by decide +kernel
theorem dX5_readWord_64 : decode cX5_readWord 64 = .ok (.putfield 9, 3) := by decide +kernel
theorem dX5_readWord_67 : decode cX5_readWord 67 = .ok (.iconst (-1), 1) := by decide +kernel
theorem dX5_readWord_68 : decode cX5_readWord 68 = .ok (.ireturn, 1) := by decide +kernel
theorem dX5_countAlike_0 : decode cX5_countAlike 0 = .ok (.iconst 0, 1) := by decide +kernel
theorem dX5_countAlike_1 : decode cX5_countAlike 1 = .ok (.istore_n 2, 1) := by decide +kernel
theorem dX5_countAlike_2 : decode cX5_countAlike 2 = .ok (.iload_n 2, 1) := by decide +kernel
theorem dX5_countAlike_3 : decode cX5_countAlike 3 = .ok (.aload_n 1, 1) := by decide +kernel
theorem dX5_countAlike_4 : decode cX5_countAlike 4 = .ok (.invokevirtual 126, 3) := by decide +kernel
theorem dX5_countAlike_7 : decode cX5_countAlike 7 = .ok (.if_icmp .ge 41, 3) := by decide +kernel
theorem dX5_countAlike_10 : decode cX5_countAlike 10 = .ok (.aload_n 0, 1) := by decide +kernel
theorem dX5_countAlike_11 : decode cX5_countAlike 11 = .ok (.getfield 46, 3) := by decide +kernel
theorem dX5_countAlike_14 : decode cX5_countAlike 14 = .ok (.iload_n 2, 1) := by decide +kernel
theorem dX5_countAlike_15 : decode cX5_countAlike 15 = .ok (.iadd, 1) := by decide +kernel
theorem dX5_countAlike_16 : decode cX5_countAlike 16 = .ok (.aload_n 0, 1) := by decide +kernel
theorem dX5_countAlike_17 : decode cX5_countAlike 17 = .ok (.getfield 41, 3) := by decide +kernel
theorem dX5_countAlike_20 : decode cX5_countAlike 20 = .ok (.if_icmp .ge 28, 3) := by decide +kernel
theorem dX5_countAlike_23 : decode cX5_countAlike 23 = .ok (.aload_n 0, 1) := by decide +kernel
theorem dX5_countAlike_24 : decode cX5_countAlike 24 = .ok (.getfield 22, 3) := by decide +kernel
theorem dX5_countAlike_27 : decode cX5_countAlike 27 = .ok (.aload_n 0, 1) := by decide +kernel
theorem dX5_countAlike_28 : decode cX5_countAlike 28 = .ok (.getfield 46, 3) := by decide +kernel
theorem dX5_countAlike_31 : decode cX5_countAlike 31 = .ok (.iload_n 2, 1) := by decide +kernel
theorem dX5_countAlike_32 : decode cX5_countAlike 32 = .ok (.iadd, 1) := by decide +kernel
theorem dX5_countAlike_33 : decode cX5_countAlike 33 = .ok (.iaload, 1) := by decide +kernel
theorem dX5_countAlike_34 : decode cX5_countAlike 34 = .ok (.aload_n 1, 1) := by decide +kernel
theorem dX5_countAlike_35 : decode cX5_countAlike 35 = .ok (.iload_n 2, 1) := by decide +kernel
theorem dX5_countAlike_36 : decode cX5_countAlike 36 = .ok (.invokevirtual 133, 3) := by decide +kernel
theorem dX5_countAlike_39 : decode cX5_countAlike 39 = .ok (.if_icmp .ne 9, 3) := by decide +kernel
theorem dX5_countAlike_42 : decode cX5_countAlike 42 = .ok (.iinc 2 1, 3) := by decide +kernel
theorem dX5_countAlike_45 : decode cX5_countAlike 45 = .ok (.goto (-43), 3) := by decide +kernel
theorem dX5_countAlike_48 : decode cX5_countAlike 48 = .ok (.iload_n 2, 1) := by decide +kernel
theorem dX5_countAlike_49 : decode cX5_countAlike 49 = .ok (.ireturn, 1) := by decide +kernel
theorem dX5_nameOf_0 : decode cX5_nameOf 0 = .ok (.iload_n 0, 1) := by decide +kernel
theorem dX5_nameOf_1 : decode cX5_nameOf 1 = .ok (.tableswitch 57 0 5 #[39, 42, 45, 48, 51, 54], 39) := by decide +kernel
theorem dX5_nameOf_40 : decode cX5_nameOf 40 = .ok (.ldc 137, 2) := by decide +kernel
theorem dX5_nameOf_42 : decode cX5_nameOf 42 = .ok (.areturn, 1) := by decide +kernel
theorem dX5_nameOf_43 : decode cX5_nameOf 43 = .ok (.ldc 139, 2) := by decide +kernel
theorem dX5_nameOf_45 : decode cX5_nameOf 45 = .ok (.areturn, 1) := by decide +kernel
theorem dX5_nameOf_46 : decode cX5_nameOf 46 = .ok (.ldc 141, 2) := by decide +kernel
theorem dX5_nameOf_48 : decode cX5_nameOf 48 = .ok (.areturn, 1) := by decide +kernel
theorem dX5_nameOf_49 : decode cX5_nameOf 49 = .ok (.ldc 143, 2) := by decide +kernel
theorem dX5_nameOf_51 : decode cX5_nameOf 51 = .ok (.areturn, 1) := by decide +kernel
theorem dX5_nameOf_52 : decode cX5_nameOf 52 = .ok (.ldc 145, 2) := by decide +kernel
theorem dX5_nameOf_54 : decode cX5_nameOf 54 = .ok (.areturn, 1) := by decide +kernel
theorem dX5_nameOf_55 : decode cX5_nameOf 55 = .ok (.ldc 147, 2) := by decide +kernel
theorem dX5_nameOf_57 : decode cX5_nameOf 57 = .ok (.areturn, 1) := by decide +kernel
theorem dX5_nameOf_58 : decode cX5_nameOf 58 = .ok (.ldc 149, 2) := by decide +kernel
theorem dX5_nameOf_60 : decode cX5_nameOf 60 = .ok (.areturn, 1) := by decide +kernel
theorem dX5_expect_0 : decode cX5_expect 0 = .ok (.aload_n 0, 1) := by decide +kernel
theorem dX5_expect_1 : decode cX5_expect 1 = .ok (.getfield 9, 3) := by decide +kernel
theorem dX5_expect_4 : decode cX5_expect 4 = .ok (.iconst (-1), 1) := by decide +kernel
theorem dX5_expect_5 : decode cX5_expect 5 = .ok (.if_icmp .eq 4, 3) := by decide +kernel
theorem dX5_expect_8 : decode cX5_expect 8 = .ok (.return_, 1) := by decide +kernel
theorem dX5_expect_9 : decode cX5_expect 9 = .ok (.aload_n 0, 1) := by decide +kernel
theorem dX5_expect_10 : decode cX5_expect 10 = .ok (.getfield 46, 3) := by decide +kernel
theorem dX5_expect_13 : decode cX5_expect 13 = .ok (.aload_n 0, 1) := by decide +kernel
theorem dX5_expect_14 : decode cX5_expect 14 = .ok (.getfield 41, 3) := by decide +kernel
theorem dX5_expect_17 : decode cX5_expect 17 = .ok (.if_icmp .ge 29, 3) := by decide +kernel
theorem dX5_expect_20 : decode cX5_expect 20 = .ok (.aload_n 0, 1) := by decide +kernel
theorem dX5_expect_21 : decode cX5_expect 21 = .ok (.getfield 22, 3) := by decide +kernel
theorem dX5_expect_24 : decode cX5_expect 24 = .ok (.aload_n 0, 1) := by decide +kernel
theorem dX5_expect_25 : decode cX5_expect 25 = .ok (.getfield 46, 3) := by decide +kernel
theorem dX5_expect_28 : decode cX5_expect 28 = .ok (.iaload, 1) := by decide +kernel
theorem dX5_expect_29 : decode cX5_expect 29 = .ok (.iload_n 1, 1) := by decide +kernel
theorem dX5_expect_30 : decode cX5_expect 30 = .ok (.if_icmp .ne 16, 3) := by decide +kernel
theorem dX5_expect_33 : decode cX5_expect 33 = .ok (.aload_n 0, 1) := by decide +kernel
theorem dX5_expect_34 : decode cX5_expect 34 = .ok (.dup, 1) := by decide +kernel
theorem dX5_expect_35 : decode cX5_expect 35 = .ok (.getfield 46, 3) := by decide +kernel
theorem dX5_expect_38 : decode cX5_expect 38 = .ok (.iconst 1, 1) := by decide +kernel
theorem dX5_expect_39 : decode cX5_expect 39 = .ok (.iadd, 1) := by decide +kernel
theorem dX5_expect_40 : decode cX5_expect 40 = .ok (.putfield 46, 3) := by decide +kernel
theorem dX5_expect_43 : decode cX5_expect 43 = .ok (.goto 11, 3) := by decide +kernel
theorem dX5_expect_46 : decode cX5_expect 46 = .ok (.aload_n 0, 1) := by decide +kernel
theorem dX5_expect_47 : decode cX5_expect 47 = .ok (.aload_n 0, 1) := by decide +kernel
theorem dX5_expect_48 : decode cX5_expect 48 = .ok (.getfield 46, 3) := by decide +kernel
theorem dX5_expect_51 : decode cX5_expect 51 = .ok (.putfield 9, 3) := by decide +kernel
theorem dX5_expect_54 : decode cX5_expect 54 = .ok (.return_, 1) := by decide +kernel
theorem dX5_readNumber_0 : decode cX5_readNumber 0 = .ok (.aload_n 0, 1) := by decide +kernel
theorem dX5_readNumber_1 : decode cX5_readNumber 1 = .ok (.getfield 9, 3) := by decide +kernel
theorem dX5_readNumber_4 : decode cX5_readNumber 4 = .ok (.iconst (-1), 1) := by decide +kernel
theorem dX5_readNumber_5 : decode cX5_readNumber 5 = .ok (.if_icmp .eq 5, 3) := by decide +kernel
theorem dX5_readNumber_8 : decode cX5_readNumber 8 = .ok (.iconst (-1), 1) := by decide +kernel
theorem dX5_readNumber_9 : decode cX5_readNumber 9 = .ok (.ireturn, 1) := by decide +kernel
theorem dX5_readNumber_10 : decode cX5_readNumber 10 = .ok (.aload_n 0, 1) := by decide +kernel
theorem dX5_readNumber_11 : decode cX5_readNumber 11 = .ok (.getfield 46, 3) := by decide +kernel
theorem dX5_readNumber_14 : decode cX5_readNumber 14 = .ok (.istore_n 3, 1) := by decide +kernel
theorem dX5_readNumber_15 : decode cX5_readNumber 15 = .ok (.iconst 0, 1) := by decide +kernel
theorem dX5_readNumber_16 : decode cX5_readNumber 16 = .ok (.istore 4, 2) := by decide +kernel
theorem dX5_readNumber_18 : decode cX5_readNumber 18 = .ok (.aload_n 0, 1) := by decide +kernel
theorem dX5_readNumber_19 : decode cX5_readNumber 19 = .ok (.getfield 46, 3) := by decide +kernel
theorem dX5_readNumber_22 : decode cX5_readNumber 22 = .ok (.aload_n 0, 1) := by decide +kernel
theorem dX5_readNumber_23 : decode cX5_readNumber 23 = .ok (.getfield 41, 3) := by decide +kernel
theorem dX5_readNumber_26 : decode cX5_readNumber 26 = .ok (.if_icmp .ge 74, 3) := by decide +kernel
theorem dX5_readNumber_29 : decode cX5_readNumber 29 = .ok (.aload_n 0, 1) := by decide +kernel
theorem dX5_readNumber_30 : decode cX5_readNumber 30 = .ok (.getfield 46, 3) := by decide +kernel
theorem dX5_readNumber_33 : decode cX5_readNumber 33 = .ok (.iload_n 3, 1) := by decide +kernel
theorem dX5_readNumber_34 : decode cX5_readNumber 34 = .ok (.isub, 1) := by decide +kernel
theorem dX5_readNumber_35 : decode cX5_readNumber 35 = .ok (.iconst 4, 1) := by decide +kernel
theorem dX5_readNumber_36 : decode cX5_readNumber 36 = .ok (.if_icmp .ge 64, 3) := by decide +kernel
theorem dX5_readNumber_39 : decode cX5_readNumber 39 = .ok (.aload_n 0, 1) := by decide +kernel
theorem dX5_readNumber_40 : decode cX5_readNumber 40 = .ok (.getfield 22, 3) := by decide +kernel
theorem dX5_readNumber_43 : decode cX5_readNumber 43 = .ok (.aload_n 0, 1) := by decide +kernel
theorem dX5_readNumber_44 : decode cX5_readNumber 44 = .ok (.getfield 46, 3) := by decide +kernel
theorem dX5_readNumber_47 : decode cX5_readNumber 47 = .ok (.iaload, 1) := by decide +kernel
theorem dX5_readNumber_48 : decode cX5_readNumber 48 = .ok (.bipush 48, 2) := by decide +kernel
theorem dX5_readNumber_50 : decode cX5_readNumber 50 = .ok (.if_icmp .lt 50, 3) := by decide +kernel
theorem dX5_readNumber_53 : decode cX5_readNumber 53 = .ok (.aload_n 0, 1) := by decide +kernel
theorem dX5_readNumber_54 : decode cX5_readNumber 54 = .ok (.getfield 22, 3) := by decide +kernel
theorem dX5_readNumber_57 : decode cX5_readNumber 57 = .ok (.aload_n 0, 1) := by decide +kernel
theorem dX5_readNumber_58 : decode cX5_readNumber 58 = .ok (.getfield 46, 3) := by decide +kernel
theorem dX5_readNumber_61 : decode cX5_readNumber 61 = .ok (.iaload, 1) := by decide +kernel
theorem dX5_readNumber_62 : decode cX5_readNumber 62 = .ok (.bipush 57, 2) := by decide +kernel
theorem dX5_readNumber_64 : decode cX5_readNumber 64 = .ok (.if_icmp .gt 36, 3) := by decide +kernel
theorem dX5_readNumber_67 : decode cX5_readNumber 67 = .ok (.iload 4, 2) := by decide +kernel
theorem dX5_readNumber_69 : decode cX5_readNumber 69 = .ok (.bipush 10, 2) := by decide +kernel
theorem dX5_readNumber_71 : decode cX5_readNumber 71 = .ok (.imul, 1) := by decide +kernel
theorem dX5_readNumber_72 : decode cX5_readNumber 72 = .ok (.aload_n 0, 1) := by decide +kernel
theorem dX5_readNumber_73 : decode cX5_readNumber 73 = .ok (.getfield 22, 3) := by decide +kernel
theorem dX5_readNumber_76 : decode cX5_readNumber 76 = .ok (.aload_n 0, 1) := by decide +kernel
theorem dX5_readNumber_77 : decode cX5_readNumber 77 = .ok (.getfield 46, 3) := by decide +kernel
theorem dX5_readNumber_80 : decode cX5_readNumber 80 = .ok (.iaload, 1) := by decide +kernel
theorem dX5_readNumber_81 : decode cX5_readNumber 81 = .ok (.iadd, 1) := by decide +kernel
theorem dX5_readNumber_82 : decode cX5_readNumber 82 = .ok (.bipush 48, 2) := by decide +kernel
theorem dX5_readNumber_84 : decode cX5_readNumber 84 = .ok (.isub, 1) := by decide +kernel
theorem dX5_readNumber_85 : decode cX5_readNumber 85 = .ok (.istore 4, 2) := by decide +kernel
theorem dX5_readNumber_87 : decode cX5_readNumber 87 = .ok (.aload_n 0, 1) := by decide +kernel
theorem dX5_readNumber_88 : decode cX5_readNumber 88 = .ok (.dup, 1) := by decide +kernel
theorem dX5_readNumber_89 : decode cX5_readNumber 89 = .ok (.getfield 46, 3) := by decide +kernel
theorem dX5_readNumber_92 : decode cX5_readNumber 92 = .ok (.iconst 1, 1) := by decide +kernel
theorem dX5_readNumber_93 : decode cX5_readNumber 93 = .ok (.iadd, 1) := by decide +kernel
theorem dX5_readNumber_94 : decode cX5_readNumber 94 = .ok (.putfield 46, 3) := by decide +kernel
theorem dX5_readNumber_97 : decode cX5_readNumber 97 = .ok (.goto (-79), 3) := by decide +kernel
theorem dX5_readNumber_100 : decode cX5_readNumber 100 = .ok (.aload_n 0, 1) := by decide +kernel
theorem dX5_readNumber_101 : decode cX5_readNumber 101 = .ok (.getfield 46, 3) := by decide +kernel
theorem dX5_readNumber_104 : decode cX5_readNumber 104 = .ok (.iload_n 3, 1) := by decide +kernel
theorem dX5_readNumber_105 : decode cX5_readNumber 105 = .ok (.if_icmp .eq 15, 3) := by decide +kernel
theorem dX5_readNumber_108 : decode cX5_readNumber 108 = .ok (.iload 4, 2) := by decide +kernel
theorem dX5_readNumber_110 : decode cX5_readNumber 110 = .ok (.iload_n 1, 1) := by decide +kernel
theorem dX5_readNumber_111 : decode cX5_readNumber 111 = .ok (.if_icmp .lt 9, 3) := by decide +kernel
theorem dX5_readNumber_114 : decode cX5_readNumber 114 = .ok (.iload 4, 2) := by decide +kernel
theorem dX5_readNumber_116 : decode cX5_readNumber 116 = .ok (.iload_n 2, 1) := by decide +kernel
theorem dX5_readNumber_117 : decode cX5_readNumber 117 = .ok (.if_icmp .le 8, 3) := by decide +kernel
theorem dX5_readNumber_120 : decode cX5_readNumber 120 = .ok (.aload_n 0, 1) := by decide +kernel
theorem dX5_readNumber_121 : decode cX5_readNumber 121 = .ok (.iload_n 3, 1) := by decide +kernel
theorem dX5_readNumber_122 : decode cX5_readNumber 122 = .ok (.putfield 9, 3) := by decide +kernel
theorem dX5_readNumber_125 : decode cX5_readNumber 125 = .ok (.iload 4, 2) := by decide +kernel
theorem dX5_readNumber_127 : decode cX5_readNumber 127 = .ok (.ireturn, 1) := by decide +kernel
theorem dX6_init_0 : decode cX6_init 0 = .ok (.aload_n 0, 1) := by decide +kernel
theorem dX6_init_1 : decode cX6_init 1 = .ok (.invokespecial 3, 3) := by decide +kernel
theorem dX6_init_4 : decode cX6_init 4 = .ok (.aload_n 0, 1) := by decide +kernel
theorem dX6_init_5 : decode cX6_init 5 = .ok (.iconst (-1), 1) := by decide +kernel
theorem dX6_init_6 : decode cX6_init 6 = .ok (.putfield 9, 3) := by decide +kernel
theorem dX6_init_9 : decode cX6_init 9 = .ok (.aload_n 0, 1) := by decide +kernel
theorem dX6_init_10 : decode cX6_init 10 = .ok (.iconst (-1), 1) := by decide +kernel
theorem dX6_init_11 : decode cX6_init 11 = .ok (.putfield 15, 3) := by decide +kernel
theorem dX6_init_14 : decode cX6_init 14 = .ok (.aload_n 0, 1) := by decide +kernel
theorem dX6_init_15 : decode cX6_init 15 = .ok (.sipush 160, 3) := by decide +kernel
theorem dX6_init_18 : decode cX6_init 18 = .ok (.newarray .long, 2) := by decide +kernel
theorem dX6_init_20 : decode cX6_init 20 = .ok (.putfield 18, 3) := by decide +kernel
theorem dX6_init_23 : decode cX6_init 23 = .ok (.return_, 1) := by decide +kernel
theorem dX6_hasRow_0 : decode cX6_hasRow 0 = .ok (.aload_n 0, 1) := by decide +kernel
theorem dX6_hasRow_1 : decode cX6_hasRow 1 = .ok (.getfield 15, 3) := by decide +kernel
theorem dX6_hasRow_4 : decode cX6_hasRow 4 = .ok (.iconst (-1), 1) := by decide +kernel
theorem dX6_hasRow_5 : decode cX6_hasRow 5 = .ok (.if_icmp .eq 7, 3) := by decide +kernel
theorem dX6_hasRow_8 : decode cX6_hasRow 8 = .ok (.iconst 1, 1) := by decide +kernel
theorem dX6_hasRow_9 : decode cX6_hasRow 9 = .ok (.goto 4, 3) := by decide +kernel
theorem dX6_hasRow_12 : decode cX6_hasRow 12 = .ok (.iconst 0, 1) := by decide +kernel
theorem dX6_hasRow_13 : decode cX6_hasRow 13 = .ok (.ireturn, 1) := by decide +kernel
theorem dX6_hasCounter_0 : decode cX6_hasCounter 0 = .ok (.aload_n 0, 1) := by decide +kernel
theorem dX6_hasCounter_1 : decode cX6_hasCounter 1 = .ok (.getfield 9, 3) := by decide +kernel
theorem dX6_hasCounter_4 : decode cX6_hasCounter 4 = .ok (.iconst (-1), 1) := by decide +kernel
theorem dX6_hasCounter_5 : decode cX6_hasCounter 5 = .ok (.if_icmp .eq 7, 3) := by decide +kernel
theorem dX6_hasCounter_8 : decode cX6_hasCounter 8 = .ok (.iconst 1, 1) := by decide +kernel
theorem dX6_hasCounter_9 : decode cX6_hasCounter 9 = .ok (.goto 4, 3) := by decide +kernel
theorem dX6_hasCounter_12 : decode cX6_hasCounter 12 = .ok (.iconst 0, 1) := by decide +kernel
theorem dX6_hasCounter_13 : decode cX6_hasCounter 13 = .ok (.ireturn, 1) := by decide +kernel
theorem dX6_content_0 : decode cX6_content 0 = .ok (.aload_n 0, 1) := by decide +kernel
theorem dX6_content_1 : decode cX6_content 1 = .ok (.invokevirtual 22, 3) := by decide +kernel
theorem dX6_content_4 : decode cX6_content 4 = .ok (.ifCond .eq 13, 3) := by decide +kernel
theorem dX6_content_7 : decode cX6_content 7 = .ok (.bipush 100, 2) := by decide +kernel
theorem dX6_content_9 : decode cX6_content 9 = .ok (.aload_n 0, 1) := by decide +kernel
theorem dX6_content_10 : decode cX6_content 10 = .ok (.getfield 15, 3) := by decide +kernel
theorem dX6_content_13 : decode cX6_content 13 = .ok (.iadd, 1) := by decide +kernel
theorem dX6_content_14 : decode cX6_content 14 = .ok (.goto 7, 3) := by decide +kernel
theorem dX6_content_17 : decode cX6_content 17 = .ok (.aload_n 0, 1) := by decide +kernel
theorem dX6_content_18 : decode cX6_content 18 = .ok (.getfield 9, 3) := by decide +kernel
theorem dX6_content_21 : decode cX6_content 21 = .ok (.ireturn, 1) := by decide +kernel
theorem dX6_holdRow_0 : decode cX6_holdRow 0 = .ok (.aload_n 0, 1) := by decide +kernel
theorem dX6_holdRow_1 : decode cX6_holdRow 1 = .ok (.iconst (-1), 1) := by decide +kernel
theorem dX6_holdRow_2 : decode cX6_holdRow 2 = .ok (.putfield 9, 3) := by decide +kernel
theorem dX6_holdRow_5 : decode cX6_holdRow 5 = .ok (.aload_n 0, 1) := by decide +kernel
theorem dX6_holdRow_6 : decode cX6_holdRow 6 = .ok (.iload_n 1, 1) := by decide +kernel
theorem dX6_holdRow_7 : decode cX6_holdRow 7 = .ok (.putfield 15, 3) := by decide +kernel
theorem dX6_holdRow_10 : decode cX6_holdRow 10 = .ok (.aload_n 0, 1) := by decide +kernel
theorem dX6_holdRow_11 : decode cX6_holdRow 11 = .ok (.iload_n 2, 1) := by decide +kernel
theorem dX6_holdRow_12 : decode cX6_holdRow 12 = .ok (.putfield 26, 3) := by decide +kernel
theorem dX6_holdRow_15 : decode cX6_holdRow 15 = .ok (.aload_n 0, 1) := by decide +kernel
theorem dX6_holdRow_16 : decode cX6_holdRow 16 = .ok (.getfield 18, 3) := by decide +kernel
theorem dX6_holdRow_19 : decode cX6_holdRow 19 = .ok (.lconst 0, 1) := by decide +kernel
theorem dX6_holdRow_20 : decode cX6_holdRow 20 = .ok (.invokestatic 29, 3) := by decide +kernel
theorem dX6_holdRow_23 : decode cX6_holdRow 23 = .ok (.return_, 1) := by decide +kernel
theorem dX6_holdCounter_0 : decode cX6_holdCounter 0 = .ok (.aload_n 0, 1) := by decide +kernel
theorem dX6_holdCounter_1 : decode cX6_holdCounter 1 = .ok (.iload_n 1, 1) := by decide +kernel
theorem dX6_holdCounter_2 : decode cX6_holdCounter 2 = .ok (.putfield 9, 3) := by decide +kernel
theorem dX6_holdCounter_5 : decode cX6_holdCounter 5 = .ok (.aload_n 0, 1) := by decide +kernel
theorem dX6_holdCounter_6 : decode cX6_holdCounter 6 = .ok (.iconst (-1), 1) := by decide +kernel
theorem dX6_holdCounter_7 : decode cX6_holdCounter 7 = .ok (.putfield 15, 3) := by decide +kernel
theorem dX6_holdCounter_10 : decode cX6_holdCounter 10 = .ok (.aload_n 0, 1) := by decide +kernel
theorem dX6_holdCounter_11 : decode cX6_holdCounter 11 = .ok (.iconst 0, 1) := by decide +kernel
theorem dX6_holdCounter_12 : decode cX6_holdCounter 12 = .ok (.putfield 26, 3) := by decide +kernel
theorem dX6_holdCounter_15 : decode cX6_holdCounter 15 = .ok (.return_, 1) := by decide +kernel
theorem dX6_hasElement_0 : decode cX6_hasElement 0 = .ok (.iload_n 1, 1) := by decide +kernel
theorem dX6_hasElement_1 : decode cX6_hasElement 1 = .ok (.ifCond .lt 15, 3) := by decide +kernel
theorem dX6_hasElement_4 : decode cX6_hasElement 4 = .ok (.iload_n 1, 1) := by decide +kernel
theorem dX6_hasElement_5 : decode cX6_hasElement 5 = .ok (.aload_n 0, 1) := by decide +kernel
theorem dX6_hasElement_6 : decode cX6_hasElement 6 = .ok (.getfield 26, 3) := by decide +kernel
theorem dX6_hasElement_9 : decode cX6_hasElement 9 = .ok (.if_icmp .ge 7, 3) := by decide +kernel
theorem dX6_hasElement_12 : decode cX6_hasElement 12 = .ok (.iconst 1, 1) := by decide +kernel
theorem dX6_hasElement_13 : decode cX6_hasElement 13 = .ok (.goto 4, 3) := by decide +kernel
theorem dX6_hasElement_16 : decode cX6_hasElement 16 = .ok (.iconst 0, 1) := by decide +kernel
theorem dX6_hasElement_17 : decode cX6_hasElement 17 = .ok (.ireturn, 1) := by decide +kernel
theorem dX6_hasPart_0 : decode cX6_hasPart 0 = .ok (.iload_n 1, 1) := by decide +kernel
theorem dX6_hasPart_1 : decode cX6_hasPart 1 = .ok (.ifCond .lt 21, 3) := by decide +kernel
theorem dX6_hasPart_4 : decode cX6_hasPart 4 = .ok (.iload_n 2, 1) := by decide +kernel
theorem dX6_hasPart_5 : decode cX6_hasPart 5 = .ok (.ifCond .lt 17, 3) := by decide +kernel
theorem dX6_hasPart_8 : decode cX6_hasPart 8 = .ok (.iload_n 2, 1) := by decide +kernel
theorem dX6_hasPart_9 : decode cX6_hasPart 9 = .ok (.aload_n 0, 1) := by decide +kernel
theorem dX6_hasPart_10 : decode cX6_hasPart 10 = .ok (.getfield 26, 3) := by decide +kernel
theorem dX6_hasPart_13 : decode cX6_hasPart 13 = .ok (.iload_n 1, 1) := by decide +kernel
theorem dX6_hasPart_14 : decode cX6_hasPart 14 = .ok (.isub, 1) := by decide +kernel
theorem dX6_hasPart_15 : decode cX6_hasPart 15 = .ok (.if_icmp .gt 7, 3) := by decide +kernel
theorem dX6_hasPart_18 : decode cX6_hasPart 18 = .ok (.iconst 1, 1) := by decide +kernel
theorem dX6_hasPart_19 : decode cX6_hasPart 19 = .ok (.goto 4, 3) := by decide +kernel
theorem dX6_hasPart_22 : decode cX6_hasPart 22 = .ok (.iconst 0, 1) := by decide +kernel
theorem dX6_hasPart_23 : decode cX6_hasPart 23 = .ok (.ireturn, 1) := by decide +kernel
theorem dX6_elementAt_0 : decode cX6_elementAt 0 = .ok (.aload_n 0, 1) := by decide +kernel
theorem dX6_elementAt_1 : decode cX6_elementAt 1 = .ok (.iload_n 1, 1) := by decide +kernel
theorem dX6_elementAt_2 : decode cX6_elementAt 2 = .ok (.invokevirtual 35, 3) := by decide +kernel
theorem dX6_elementAt_5 : decode cX6_elementAt 5 = .ok (.ifCond .eq 12, 3) := by decide +kernel
theorem dX6_elementAt_8 : decode cX6_elementAt 8 = .ok (.aload_n 0, 1) := by decide +kernel
theorem dX6_elementAt_9 : decode cX6_elementAt 9 = .ok (.getfield 18, 3) := by decide +kernel
theorem dX6_elementAt_12 : decode cX6_elementAt 12 = .ok (.iload_n 1, 1) := by decide +kernel
theorem dX6_elementAt_13 : decode cX6_elementAt 13 = .ok (.laload, 1) := by decide +kernel
theorem dX6_elementAt_14 : decode cX6_elementAt 14 = .ok (.goto 4, 3) := by decide +kernel
theorem dX6_elementAt_17 : decode cX6_elementAt 17 = .ok (.lconst 0, 1) := by decide +kernel
theorem dX6_elementAt_18 : decode cX6_elementAt 18 = .ok (.lreturn, 1) := by decide +kernel
theorem dX6_intAt_0 : decode cX6_intAt 0 = .ok (.aload_n 0, 1) := by decide +kernel
theorem dX6_intAt_1 : decode cX6_intAt 1 = .ok (.iload_n 1, 1) := by decide +kernel
theorem dX6_intAt_2 : decode cX6_intAt 2 = .ok (.invokevirtual 39, 3) := by decide +kernel
theorem dX6_intAt_5 : decode cX6_intAt 5 = .ok (.l2i, 1) := by decide +kernel
theorem dX6_intAt_6 : decode cX6_intAt 6 = .ok (.ireturn, 1) := by decide +kernel
theorem dX6_become_0 : decode cX6_become 0 = .ok (.aload_n 0, 1) := by decide +kernel
theorem dX6_become_1 : decode cX6_become 1 = .ok (.iload_n 1, 1) := by decide +kernel
theorem dX6_become_2 : decode cX6_become 2 = .ok (.invokevirtual 35, 3) := by decide +kernel
theorem dX6_become_5 : decode cX6_become 5 = .ok (.ifCond .ne 4, 3) := by decide +kernel
theorem dX6_become_8 : decode cX6_become 8 = .ok (.return_, 1) := by decide +kernel
theorem dX6_become_9 : decode cX6_become 9 = .ok (.aload_n 0, 1) := by decide +kernel
theorem dX6_become_10 : decode cX6_become 10 = .ok (.getfield 15, 3) := by decide +kernel
theorem dX6_become_13 : decode cX6_become 13 = .ok (.tableswitch 65 0 2 #[27, 40, 53], 27) := by decide +kernel
theorem dX6_become_40 : decode cX6_become 40 = .ok (.aload_n 0, 1) := by decide +kernel
theorem dX6_become_41 : decode cX6_become 41 = .ok (.getfield 18, 3) := by decide +kernel
theorem dX6_become_44 : decode cX6_become 44 = .ok (.iload_n 1, 1) := by decide +kernel
theorem dX6_become_45 : decode cX6_become 45 = .ok (.lload_n 2, 1) := by decide +kernel
theorem dX6_become_46 : decode cX6_become 46 = .ok (.l2i, 1) := by decide +kernel
theorem dX6_become_47 : decode cX6_become 47 = .ok (.i2b, 1) := by decide +kernel
theorem dX6_become_48 : decode cX6_become 48 = .ok (.i2l, 1) := by decide +kernel
theorem dX6_become_49 : decode cX6_become 49 = .ok (.lastore, 1) := by decide +kernel
theorem dX6_become_50 : decode cX6_become 50 = .ok (.goto 35, 3) := by decide +kernel
theorem dX6_become_53 : decode cX6_become 53 = .ok (.aload_n 0, 1) := by decide +kernel
theorem dX6_become_54 : decode cX6_become 54 = .ok (.getfield 18, 3) := by decide +kernel
theorem dX6_become_57 : decode cX6_become 57 = .ok (.iload_n 1, 1) := by decide +kernel
theorem dX6_become_58 : decode cX6_become 58 = .ok (.lload_n 2, 1) := by decide +kernel
theorem dX6_become_59 : decode cX6_become 59 = .ok (.l2i, 1) := by decide +kernel
theorem dX6_become_60 : decode cX6_become 60 = .ok (.i2s, 1) := by decide +kernel
theorem dX6_become_61 : decode cX6_become 61 = .ok (.i2l, 1) := by decide +kernel
theorem dX6_become_62 : decode cX6_become 62 = .ok (.lastore, 1) := by decide +kernel
theorem dX6_become_63 : decode cX6_become 63 = .ok (.goto 22, 3) := by decide +kernel
theorem dX6_become_66 : decode cX6_become 66 = .ok (.aload_n 0, 1) := by decide +kernel
theorem dX6_become_67 : decode cX6_become 67 = .ok (.getfield 18, 3) := by decide +kernel
theorem dX6_become_70 : decode cX6_become 70 = .ok (.iload_n 1, 1) := by decide +kernel
theorem dX6_become_71 : decode cX6_become 71 = .ok (.lload_n 2, 1) := by decide +kernel
theorem dX6_become_72 : decode cX6_become 72 = .ok (.l2i, 1) := by decide +kernel
theorem dX6_become_73 : decode cX6_become 73 = .ok (.i2l, 1) := by decide +kernel
theorem dX6_become_74 : decode cX6_become 74 = .ok (.lastore, 1) := by decide +kernel
theorem dX6_become_75 : decode cX6_become 75 = .ok (.goto 10, 3) := by decide +kernel
theorem dX6_become_78 : decode cX6_become 78 = .ok (.aload_n 0, 1) := by decide +kernel
theorem dX6_become_79 : decode cX6_become 79 = .ok (.getfield 18, 3) := by decide +kernel
theorem dX6_become_82 : decode cX6_become 82 = .ok (.iload_n 1, 1) := by decide +kernel
theorem dX6_become_83 : decode cX6_become 83 = .ok (.lload_n 2, 1) := by decide +kernel
theorem dX6_become_84 : decode cX6_become 84 = .ok (.lastore, 1) := by decide +kernel
theorem dX6_become_85 : decode cX6_become 85 = .ok (.return_, 1) := by decide +kernel
theorem dX6_takePart_0 : decode cX6_takePart 0 = .ok (.aload_n 1, 1) := by decide +kernel
theorem dX6_takePart_1 : decode cX6_takePart 1 = .ok (.iload_n 2, 1) := by decide +kernel
theorem dX6_takePart_2 : decode cX6_takePart 2 = .ok (.iload 4, 2) := by decide +kernel
theorem dX6_takePart_4 : decode cX6_takePart 4 = .ok (.invokevirtual 43, 3) := by decide +kernel
theorem dX6_takePart_7 : decode cX6_takePart 7 = .ok (.ifCond .eq 28, 3) := by decide +kernel
theorem dX6_takePart_10 : decode cX6_takePart 10 = .ok (.aload_n 0, 1) := by decide +kernel
theorem dX6_takePart_11 : decode cX6_takePart 11 = .ok (.iload_n 3, 1) := by decide +kernel
theorem dX6_takePart_12 : decode cX6_takePart 12 = .ok (.iload 4, 2) := by decide +kernel
theorem dX6_takePart_14 : decode cX6_takePart 14 = .ok (.invokevirtual 43, 3) := by decide +kernel
theorem dX6_takePart_17 : decode cX6_takePart 17 = .ok (.ifCond .eq 18, 3) := by decide +kernel
theorem dX6_takePart_20 : decode cX6_takePart 20 = .ok (.aload_n 1, 1) := by decide +kernel
theorem dX6_takePart_21 : decode cX6_takePart 21 = .ok (.getfield 18, 3) := by decide +kernel
theorem dX6_takePart_24 : decode cX6_takePart 24 = .ok (.iload_n 2, 1) := by decide +kernel
theorem dX6_takePart_25 : decode cX6_takePart 25 = .ok (.aload_n 0, 1) := by decide +kernel
theorem dX6_takePart_26 : decode cX6_takePart 26 = .ok (.getfield 18, 3) := by decide +kernel
theorem dX6_takePart_29 : decode cX6_takePart 29 = .ok (.iload_n 3, 1) := by decide +kernel
theorem dX6_takePart_30 : decode cX6_takePart 30 = .ok (.iload 4, 2) := by decide +kernel
theorem dX6_takePart_32 : decode cX6_takePart 32 = .ok (.invokestatic 47, 3) := by decide +kernel
theorem dX6_takePart_35 : decode cX6_takePart 35 = .ok (.return_, 1) := by decide +kernel
theorem dX7_init_0 : decode cX7_init 0 = .ok (.aload_n 0, 1) := by decide +kernel
theorem dX7_init_1 : decode cX7_init 1 = .ok (.invokespecial 3, 3) := by decide +kernel
theorem dX7_init_4 : decode cX7_init 4 = .ok (.aload_n 0, 1) := by decide +kernel
theorem dX7_init_5 : decode cX7_init 5 = .ok (.new 9, 3) := by decide +kernel
theorem dX7_init_8 : decode cX7_init 8 = .ok (.dup, 1) := by decide +kernel
theorem dX7_init_9 : decode cX7_init 9 = .ok (.invokespecial 11, 3) := by decide +kernel
theorem dX7_init_12 : decode cX7_init 12 = .ok (.putfield 12, 3) := by decide +kernel
theorem dX7_init_15 : decode cX7_init 15 = .ok (.aload_n 0, 1) := by decide +kernel
theorem dX7_init_16 : decode cX7_init 16 = .ok (.bipush 40, 2) := by decide +kernel
theorem dX7_init_18 : decode cX7_init 18 = .ok (.newarray .int, 2) := by decide +kernel
theorem dX7_init_20 : decode cX7_init 20 = .ok (.putfield 18, 3) := by decide +kernel
theorem dX7_init_23 : decode cX7_init 23 = .ok (.return_, 1) := by decide +kernel
theorem dX7_begin_0 : decode cX7_begin 0 = .ok (.aload_n 0, 1) := by decide +kernel
theorem dX7_begin_1 : decode cX7_begin 1 = .ok (.getfield 12, 3) := by decide +kernel
theorem dX7_begin_4 : decode cX7_begin 4 = .ok (.aload_n 1, 1) := by decide +kernel
theorem dX7_begin_5 : decode cX7_begin 5 = .ok (.getfield 22, 3) := by decide +kernel
theorem dX7_begin_8 : decode cX7_begin 8 = .ok (.iload_n 2, 1) := by decide +kernel
theorem dX7_begin_9 : decode cX7_begin 9 = .ok (.aaload, 1) := by decide +kernel
theorem dX7_begin_10 : decode cX7_begin 10 = .ok (.invokevirtual 28, 3) := by decide +kernel
theorem dX7_begin_13 : decode cX7_begin 13 = .ok (.aload_n 0, 1) := by decide +kernel
theorem dX7_begin_14 : decode cX7_begin 14 = .ok (.aload_n 1, 1) := by decide +kernel
theorem dX7_begin_15 : decode cX7_begin 15 = .ok (.getfield 32, 3) := by decide +kernel
theorem dX7_begin_18 : decode cX7_begin 18 = .ok (.putfield 36, 3) := by decide +kernel
theorem dX7_begin_21 : decode cX7_begin 21 = .ok (.aload_n 0, 1) := by decide +kernel
theorem dX7_begin_22 : decode cX7_begin 22 = .ok (.aload_n 1, 1) := by decide +kernel
theorem dX7_begin_23 : decode cX7_begin 23 = .ok (.getfield 37, 3) := by decide +kernel
theorem dX7_begin_26 : decode cX7_begin 26 = .ok (.putfield 40, 3) := by decide +kernel
theorem dX7_begin_29 : decode cX7_begin 29 = .ok (.aload_n 0, 1) := by decide +kernel
theorem dX7_begin_30 : decode cX7_begin 30 = .ok (.iload 4, 2) := by decide +kernel
theorem dX7_begin_32 : decode cX7_begin 32 = .ok (.aload_n 0, 1) := by decide +kernel
theorem dX7_begin_33 : decode cX7_begin 33 = .ok (.getfield 18, 3) := by decide +kernel
theorem dX7_begin_36 : decode cX7_begin 36 = .ok (.arraylength, 1) := by decide +kernel
theorem dX7_begin_37 : decode cX7_begin 37 = .ok (.invokestatic 41, 3) := by decide +kernel
theorem dX7_begin_40 : decode cX7_begin 40 = .ok (.putfield 47, 3) := by decide +kernel
theorem dX7_begin_43 : decode cX7_begin 43 = .ok (.iconst 0, 1) := by decide +kernel
theorem dX7_begin_44 : decode cX7_begin 44 = .ok (.istore 5, 2) := by decide +kernel
theorem dX7_begin_46 : decode cX7_begin 46 = .ok (.iload 5, 2) := by decide +kernel
theorem dX7_begin_48 : decode cX7_begin 48 = .ok (.aload_n 0, 1) := by decide +kernel
theorem dX7_begin_49 : decode cX7_begin 49 = .ok (.getfield 47, 3) := by decide +kernel
theorem dX7_begin_52 : decode cX7_begin 52 = .ok (.if_icmp .ge 22, 3) := by decide +kernel
theorem dX7_begin_55 : decode cX7_begin 55 = .ok (.aload_n 0, 1) := by decide +kernel
theorem dX7_begin_56 : decode cX7_begin 56 = .ok (.getfield 18, 3) := by decide +kernel
theorem dX7_begin_59 : decode cX7_begin 59 = .ok (.iload 5, 2) := by decide +kernel
theorem dX7_begin_61 : decode cX7_begin 61 = .ok (.aload_n 3, 1) := by decide +kernel
theorem dX7_begin_62 : decode cX7_begin 62 = .ok (.iload 5, 2) := by decide +kernel
theorem dX7_begin_64 : decode cX7_begin 64 = .ok (.invokevirtual 50, 3) := by decide +kernel
theorem dX7_begin_67 : decode cX7_begin 67 = .ok (.iastore, 1) := by decide +kernel
theorem dX7_begin_68 : decode cX7_begin 68 = .ok (.iinc 5 1, 3) := by decide +kernel
theorem dX7_begin_71 : decode cX7_begin 71 = .ok (.goto (-25), 3) := by decide +kernel
theorem dX7_begin_74 : decode cX7_begin 74 = .ok (.aload_n 0, 1) := by decide +kernel
theorem dX7_begin_75 : decode cX7_begin 75 = .ok (.iconst 0, 1) := by decide +kernel
theorem dX7_begin_76 : decode cX7_begin 76 = .ok (.putfield 56, 3) := by decide +kernel
theorem dX7_begin_79 : decode cX7_begin 79 = .ok (.aload_n 0, 1) := by decide +kernel
theorem dX7_begin_80 : decode cX7_begin 80 = .ok (.iconst 0, 1) := by decide +kernel
theorem dX7_begin_81 : decode cX7_begin 81 = .ok (.putfield 59, 3) := by decide +kernel
theorem dX7_begin_84 : decode cX7_begin 84 = .ok (.return_, 1) := by decide +kernel
theorem dX7_step_0 : decode cX7_step 0 = .ok (.aload_n 0, 1) := by decide +kernel
theorem dX7_step_1 : decode cX7_step 1 = .ok (.dup, 1) := by decide +kernel
theorem dX7_step_2 : decode cX7_step 2 = .ok (.getfield 59, 3) := by decide +kernel
theorem dX7_step_5 : decode cX7_step 5 = .ok (.iconst 1, 1) := by decide +kernel
theorem dX7_step_6 : decode cX7_step 6 = .ok (.iadd, 1) := by decide +kernel
theorem dX7_step_7 : decode cX7_step 7 = .ok (.putfield 59, 3) := by decide +kernel
theorem dX7_step_10 : decode cX7_step 10 = .ok (.aload_n 0, 1) := by decide +kernel
theorem dX7_step_11 : decode cX7_step 11 = .ok (.getfield 56, 3) := by decide +kernel
theorem dX7_step_14 : decode cX7_step 14 = .ok (.aload_n 0, 1) := by decide +kernel
theorem dX7_step_15 : decode cX7_step 15 = .ok (.getfield 47, 3) := by decide +kernel
theorem dX7_step_18 : decode cX7_step 18 = .ok (.if_icmp .ge 23, 3) := by decide +kernel
theorem dX7_step_21 : decode cX7_step 21 = .ok (.aload_n 0, 1) := by decide +kernel
theorem dX7_step_22 : decode cX7_step 22 = .ok (.getfield 18, 3) := by decide +kernel
theorem dX7_step_25 : decode cX7_step 25 = .ok (.aload_n 0, 1) := by decide +kernel
theorem dX7_step_26 : decode cX7_step 26 = .ok (.getfield 56, 3) := by decide +kernel
theorem dX7_step_29 : decode cX7_step 29 = .ok (.iaload, 1) := by decide +kernel
theorem dX7_step_30 : decode cX7_step 30 = .ok (.aload_n 0, 1) := by decide +kernel
theorem dX7_step_31 : decode cX7_step 31 = .ok (.getfield 59, 3) := by decide +kernel
theorem dX7_step_34 : decode cX7_step 34 = .ok (.if_icmp .ne 7, 3) := by decide +kernel
theorem dX7_step_37 : decode cX7_step 37 = .ok (.iconst 1, 1) := by decide +kernel
theorem dX7_step_38 : decode cX7_step 38 = .ok (.goto 4, 3) := by decide +kernel
theorem dX7_step_41 : decode cX7_step 41 = .ok (.iconst 0, 1) := by decide +kernel
theorem dX7_step_42 : decode cX7_step 42 = .ok (.istore_n 1, 1) := by decide +kernel
theorem dX7_step_43 : decode cX7_step 43 = .ok (.iload_n 1, 1) := by decide +kernel
theorem dX7_step_44 : decode cX7_step 44 = .ok (.ifCond .eq 13, 3) := by decide +kernel
theorem dX7_step_47 : decode cX7_step 47 = .ok (.aload_n 0, 1) := by decide +kernel
theorem dX7_step_48 : decode cX7_step 48 = .ok (.dup, 1) := by decide +kernel
theorem dX7_step_49 : decode cX7_step 49 = .ok (.getfield 56, 3) := by decide +kernel
theorem dX7_step_52 : decode cX7_step 52 = .ok (.iconst 1, 1) := by decide +kernel
theorem dX7_step_53 : decode cX7_step 53 = .ok (.iadd, 1) := by decide +kernel
theorem dX7_step_54 : decode cX7_step 54 = .ok (.putfield 56, 3) := by decide +kernel
theorem dX7_step_57 : decode cX7_step 57 = .ok (.aload_n 0, 1) := by decide +kernel
theorem dX7_step_58 : decode cX7_step 58 = .ok (.getfield 12, 3) := by decide +kernel
theorem dX7_step_61 : decode cX7_step 61 = .ok (.getfield 62, 3) := by decide +kernel
theorem dX7_step_64 : decode cX7_step 64 = .ok (.aload_n 0, 1) := by decide +kernel
theorem dX7_step_65 : decode cX7_step 65 = .ok (.getfield 36, 3) := by decide +kernel
theorem dX7_step_68 : decode cX7_step 68 = .ok (.if_icmp .lt 4, 3) := by decide +kernel
theorem dX7_step_71 : decode cX7_step 71 = .ok (.return_, 1) := by decide +kernel
theorem dX7_step_72 : decode cX7_step 72 = .ok (.iload_n 1, 1) := by decide +kernel
theorem dX7_step_73 : decode cX7_step 73 = .ok (.ifCond .eq 17, 3) := by decide +kernel
theorem dX7_step_76 : decode cX7_step 76 = .ok (.aload_n 0, 1) := by decide +kernel
theorem dX7_step_77 : decode cX7_step 77 = .ok (.getfield 12, 3) := by decide +kernel
theorem dX7_step_80 : decode cX7_step 80 = .ok (.aload_n 0, 1) := by decide +kernel
theorem dX7_step_81 : decode cX7_step 81 = .ok (.getfield 40, 3) := by decide +kernel
theorem dX7_step_84 : decode cX7_step 84 = .ok (.invokevirtual 65, 3) := by decide +kernel
theorem dX7_step_87 : decode cX7_step 87 = .ok (.goto 16, 3) := by decide +kernel
theorem dX7_step_90 : decode cX7_step 90 = .ok (.aload_n 0, 1) := by decide +kernel
theorem dX7_step_91 : decode cX7_step 91 = .ok (.getfield 12, 3) := by decide +kernel
theorem dX7_step_94 : decode cX7_step 94 = .ok (.dup, 1) := by decide +kernel
theorem dX7_step_95 : decode cX7_step 95 = .ok (.getfield 62, 3) := by decide +kernel
theorem dX7_step_98 : decode cX7_step 98 = .ok (.iconst 1, 1) := by decide +kernel
theorem dX7_step_99 : decode cX7_step 99 = .ok (.iadd, 1) := by decide +kernel
theorem dX7_step_100 : decode cX7_step 100 = .ok (.putfield 62, 3) := by decide +kernel
theorem dX7_step_103 : decode cX7_step 103 = .ok (.return_, 1) := by decide +kernel
theorem dX7_untilThrough_0 : decode cX7_untilThrough 0 = .ok (.iconst 0, 1) := by decide +kernel
theorem dX7_untilThrough_1 : decode cX7_untilThrough 1 = .ok (.istore_n 1, 1) := by decide +kernel
theorem dX7_untilThrough_2 : decode cX7_untilThrough 2 = .ok (.iload_n 1, 1) := by decide +kernel
theorem dX7_untilThrough_3 : decode cX7_untilThrough 3 = .ok (.sipush 400, 3) := by decide +kernel
theorem dX7_untilThrough_6 : decode cX7_untilThrough 6 = .ok (.if_icmp .gt 29, 3) := by decide +kernel
theorem dX7_untilThrough_9 : decode cX7_untilThrough 9 = .ok (.aload_n 0, 1) := by decide +kernel
theorem dX7_untilThrough_10 : decode cX7_untilThrough 10 = .ok (.getfield 12, 3) := by decide +kernel
theorem dX7_untilThrough_13 : decode cX7_untilThrough 13 = .ok (.getfield 62, 3) := by decide +kernel
theorem dX7_untilThrough_16 : decode cX7_untilThrough 16 = .ok (.aload_n 0, 1) := by decide +kernel
theorem dX7_untilThrough_17 : decode cX7_untilThrough 17 = .ok (.getfield 36, 3) := by decide +kernel
theorem dX7_untilThrough_20 : decode cX7_untilThrough 20 = .ok (.if_icmp .lt 5, 3) := by decide +kernel
theorem dX7_untilThrough_23 : decode cX7_untilThrough 23 = .ok (.iload_n 1, 1) := by decide +kernel
theorem dX7_untilThrough_24 : decode cX7_untilThrough 24 = .ok (.ireturn, 1) := by decide +kernel
theorem dX7_untilThrough_25 : decode cX7_untilThrough 25 = .ok (.aload_n 0, 1) := by decide +kernel
theorem dX7_untilThrough_26 : decode cX7_untilThrough 26 = .ok (.invokevirtual 69, 3) := by decide +kernel
theorem dX7_untilThrough_29 : decode cX7_untilThrough 29 = .ok (.iinc 1 1, 3) := by decide +kernel
theorem dX7_untilThrough_32 : decode cX7_untilThrough 32 = .ok (.goto (-30), 3) := by decide +kernel
theorem dX7_untilThrough_35 : decode cX7_untilThrough 35 = .ok (.iconst (-1), 1) := by decide +kernel
theorem dX7_untilThrough_36 : decode cX7_untilThrough 36 = .ok (.ireturn, 1) := by decide +kernel
theorem dX8_init_0 : decode cX8_init 0 = .ok (.aload_n 0, 1) := by decide +kernel
theorem dX8_init_1 : decode cX8_init 1 = .ok (.invokespecial 1, 3) := by decide +kernel
theorem dX8_init_4 : decode cX8_init 4 = .ok (.aload_n 0, 1) := by decide +kernel
theorem dX8_init_5 : decode cX8_init 5 = .ok (.new 7, 3) := by decide +kernel
theorem dX8_init_8 : decode cX8_init 8 = .ok (.dup, 1) := by decide +kernel
theorem dX8_init_9 : decode cX8_init 9 = .ok (.invokespecial 9, 3) := by decide +kernel
theorem dX8_init_12 : decode cX8_init 12 = .ok (.putfield 10, 3) := by decide +kernel
theorem dX8_init_15 : decode cX8_init 15 = .ok (.aload_n 0, 1) := by decide +kernel
theorem dX8_init_16 : decode cX8_init 16 = .ok (.new 7, 3) := by decide +kernel
theorem dX8_init_19 : decode cX8_init 19 = .ok (.dup, 1) := by decide +kernel
theorem dX8_init_20 : decode cX8_init 20 = .ok (.invokespecial 9, 3) := by decide +kernel
theorem dX8_init_23 : decode cX8_init 23 = .ok (.putfield 16, 3) := by decide +kernel
theorem dX8_init_26 : decode cX8_init 26 = .ok (.aload_n 0, 1) := by decide +kernel
theorem dX8_init_27 : decode cX8_init 27 = .ok (.new 19, 3) := by decide +kernel
theorem dX8_init_30 : decode cX8_init 30 = .ok (.dup, 1) := by decide +kernel
theorem dX8_init_31 : decode cX8_init 31 = .ok (.invokespecial 21, 3) := by decide +kernel
theorem dX8_init_34 : decode cX8_init 34 = .ok (.putfield 22, 3) := by decide +kernel
theorem dX8_init_37 : decode cX8_init 37 = .ok (.aload_n 0, 1) := by decide +kernel
theorem dX8_init_38 : decode cX8_init 38 = .ok (.iconst (-1), 1) := by decide +kernel
theorem dX8_init_39 : decode cX8_init 39 = .ok (.putfield 26, 3) := by decide +kernel
theorem dX8_init_42 : decode cX8_init 42 = .ok (.aload_n 0, 1) := by decide +kernel
theorem dX8_init_43 : decode cX8_init 43 = .ok (.bipush 8, 2) := by decide +kernel
theorem dX8_init_45 : decode cX8_init 45 = .ok (.anewarray 30, 3) := by decide +kernel
theorem dX8_init_48 : decode cX8_init 48 = .ok (.putfield 32, 3) := by decide +kernel
theorem dX8_init_51 : decode cX8_init 51 = .ok (.aload_n 0, 1) := by decide +kernel
theorem dX8_init_52 : decode cX8_init 52 = .ok (.bipush 8, 2) := by decide +kernel
theorem dX8_init_54 : decode cX8_init 54 = .ok (.newarray .int, 2) := by decide +kernel
theorem dX8_init_56 : decode cX8_init 56 = .ok (.putfield 36, 3) := by decide +kernel
theorem dX8_init_59 : decode cX8_init 59 = .ok (.aload_n 0, 1) := by decide +kernel
theorem dX8_init_60 : decode cX8_init 60 = .ok (.new 40, 3) := by decide +kernel
theorem dX8_init_63 : decode cX8_init 63 = .ok (.dup, 1) := by decide +kernel
theorem dX8_init_64 : decode cX8_init 64 = .ok (.invokespecial 42, 3) := by decide +kernel
theorem dX8_init_67 : decode cX8_init 67 = .ok (.putfield 43, 3) := by decide +kernel
theorem dX8_init_70 : decode cX8_init 70 = .ok (.aload_n 0, 1) := by decide +kernel
theorem dX8_init_71 : decode cX8_init 71 = .ok (.new 47, 3) := by decide +kernel
theorem dX8_init_74 : decode cX8_init 74 = .ok (.dup, 1) := by decide +kernel
theorem dX8_init_75 : decode cX8_init 75 = .ok (.invokespecial 49, 3) := by decide +kernel
theorem dX8_init_78 : decode cX8_init 78 = .ok (.putfield 50, 3) := by decide +kernel
theorem dX8_init_81 : decode cX8_init 81 = .ok (.aload_n 0, 1) := by decide +kernel
theorem dX8_init_82 : decode cX8_init 82 = .ok (.new 54, 3) := by decide +kernel
theorem dX8_init_85 : decode cX8_init 85 = .ok (.dup, 1) := by decide +kernel
theorem dX8_init_86 : decode cX8_init 86 = .ok (.invokespecial 56, 3) := by decide +kernel
theorem dX8_init_89 : decode cX8_init 89 = .ok (.putfield 57, 3) := by decide +kernel
theorem dX8_init_92 : decode cX8_init 92 = .ok (.aload_n 0, 1) := by decide +kernel
theorem dX8_init_93 : decode cX8_init 93 = .ok (.new 61, 3) := by decide +kernel
theorem dX8_init_96 : decode cX8_init 96 = .ok (.dup, 1) := by decide +kernel
theorem dX8_init_97 : decode cX8_init 97 = .ok (.invokespecial 63, 3) := by decide +kernel
theorem dX8_init_100 : decode cX8_init 100 = .ok (.putfield 64, 3) := by decide +kernel
theorem dX8_init_103 : decode cX8_init 103 = .ok (.aload_n 0, 1) := by decide +kernel
theorem dX8_init_104 : decode cX8_init 104 = .ok (.sipush 201, 3) := by decide +kernel
theorem dX8_init_107 : decode cX8_init 107 = .ok (.newarray .int, 2) := by decide +kernel
theorem dX8_init_109 : decode cX8_init 109 = .ok (.putfield 68, 3) := by decide +kernel
theorem dX8_init_112 : decode cX8_init 112 = .ok (.aload_n 0, 1) := by decide +kernel
theorem dX8_init_113 : decode cX8_init 113 = .ok (.sipush 201, 3) := by decide +kernel
theorem dX8_init_116 : decode cX8_init 116 = .ok (.newarray .int, 2) := by decide +kernel
theorem dX8_init_118 : decode cX8_init 118 = .ok (.putfield 71, 3) := by decide +kernel
theorem dX8_init_121 : decode cX8_init 121 = .ok (.aload_n 0, 1) := by decide +kernel
theorem dX8_init_122 : decode cX8_init 122 = .ok (.new 74, 3) := by decide +kernel
theorem dX8_init_125 : decode cX8_init 125 = .ok (.dup, 1) := by decide +kernel
theorem dX8_init_126 : decode cX8_init 126 = .ok (.invokespecial 76, 3) := by decide +kernel
theorem dX8_init_129 : decode cX8_init 129 = .ok (.putfield 77, 3) := by decide +kernel
theorem dX8_init_132 : decode cX8_init 132 = .ok (.iconst 0, 1) := by decide +kernel
theorem dX8_init_133 : decode cX8_init 133 = .ok (.istore_n 1, 1) := by decide +kernel
theorem dX8_init_134 : decode cX8_init 134 = .ok (.iload_n 1, 1) := by decide +kernel
theorem dX8_init_135 : decode cX8_init 135 = .ok (.aload_n 0, 1) := by decide +kernel
theorem dX8_init_136 : decode cX8_init 136 = .ok (.getfield 32, 3) := by decide +kernel
theorem dX8_init_139 : decode cX8_init 139 = .ok (.arraylength, 1) := by decide +kernel
theorem dX8_init_140 : decode cX8_init 140 = .ok (.if_icmp .ge 22, 3) := by decide +kernel
theorem dX8_init_143 : decode cX8_init 143 = .ok (.aload_n 0, 1) := by decide +kernel
theorem dX8_init_144 : decode cX8_init 144 = .ok (.getfield 32, 3) := by decide +kernel
theorem dX8_init_147 : decode cX8_init 147 = .ok (.iload_n 1, 1) := by decide +kernel
theorem dX8_init_148 : decode cX8_init 148 = .ok (.new 30, 3) := by decide +kernel
theorem dX8_init_151 : decode cX8_init 151 = .ok (.dup, 1) := by decide +kernel
theorem dX8_init_152 : decode cX8_init 152 = .ok (.invokespecial 81, 3) := by decide +kernel
theorem dX8_init_155 : decode cX8_init 155 = .ok (.aastore, 1) := by decide +kernel
theorem dX8_init_156 : decode cX8_init 156 = .ok (.iinc 1 1, 3) := by decide +kernel
theorem dX8_init_159 : decode cX8_init 159 = .ok (.goto (-25), 3) := by decide +kernel
theorem dX8_init_162 : decode cX8_init 162 = .ok (.return_, 1) := by decide +kernel
theorem dX8_row_0 : decode cX8_row 0 = .ok (.iload_n 1, 1) := by decide +kernel
theorem dX8_row_1 : decode cX8_row 1 = .ok (.invokestatic 82, 3) := by decide +kernel
theorem dX8_row_4 : decode cX8_row 4 = .ok (.ifCond .ne 9, 3) := by decide +kernel
theorem dX8_row_7 : decode cX8_row 7 = .ok (.aload_n 0, 1) := by decide +kernel
theorem dX8_row_8 : decode cX8_row 8 = .ok (.iconst (-1), 1) := by decide +kernel
theorem dX8_row_9 : decode cX8_row 9 = .ok (.invokevirtual 86, 3) := by decide +kernel
theorem dX8_row_12 : decode cX8_row 12 = .ok (.ireturn, 1) := by decide +kernel
theorem dX8_row_13 : decode cX8_row 13 = .ok (.iload_n 3, 1) := by decide +kernel
theorem dX8_row_14 : decode cX8_row 14 = .ok (.ifCond .ge 10, 3) := by decide +kernel
theorem dX8_row_17 : decode cX8_row 17 = .ok (.aload_n 0, 1) := by decide +kernel
theorem dX8_row_18 : decode cX8_row 18 = .ok (.bipush (-4), 2) := by decide +kernel
theorem dX8_row_20 : decode cX8_row 20 = .ok (.invokevirtual 86, 3) := by decide +kernel
theorem dX8_row_23 : decode cX8_row 23 = .ok (.ireturn, 1) := by decide +kernel
theorem dX8_row_24 : decode cX8_row 24 = .ok (.iload_n 2, 1) := by decide +kernel
theorem dX8_row_25 : decode cX8_row 25 = .ok (.ifCond .lt 8, 3) := by decide +kernel
theorem dX8_row_28 : decode cX8_row 28 = .ok (.iload_n 2, 1) := by decide +kernel
theorem dX8_row_29 : decode cX8_row 29 = .ok (.iconst 3, 1) := by decide +kernel
theorem dX8_row_30 : decode cX8_row 30 = .ok (.if_icmp .le 10, 3) := by decide +kernel
theorem dX8_row_33 : decode cX8_row 33 = .ok (.aload_n 0, 1) := by decide +kernel
theorem dX8_row_34 : decode cX8_row 34 = .ok (.bipush (-6), 2) := by decide +kernel
theorem dX8_row_36 : decode cX8_row 36 = .ok (.invokevirtual 86, 3) := by decide +kernel
theorem dX8_row_39 : decode cX8_row 39 = .ok (.ireturn, 1) := by decide +kernel
theorem dX8_row_40 : decode cX8_row 40 = .ok (.iload_n 3, 1) := by decide +kernel
theorem dX8_row_41 : decode cX8_row 41 = .ok (.sipush 160, 3) := by decide +kernel
theorem dX8_row_44 : decode cX8_row 44 = .ok (.if_icmp .le 10, 3) := by decide +kernel
theorem dX8_row_47 : decode cX8_row 47 = .ok (.aload_n 0, 1) := by decide +kernel
theorem dX8_row_48 : decode cX8_row 48 = .ok (.bipush (-7), 2) := by decide +kernel
theorem dX8_row_50 : decode cX8_row 50 = .ok (.invokevirtual 86, 3) := by decide +kernel
theorem dX8_row_53 : decode cX8_row 53 = .ok (.ireturn, 1) := by decide +kernel
theorem dX8_row_54 : decode cX8_row 54 = .ok (.aload_n 0, 1) := by decide +kernel
theorem dX8_row_55 : decode cX8_row 55 = .ok (.getfield 32, 3) := by decide +kernel
theorem dX8_row_58 : decode cX8_row 58 = .ok (.iload_n 1, 1) := by decide +kernel
theorem dX8_row_59 : decode cX8_row 59 = .ok (.aaload, 1) := by decide +kernel
theorem dX8_row_60 : decode cX8_row 60 = .ok (.iload_n 2, 1) := by decide +kernel
theorem dX8_row_61 : decode cX8_row 61 = .ok (.iload_n 3, 1) := by decide +kernel
theorem dX8_row_62 : decode cX8_row 62 = .ok (.invokevirtual 90, 3) := by decide +kernel
theorem dX8_row_65 : decode cX8_row 65 = .ok (.iconst 1, 1) := by decide +kernel
theorem dX8_row_66 : decode cX8_row 66 = .ok (.ireturn, 1) := by decide +kernel
theorem dX8_set_0 : decode cX8_set 0 = .ok (.aload_n 0, 1) := by decide +kernel
theorem dX8_set_1 : decode cX8_set 1 = .ok (.iload_n 1, 1) := by decide +kernel
theorem dX8_set_2 : decode cX8_set 2 = .ok (.invokevirtual 94, 3) := by decide +kernel
theorem dX8_set_5 : decode cX8_set 5 = .ok (.istore 5, 2) := by decide +kernel
theorem dX8_set_7 : decode cX8_set 7 = .ok (.iload 5, 2) := by decide +kernel
theorem dX8_set_9 : decode cX8_set 9 = .ok (.ifCond .ne 20, 3) := by decide +kernel
theorem dX8_set_12 : decode cX8_set 12 = .ok (.aload_n 0, 1) := by decide +kernel
theorem dX8_set_13 : decode cX8_set 13 = .ok (.getfield 32, 3) := by decide +kernel
theorem dX8_set_16 : decode cX8_set 16 = .ok (.iload_n 1, 1) := by decide +kernel
theorem dX8_set_17 : decode cX8_set 17 = .ok (.aaload, 1) := by decide +kernel
theorem dX8_set_18 : decode cX8_set 18 = .ok (.iload_n 2, 1) := by decide +kernel
theorem dX8_set_19 : decode cX8_set 19 = .ok (.invokevirtual 97, 3) := by decide +kernel
theorem dX8_set_22 : decode cX8_set 22 = .ok (.ifCond .ne 7, 3) := by decide +kernel
theorem dX8_set_25 : decode cX8_set 25 = .ok (.bipush (-5), 2) := by decide +kernel
theorem dX8_set_27 : decode cX8_set 27 = .ok (.istore 5, 2) := by decide +kernel
theorem dX8_set_29 : decode cX8_set 29 = .ok (.iload 5, 2) := by decide +kernel
theorem dX8_set_31 : decode cX8_set 31 = .ok (.ifCond .eq 10, 3) := by decide +kernel
theorem dX8_set_34 : decode cX8_set 34 = .ok (.aload_n 0, 1) := by decide +kernel
theorem dX8_set_35 : decode cX8_set 35 = .ok (.iload 5, 2) := by decide +kernel
theorem dX8_set_37 : decode cX8_set 37 = .ok (.invokevirtual 86, 3) := by decide +kernel
theorem dX8_set_40 : decode cX8_set 40 = .ok (.ireturn, 1) := by decide +kernel
theorem dX8_set_41 : decode cX8_set 41 = .ok (.aload_n 0, 1) := by decide +kernel
theorem dX8_set_42 : decode cX8_set 42 = .ok (.getfield 32, 3) := by decide +kernel
theorem dX8_set_45 : decode cX8_set 45 = .ok (.iload_n 1, 1) := by decide +kernel
theorem dX8_set_46 : decode cX8_set 46 = .ok (.aaload, 1) := by decide +kernel
theorem dX8_set_47 : decode cX8_set 47 = .ok (.iload_n 2, 1) := by decide +kernel
theorem dX8_set_48 : decode cX8_set 48 = .ok (.lload_n 3, 1) := by decide +kernel
theorem dX8_set_49 : decode cX8_set 49 = .ok (.invokevirtual 100, 3) := by decide +kernel
theorem dX8_set_52 : decode cX8_set 52 = .ok (.iconst 1, 1) := by decide +kernel
theorem dX8_set_53 : decode cX8_set 53 = .ok (.ireturn, 1) := by decide +kernel
theorem dX8_copy_0 : decode cX8_copy 0 = .ok (.aload_n 0, 1) := by decide +kernel
theorem dX8_copy_1 : decode cX8_copy 1 = .ok (.iload_n 1, 1) := by decide +kernel
theorem dX8_copy_2 : decode cX8_copy 2 = .ok (.iload_n 2, 1) := by decide +kernel
theorem dX8_copy_3 : decode cX8_copy 3 = .ok (.invokevirtual 104, 3) := by decide +kernel
theorem dX8_copy_6 : decode cX8_copy 6 = .ok (.istore 6, 2) := by decide +kernel
theorem dX8_copy_8 : decode cX8_copy 8 = .ok (.iload 6, 2) := by decide +kernel
theorem dX8_copy_10 : decode cX8_copy 10 = .ok (.ifCond .ne 28, 3) := by decide +kernel
theorem dX8_copy_13 : decode cX8_copy 13 = .ok (.aload_n 0, 1) := by decide +kernel
theorem dX8_copy_14 : decode cX8_copy 14 = .ok (.getfield 32, 3) := by decide +kernel
theorem dX8_copy_17 : decode cX8_copy 17 = .ok (.iload_n 1, 1) := by decide +kernel
theorem dX8_copy_18 : decode cX8_copy 18 = .ok (.aaload, 1) := by decide +kernel
theorem dX8_copy_19 : decode cX8_copy 19 = .ok (.getfield 108, 3) := by decide +kernel
theorem dX8_copy_22 : decode cX8_copy 22 = .ok (.aload_n 0, 1) := by decide +kernel
theorem dX8_copy_23 : decode cX8_copy 23 = .ok (.getfield 32, 3) := by decide +kernel
theorem dX8_copy_26 : decode cX8_copy 26 = .ok (.iload_n 2, 1) := by decide +kernel
theorem dX8_copy_27 : decode cX8_copy 27 = .ok (.aaload, 1) := by decide +kernel
theorem dX8_copy_28 : decode cX8_copy 28 = .ok (.getfield 108, 3) := by decide +kernel
theorem dX8_copy_31 : decode cX8_copy 31 = .ok (.if_icmp .eq 7, 3) := by decide +kernel
theorem dX8_copy_34 : decode cX8_copy 34 = .ok (.bipush (-2), 2) := by decide +kernel
theorem dX8_copy_36 : decode cX8_copy 36 = .ok (.istore 6, 2) := by decide +kernel
theorem dX8_copy_38 : decode cX8_copy 38 = .ok (.iload 6, 2) := by decide +kernel
theorem dX8_copy_40 : decode cX8_copy 40 = .ok (.ifCond .ne 12, 3) := by decide +kernel
theorem dX8_copy_43 : decode cX8_copy 43 = .ok (.iload 5, 2) := by decide +kernel
theorem dX8_copy_45 : decode cX8_copy 45 = .ok (.ifCond .ge 7, 3) := by decide +kernel
theorem dX8_copy_48 : decode cX8_copy 48 = .ok (.bipush (-4), 2) := by decide +kernel
theorem dX8_copy_50 : decode cX8_copy 50 = .ok (.istore 6, 2) := by decide +kernel
theorem dX8_copy_52 : decode cX8_copy 52 = .ok (.iload 6, 2) := by decide +kernel
theorem dX8_copy_54 : decode cX8_copy 54 = .ok (.ifCond .ne 38, 3) := by decide +kernel
theorem dX8_copy_57 : decode cX8_copy 57 = .ok (.aload_n 0, 1) := by decide +kernel
theorem dX8_copy_58 : decode cX8_copy 58 = .ok (.getfield 32, 3) := by decide +kernel
theorem dX8_copy_61 : decode cX8_copy 61 = .ok (.iload_n 1, 1) := by decide +kernel
theorem dX8_copy_62 : decode cX8_copy 62 = .ok (.aaload, 1) := by decide +kernel
theorem dX8_copy_63 : decode cX8_copy 63 = .ok (.iload_n 3, 1) := by decide +kernel
theorem dX8_copy_64 : decode cX8_copy 64 = .ok (.iload 5, 2) := by decide +kernel
theorem dX8_copy_66 : decode cX8_copy 66 = .ok (.invokevirtual 111, 3) := by decide +kernel
theorem dX8_copy_69 : decode cX8_copy 69 = .ok (.ifCond .eq 19, 3) := by decide +kernel
theorem dX8_copy_72 : decode cX8_copy 72 = .ok (.aload_n 0, 1) := by decide +kernel
theorem dX8_copy_73 : decode cX8_copy 73 = .ok (.getfield 32, 3) := by decide +kernel
theorem dX8_copy_76 : decode cX8_copy 76 = .ok (.iload_n 2, 1) := by decide +kernel
theorem dX8_copy_77 : decode cX8_copy 77 = .ok (.aaload, 1) := by decide +kernel
theorem dX8_copy_78 : decode cX8_copy 78 = .ok (.iload 4, 2) := by decide +kernel
theorem dX8_copy_80 : decode cX8_copy 80 = .ok (.iload 5, 2) := by decide +kernel
theorem dX8_copy_82 : decode cX8_copy 82 = .ok (.invokevirtual 111, 3) := by decide +kernel
theorem dX8_copy_85 : decode cX8_copy 85 = .ok (.ifCond .ne 7, 3) := by decide +kernel
theorem dX8_copy_88 : decode cX8_copy 88 = .ok (.bipush (-5), 2) := by decide +kernel
theorem dX8_copy_90 : decode cX8_copy 90 = .ok (.istore 6, 2) := by decide +kernel
theorem dX8_copy_92 : decode cX8_copy 92 = .ok (.iload 6, 2) := by decide +kernel
theorem dX8_copy_94 : decode cX8_copy 94 = .ok (.ifCond .eq 10, 3) := by decide +kernel
theorem dX8_copy_97 : decode cX8_copy 97 = .ok (.aload_n 0, 1) := by decide +kernel
theorem dX8_copy_98 : decode cX8_copy 98 = .ok (.iload 6, 2) := by decide +kernel
theorem dX8_copy_100 : decode cX8_copy 100 = .ok (.invokevirtual 86, 3) := by decide +kernel
theorem dX8_copy_103 : decode cX8_copy 103 = .ok (.ireturn, 1) := by decide +kernel
theorem dX8_copy_104 : decode cX8_copy 104 = .ok (.aload_n 0, 1) := by decide +kernel
theorem dX8_copy_105 : decode cX8_copy 105 = .ok (.getfield 32, 3) := by decide +kernel
theorem dX8_copy_108 : decode cX8_copy 108 = .ok (.iload_n 2, 1) := by decide +kernel
theorem dX8_copy_109 : decode cX8_copy 109 = .ok (.aaload, 1) := by decide +kernel
theorem dX8_copy_110 : decode cX8_copy 110 = .ok (.aload_n 0, 1) := by decide +kernel
theorem dX8_copy_111 : decode cX8_copy 111 = .ok (.getfield 32, 3) := by decide +kernel
theorem dX8_copy_114 : decode cX8_copy 114 = .ok (.iload_n 1, 1) := by decide +kernel
theorem dX8_copy_115 : decode cX8_copy 115 = .ok (.aaload, 1) := by decide +kernel
theorem dX8_copy_116 : decode cX8_copy 116 = .ok (.iload_n 3, 1) := by decide +kernel
theorem dX8_copy_117 : decode cX8_copy 117 = .ok (.iload 4, 2) := by decide +kernel
theorem dX8_copy_119 : decode cX8_copy 119 = .ok (.iload 5, 2) := by decide +kernel
theorem dX8_copy_121 : decode cX8_copy 121 = .ok (.invokevirtual 115, 3) := by decide +kernel
theorem dX8_copy_124 : decode cX8_copy 124 = .ok (.iconst 1, 1) := by decide +kernel
theorem dX8_copy_125 : decode cX8_copy 125 = .ok (.ireturn, 1) := by decide +kernel
theorem dX8_element_0 : decode cX8_element 0 = .ok (.iload_n 1, 1) := by decide +kernel
theorem dX8_element_1 : decode cX8_element 1 = .ok (.invokestatic 82, 3) := by decide +kernel
theorem dX8_element_4 : decode cX8_element 4 = .ok (.ifCond .eq 16, 3) := by decide +kernel
theorem dX8_element_7 : decode cX8_element 7 = .ok (.aload_n 0, 1) := by decide +kernel
theorem dX8_element_8 : decode cX8_element 8 = .ok (.getfield 32, 3) := by decide +kernel
theorem dX8_element_11 : decode cX8_element 11 = .ok (.iload_n 1, 1) := by decide +kernel
theorem dX8_element_12 : decode cX8_element 12 = .ok (.aaload, 1) := by decide +kernel
theorem dX8_element_13 : decode cX8_element 13 = .ok (.iload_n 2, 1) := by decide +kernel
theorem dX8_element_14 : decode cX8_element 14 = .ok (.invokevirtual 119, 3) := by decide +kernel
theorem dX8_element_17 : decode cX8_element 17 = .ok (.goto 4, 3) := by decide +kernel
theorem dX8_element_20 : decode cX8_element 20 = .ok (.lconst 0, 1) := by decide +kernel
theorem dX8_element_21 : decode cX8_element 21 = .ok (.lreturn, 1) := by decide +kernel
theorem dX8_show_0 : decode cX8_show 0 = .ok (.iload_n 1, 1) := by decide +kernel
theorem dX8_show_1 : decode cX8_show 1 = .ok (.invokestatic 82, 3) := by decide +kernel
theorem dX8_show_4 : decode cX8_show 4 = .ok (.ifCond .eq 16, 3) := by decide +kernel
theorem dX8_show_7 : decode cX8_show 7 = .ok (.iload_n 2, 1) := by decide +kernel
theorem dX8_show_8 : decode cX8_show 8 = .ok (.iconst (-1), 1) := by decide +kernel
theorem dX8_show_9 : decode cX8_show 9 = .ok (.if_icmp .eq 17, 3) := by decide +kernel
theorem dX8_show_12 : decode cX8_show 12 = .ok (.aload_n 0, 1) := by decide +kernel
theorem dX8_show_13 : decode cX8_show 13 = .ok (.iload_n 2, 1) := by decide +kernel
theorem dX8_show_14 : decode cX8_show 14 = .ok (.invokevirtual 123, 3) := by decide +kernel
theorem dX8_show_17 : decode cX8_show 17 = .ok (.ifCond .ne 9, 3) := by decide +kernel
theorem dX8_show_20 : decode cX8_show 20 = .ok (.aload_n 0, 1) := by decide +kernel
theorem dX8_show_21 : decode cX8_show 21 = .ok (.iconst (-1), 1) := by decide +kernel
theorem dX8_show_22 : decode cX8_show 22 = .ok (.invokevirtual 86, 3) := by decide +kernel
theorem dX8_show_25 : decode cX8_show 25 = .ok (.ireturn, 1) := by decide +kernel
theorem dX8_show_26 : decode cX8_show 26 = .ok (.aload_n 0, 1) := by decide +kernel
theorem dX8_show_27 : decode cX8_show 27 = .ok (.getfield 32, 3) := by decide +kernel
theorem dX8_show_30 : decode cX8_show 30 = .ok (.iload_n 1, 1) := by decide +kernel
theorem dX8_show_31 : decode cX8_show 31 = .ok (.aaload, 1) := by decide +kernel
theorem dX8_show_32 : decode cX8_show 32 = .ok (.iload_n 2, 1) := by decide +kernel
theorem dX8_show_33 : decode cX8_show 33 = .ok (.invokevirtual 126, 3) := by decide +kernel
theorem dX8_show_36 : decode cX8_show 36 = .ok (.iload_n 2, 1) := by decide +kernel
theorem dX8_show_37 : decode cX8_show 37 = .ok (.iconst (-1), 1) := by decide +kernel
theorem dX8_show_38 : decode cX8_show 38 = .ok (.if_icmp .ne 7, 3) := by decide +kernel
theorem dX8_show_41 : decode cX8_show 41 = .ok (.iconst 0, 1) := by decide +kernel
theorem dX8_show_42 : decode cX8_show 42 = .ok (.goto 4, 3) := by decide +kernel
theorem dX8_show_45 : decode cX8_show 45 = .ok (.iconst 1, 1) := by decide +kernel
theorem dX8_show_46 : decode cX8_show 46 = .ok (.ireturn, 1) := by decide +kernel
theorem dX8_holds_0 : decode cX8_holds 0 = .ok (.iload_n 1, 1) := by decide +kernel
theorem dX8_holds_1 : decode cX8_holds 1 = .ok (.invokestatic 82, 3) := by decide +kernel
theorem dX8_holds_4 : decode cX8_holds 4 = .ok (.ifCond .eq 15, 3) := by decide +kernel
theorem dX8_holds_7 : decode cX8_holds 7 = .ok (.aload_n 0, 1) := by decide +kernel
theorem dX8_holds_8 : decode cX8_holds 8 = .ok (.getfield 32, 3) := by decide +kernel
theorem dX8_holds_11 : decode cX8_holds 11 = .ok (.iload_n 1, 1) := by decide +kernel
theorem dX8_holds_12 : decode cX8_holds 12 = .ok (.aaload, 1) := by decide +kernel
theorem dX8_holds_13 : decode cX8_holds 13 = .ok (.invokevirtual 130, 3) := by decide +kernel
theorem dX8_holds_16 : decode cX8_holds 16 = .ok (.goto 4, 3) := by decide +kernel
theorem dX8_holds_19 : decode cX8_holds 19 = .ok (.iconst (-1), 1) := by decide +kernel
theorem dX8_holds_20 : decode cX8_holds 20 = .ok (.ireturn, 1) := by decide +kernel
theorem dX8_says_0 : decode cX8_says 0 = .ok (.iload_n 1, 1) := by decide +kernel
theorem dX8_says_1 : decode cX8_says 1 = .ok (.invokestatic 82, 3) := by decide +kernel
theorem dX8_says_4 : decode cX8_says 4 = .ok (.ifCond .eq 10, 3) := by decide +kernel
theorem dX8_says_7 : decode cX8_says 7 = .ok (.iload_n 2, 1) := by decide +kernel
theorem dX8_says_8 : decode cX8_says 8 = .ok (.invokestatic 134, 3) := by decide +kernel
theorem dX8_says_11 : decode cX8_says 11 = .ok (.ifCond .ne 9, 3) := by decide +kernel
theorem dX8_says_14 : decode cX8_says 14 = .ok (.aload_n 0, 1) := by decide +kernel
theorem dX8_says_15 : decode cX8_says 15 = .ok (.iconst (-1), 1) := by decide +kernel
theorem dX8_says_16 : decode cX8_says 16 = .ok (.invokevirtual 86, 3) := by decide +kernel
theorem dX8_says_19 : decode cX8_says 19 = .ok (.ireturn, 1) := by decide +kernel
theorem dX8_says_20 : decode cX8_says 20 = .ok (.aload_n 0, 1) := by decide +kernel
theorem dX8_says_21 : decode cX8_says 21 = .ok (.getfield 32, 3) := by decide +kernel
theorem dX8_says_24 : decode cX8_says 24 = .ok (.iload_n 1, 1) := by decide +kernel
theorem dX8_says_25 : decode cX8_says 25 = .ok (.aaload, 1) := by decide +kernel
theorem dX8_says_26 : decode cX8_says 26 = .ok (.invokevirtual 137, 3) := by decide +kernel
theorem dX8_says_29 : decode cX8_says 29 = .ok (.ifCond .eq 10, 3) := by decide +kernel
theorem dX8_says_32 : decode cX8_says 32 = .ok (.aload_n 0, 1) := by decide +kernel
theorem dX8_says_33 : decode cX8_says 33 = .ok (.bipush (-2), 2) := by decide +kernel
theorem dX8_says_35 : decode cX8_says 35 = .ok (.invokevirtual 86, 3) := by decide +kernel
theorem dX8_says_38 : decode cX8_says 38 = .ok (.ireturn, 1) := by decide +kernel
theorem dX8_says_39 : decode cX8_says 39 = .ok (.aload_n 0, 1) := by decide +kernel
theorem dX8_says_40 : decode cX8_says 40 = .ok (.getfield 32, 3) := by decide +kernel
theorem dX8_says_43 : decode cX8_says 43 = .ok (.iload_n 1, 1) := by decide +kernel
theorem dX8_says_44 : decode cX8_says 44 = .ok (.aaload, 1) := by decide +kernel
theorem dX8_says_45 : decode cX8_says 45 = .ok (.getfield 141, 3) := by decide +kernel
theorem dX8_says_48 : decode cX8_says 48 = .ok (.istore_n 3, 1) := by decide +kernel
theorem dX8_says_49 : decode cX8_says 49 = .ok (.aload_n 0, 1) := by decide +kernel
theorem dX8_says_50 : decode cX8_says 50 = .ok (.iload_n 3, 1) := by decide +kernel
theorem dX8_says_51 : decode cX8_says 51 = .ok (.invokevirtual 123, 3) := by decide +kernel
theorem dX8_says_54 : decode cX8_says 54 = .ok (.ifCond .ne 10, 3) := by decide +kernel
theorem dX8_says_57 : decode cX8_says 57 = .ok (.aload_n 0, 1) := by decide +kernel
theorem dX8_says_58 : decode cX8_says 58 = .ok (.bipush (-3), 2) := by decide +kernel
theorem dX8_says_60 : decode cX8_says 60 = .ok (.invokevirtual 86, 3) := by decide +kernel
theorem dX8_says_63 : decode cX8_says 63 = .ok (.ireturn, 1) := by decide +kernel
theorem dX8_says_64 : decode cX8_says 64 = .ok (.aload_n 0, 1) := by decide +kernel
theorem dX8_says_65 : decode cX8_says 65 = .ok (.getfield 10, 3) := by decide +kernel
theorem dX8_says_68 : decode cX8_says 68 = .ok (.getfield 144, 3) := by decide +kernel
theorem dX8_says_71 : decode cX8_says 71 = .ok (.iload_n 3, 1) := by decide +kernel
theorem dX8_says_72 : decode cX8_says 72 = .ok (.aaload, 1) := by decide +kernel
theorem dX8_says_73 : decode cX8_says 73 = .ok (.astore 4, 2) := by decide +kernel
theorem dX8_says_75 : decode cX8_says 75 = .ok (.aload 4, 2) := by decide +kernel
theorem dX8_says_77 : decode cX8_says 77 = .ok (.getfield 148, 3) := by decide +kernel
theorem dX8_says_80 : decode cX8_says 80 = .ok (.iload_n 2, 1) := by decide +kernel
theorem dX8_says_81 : decode cX8_says 81 = .ok (.invokestatic 151, 3) := by decide +kernel
theorem dX8_says_84 : decode cX8_says 84 = .ok (.ifCond .ne 10, 3) := by decide +kernel
theorem dX8_says_87 : decode cX8_says 87 = .ok (.aload_n 0, 1) := by decide +kernel
theorem dX8_says_88 : decode cX8_says 88 = .ok (.bipush (-2), 2) := by decide +kernel
theorem dX8_says_90 : decode cX8_says 90 = .ok (.invokevirtual 86, 3) := by decide +kernel
theorem dX8_says_93 : decode cX8_says 93 = .ok (.ireturn, 1) := by decide +kernel
theorem dX8_says_94 : decode cX8_says 94 = .ok (.aload 4, 2) := by decide +kernel
theorem dX8_says_96 : decode cX8_says 96 = .ok (.iload_n 2, 1) := by decide +kernel
