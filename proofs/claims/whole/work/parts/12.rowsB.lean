theorem d_Mod_init_0 : decode m_Mod_init.2.1 0 = .ok (.aload_n 0, 1) := by decide +kernel
theorem d_Mod_init_1 : decode m_Mod_init.2.1 1 = .ok (.invokespecial 1, 3) := by decide +kernel
theorem d_Mod_init_4 : decode m_Mod_init.2.1 4 = .ok (.aload_n 0, 1) := by decide +kernel
theorem d_Mod_init_5 : decode m_Mod_init.2.1 5 = .ok (.bipush 48, 2) := by decide +kernel
theorem d_Mod_init_7 : decode m_Mod_init.2.1 7 = .ok (.newarray .int, 2) := by decide +kernel
theorem d_Mod_init_9 : decode m_Mod_init.2.1 9 = .ok (.putfield 7, 3) := by decide +kernel
theorem d_Mod_init_12 : decode m_Mod_init.2.1 12 = .ok (.aload_n 0, 1) := by decide +kernel
theorem d_Mod_init_13 : decode m_Mod_init.2.1 13 = .ok (.sipush 2000, 3) := by decide +kernel
theorem d_Mod_init_16 : decode m_Mod_init.2.1 16 = .ok (.newarray .int, 2) := by decide +kernel
theorem d_Mod_init_18 : decode m_Mod_init.2.1 18 = .ok (.putfield 13, 3) := by decide +kernel
theorem d_Mod_init_21 : decode m_Mod_init.2.1 21 = .ok (.aload_n 0, 1) := by decide +kernel
theorem d_Mod_init_22 : decode m_Mod_init.2.1 22 = .ok (.sipush 180, 3) := by decide +kernel
theorem d_Mod_init_25 : decode m_Mod_init.2.1 25 = .ok (.newarray .int, 2) := by decide +kernel
theorem d_Mod_init_27 : decode m_Mod_init.2.1 27 = .ok (.putfield 16, 3) := by decide +kernel
theorem d_Mod_init_30 : decode m_Mod_init.2.1 30 = .ok (.aload_n 0, 1) := by decide +kernel
theorem d_Mod_init_31 : decode m_Mod_init.2.1 31 = .ok (.iconst 3, 1) := by decide +kernel
theorem d_Mod_init_32 : decode m_Mod_init.2.1 32 = .ok (.newarray .int, 2) := by decide +kernel
theorem d_Mod_init_34 : decode m_Mod_init.2.1 34 = .ok (.putfield 19, 3) := by decide +kernel
theorem d_Mod_init_37 : decode m_Mod_init.2.1 37 = .ok (.aload_n 0, 1) := by decide +kernel
theorem d_Mod_init_38 : decode m_Mod_init.2.1 38 = .ok (.sipush 180, 3) := by decide +kernel
theorem d_Mod_init_41 : decode m_Mod_init.2.1 41 = .ok (.newarray .int, 2) := by decide +kernel
theorem d_Mod_init_43 : decode m_Mod_init.2.1 43 = .ok (.putfield 22, 3) := by decide +kernel
theorem d_Mod_init_46 : decode m_Mod_init.2.1 46 = .ok (.aload_n 0, 1) := by decide +kernel
theorem d_Mod_init_47 : decode m_Mod_init.2.1 47 = .ok (.iconst 3, 1) := by decide +kernel
theorem d_Mod_init_48 : decode m_Mod_init.2.1 48 = .ok (.newarray .int, 2) := by decide +kernel
theorem d_Mod_init_50 : decode m_Mod_init.2.1 50 = .ok (.putfield 25, 3) := by decide +kernel
theorem d_Mod_init_53 : decode m_Mod_init.2.1 53 = .ok (.aload_n 0, 1) := by decide +kernel
theorem d_Mod_init_54 : decode m_Mod_init.2.1 54 = .ok (.iconst 5, 1) := by decide +kernel
theorem d_Mod_init_55 : decode m_Mod_init.2.1 55 = .ok (.newarray .boolean, 2) := by decide +kernel
theorem d_Mod_init_57 : decode m_Mod_init.2.1 57 = .ok (.putfield 28, 3) := by decide +kernel
theorem d_Mod_init_60 : decode m_Mod_init.2.1 60 = .ok (.aload_n 0, 1) := by decide +kernel
theorem d_Mod_init_61 : decode m_Mod_init.2.1 61 = .ok (.iconst (-1), 1) := by decide +kernel
theorem d_Mod_init_62 : decode m_Mod_init.2.1 62 = .ok (.putfield 32, 3) := by decide +kernel
theorem d_Mod_init_65 : decode m_Mod_init.2.1 65 = .ok (.aload_n 0, 1) := by decide +kernel
theorem d_Mod_init_66 : decode m_Mod_init.2.1 66 = .ok (.bipush 60, 2) := by decide +kernel
theorem d_Mod_init_68 : decode m_Mod_init.2.1 68 = .ok (.newarray .int, 2) := by decide +kernel
theorem d_Mod_init_70 : decode m_Mod_init.2.1 70 = .ok (.putfield 36, 3) := by decide +kernel
theorem d_Mod_init_73 : decode m_Mod_init.2.1 73 = .ok (.aload_n 0, 1) := by decide +kernel
theorem d_Mod_init_74 : decode m_Mod_init.2.1 74 = .ok (.bipush 60, 2) := by decide +kernel
theorem d_Mod_init_76 : decode m_Mod_init.2.1 76 = .ok (.newarray .int, 2) := by decide +kernel
theorem d_Mod_init_78 : decode m_Mod_init.2.1 78 = .ok (.putfield 39, 3) := by decide +kernel
theorem d_Mod_init_81 : decode m_Mod_init.2.1 81 = .ok (.aload_n 0, 1) := by decide +kernel
theorem d_Mod_init_82 : decode m_Mod_init.2.1 82 = .ok (.bipush 8, 2) := by decide +kernel
theorem d_Mod_init_84 : decode m_Mod_init.2.1 84 = .ok (.newarray .int, 2) := by decide +kernel
theorem d_Mod_init_86 : decode m_Mod_init.2.1 86 = .ok (.putfield 42, 3) := by decide +kernel
theorem d_Mod_init_89 : decode m_Mod_init.2.1 89 = .ok (.aload_n 0, 1) := by decide +kernel
theorem d_Mod_init_90 : decode m_Mod_init.2.1 90 = .ok (.bipush 60, 2) := by decide +kernel
theorem d_Mod_init_92 : decode m_Mod_init.2.1 92 = .ok (.newarray .int, 2) := by decide +kernel
theorem d_Mod_init_94 : decode m_Mod_init.2.1 94 = .ok (.putfield 45, 3) := by decide +kernel
theorem d_Mod_init_97 : decode m_Mod_init.2.1 97 = .ok (.aload_n 0, 1) := by decide +kernel
theorem d_Mod_init_98 : decode m_Mod_init.2.1 98 = .ok (.bipush 6, 2) := by decide +kernel
theorem d_Mod_init_100 : decode m_Mod_init.2.1 100 = .ok (.newarray .int, 2) := by decide +kernel
theorem d_Mod_init_102 : decode m_Mod_init.2.1 102 = .ok (.putfield 48, 3) := by decide +kernel
theorem d_Mod_init_105 : decode m_Mod_init.2.1 105 = .ok (.aload_n 0, 1) := by decide +kernel
theorem d_Mod_init_106 : decode m_Mod_init.2.1 106 = .ok (.bipush 123, 2) := by decide +kernel
theorem d_Mod_init_108 : decode m_Mod_init.2.1 108 = .ok (.newarray .int, 2) := by decide +kernel
theorem d_Mod_init_110 : decode m_Mod_init.2.1 110 = .ok (.putfield 51, 3) := by decide +kernel
theorem d_Mod_init_113 : decode m_Mod_init.2.1 113 = .ok (.aload_n 0, 1) := by decide +kernel
theorem d_Mod_init_114 : decode m_Mod_init.2.1 114 = .ok (.bipush 41, 2) := by decide +kernel
theorem d_Mod_init_116 : decode m_Mod_init.2.1 116 = .ok (.newarray .int, 2) := by decide +kernel
theorem d_Mod_init_118 : decode m_Mod_init.2.1 118 = .ok (.putfield 54, 3) := by decide +kernel
theorem d_Mod_init_121 : decode m_Mod_init.2.1 121 = .ok (.aload_n 0, 1) := by decide +kernel
theorem d_Mod_init_122 : decode m_Mod_init.2.1 122 = .ok (.bipush 20, 2) := by decide +kernel
theorem d_Mod_init_124 : decode m_Mod_init.2.1 124 = .ok (.newarray .int, 2) := by decide +kernel
theorem d_Mod_init_126 : decode m_Mod_init.2.1 126 = .ok (.putfield 57, 3) := by decide +kernel
theorem d_Mod_init_129 : decode m_Mod_init.2.1 129 = .ok (.aload_n 0, 1) := by decide +kernel
theorem d_Mod_init_130 : decode m_Mod_init.2.1 130 = .ok (.bipush 20, 2) := by decide +kernel
theorem d_Mod_init_132 : decode m_Mod_init.2.1 132 = .ok (.newarray .int, 2) := by decide +kernel
theorem d_Mod_init_134 : decode m_Mod_init.2.1 134 = .ok (.putfield 60, 3) := by decide +kernel
theorem d_Mod_init_137 : decode m_Mod_init.2.1 137 = .ok (.return_, 1) := by decide +kernel
theorem d_Mod_thrown_0 : decode m_Mod_thrown.2.1 0 = .ok (.aload_n 0, 1) := by decide +kernel
theorem d_Mod_thrown_1 : decode m_Mod_thrown.2.1 1 = .ok (.getfield 63, 3) := by decide +kernel
theorem d_Mod_thrown_4 : decode m_Mod_thrown.2.1 4 = .ok (.ireturn, 1) := by decide +kernel
theorem d_Mod_type_0 : decode m_Mod_type.2.1 0 = .ok (.iconst 0, 1) := by decide +kernel
theorem d_Mod_type_1 : decode m_Mod_type.2.1 1 = .ok (.istore_n 3, 1) := by decide +kernel
theorem d_Mod_type_2 : decode m_Mod_type.2.1 2 = .ok (.iconst 1, 1) := by decide +kernel
theorem d_Mod_type_3 : decode m_Mod_type.2.1 3 = .ok (.istore 4, 2) := by decide +kernel
theorem d_Mod_type_5 : decode m_Mod_type.2.1 5 = .ok (.bipush 56, 2) := by decide +kernel
theorem d_Mod_type_7 : decode m_Mod_type.2.1 7 = .ok (.istore 5, 2) := by decide +kernel
theorem d_Mod_type_9 : decode m_Mod_type.2.1 9 = .ok (.iload 5, 2) := by decide +kernel
theorem d_Mod_type_11 : decode m_Mod_type.2.1 11 = .ok (.ifCond .lt 48, 3) := by decide +kernel
theorem d_Mod_type_14 : decode m_Mod_type.2.1 14 = .ok (.lload_n 1, 1) := by decide +kernel
theorem d_Mod_type_15 : decode m_Mod_type.2.1 15 = .ok (.iload 5, 2) := by decide +kernel
theorem d_Mod_type_17 : decode m_Mod_type.2.1 17 = .ok (.lushr, 1) := by decide +kernel
theorem d_Mod_type_18 : decode m_Mod_type.2.1 18 = .ok (.l2i, 1) := by decide +kernel
theorem d_Mod_type_19 : decode m_Mod_type.2.1 19 = .ok (.sipush 255, 3) := by decide +kernel
theorem d_Mod_type_22 : decode m_Mod_type.2.1 22 = .ok (.iand, 1) := by decide +kernel
theorem d_Mod_type_23 : decode m_Mod_type.2.1 23 = .ok (.istore 6, 2) := by decide +kernel
theorem d_Mod_type_25 : decode m_Mod_type.2.1 25 = .ok (.iload 6, 2) := by decide +kernel
theorem d_Mod_type_27 : decode m_Mod_type.2.1 27 = .ok (.ifCond .eq 6, 3) := by decide +kernel
theorem d_Mod_type_30 : decode m_Mod_type.2.1 30 = .ok (.iinc 3 1, 3) := by decide +kernel
theorem d_Mod_type_33 : decode m_Mod_type.2.1 33 = .ok (.iload 6, 2) := by decide +kernel
theorem d_Mod_type_35 : decode m_Mod_type.2.1 35 = .ok (.ifCond .eq 18, 3) := by decide +kernel
theorem d_Mod_type_38 : decode m_Mod_type.2.1 38 = .ok (.iload 6, 2) := by decide +kernel
theorem d_Mod_type_40 : decode m_Mod_type.2.1 40 = .ok (.bipush 33, 2) := by decide +kernel
theorem d_Mod_type_42 : decode m_Mod_type.2.1 42 = .ok (.bipush 126, 2) := by decide +kernel
theorem d_Mod_type_44 : decode m_Mod_type.2.1 44 = .ok (.invokestatic 66, 3) := by decide +kernel
theorem d_Mod_type_47 : decode m_Mod_type.2.1 47 = .ok (.ifCond .ne 6, 3) := by decide +kernel
theorem d_Mod_type_50 : decode m_Mod_type.2.1 50 = .ok (.iconst 0, 1) := by decide +kernel
theorem d_Mod_type_51 : decode m_Mod_type.2.1 51 = .ok (.istore 4, 2) := by decide +kernel
theorem d_Mod_type_53 : decode m_Mod_type.2.1 53 = .ok (.iinc 5 (-8), 3) := by decide +kernel
theorem d_Mod_type_56 : decode m_Mod_type.2.1 56 = .ok (.goto (-47), 3) := by decide +kernel
theorem d_Mod_type_59 : decode m_Mod_type.2.1 59 = .ok (.aload_n 0, 1) := by decide +kernel
theorem d_Mod_type_60 : decode m_Mod_type.2.1 60 = .ok (.iload 4, 2) := by decide +kernel
theorem d_Mod_type_62 : decode m_Mod_type.2.1 62 = .ok (.invokevirtual 70, 3) := by decide +kernel
theorem d_Mod_type_65 : decode m_Mod_type.2.1 65 = .ok (.ifCond .eq 5, 3) := by decide +kernel
theorem d_Mod_type_68 : decode m_Mod_type.2.1 68 = .ok (.iconst 0, 1) := by decide +kernel
theorem d_Mod_type_69 : decode m_Mod_type.2.1 69 = .ok (.ireturn, 1) := by decide +kernel
theorem d_Mod_type_70 : decode m_Mod_type.2.1 70 = .ok (.aload_n 0, 1) := by decide +kernel
theorem d_Mod_type_71 : decode m_Mod_type.2.1 71 = .ok (.getfield 74, 3) := by decide +kernel
theorem d_Mod_type_74 : decode m_Mod_type.2.1 74 = .ok (.iload_n 3, 1) := by decide +kernel
theorem d_Mod_type_75 : decode m_Mod_type.2.1 75 = .ok (.iadd, 1) := by decide +kernel
theorem d_Mod_type_76 : decode m_Mod_type.2.1 76 = .ok (.bipush 48, 2) := by decide +kernel
theorem d_Mod_type_78 : decode m_Mod_type.2.1 78 = .ok (.if_icmp .le 9, 3) := by decide +kernel
theorem d_Mod_type_81 : decode m_Mod_type.2.1 81 = .ok (.aload_n 0, 1) := by decide +kernel
theorem d_Mod_type_82 : decode m_Mod_type.2.1 82 = .ok (.iconst 2, 1) := by decide +kernel
theorem d_Mod_type_83 : decode m_Mod_type.2.1 83 = .ok (.invokevirtual 77, 3) := by decide +kernel
theorem d_Mod_type_86 : decode m_Mod_type.2.1 86 = .ok (.ireturn, 1) := by decide +kernel
theorem d_Mod_type_87 : decode m_Mod_type.2.1 87 = .ok (.bipush 56, 2) := by decide +kernel
theorem d_Mod_type_89 : decode m_Mod_type.2.1 89 = .ok (.istore 5, 2) := by decide +kernel
theorem d_Mod_type_91 : decode m_Mod_type.2.1 91 = .ok (.iload 5, 2) := by decide +kernel
theorem d_Mod_type_93 : decode m_Mod_type.2.1 93 = .ok (.ifCond .lt 49, 3) := by decide +kernel
theorem d_Mod_type_96 : decode m_Mod_type.2.1 96 = .ok (.lload_n 1, 1) := by decide +kernel
theorem d_Mod_type_97 : decode m_Mod_type.2.1 97 = .ok (.iload 5, 2) := by decide +kernel
theorem d_Mod_type_99 : decode m_Mod_type.2.1 99 = .ok (.lushr, 1) := by decide +kernel
theorem d_Mod_type_100 : decode m_Mod_type.2.1 100 = .ok (.l2i, 1) := by decide +kernel
theorem d_Mod_type_101 : decode m_Mod_type.2.1 101 = .ok (.sipush 255, 3) := by decide +kernel
theorem d_Mod_type_104 : decode m_Mod_type.2.1 104 = .ok (.iand, 1) := by decide +kernel
theorem d_Mod_type_105 : decode m_Mod_type.2.1 105 = .ok (.istore 6, 2) := by decide +kernel
theorem d_Mod_type_107 : decode m_Mod_type.2.1 107 = .ok (.iload 6, 2) := by decide +kernel
theorem d_Mod_type_109 : decode m_Mod_type.2.1 109 = .ok (.ifCond .ne 6, 3) := by decide +kernel
theorem d_Mod_type_112 : decode m_Mod_type.2.1 112 = .ok (.goto 24, 3) := by decide +kernel
theorem d_Mod_type_115 : decode m_Mod_type.2.1 115 = .ok (.aload_n 0, 1) := by decide +kernel
theorem d_Mod_type_116 : decode m_Mod_type.2.1 116 = .ok (.getfield 7, 3) := by decide +kernel
theorem d_Mod_type_119 : decode m_Mod_type.2.1 119 = .ok (.aload_n 0, 1) := by decide +kernel
theorem d_Mod_type_120 : decode m_Mod_type.2.1 120 = .ok (.getfield 74, 3) := by decide +kernel
theorem d_Mod_type_123 : decode m_Mod_type.2.1 123 = .ok (.iload 6, 2) := by decide +kernel
theorem d_Mod_type_125 : decode m_Mod_type.2.1 125 = .ok (.iastore, 1) := by decide +kernel
theorem d_Mod_type_126 : decode m_Mod_type.2.1 126 = .ok (.aload_n 0, 1) := by decide +kernel
theorem d_Mod_type_127 : decode m_Mod_type.2.1 127 = .ok (.dup, 1) := by decide +kernel
theorem d_Mod_type_128 : decode m_Mod_type.2.1 128 = .ok (.getfield 74, 3) := by decide +kernel
theorem d_Mod_type_131 : decode m_Mod_type.2.1 131 = .ok (.iconst 1, 1) := by decide +kernel
theorem d_Mod_type_132 : decode m_Mod_type.2.1 132 = .ok (.iadd, 1) := by decide +kernel
theorem d_Mod_type_133 : decode m_Mod_type.2.1 133 = .ok (.putfield 74, 3) := by decide +kernel
theorem d_Mod_type_136 : decode m_Mod_type.2.1 136 = .ok (.iinc 5 (-8), 3) := by decide +kernel
theorem d_Mod_type_139 : decode m_Mod_type.2.1 139 = .ok (.goto (-48), 3) := by decide +kernel
theorem d_Mod_type_142 : decode m_Mod_type.2.1 142 = .ok (.aload_n 0, 1) := by decide +kernel
theorem d_Mod_type_143 : decode m_Mod_type.2.1 143 = .ok (.getfield 74, 3) := by decide +kernel
theorem d_Mod_type_146 : decode m_Mod_type.2.1 146 = .ok (.ireturn, 1) := by decide +kernel
theorem d_Mod_in_0 : decode m_Mod_in.2.1 0 = .ok (.iload_n 0, 1) := by decide +kernel
theorem d_Mod_in_1 : decode m_Mod_in.2.1 1 = .ok (.iload_n 1, 1) := by decide +kernel
theorem d_Mod_in_2 : decode m_Mod_in.2.1 2 = .ok (.if_icmp .lt 12, 3) := by decide +kernel
theorem d_Mod_in_5 : decode m_Mod_in.2.1 5 = .ok (.iload_n 0, 1) := by decide +kernel
theorem d_Mod_in_6 : decode m_Mod_in.2.1 6 = .ok (.iload_n 2, 1) := by decide +kernel
theorem d_Mod_in_7 : decode m_Mod_in.2.1 7 = .ok (.if_icmp .gt 7, 3) := by decide +kernel
theorem d_Mod_in_10 : decode m_Mod_in.2.1 10 = .ok (.iconst 1, 1) := by decide +kernel
theorem d_Mod_in_11 : decode m_Mod_in.2.1 11 = .ok (.goto 4, 3) := by decide +kernel
theorem d_Mod_in_14 : decode m_Mod_in.2.1 14 = .ok (.iconst 0, 1) := by decide +kernel
theorem d_Mod_in_15 : decode m_Mod_in.2.1 15 = .ok (.ireturn, 1) := by decide +kernel
theorem d_Mod_bad_0 : decode m_Mod_bad.2.1 0 = .ok (.aload_n 0, 1) := by decide +kernel
theorem d_Mod_bad_1 : decode m_Mod_bad.2.1 1 = .ok (.iload_n 1, 1) := by decide +kernel
theorem d_Mod_bad_2 : decode m_Mod_bad.2.1 2 = .ok (.ifCond .eq 7, 3) := by decide +kernel
theorem d_Mod_bad_5 : decode m_Mod_bad.2.1 5 = .ok (.iconst 0, 1) := by decide +kernel
theorem d_Mod_bad_6 : decode m_Mod_bad.2.1 6 = .ok (.goto 4, 3) := by decide +kernel
theorem d_Mod_bad_9 : decode m_Mod_bad.2.1 9 = .ok (.iconst 1, 1) := by decide +kernel
theorem d_Mod_bad_10 : decode m_Mod_bad.2.1 10 = .ok (.putfield 63, 3) := by decide +kernel
theorem d_Mod_bad_13 : decode m_Mod_bad.2.1 13 = .ok (.iload_n 1, 1) := by decide +kernel
theorem d_Mod_bad_14 : decode m_Mod_bad.2.1 14 = .ok (.ifCond .ne 7, 3) := by decide +kernel
theorem d_Mod_bad_17 : decode m_Mod_bad.2.1 17 = .ok (.iconst 1, 1) := by decide +kernel
theorem d_Mod_bad_18 : decode m_Mod_bad.2.1 18 = .ok (.goto 4, 3) := by decide +kernel
theorem d_Mod_bad_21 : decode m_Mod_bad.2.1 21 = .ok (.iconst 0, 1) := by decide +kernel
theorem d_Mod_bad_22 : decode m_Mod_bad.2.1 22 = .ok (.ireturn, 1) := by decide +kernel
theorem d_Mod_fail_0 : decode m_Mod_fail.2.1 0 = .ok (.aload_n 0, 1) := by decide +kernel
theorem d_Mod_fail_1 : decode m_Mod_fail.2.1 1 = .ok (.iload_n 1, 1) := by decide +kernel
theorem d_Mod_fail_2 : decode m_Mod_fail.2.1 2 = .ok (.putfield 63, 3) := by decide +kernel
theorem d_Mod_fail_5 : decode m_Mod_fail.2.1 5 = .ok (.iconst 0, 1) := by decide +kernel
theorem d_Mod_fail_6 : decode m_Mod_fail.2.1 6 = .ok (.ireturn, 1) := by decide +kernel
theorem d_Mod_keep_0 : decode m_Mod_keep.2.1 0 = .ok (.aload_n 0, 1) := by decide +kernel
theorem d_Mod_keep_1 : decode m_Mod_keep.2.1 1 = .ok (.iload_n 1, 1) := by decide +kernel
theorem d_Mod_keep_2 : decode m_Mod_keep.2.1 2 = .ok (.iconst 0, 1) := by decide +kernel
theorem d_Mod_keep_3 : decode m_Mod_keep.2.1 3 = .ok (.iconst 3, 1) := by decide +kernel
theorem d_Mod_keep_4 : decode m_Mod_keep.2.1 4 = .ok (.invokestatic 66, 3) := by decide +kernel
theorem d_Mod_keep_7 : decode m_Mod_keep.2.1 7 = .ok (.invokevirtual 70, 3) := by decide +kernel
theorem d_Mod_keep_10 : decode m_Mod_keep.2.1 10 = .ok (.ifCond .ne 15, 3) := by decide +kernel
theorem d_Mod_keep_13 : decode m_Mod_keep.2.1 13 = .ok (.aload_n 0, 1) := by decide +kernel
theorem d_Mod_keep_14 : decode m_Mod_keep.2.1 14 = .ok (.aload_n 0, 1) := by decide +kernel
theorem d_Mod_keep_15 : decode m_Mod_keep.2.1 15 = .ok (.iconst 4, 1) := by decide +kernel
theorem d_Mod_keep_16 : decode m_Mod_keep.2.1 16 = .ok (.invokevirtual 144, 3) := by decide +kernel
theorem d_Mod_keep_19 : decode m_Mod_keep.2.1 19 = .ok (.invokevirtual 70, 3) := by decide +kernel
theorem d_Mod_keep_22 : decode m_Mod_keep.2.1 22 = .ok (.ifCond .eq 5, 3) := by decide +kernel
theorem d_Mod_keep_25 : decode m_Mod_keep.2.1 25 = .ok (.iconst 0, 1) := by decide +kernel
theorem d_Mod_keep_26 : decode m_Mod_keep.2.1 26 = .ok (.ireturn, 1) := by decide +kernel
theorem d_Mod_keep_27 : decode m_Mod_keep.2.1 27 = .ok (.iconst 0, 1) := by decide +kernel
theorem d_Mod_keep_28 : decode m_Mod_keep.2.1 28 = .ok (.istore_n 2, 1) := by decide +kernel
theorem d_Mod_keep_29 : decode m_Mod_keep.2.1 29 = .ok (.iload_n 2, 1) := by decide +kernel
theorem d_Mod_keep_30 : decode m_Mod_keep.2.1 30 = .ok (.sipush 400, 3) := by decide +kernel
theorem d_Mod_keep_33 : decode m_Mod_keep.2.1 33 = .ok (.if_icmp .ge 31, 3) := by decide +kernel
theorem d_Mod_keep_36 : decode m_Mod_keep.2.1 36 = .ok (.aload_n 0, 1) := by decide +kernel
theorem d_Mod_keep_37 : decode m_Mod_keep.2.1 37 = .ok (.getfield 13, 3) := by decide +kernel
theorem d_Mod_keep_40 : decode m_Mod_keep.2.1 40 = .ok (.iload_n 1, 1) := by decide +kernel
theorem d_Mod_keep_41 : decode m_Mod_keep.2.1 41 = .ok (.sipush 400, 3) := by decide +kernel
theorem d_Mod_keep_44 : decode m_Mod_keep.2.1 44 = .ok (.imul, 1) := by decide +kernel
theorem d_Mod_keep_45 : decode m_Mod_keep.2.1 45 = .ok (.iload_n 2, 1) := by decide +kernel
theorem d_Mod_keep_46 : decode m_Mod_keep.2.1 46 = .ok (.iadd, 1) := by decide +kernel
theorem d_Mod_keep_47 : decode m_Mod_keep.2.1 47 = .ok (.aload_n 0, 1) := by decide +kernel
theorem d_Mod_keep_48 : decode m_Mod_keep.2.1 48 = .ok (.getfield 13, 3) := by decide +kernel
theorem d_Mod_keep_51 : decode m_Mod_keep.2.1 51 = .ok (.sipush 1600, 3) := by decide +kernel
theorem d_Mod_keep_54 : decode m_Mod_keep.2.1 54 = .ok (.iload_n 2, 1) := by decide +kernel
theorem d_Mod_keep_55 : decode m_Mod_keep.2.1 55 = .ok (.iadd, 1) := by decide +kernel
theorem d_Mod_keep_56 : decode m_Mod_keep.2.1 56 = .ok (.iaload, 1) := by decide +kernel
theorem d_Mod_keep_57 : decode m_Mod_keep.2.1 57 = .ok (.iastore, 1) := by decide +kernel
theorem d_Mod_keep_58 : decode m_Mod_keep.2.1 58 = .ok (.iinc 2 1, 3) := by decide +kernel
theorem d_Mod_keep_61 : decode m_Mod_keep.2.1 61 = .ok (.goto (-32), 3) := by decide +kernel
theorem d_Mod_keep_64 : decode m_Mod_keep.2.1 64 = .ok (.aload_n 0, 1) := by decide +kernel
theorem d_Mod_keep_65 : decode m_Mod_keep.2.1 65 = .ok (.getfield 28, 3) := by decide +kernel
theorem d_Mod_keep_68 : decode m_Mod_keep.2.1 68 = .ok (.iload_n 1, 1) := by decide +kernel
theorem d_Mod_keep_69 : decode m_Mod_keep.2.1 69 = .ok (.iconst 1, 1) := by decide +kernel
theorem d_Mod_keep_70 : decode m_Mod_keep.2.1 70 = .ok (.bastore, 1) := by decide +kernel
theorem d_Mod_keep_71 : decode m_Mod_keep.2.1 71 = .ok (.aload_n 0, 1) := by decide +kernel
theorem d_Mod_keep_72 : decode m_Mod_keep.2.1 72 = .ok (.getfield 102, 3) := by decide +kernel
theorem d_Mod_keep_75 : decode m_Mod_keep.2.1 75 = .ok (.ireturn, 1) := by decide +kernel
theorem d_Mod_read_0 : decode m_Mod_read.2.1 0 = .ok (.iload_n 1, 1) := by decide +kernel
theorem d_Mod_read_1 : decode m_Mod_read.2.1 1 = .ok (.sipush 400, 3) := by decide +kernel
theorem d_Mod_read_4 : decode m_Mod_read.2.1 4 = .ok (.imul, 1) := by decide +kernel
theorem d_Mod_read_5 : decode m_Mod_read.2.1 5 = .ok (.istore_n 2, 1) := by decide +kernel
theorem d_Mod_read_6 : decode m_Mod_read.2.1 6 = .ok (.iconst 0, 1) := by decide +kernel
theorem d_Mod_read_7 : decode m_Mod_read.2.1 7 = .ok (.istore_n 3, 1) := by decide +kernel
theorem d_Mod_read_8 : decode m_Mod_read.2.1 8 = .ok (.iload_n 3, 1) := by decide +kernel
theorem d_Mod_read_9 : decode m_Mod_read.2.1 9 = .ok (.bipush 70, 2) := by decide +kernel
theorem d_Mod_read_11 : decode m_Mod_read.2.1 11 = .ok (.if_icmp .ge 18, 3) := by decide +kernel
theorem d_Mod_read_14 : decode m_Mod_read.2.1 14 = .ok (.aload_n 0, 1) := by decide +kernel
theorem d_Mod_read_15 : decode m_Mod_read.2.1 15 = .ok (.getfield 13, 3) := by decide +kernel
theorem d_Mod_read_18 : decode m_Mod_read.2.1 18 = .ok (.iload_n 2, 1) := by decide +kernel
theorem d_Mod_read_19 : decode m_Mod_read.2.1 19 = .ok (.iload_n 3, 1) := by decide +kernel
theorem d_Mod_read_20 : decode m_Mod_read.2.1 20 = .ok (.iadd, 1) := by decide +kernel
theorem d_Mod_read_21 : decode m_Mod_read.2.1 21 = .ok (.iconst 0, 1) := by decide +kernel
theorem d_Mod_read_22 : decode m_Mod_read.2.1 22 = .ok (.iastore, 1) := by decide +kernel
theorem d_Mod_read_23 : decode m_Mod_read.2.1 23 = .ok (.iinc 3 1, 3) := by decide +kernel
theorem d_Mod_read_26 : decode m_Mod_read.2.1 26 = .ok (.goto (-18), 3) := by decide +kernel
theorem d_Mod_read_29 : decode m_Mod_read.2.1 29 = .ok (.aload_n 0, 1) := by decide +kernel
theorem d_Mod_read_30 : decode m_Mod_read.2.1 30 = .ok (.getfield 13, 3) := by decide +kernel
theorem d_Mod_read_33 : decode m_Mod_read.2.1 33 = .ok (.iload_n 2, 1) := by decide +kernel
theorem d_Mod_read_34 : decode m_Mod_read.2.1 34 = .ok (.bipush 10, 2) := by decide +kernel
theorem d_Mod_read_36 : decode m_Mod_read.2.1 36 = .ok (.iadd, 1) := by decide +kernel
theorem d_Mod_read_37 : decode m_Mod_read.2.1 37 = .ok (.iconst (-1), 1) := by decide +kernel
theorem d_Mod_read_38 : decode m_Mod_read.2.1 38 = .ok (.iastore, 1) := by decide +kernel
theorem d_Mod_read_39 : decode m_Mod_read.2.1 39 = .ok (.aload_n 0, 1) := by decide +kernel
theorem d_Mod_read_40 : decode m_Mod_read.2.1 40 = .ok (.iload_n 2, 1) := by decide +kernel
theorem d_Mod_read_41 : decode m_Mod_read.2.1 41 = .ok (.bipush 70, 2) := by decide +kernel
theorem d_Mod_read_43 : decode m_Mod_read.2.1 43 = .ok (.iadd, 1) := by decide +kernel
theorem d_Mod_read_44 : decode m_Mod_read.2.1 44 = .ok (.putfield 88, 3) := by decide +kernel
theorem d_Mod_read_47 : decode m_Mod_read.2.1 47 = .ok (.aload_n 0, 1) := by decide +kernel
theorem d_Mod_read_48 : decode m_Mod_read.2.1 48 = .ok (.iconst 0, 1) := by decide +kernel
theorem d_Mod_read_49 : decode m_Mod_read.2.1 49 = .ok (.putfield 81, 3) := by decide +kernel
theorem d_Mod_read_52 : decode m_Mod_read.2.1 52 = .ok (.aload_n 0, 1) := by decide +kernel
theorem d_Mod_read_53 : decode m_Mod_read.2.1 53 = .ok (.iconst 0, 1) := by decide +kernel
theorem d_Mod_read_54 : decode m_Mod_read.2.1 54 = .ok (.putfield 102, 3) := by decide +kernel
theorem d_Mod_read_57 : decode m_Mod_read.2.1 57 = .ok (.aload_n 0, 1) := by decide +kernel
theorem d_Mod_read_58 : decode m_Mod_read.2.1 58 = .ok (.iload_n 2, 1) := by decide +kernel
theorem d_Mod_read_59 : decode m_Mod_read.2.1 59 = .ok (.invokevirtual 141, 3) := by decide +kernel
theorem d_Mod_read_62 : decode m_Mod_read.2.1 62 = .ok (.ifCond .eq 18, 3) := by decide +kernel
theorem d_Mod_read_65 : decode m_Mod_read.2.1 65 = .ok (.aload_n 0, 1) := by decide +kernel
theorem d_Mod_read_66 : decode m_Mod_read.2.1 66 = .ok (.getfield 81, 3) := by decide +kernel
theorem d_Mod_read_69 : decode m_Mod_read.2.1 69 = .ok (.aload_n 0, 1) := by decide +kernel
theorem d_Mod_read_70 : decode m_Mod_read.2.1 70 = .ok (.getfield 74, 3) := by decide +kernel
theorem d_Mod_read_73 : decode m_Mod_read.2.1 73 = .ok (.if_icmp .ne 7, 3) := by decide +kernel
theorem d_Mod_read_76 : decode m_Mod_read.2.1 76 = .ok (.iconst 1, 1) := by decide +kernel
theorem d_Mod_read_77 : decode m_Mod_read.2.1 77 = .ok (.goto 4, 3) := by decide +kernel
theorem d_Mod_read_80 : decode m_Mod_read.2.1 80 = .ok (.iconst 0, 1) := by decide +kernel
theorem d_Mod_read_81 : decode m_Mod_read.2.1 81 = .ok (.istore_n 3, 1) := by decide +kernel
theorem d_Mod_read_82 : decode m_Mod_read.2.1 82 = .ok (.iload_n 3, 1) := by decide +kernel
theorem d_Mod_read_83 : decode m_Mod_read.2.1 83 = .ok (.ifCond .ne 11, 3) := by decide +kernel
theorem d_Mod_read_86 : decode m_Mod_read.2.1 86 = .ok (.aload_n 0, 1) := by decide +kernel
theorem d_Mod_read_87 : decode m_Mod_read.2.1 87 = .ok (.aload_n 0, 1) := by decide +kernel
theorem d_Mod_read_88 : decode m_Mod_read.2.1 88 = .ok (.getfield 81, 3) := by decide +kernel
theorem d_Mod_read_91 : decode m_Mod_read.2.1 91 = .ok (.putfield 32, 3) := by decide +kernel
theorem d_Mod_read_94 : decode m_Mod_read.2.1 94 = .ok (.aload_n 0, 1) := by decide +kernel
theorem d_Mod_read_95 : decode m_Mod_read.2.1 95 = .ok (.iconst 0, 1) := by decide +kernel
theorem d_Mod_read_96 : decode m_Mod_read.2.1 96 = .ok (.putfield 74, 3) := by decide +kernel
theorem d_Mod_read_99 : decode m_Mod_read.2.1 99 = .ok (.iload_n 3, 1) := by decide +kernel
theorem d_Mod_read_100 : decode m_Mod_read.2.1 100 = .ok (.ireturn, 1) := by decide +kernel
theorem d_Mod_statement_0 : decode m_Mod_statement.2.1 0 = .ok (.aload_n 0, 1) := by decide +kernel
theorem d_Mod_statement_1 : decode m_Mod_statement.2.1 1 = .ok (.invokevirtual 84, 3) := by decide +kernel
theorem d_Mod_statement_4 : decode m_Mod_statement.2.1 4 = .ok (.istore_n 2, 1) := by decide +kernel
theorem d_Mod_statement_5 : decode m_Mod_statement.2.1 5 = .ok (.iload_n 2, 1) := by decide +kernel
theorem d_Mod_statement_6 : decode m_Mod_statement.2.1 6 = .ok (.bipush 73, 2) := by decide +kernel
theorem d_Mod_statement_8 : decode m_Mod_statement.2.1 8 = .ok (.if_icmp .eq 41, 3) := by decide +kernel
theorem d_Mod_statement_11 : decode m_Mod_statement.2.1 11 = .ok (.iload_n 2, 1) := by decide +kernel
theorem d_Mod_statement_12 : decode m_Mod_statement.2.1 12 = .ok (.bipush 68, 2) := by decide +kernel
theorem d_Mod_statement_14 : decode m_Mod_statement.2.1 14 = .ok (.if_icmp .eq 35, 3) := by decide +kernel
theorem d_Mod_statement_17 : decode m_Mod_statement.2.1 17 = .ok (.iload_n 2, 1) := by decide +kernel
theorem d_Mod_statement_18 : decode m_Mod_statement.2.1 18 = .ok (.bipush 85, 2) := by decide +kernel
theorem d_Mod_statement_20 : decode m_Mod_statement.2.1 20 = .ok (.if_icmp .eq 29, 3) := by decide +kernel
theorem d_Mod_statement_23 : decode m_Mod_statement.2.1 23 = .ok (.iload_n 2, 1) := by decide +kernel
theorem d_Mod_statement_24 : decode m_Mod_statement.2.1 24 = .ok (.bipush 83, 2) := by decide +kernel
theorem d_Mod_statement_26 : decode m_Mod_statement.2.1 26 = .ok (.if_icmp .eq 23, 3) := by decide +kernel
theorem d_Mod_statement_29 : decode m_Mod_statement.2.1 29 = .ok (.iload_n 2, 1) := by decide +kernel
theorem d_Mod_statement_30 : decode m_Mod_statement.2.1 30 = .ok (.bipush 80, 2) := by decide +kernel
theorem d_Mod_statement_32 : decode m_Mod_statement.2.1 32 = .ok (.if_icmp .eq 17, 3) := by decide +kernel
theorem d_Mod_statement_35 : decode m_Mod_statement.2.1 35 = .ok (.iload_n 2, 1) := by decide +kernel
theorem d_Mod_statement_36 : decode m_Mod_statement.2.1 36 = .ok (.bipush 65, 2) := by decide +kernel
theorem d_Mod_statement_38 : decode m_Mod_statement.2.1 38 = .ok (.if_icmp .eq 11, 3) := by decide +kernel
theorem d_Mod_statement_41 : decode m_Mod_statement.2.1 41 = .ok (.iload_n 2, 1) := by decide +kernel
theorem d_Mod_statement_42 : decode m_Mod_statement.2.1 42 = .ok (.bipush 66, 2) := by decide +kernel
theorem d_Mod_statement_44 : decode m_Mod_statement.2.1 44 = .ok (.if_icmp .eq 5, 3) := by decide +kernel
theorem d_Mod_statement_47 : decode m_Mod_statement.2.1 47 = .ok (.iconst 0, 1) := by decide +kernel
theorem d_Mod_statement_48 : decode m_Mod_statement.2.1 48 = .ok (.ireturn, 1) := by decide +kernel
theorem d_Mod_statement_49 : decode m_Mod_statement.2.1 49 = .ok (.aload_n 0, 1) := by decide +kernel
theorem d_Mod_statement_50 : decode m_Mod_statement.2.1 50 = .ok (.dup, 1) := by decide +kernel
theorem d_Mod_statement_51 : decode m_Mod_statement.2.1 51 = .ok (.getfield 81, 3) := by decide +kernel
theorem d_Mod_statement_54 : decode m_Mod_statement.2.1 54 = .ok (.iconst 1, 1) := by decide +kernel
theorem d_Mod_statement_55 : decode m_Mod_statement.2.1 55 = .ok (.iadd, 1) := by decide +kernel
theorem d_Mod_statement_56 : decode m_Mod_statement.2.1 56 = .ok (.putfield 81, 3) := by decide +kernel
theorem d_Mod_statement_59 : decode m_Mod_statement.2.1 59 = .ok (.aload_n 0, 1) := by decide +kernel
theorem d_Mod_statement_60 : decode m_Mod_statement.2.1 60 = .ok (.getfield 13, 3) := by decide +kernel
theorem d_Mod_statement_63 : decode m_Mod_statement.2.1 63 = .ok (.iload_n 1, 1) := by decide +kernel
theorem d_Mod_statement_64 : decode m_Mod_statement.2.1 64 = .ok (.iload_n 2, 1) := by decide +kernel
theorem d_Mod_statement_65 : decode m_Mod_statement.2.1 65 = .ok (.iastore, 1) := by decide +kernel
theorem d_Mod_statement_66 : decode m_Mod_statement.2.1 66 = .ok (.iload_n 2, 1) := by decide +kernel
theorem d_Mod_statement_67 : decode m_Mod_statement.2.1 67 = .ok (.bipush 80, 2) := by decide +kernel
theorem d_Mod_statement_69 : decode m_Mod_statement.2.1 69 = .ok (.if_icmp .eq 9, 3) := by decide +kernel
theorem d_Mod_statement_72 : decode m_Mod_statement.2.1 72 = .ok (.iload_n 2, 1) := by decide +kernel
theorem d_Mod_statement_73 : decode m_Mod_statement.2.1 73 = .ok (.bipush 66, 2) := by decide +kernel
theorem d_Mod_statement_75 : decode m_Mod_statement.2.1 75 = .ok (.if_icmp .ne 7, 3) := by decide +kernel
theorem d_Mod_statement_78 : decode m_Mod_statement.2.1 78 = .ok (.iconst 1, 1) := by decide +kernel
theorem d_Mod_statement_79 : decode m_Mod_statement.2.1 79 = .ok (.goto 4, 3) := by decide +kernel
theorem d_Mod_statement_82 : decode m_Mod_statement.2.1 82 = .ok (.iconst 0, 1) := by decide +kernel
theorem d_Mod_statement_83 : decode m_Mod_statement.2.1 83 = .ok (.istore_n 3, 1) := by decide +kernel
theorem d_Mod_statement_84 : decode m_Mod_statement.2.1 84 = .ok (.aload_n 0, 1) := by decide +kernel
theorem d_Mod_statement_85 : decode m_Mod_statement.2.1 85 = .ok (.iload_n 2, 1) := by decide +kernel
theorem d_Mod_statement_86 : decode m_Mod_statement.2.1 86 = .ok (.bipush 73, 2) := by decide +kernel
theorem d_Mod_statement_88 : decode m_Mod_statement.2.1 88 = .ok (.if_icmp .ne 7, 3) := by decide +kernel
theorem d_Mod_statement_91 : decode m_Mod_statement.2.1 91 = .ok (.iconst 0, 1) := by decide +kernel
theorem d_Mod_statement_92 : decode m_Mod_statement.2.1 92 = .ok (.goto 13, 3) := by decide +kernel
theorem d_Mod_statement_95 : decode m_Mod_statement.2.1 95 = .ok (.iload_n 3, 1) := by decide +kernel
theorem d_Mod_statement_96 : decode m_Mod_statement.2.1 96 = .ok (.ifCond .eq 8, 3) := by decide +kernel
theorem d_Mod_statement_99 : decode m_Mod_statement.2.1 99 = .ok (.bipush 6, 2) := by decide +kernel
theorem d_Mod_statement_101 : decode m_Mod_statement.2.1 101 = .ok (.goto 4, 3) := by decide +kernel
theorem d_Mod_statement_104 : decode m_Mod_statement.2.1 104 = .ok (.iconst 3, 1) := by decide +kernel
theorem d_Mod_statement_105 : decode m_Mod_statement.2.1 105 = .ok (.putfield 105, 3) := by decide +kernel
theorem d_Mod_statement_108 : decode m_Mod_statement.2.1 108 = .ok (.aload_n 0, 1) := by decide +kernel
theorem d_Mod_statement_109 : decode m_Mod_statement.2.1 109 = .ok (.iload_n 1, 1) := by decide +kernel
theorem d_Mod_statement_110 : decode m_Mod_statement.2.1 110 = .ok (.iconst 1, 1) := by decide +kernel
theorem d_Mod_statement_111 : decode m_Mod_statement.2.1 111 = .ok (.iadd, 1) := by decide +kernel
theorem d_Mod_statement_112 : decode m_Mod_statement.2.1 112 = .ok (.invokevirtual 131, 3) := by decide +kernel
theorem d_Mod_statement_115 : decode m_Mod_statement.2.1 115 = .ok (.ifCond .eq 17, 3) := by decide +kernel
theorem d_Mod_statement_118 : decode m_Mod_statement.2.1 118 = .ok (.iload_n 3, 1) := by decide +kernel
theorem d_Mod_statement_119 : decode m_Mod_statement.2.1 119 = .ok (.ifCond .eq 15, 3) := by decide +kernel
theorem d_Mod_statement_122 : decode m_Mod_statement.2.1 122 = .ok (.aload_n 0, 1) := by decide +kernel
theorem d_Mod_statement_123 : decode m_Mod_statement.2.1 123 = .ok (.iload_n 1, 1) := by decide +kernel
theorem d_Mod_statement_124 : decode m_Mod_statement.2.1 124 = .ok (.iconst 2, 1) := by decide +kernel
theorem d_Mod_statement_125 : decode m_Mod_statement.2.1 125 = .ok (.iadd, 1) := by decide +kernel
theorem d_Mod_statement_126 : decode m_Mod_statement.2.1 126 = .ok (.invokevirtual 131, 3) := by decide +kernel
theorem d_Mod_statement_129 : decode m_Mod_statement.2.1 129 = .ok (.ifCond .ne 5, 3) := by decide +kernel
theorem d_Mod_statement_132 : decode m_Mod_statement.2.1 132 = .ok (.iconst 0, 1) := by decide +kernel
theorem d_Mod_statement_133 : decode m_Mod_statement.2.1 133 = .ok (.ireturn, 1) := by decide +kernel
theorem d_Mod_statement_134 : decode m_Mod_statement.2.1 134 = .ok (.iload_n 2, 1) := by decide +kernel
theorem d_Mod_statement_135 : decode m_Mod_statement.2.1 135 = .ok (.bipush 73, 2) := by decide +kernel
theorem d_Mod_statement_137 : decode m_Mod_statement.2.1 137 = .ok (.if_icmp .ne 48, 3) := by decide +kernel
theorem d_Mod_statement_140 : decode m_Mod_statement.2.1 140 = .ok (.aload_n 0, 1) := by decide +kernel
theorem d_Mod_statement_141 : decode m_Mod_statement.2.1 141 = .ok (.bipush 40, 2) := by decide +kernel
theorem d_Mod_statement_143 : decode m_Mod_statement.2.1 143 = .ok (.invokevirtual 124, 3) := by decide +kernel
theorem d_Mod_statement_146 : decode m_Mod_statement.2.1 146 = .ok (.ifCond .eq 37, 3) := by decide +kernel
theorem d_Mod_statement_149 : decode m_Mod_statement.2.1 149 = .ok (.aload_n 0, 1) := by decide +kernel
theorem d_Mod_statement_150 : decode m_Mod_statement.2.1 150 = .ok (.iload_n 1, 1) := by decide +kernel
theorem d_Mod_statement_151 : decode m_Mod_statement.2.1 151 = .ok (.iconst 3, 1) := by decide +kernel
theorem d_Mod_statement_152 : decode m_Mod_statement.2.1 152 = .ok (.invokevirtual 134, 3) := by decide +kernel
theorem d_Mod_statement_155 : decode m_Mod_statement.2.1 155 = .ok (.ifCond .eq 28, 3) := by decide +kernel
theorem d_Mod_statement_158 : decode m_Mod_statement.2.1 158 = .ok (.aload_n 0, 1) := by decide +kernel
theorem d_Mod_statement_159 : decode m_Mod_statement.2.1 159 = .ok (.getfield 13, 3) := by decide +kernel
theorem d_Mod_statement_162 : decode m_Mod_statement.2.1 162 = .ok (.iload_n 1, 1) := by decide +kernel
theorem d_Mod_statement_163 : decode m_Mod_statement.2.1 163 = .ok (.iconst 3, 1) := by decide +kernel
theorem d_Mod_statement_164 : decode m_Mod_statement.2.1 164 = .ok (.iadd, 1) := by decide +kernel
theorem d_Mod_statement_165 : decode m_Mod_statement.2.1 165 = .ok (.iaload, 1) := by decide +kernel
theorem d_Mod_statement_166 : decode m_Mod_statement.2.1 166 = .ok (.iconst 3, 1) := by decide +kernel
theorem d_Mod_statement_167 : decode m_Mod_statement.2.1 167 = .ok (.if_icmp .ne 16, 3) := by decide +kernel
theorem d_Mod_statement_170 : decode m_Mod_statement.2.1 170 = .ok (.aload_n 0, 1) := by decide +kernel
theorem d_Mod_statement_171 : decode m_Mod_statement.2.1 171 = .ok (.bipush 41, 2) := by decide +kernel
theorem d_Mod_statement_173 : decode m_Mod_statement.2.1 173 = .ok (.invokevirtual 124, 3) := by decide +kernel
theorem d_Mod_statement_176 : decode m_Mod_statement.2.1 176 = .ok (.ifCond .eq 7, 3) := by decide +kernel
theorem d_Mod_statement_179 : decode m_Mod_statement.2.1 179 = .ok (.iconst 1, 1) := by decide +kernel
theorem d_Mod_statement_180 : decode m_Mod_statement.2.1 180 = .ok (.goto 4, 3) := by decide +kernel
theorem d_Mod_statement_183 : decode m_Mod_statement.2.1 183 = .ok (.iconst 0, 1) := by decide +kernel
theorem d_Mod_statement_184 : decode m_Mod_statement.2.1 184 = .ok (.ireturn, 1) := by decide +kernel
theorem d_Mod_statement_185 : decode m_Mod_statement.2.1 185 = .ok (.iload_n 2, 1) := by decide +kernel
theorem d_Mod_statement_186 : decode m_Mod_statement.2.1 186 = .ok (.bipush 85, 2) := by decide +kernel
theorem d_Mod_statement_188 : decode m_Mod_statement.2.1 188 = .ok (.if_icmp .ne 69, 3) := by decide +kernel
theorem d_Mod_statement_191 : decode m_Mod_statement.2.1 191 = .ok (.aload_n 0, 1) := by decide +kernel
theorem d_Mod_statement_192 : decode m_Mod_statement.2.1 192 = .ok (.invokevirtual 84, 3) := by decide +kernel
theorem d_Mod_statement_195 : decode m_Mod_statement.2.1 195 = .ok (.bipush 98, 2) := by decide +kernel
theorem d_Mod_statement_197 : decode m_Mod_statement.2.1 197 = .ok (.if_icmp .eq 14, 3) := by decide +kernel
theorem d_Mod_statement_200 : decode m_Mod_statement.2.1 200 = .ok (.aload_n 0, 1) := by decide +kernel
theorem d_Mod_statement_201 : decode m_Mod_statement.2.1 201 = .ok (.invokevirtual 84, 3) := by decide +kernel
theorem d_Mod_statement_204 : decode m_Mod_statement.2.1 204 = .ok (.bipush 99, 2) := by decide +kernel
theorem d_Mod_statement_206 : decode m_Mod_statement.2.1 206 = .ok (.if_icmp .eq 5, 3) := by decide +kernel
theorem d_Mod_statement_209 : decode m_Mod_statement.2.1 209 = .ok (.iconst 0, 1) := by decide +kernel
theorem d_Mod_statement_210 : decode m_Mod_statement.2.1 210 = .ok (.ireturn, 1) := by decide +kernel
theorem d_Mod_statement_211 : decode m_Mod_statement.2.1 211 = .ok (.aload_n 0, 1) := by decide +kernel
theorem d_Mod_statement_212 : decode m_Mod_statement.2.1 212 = .ok (.getfield 13, 3) := by decide +kernel
theorem d_Mod_statement_215 : decode m_Mod_statement.2.1 215 = .ok (.iload_n 1, 1) := by decide +kernel
theorem d_Mod_statement_216 : decode m_Mod_statement.2.1 216 = .ok (.bipush 9, 2) := by decide +kernel
theorem d_Mod_statement_218 : decode m_Mod_statement.2.1 218 = .ok (.iadd, 1) := by decide +kernel
theorem d_Mod_statement_219 : decode m_Mod_statement.2.1 219 = .ok (.aload_n 0, 1) := by decide +kernel
theorem d_Mod_statement_220 : decode m_Mod_statement.2.1 220 = .ok (.invokevirtual 84, 3) := by decide +kernel
theorem d_Mod_statement_223 : decode m_Mod_statement.2.1 223 = .ok (.bipush 97, 2) := by decide +kernel
theorem d_Mod_statement_225 : decode m_Mod_statement.2.1 225 = .ok (.isub, 1) := by decide +kernel
theorem d_Mod_statement_226 : decode m_Mod_statement.2.1 226 = .ok (.iastore, 1) := by decide +kernel
theorem d_Mod_statement_227 : decode m_Mod_statement.2.1 227 = .ok (.aload_n 0, 1) := by decide +kernel
theorem d_Mod_statement_228 : decode m_Mod_statement.2.1 228 = .ok (.dup, 1) := by decide +kernel
theorem d_Mod_statement_229 : decode m_Mod_statement.2.1 229 = .ok (.getfield 81, 3) := by decide +kernel
theorem d_Mod_statement_232 : decode m_Mod_statement.2.1 232 = .ok (.iconst 1, 1) := by decide +kernel
theorem d_Mod_statement_233 : decode m_Mod_statement.2.1 233 = .ok (.iadd, 1) := by decide +kernel
theorem d_Mod_statement_234 : decode m_Mod_statement.2.1 234 = .ok (.putfield 81, 3) := by decide +kernel
theorem d_Mod_statement_237 : decode m_Mod_statement.2.1 237 = .ok (.aload_n 0, 1) := by decide +kernel
theorem d_Mod_statement_238 : decode m_Mod_statement.2.1 238 = .ok (.bipush 61, 2) := by decide +kernel
theorem d_Mod_statement_240 : decode m_Mod_statement.2.1 240 = .ok (.invokevirtual 124, 3) := by decide +kernel
theorem d_Mod_statement_243 : decode m_Mod_statement.2.1 243 = .ok (.ifCond .eq 12, 3) := by decide +kernel
theorem d_Mod_statement_246 : decode m_Mod_statement.2.1 246 = .ok (.aload_n 0, 1) := by decide +kernel
theorem d_Mod_statement_247 : decode m_Mod_statement.2.1 247 = .ok (.iload_n 1, 1) := by decide +kernel
theorem d_Mod_statement_248 : decode m_Mod_statement.2.1 248 = .ok (.iconst 1, 1) := by decide +kernel
theorem d_Mod_statement_249 : decode m_Mod_statement.2.1 249 = .ok (.invokevirtual 134, 3) := by decide +kernel
theorem d_Mod_statement_252 : decode m_Mod_statement.2.1 252 = .ok (.ifCond .ne 5, 3) := by decide +kernel
theorem d_Mod_statement_255 : decode m_Mod_statement.2.1 255 = .ok (.iconst 0, 1) := by decide +kernel
theorem d_Mod_statement_256 : decode m_Mod_statement.2.1 256 = .ok (.ireturn, 1) := by decide +kernel
theorem d_Mod_statement_257 : decode m_Mod_statement.2.1 257 = .ok (.iload_n 2, 1) := by decide +kernel
theorem d_Mod_statement_258 : decode m_Mod_statement.2.1 258 = .ok (.bipush 65, 2) := by decide +kernel
theorem d_Mod_statement_260 : decode m_Mod_statement.2.1 260 = .ok (.if_icmp .eq 9, 3) := by decide +kernel
theorem d_Mod_statement_263 : decode m_Mod_statement.2.1 263 = .ok (.iload_n 2, 1) := by decide +kernel
theorem d_Mod_statement_264 : decode m_Mod_statement.2.1 264 = .ok (.bipush 66, 2) := by decide +kernel
theorem d_Mod_statement_266 : decode m_Mod_statement.2.1 266 = .ok (.if_icmp .ne 63, 3) := by decide +kernel
theorem d_Mod_statement_269 : decode m_Mod_statement.2.1 269 = .ok (.aload_n 0, 1) := by decide +kernel
theorem d_Mod_statement_270 : decode m_Mod_statement.2.1 270 = .ok (.getfield 13, 3) := by decide +kernel
theorem d_Mod_statement_273 : decode m_Mod_statement.2.1 273 = .ok (.iload_n 1, 1) := by decide +kernel
theorem d_Mod_statement_274 : decode m_Mod_statement.2.1 274 = .ok (.bipush 9, 2) := by decide +kernel
theorem d_Mod_statement_276 : decode m_Mod_statement.2.1 276 = .ok (.iadd, 1) := by decide +kernel
theorem d_Mod_statement_277 : decode m_Mod_statement.2.1 277 = .ok (.aload_n 0, 1) := by decide +kernel
theorem d_Mod_statement_278 : decode m_Mod_statement.2.1 278 = .ok (.invokevirtual 84, 3) := by decide +kernel
theorem d_Mod_statement_281 : decode m_Mod_statement.2.1 281 = .ok (.iastore, 1) := by decide +kernel
theorem d_Mod_statement_282 : decode m_Mod_statement.2.1 282 = .ok (.aload_n 0, 1) := by decide +kernel
theorem d_Mod_statement_283 : decode m_Mod_statement.2.1 283 = .ok (.bipush 43, 2) := by decide +kernel
theorem d_Mod_statement_285 : decode m_Mod_statement.2.1 285 = .ok (.invokevirtual 124, 3) := by decide +kernel
theorem d_Mod_statement_288 : decode m_Mod_statement.2.1 288 = .ok (.ifCond .ne 30, 3) := by decide +kernel
theorem d_Mod_statement_291 : decode m_Mod_statement.2.1 291 = .ok (.aload_n 0, 1) := by decide +kernel
theorem d_Mod_statement_292 : decode m_Mod_statement.2.1 292 = .ok (.bipush 35, 2) := by decide +kernel
theorem d_Mod_statement_294 : decode m_Mod_statement.2.1 294 = .ok (.invokevirtual 124, 3) := by decide +kernel
theorem d_Mod_statement_297 : decode m_Mod_statement.2.1 297 = .ok (.ifCond .ne 21, 3) := by decide +kernel
theorem d_Mod_statement_300 : decode m_Mod_statement.2.1 300 = .ok (.aload_n 0, 1) := by decide +kernel
theorem d_Mod_statement_301 : decode m_Mod_statement.2.1 301 = .ok (.bipush 62, 2) := by decide +kernel
theorem d_Mod_statement_303 : decode m_Mod_statement.2.1 303 = .ok (.invokevirtual 124, 3) := by decide +kernel
theorem d_Mod_statement_306 : decode m_Mod_statement.2.1 306 = .ok (.ifCond .ne 12, 3) := by decide +kernel
theorem d_Mod_statement_309 : decode m_Mod_statement.2.1 309 = .ok (.aload_n 0, 1) := by decide +kernel
theorem d_Mod_statement_310 : decode m_Mod_statement.2.1 310 = .ok (.bipush 60, 2) := by decide +kernel
theorem d_Mod_statement_312 : decode m_Mod_statement.2.1 312 = .ok (.invokevirtual 124, 3) := by decide +kernel
theorem d_Mod_statement_315 : decode m_Mod_statement.2.1 315 = .ok (.ifCond .eq 12, 3) := by decide +kernel
theorem d_Mod_statement_318 : decode m_Mod_statement.2.1 318 = .ok (.aload_n 0, 1) := by decide +kernel
theorem d_Mod_statement_319 : decode m_Mod_statement.2.1 319 = .ok (.iload_n 1, 1) := by decide +kernel
theorem d_Mod_statement_320 : decode m_Mod_statement.2.1 320 = .ok (.iconst 1, 1) := by decide +kernel
theorem d_Mod_statement_321 : decode m_Mod_statement.2.1 321 = .ok (.invokevirtual 134, 3) := by decide +kernel
theorem d_Mod_statement_324 : decode m_Mod_statement.2.1 324 = .ok (.ifCond .ne 5, 3) := by decide +kernel
theorem d_Mod_statement_327 : decode m_Mod_statement.2.1 327 = .ok (.iconst 0, 1) := by decide +kernel
theorem d_Mod_statement_328 : decode m_Mod_statement.2.1 328 = .ok (.ireturn, 1) := by decide +kernel
theorem d_Mod_statement_329 : decode m_Mod_statement.2.1 329 = .ok (.iload_n 2, 1) := by decide +kernel
theorem d_Mod_statement_330 : decode m_Mod_statement.2.1 330 = .ok (.bipush 83, 2) := by decide +kernel
theorem d_Mod_statement_332 : decode m_Mod_statement.2.1 332 = .ok (.if_icmp .eq 9, 3) := by decide +kernel
theorem d_Mod_statement_335 : decode m_Mod_statement.2.1 335 = .ok (.iload_n 2, 1) := by decide +kernel
theorem d_Mod_statement_336 : decode m_Mod_statement.2.1 336 = .ok (.bipush 80, 2) := by decide +kernel
theorem d_Mod_statement_338 : decode m_Mod_statement.2.1 338 = .ok (.if_icmp .ne 14, 3) := by decide +kernel
theorem d_Mod_statement_341 : decode m_Mod_statement.2.1 341 = .ok (.aload_n 0, 1) := by decide +kernel
theorem d_Mod_statement_342 : decode m_Mod_statement.2.1 342 = .ok (.iload_n 1, 1) := by decide +kernel
theorem d_Mod_statement_343 : decode m_Mod_statement.2.1 343 = .ok (.iconst 3, 1) := by decide +kernel
theorem d_Mod_statement_344 : decode m_Mod_statement.2.1 344 = .ok (.invokevirtual 134, 3) := by decide +kernel
theorem d_Mod_statement_347 : decode m_Mod_statement.2.1 347 = .ok (.ifCond .ne 5, 3) := by decide +kernel
theorem d_Mod_statement_350 : decode m_Mod_statement.2.1 350 = .ok (.iconst 0, 1) := by decide +kernel
theorem d_Mod_statement_351 : decode m_Mod_statement.2.1 351 = .ok (.ireturn, 1) := by decide +kernel
theorem d_Mod_statement_352 : decode m_Mod_statement.2.1 352 = .ok (.aload_n 0, 1) := by decide +kernel
theorem d_Mod_statement_353 : decode m_Mod_statement.2.1 353 = .ok (.iload_n 1, 1) := by decide +kernel
theorem d_Mod_statement_354 : decode m_Mod_statement.2.1 354 = .ok (.invokevirtual 138, 3) := by decide +kernel
theorem d_Mod_statement_357 : decode m_Mod_statement.2.1 357 = .ok (.ifCond .ne 5, 3) := by decide +kernel
theorem d_Mod_statement_360 : decode m_Mod_statement.2.1 360 = .ok (.iconst 0, 1) := by decide +kernel
theorem d_Mod_statement_361 : decode m_Mod_statement.2.1 361 = .ok (.ireturn, 1) := by decide +kernel
theorem d_Mod_statement_362 : decode m_Mod_statement.2.1 362 = .ok (.iload_n 2, 1) := by decide +kernel
theorem d_Mod_statement_363 : decode m_Mod_statement.2.1 363 = .ok (.bipush 83, 2) := by decide +kernel
theorem d_Mod_statement_365 : decode m_Mod_statement.2.1 365 = .ok (.if_icmp .eq 9, 3) := by decide +kernel
theorem d_Mod_statement_368 : decode m_Mod_statement.2.1 368 = .ok (.iload_n 2, 1) := by decide +kernel
theorem d_Mod_statement_369 : decode m_Mod_statement.2.1 369 = .ok (.bipush 80, 2) := by decide +kernel
theorem d_Mod_statement_371 : decode m_Mod_statement.2.1 371 = .ok (.if_icmp .ne 61, 3) := by decide +kernel
theorem d_Mod_statement_374 : decode m_Mod_statement.2.1 374 = .ok (.aload_n 0, 1) := by decide +kernel
theorem d_Mod_statement_375 : decode m_Mod_statement.2.1 375 = .ok (.bipush 94, 2) := by decide +kernel
theorem d_Mod_statement_377 : decode m_Mod_statement.2.1 377 = .ok (.invokevirtual 124, 3) := by decide +kernel
theorem d_Mod_statement_380 : decode m_Mod_statement.2.1 380 = .ok (.ifCond .eq 52, 3) := by decide +kernel
theorem d_Mod_statement_383 : decode m_Mod_statement.2.1 383 = .ok (.aload_n 0, 1) := by decide +kernel
theorem d_Mod_statement_384 : decode m_Mod_statement.2.1 384 = .ok (.invokevirtual 84, 3) := by decide +kernel
theorem d_Mod_statement_387 : decode m_Mod_statement.2.1 387 = .ok (.bipush 97, 2) := by decide +kernel
theorem d_Mod_statement_389 : decode m_Mod_statement.2.1 389 = .ok (.bipush 97, 2) := by decide +kernel
theorem d_Mod_statement_391 : decode m_Mod_statement.2.1 391 = .ok (.aload_n 0, 1) := by decide +kernel
theorem d_Mod_statement_392 : decode m_Mod_statement.2.1 392 = .ok (.getfield 105, 3) := by decide +kernel
theorem d_Mod_statement_395 : decode m_Mod_statement.2.1 395 = .ok (.iadd, 1) := by decide +kernel
theorem d_Mod_statement_396 : decode m_Mod_statement.2.1 396 = .ok (.iconst 1, 1) := by decide +kernel
theorem d_Mod_statement_397 : decode m_Mod_statement.2.1 397 = .ok (.isub, 1) := by decide +kernel
theorem d_Mod_statement_398 : decode m_Mod_statement.2.1 398 = .ok (.invokestatic 66, 3) := by decide +kernel
theorem d_Mod_statement_401 : decode m_Mod_statement.2.1 401 = .ok (.ifCond .ne 5, 3) := by decide +kernel
theorem d_Mod_statement_404 : decode m_Mod_statement.2.1 404 = .ok (.iconst 0, 1) := by decide +kernel
theorem d_Mod_statement_405 : decode m_Mod_statement.2.1 405 = .ok (.ireturn, 1) := by decide +kernel
theorem d_Mod_statement_406 : decode m_Mod_statement.2.1 406 = .ok (.aload_n 0, 1) := by decide +kernel
theorem d_Mod_statement_407 : decode m_Mod_statement.2.1 407 = .ok (.getfield 13, 3) := by decide +kernel
theorem d_Mod_statement_410 : decode m_Mod_statement.2.1 410 = .ok (.iload_n 1, 1) := by decide +kernel
theorem d_Mod_statement_411 : decode m_Mod_statement.2.1 411 = .ok (.bipush 10, 2) := by decide +kernel
theorem d_Mod_statement_413 : decode m_Mod_statement.2.1 413 = .ok (.iadd, 1) := by decide +kernel
theorem d_Mod_statement_414 : decode m_Mod_statement.2.1 414 = .ok (.aload_n 0, 1) := by decide +kernel
theorem d_Mod_statement_415 : decode m_Mod_statement.2.1 415 = .ok (.invokevirtual 84, 3) := by decide +kernel
theorem d_Mod_statement_418 : decode m_Mod_statement.2.1 418 = .ok (.bipush 97, 2) := by decide +kernel
theorem d_Mod_statement_420 : decode m_Mod_statement.2.1 420 = .ok (.isub, 1) := by decide +kernel
theorem d_Mod_statement_421 : decode m_Mod_statement.2.1 421 = .ok (.iastore, 1) := by decide +kernel
theorem d_Mod_statement_422 : decode m_Mod_statement.2.1 422 = .ok (.aload_n 0, 1) := by decide +kernel
theorem d_Mod_statement_423 : decode m_Mod_statement.2.1 423 = .ok (.dup, 1) := by decide +kernel
theorem d_Mod_statement_424 : decode m_Mod_statement.2.1 424 = .ok (.getfield 81, 3) := by decide +kernel
theorem d_Mod_statement_427 : decode m_Mod_statement.2.1 427 = .ok (.iconst 1, 1) := by decide +kernel
theorem d_Mod_statement_428 : decode m_Mod_statement.2.1 428 = .ok (.iadd, 1) := by decide +kernel
theorem d_Mod_statement_429 : decode m_Mod_statement.2.1 429 = .ok (.putfield 81, 3) := by decide +kernel
theorem d_Mod_statement_432 : decode m_Mod_statement.2.1 432 = .ok (.iconst 1, 1) := by decide +kernel
theorem d_Mod_statement_433 : decode m_Mod_statement.2.1 433 = .ok (.ireturn, 1) := by decide +kernel
theorem d_Mod_look_0 : decode m_Mod_look.2.1 0 = .ok (.aload_n 0, 1) := by decide +kernel
theorem d_Mod_look_1 : decode m_Mod_look.2.1 1 = .ok (.getfield 81, 3) := by decide +kernel
theorem d_Mod_look_4 : decode m_Mod_look.2.1 4 = .ok (.aload_n 0, 1) := by decide +kernel
theorem d_Mod_look_5 : decode m_Mod_look.2.1 5 = .ok (.getfield 74, 3) := by decide +kernel
theorem d_Mod_look_8 : decode m_Mod_look.2.1 8 = .ok (.if_icmp .ge 15, 3) := by decide +kernel
theorem d_Mod_look_11 : decode m_Mod_look.2.1 11 = .ok (.aload_n 0, 1) := by decide +kernel
theorem d_Mod_look_12 : decode m_Mod_look.2.1 12 = .ok (.getfield 7, 3) := by decide +kernel
theorem d_Mod_look_15 : decode m_Mod_look.2.1 15 = .ok (.aload_n 0, 1) := by decide +kernel
theorem d_Mod_look_16 : decode m_Mod_look.2.1 16 = .ok (.getfield 81, 3) := by decide +kernel
theorem d_Mod_look_19 : decode m_Mod_look.2.1 19 = .ok (.iaload, 1) := by decide +kernel
theorem d_Mod_look_20 : decode m_Mod_look.2.1 20 = .ok (.goto 4, 3) := by decide +kernel
theorem d_Mod_look_23 : decode m_Mod_look.2.1 23 = .ok (.iconst 0, 1) := by decide +kernel
theorem d_Mod_look_24 : decode m_Mod_look.2.1 24 = .ok (.ireturn, 1) := by decide +kernel
theorem d_Mod_table_0 : decode m_Mod_table.2.1 0 = .ok (.aload_n 0, 1) := by decide +kernel
theorem d_Mod_table_1 : decode m_Mod_table.2.1 1 = .ok (.invokevirtual 84, 3) := by decide +kernel
theorem d_Mod_table_4 : decode m_Mod_table.2.1 4 = .ok (.bipush 48, 2) := by decide +kernel
theorem d_Mod_table_6 : decode m_Mod_table.2.1 6 = .ok (.bipush 50, 2) := by decide +kernel
theorem d_Mod_table_8 : decode m_Mod_table.2.1 8 = .ok (.invokestatic 66, 3) := by decide +kernel
theorem d_Mod_table_11 : decode m_Mod_table.2.1 11 = .ok (.ifCond .ne 5, 3) := by decide +kernel
theorem d_Mod_table_14 : decode m_Mod_table.2.1 14 = .ok (.iconst 0, 1) := by decide +kernel
theorem d_Mod_table_15 : decode m_Mod_table.2.1 15 = .ok (.ireturn, 1) := by decide +kernel
theorem d_Mod_table_16 : decode m_Mod_table.2.1 16 = .ok (.aload_n 0, 1) := by decide +kernel
theorem d_Mod_table_17 : decode m_Mod_table.2.1 17 = .ok (.getfield 13, 3) := by decide +kernel
theorem d_Mod_table_20 : decode m_Mod_table.2.1 20 = .ok (.iload_n 1, 1) := by decide +kernel
theorem d_Mod_table_21 : decode m_Mod_table.2.1 21 = .ok (.aload_n 0, 1) := by decide +kernel
theorem d_Mod_table_22 : decode m_Mod_table.2.1 22 = .ok (.invokevirtual 84, 3) := by decide +kernel
theorem d_Mod_table_25 : decode m_Mod_table.2.1 25 = .ok (.bipush 48, 2) := by decide +kernel
theorem d_Mod_table_27 : decode m_Mod_table.2.1 27 = .ok (.isub, 1) := by decide +kernel
theorem d_Mod_table_28 : decode m_Mod_table.2.1 28 = .ok (.iastore, 1) := by decide +kernel
theorem d_Mod_table_29 : decode m_Mod_table.2.1 29 = .ok (.aload_n 0, 1) := by decide +kernel
theorem d_Mod_table_30 : decode m_Mod_table.2.1 30 = .ok (.dup, 1) := by decide +kernel
theorem d_Mod_table_31 : decode m_Mod_table.2.1 31 = .ok (.getfield 81, 3) := by decide +kernel
theorem d_Mod_table_34 : decode m_Mod_table.2.1 34 = .ok (.iconst 1, 1) := by decide +kernel
theorem d_Mod_table_35 : decode m_Mod_table.2.1 35 = .ok (.iadd, 1) := by decide +kernel
theorem d_Mod_table_36 : decode m_Mod_table.2.1 36 = .ok (.putfield 81, 3) := by decide +kernel
theorem d_Mod_table_39 : decode m_Mod_table.2.1 39 = .ok (.iconst 1, 1) := by decide +kernel
theorem d_Mod_table_40 : decode m_Mod_table.2.1 40 = .ok (.ireturn, 1) := by decide +kernel
theorem d_Mod_passes_0 : decode m_Mod_passes.2.1 0 = .ok (.aload_n 0, 1) := by decide +kernel
theorem d_Mod_passes_1 : decode m_Mod_passes.2.1 1 = .ok (.invokevirtual 84, 3) := by decide +kernel
theorem d_Mod_passes_4 : decode m_Mod_passes.2.1 4 = .ok (.iload_n 1, 1) := by decide +kernel
theorem d_Mod_passes_5 : decode m_Mod_passes.2.1 5 = .ok (.if_icmp .eq 5, 3) := by decide +kernel
theorem d_Mod_passes_8 : decode m_Mod_passes.2.1 8 = .ok (.iconst 0, 1) := by decide +kernel
theorem d_Mod_passes_9 : decode m_Mod_passes.2.1 9 = .ok (.ireturn, 1) := by decide +kernel
theorem d_Mod_passes_10 : decode m_Mod_passes.2.1 10 = .ok (.aload_n 0, 1) := by decide +kernel
theorem d_Mod_passes_11 : decode m_Mod_passes.2.1 11 = .ok (.dup, 1) := by decide +kernel
theorem d_Mod_passes_12 : decode m_Mod_passes.2.1 12 = .ok (.getfield 81, 3) := by decide +kernel
theorem d_Mod_passes_15 : decode m_Mod_passes.2.1 15 = .ok (.iconst 1, 1) := by decide +kernel
theorem d_Mod_passes_16 : decode m_Mod_passes.2.1 16 = .ok (.iadd, 1) := by decide +kernel
theorem d_Mod_passes_17 : decode m_Mod_passes.2.1 17 = .ok (.putfield 81, 3) := by decide +kernel
theorem d_Mod_passes_20 : decode m_Mod_passes.2.1 20 = .ok (.iconst 1, 1) := by decide +kernel
theorem d_Mod_passes_21 : decode m_Mod_passes.2.1 21 = .ok (.ireturn, 1) := by decide +kernel
theorem d_Mod_list_0 : decode m_Mod_list.2.1 0 = .ok (.aload_n 0, 1) := by decide +kernel
theorem d_Mod_list_1 : decode m_Mod_list.2.1 1 = .ok (.iload_n 1, 1) := by decide +kernel
theorem d_Mod_list_2 : decode m_Mod_list.2.1 2 = .ok (.iconst 4, 1) := by decide +kernel
theorem d_Mod_list_3 : decode m_Mod_list.2.1 3 = .ok (.iadd, 1) := by decide +kernel
theorem d_Mod_list_4 : decode m_Mod_list.2.1 4 = .ok (.aload_n 0, 1) := by decide +kernel
theorem d_Mod_list_5 : decode m_Mod_list.2.1 5 = .ok (.getfield 13, 3) := by decide +kernel
theorem d_Mod_list_8 : decode m_Mod_list.2.1 8 = .ok (.iload_n 1, 1) := by decide +kernel
theorem d_Mod_list_9 : decode m_Mod_list.2.1 9 = .ok (.iconst 3, 1) := by decide +kernel
theorem d_Mod_list_10 : decode m_Mod_list.2.1 10 = .ok (.iadd, 1) := by decide +kernel
theorem d_Mod_list_11 : decode m_Mod_list.2.1 11 = .ok (.iaload, 1) := by decide +kernel
theorem d_Mod_list_12 : decode m_Mod_list.2.1 12 = .ok (.iadd, 1) := by decide +kernel
theorem d_Mod_list_13 : decode m_Mod_list.2.1 13 = .ok (.invokevirtual 128, 3) := by decide +kernel
theorem d_Mod_list_16 : decode m_Mod_list.2.1 16 = .ok (.ifCond .ne 5, 3) := by decide +kernel
theorem d_Mod_list_19 : decode m_Mod_list.2.1 19 = .ok (.iconst 0, 1) := by decide +kernel
theorem d_Mod_list_20 : decode m_Mod_list.2.1 20 = .ok (.ireturn, 1) := by decide +kernel
theorem d_Mod_list_21 : decode m_Mod_list.2.1 21 = .ok (.aload_n 0, 1) := by decide +kernel
theorem d_Mod_list_22 : decode m_Mod_list.2.1 22 = .ok (.getfield 13, 3) := by decide +kernel
theorem d_Mod_list_25 : decode m_Mod_list.2.1 25 = .ok (.iload_n 1, 1) := by decide +kernel
theorem d_Mod_list_26 : decode m_Mod_list.2.1 26 = .ok (.iconst 3, 1) := by decide +kernel
theorem d_Mod_list_27 : decode m_Mod_list.2.1 27 = .ok (.iadd, 1) := by decide +kernel
theorem d_Mod_list_28 : decode m_Mod_list.2.1 28 = .ok (.dup2, 1) := by decide +kernel
theorem d_Mod_list_29 : decode m_Mod_list.2.1 29 = .ok (.iaload, 1) := by decide +kernel
theorem d_Mod_list_30 : decode m_Mod_list.2.1 30 = .ok (.iconst 1, 1) := by decide +kernel
theorem d_Mod_list_31 : decode m_Mod_list.2.1 31 = .ok (.iadd, 1) := by decide +kernel
theorem d_Mod_list_32 : decode m_Mod_list.2.1 32 = .ok (.iastore, 1) := by decide +kernel
theorem d_Mod_list_33 : decode m_Mod_list.2.1 33 = .ok (.aload_n 0, 1) := by decide +kernel
theorem d_Mod_list_34 : decode m_Mod_list.2.1 34 = .ok (.getfield 13, 3) := by decide +kernel
theorem d_Mod_list_37 : decode m_Mod_list.2.1 37 = .ok (.iload_n 1, 1) := by decide +kernel
theorem d_Mod_list_38 : decode m_Mod_list.2.1 38 = .ok (.iconst 3, 1) := by decide +kernel
theorem d_Mod_list_39 : decode m_Mod_list.2.1 39 = .ok (.iadd, 1) := by decide +kernel
theorem d_Mod_list_40 : decode m_Mod_list.2.1 40 = .ok (.iaload, 1) := by decide +kernel
theorem d_Mod_list_41 : decode m_Mod_list.2.1 41 = .ok (.iload_n 2, 1) := by decide +kernel
theorem d_Mod_list_42 : decode m_Mod_list.2.1 42 = .ok (.if_icmp .ge 12, 3) := by decide +kernel
theorem d_Mod_list_45 : decode m_Mod_list.2.1 45 = .ok (.aload_n 0, 1) := by decide +kernel
theorem d_Mod_list_46 : decode m_Mod_list.2.1 46 = .ok (.bipush 44, 2) := by decide +kernel
theorem d_Mod_list_48 : decode m_Mod_list.2.1 48 = .ok (.invokevirtual 124, 3) := by decide +kernel
theorem d_Mod_list_51 : decode m_Mod_list.2.1 51 = .ok (.ifCond .ne (-51), 3) := by decide +kernel
theorem d_Mod_list_54 : decode m_Mod_list.2.1 54 = .ok (.iconst 1, 1) := by decide +kernel
theorem d_Mod_list_55 : decode m_Mod_list.2.1 55 = .ok (.ireturn, 1) := by decide +kernel
theorem d_Mod_expression_0 : decode m_Mod_expression.2.1 0 = .ok (.iconst 0, 1) := by decide +kernel
theorem d_Mod_expression_1 : decode m_Mod_expression.2.1 1 = .ok (.istore_n 2, 1) := by decide +kernel
theorem d_Mod_expression_2 : decode m_Mod_expression.2.1 2 = .ok (.iconst 1, 1) := by decide +kernel
theorem d_Mod_expression_3 : decode m_Mod_expression.2.1 3 = .ok (.istore_n 3, 1) := by decide +kernel
theorem d_Mod_expression_4 : decode m_Mod_expression.2.1 4 = .ok (.iconst 1, 1) := by decide +kernel
theorem d_Mod_expression_5 : decode m_Mod_expression.2.1 5 = .ok (.istore 4, 2) := by decide +kernel
theorem d_Mod_expression_7 : decode m_Mod_expression.2.1 7 = .ok (.aload_n 0, 1) := by decide +kernel
theorem d_Mod_expression_8 : decode m_Mod_expression.2.1 8 = .ok (.iconst 0, 1) := by decide +kernel
theorem d_Mod_expression_9 : decode m_Mod_expression.2.1 9 = .ok (.putfield 95, 3) := by decide +kernel
theorem d_Mod_expression_12 : decode m_Mod_expression.2.1 12 = .ok (.aload_n 0, 1) := by decide +kernel
theorem d_Mod_expression_13 : decode m_Mod_expression.2.1 13 = .ok (.getfield 42, 3) := by decide +kernel
theorem d_Mod_expression_16 : decode m_Mod_expression.2.1 16 = .ok (.iconst 0, 1) := by decide +kernel
theorem d_Mod_expression_17 : decode m_Mod_expression.2.1 17 = .ok (.iconst 0, 1) := by decide +kernel
theorem d_Mod_expression_18 : decode m_Mod_expression.2.1 18 = .ok (.iastore, 1) := by decide +kernel
theorem d_Mod_expression_19 : decode m_Mod_expression.2.1 19 = .ok (.aload_n 0, 1) := by decide +kernel
theorem d_Mod_expression_20 : decode m_Mod_expression.2.1 20 = .ok (.getfield 13, 3) := by decide +kernel
theorem d_Mod_expression_23 : decode m_Mod_expression.2.1 23 = .ok (.iload_n 1, 1) := by decide +kernel
theorem d_Mod_expression_24 : decode m_Mod_expression.2.1 24 = .ok (.aload_n 0, 1) := by decide +kernel
theorem d_Mod_expression_25 : decode m_Mod_expression.2.1 25 = .ok (.getfield 88, 3) := by decide +kernel
theorem d_Mod_expression_28 : decode m_Mod_expression.2.1 28 = .ok (.iastore, 1) := by decide +kernel
theorem d_Mod_expression_29 : decode m_Mod_expression.2.1 29 = .ok (.aload_n 0, 1) := by decide +kernel
theorem d_Mod_expression_30 : decode m_Mod_expression.2.1 30 = .ok (.getfield 81, 3) := by decide +kernel
theorem d_Mod_expression_33 : decode m_Mod_expression.2.1 33 = .ok (.aload_n 0, 1) := by decide +kernel
theorem d_Mod_expression_34 : decode m_Mod_expression.2.1 34 = .ok (.getfield 74, 3) := by decide +kernel
theorem d_Mod_expression_37 : decode m_Mod_expression.2.1 37 = .ok (.if_icmp .gt 217, 3) := by decide +kernel
theorem d_Mod_expression_40 : decode m_Mod_expression.2.1 40 = .ok (.aload_n 0, 1) := by decide +kernel
theorem d_Mod_expression_41 : decode m_Mod_expression.2.1 41 = .ok (.invokevirtual 84, 3) := by decide +kernel
theorem d_Mod_expression_44 : decode m_Mod_expression.2.1 44 = .ok (.istore 5, 2) := by decide +kernel
theorem d_Mod_expression_46 : decode m_Mod_expression.2.1 46 = .ok (.iload 4, 2) := by decide +kernel
theorem d_Mod_expression_48 : decode m_Mod_expression.2.1 48 = .ok (.ifCond .eq 29, 3) := by decide +kernel
theorem d_Mod_expression_51 : decode m_Mod_expression.2.1 51 = .ok (.aload_n 0, 1) := by decide +kernel
theorem d_Mod_expression_52 : decode m_Mod_expression.2.1 52 = .ok (.invokevirtual 108, 3) := by decide +kernel
theorem d_Mod_expression_55 : decode m_Mod_expression.2.1 55 = .ok (.ifCond .eq 22, 3) := by decide +kernel
theorem d_Mod_expression_58 : decode m_Mod_expression.2.1 58 = .ok (.iload_n 3, 1) := by decide +kernel
theorem d_Mod_expression_59 : decode m_Mod_expression.2.1 59 = .ok (.aload_n 0, 1) := by decide +kernel
theorem d_Mod_expression_60 : decode m_Mod_expression.2.1 60 = .ok (.aload_n 0, 1) := by decide +kernel
theorem d_Mod_expression_61 : decode m_Mod_expression.2.1 61 = .ok (.getfield 42, 3) := by decide +kernel
theorem d_Mod_expression_64 : decode m_Mod_expression.2.1 64 = .ok (.iload_n 2, 1) := by decide +kernel
theorem d_Mod_expression_65 : decode m_Mod_expression.2.1 65 = .ok (.iaload, 1) := by decide +kernel
theorem d_Mod_expression_66 : decode m_Mod_expression.2.1 66 = .ok (.invokevirtual 112, 3) := by decide +kernel
theorem d_Mod_expression_69 : decode m_Mod_expression.2.1 69 = .ok (.isub, 1) := by decide +kernel
theorem d_Mod_expression_70 : decode m_Mod_expression.2.1 70 = .ok (.istore_n 3, 1) := by decide +kernel
theorem d_Mod_expression_71 : decode m_Mod_expression.2.1 71 = .ok (.iconst 0, 1) := by decide +kernel
theorem d_Mod_expression_72 : decode m_Mod_expression.2.1 72 = .ok (.istore 4, 2) := by decide +kernel
theorem d_Mod_expression_74 : decode m_Mod_expression.2.1 74 = .ok (.goto 177, 3) := by decide +kernel
theorem d_Mod_expression_77 : decode m_Mod_expression.2.1 77 = .ok (.iload 4, 2) := by decide +kernel
theorem d_Mod_expression_79 : decode m_Mod_expression.2.1 79 = .ok (.ifCond .eq 70, 3) := by decide +kernel
theorem d_Mod_expression_82 : decode m_Mod_expression.2.1 82 = .ok (.iload_n 3, 1) := by decide +kernel
theorem d_Mod_expression_83 : decode m_Mod_expression.2.1 83 = .ok (.iconst 5, 1) := by decide +kernel
theorem d_Mod_expression_84 : decode m_Mod_expression.2.1 84 = .ok (.if_icmp .eq 17, 3) := by decide +kernel
theorem d_Mod_expression_87 : decode m_Mod_expression.2.1 87 = .ok (.iload 5, 2) := by decide +kernel
theorem d_Mod_expression_89 : decode m_Mod_expression.2.1 89 = .ok (.bipush 45, 2) := by decide +kernel
theorem d_Mod_expression_91 : decode m_Mod_expression.2.1 91 = .ok (.if_icmp .eq 12, 3) := by decide +kernel
theorem d_Mod_expression_94 : decode m_Mod_expression.2.1 94 = .ok (.iload 5, 2) := by decide +kernel
theorem d_Mod_expression_96 : decode m_Mod_expression.2.1 96 = .ok (.bipush 40, 2) := by decide +kernel
theorem d_Mod_expression_98 : decode m_Mod_expression.2.1 98 = .ok (.if_icmp .eq 5, 3) := by decide +kernel
theorem d_Mod_expression_101 : decode m_Mod_expression.2.1 101 = .ok (.iconst 0, 1) := by decide +kernel
theorem d_Mod_expression_102 : decode m_Mod_expression.2.1 102 = .ok (.ireturn, 1) := by decide +kernel
theorem d_Mod_expression_103 : decode m_Mod_expression.2.1 103 = .ok (.aload_n 0, 1) := by decide +kernel
theorem d_Mod_expression_104 : decode m_Mod_expression.2.1 104 = .ok (.dup, 1) := by decide +kernel
theorem d_Mod_expression_105 : decode m_Mod_expression.2.1 105 = .ok (.getfield 81, 3) := by decide +kernel
theorem d_Mod_expression_108 : decode m_Mod_expression.2.1 108 = .ok (.iconst 1, 1) := by decide +kernel
theorem d_Mod_expression_109 : decode m_Mod_expression.2.1 109 = .ok (.iadd, 1) := by decide +kernel
theorem d_Mod_expression_110 : decode m_Mod_expression.2.1 110 = .ok (.putfield 81, 3) := by decide +kernel
theorem d_Mod_expression_113 : decode m_Mod_expression.2.1 113 = .ok (.iinc 3 1, 3) := by decide +kernel
theorem d_Mod_expression_116 : decode m_Mod_expression.2.1 116 = .ok (.iload 5, 2) := by decide +kernel
theorem d_Mod_expression_118 : decode m_Mod_expression.2.1 118 = .ok (.bipush 45, 2) := by decide +kernel
theorem d_Mod_expression_120 : decode m_Mod_expression.2.1 120 = .ok (.if_icmp .ne 13, 3) := by decide +kernel
theorem d_Mod_expression_123 : decode m_Mod_expression.2.1 123 = .ok (.aload_n 0, 1) := by decide +kernel
theorem d_Mod_expression_124 : decode m_Mod_expression.2.1 124 = .ok (.iload 5, 2) := by decide +kernel
theorem d_Mod_expression_126 : decode m_Mod_expression.2.1 126 = .ok (.iconst 4, 1) := by decide +kernel
theorem d_Mod_expression_127 : decode m_Mod_expression.2.1 127 = .ok (.invokevirtual 115, 3) := by decide +kernel
theorem d_Mod_expression_130 : decode m_Mod_expression.2.1 130 = .ok (.goto 121, 3) := by decide +kernel
theorem d_Mod_expression_133 : decode m_Mod_expression.2.1 133 = .ok (.iinc 2 1, 3) := by decide +kernel
theorem d_Mod_expression_136 : decode m_Mod_expression.2.1 136 = .ok (.aload_n 0, 1) := by decide +kernel
theorem d_Mod_expression_137 : decode m_Mod_expression.2.1 137 = .ok (.getfield 42, 3) := by decide +kernel
theorem d_Mod_expression_140 : decode m_Mod_expression.2.1 140 = .ok (.iload_n 2, 1) := by decide +kernel
theorem d_Mod_expression_141 : decode m_Mod_expression.2.1 141 = .ok (.aload_n 0, 1) := by decide +kernel
theorem d_Mod_expression_142 : decode m_Mod_expression.2.1 142 = .ok (.getfield 95, 3) := by decide +kernel
theorem d_Mod_expression_145 : decode m_Mod_expression.2.1 145 = .ok (.iastore, 1) := by decide +kernel
theorem d_Mod_expression_146 : decode m_Mod_expression.2.1 146 = .ok (.goto 105, 3) := by decide +kernel
theorem d_Mod_expression_149 : decode m_Mod_expression.2.1 149 = .ok (.iload 5, 2) := by decide +kernel
theorem d_Mod_expression_151 : decode m_Mod_expression.2.1 151 = .ok (.invokestatic 118, 3) := by decide +kernel
theorem d_Mod_expression_154 : decode m_Mod_expression.2.1 154 = .ok (.ifCond .le 45, 3) := by decide +kernel
theorem d_Mod_expression_157 : decode m_Mod_expression.2.1 157 = .ok (.aload_n 0, 1) := by decide +kernel
theorem d_Mod_expression_158 : decode m_Mod_expression.2.1 158 = .ok (.aload_n 0, 1) := by decide +kernel
theorem d_Mod_expression_159 : decode m_Mod_expression.2.1 159 = .ok (.getfield 42, 3) := by decide +kernel
theorem d_Mod_expression_162 : decode m_Mod_expression.2.1 162 = .ok (.iload_n 2, 1) := by decide +kernel
theorem d_Mod_expression_163 : decode m_Mod_expression.2.1 163 = .ok (.iaload, 1) := by decide +kernel
theorem d_Mod_expression_164 : decode m_Mod_expression.2.1 164 = .ok (.iload 5, 2) := by decide +kernel
theorem d_Mod_expression_166 : decode m_Mod_expression.2.1 166 = .ok (.invokestatic 118, 3) := by decide +kernel
theorem d_Mod_expression_169 : decode m_Mod_expression.2.1 169 = .ok (.invokevirtual 121, 3) := by decide +kernel
theorem d_Mod_expression_172 : decode m_Mod_expression.2.1 172 = .ok (.aload_n 0, 1) := by decide +kernel
theorem d_Mod_expression_173 : decode m_Mod_expression.2.1 173 = .ok (.iload 5, 2) := by decide +kernel
theorem d_Mod_expression_175 : decode m_Mod_expression.2.1 175 = .ok (.iload 5, 2) := by decide +kernel
theorem d_Mod_expression_177 : decode m_Mod_expression.2.1 177 = .ok (.invokestatic 118, 3) := by decide +kernel
theorem d_Mod_expression_180 : decode m_Mod_expression.2.1 180 = .ok (.invokevirtual 115, 3) := by decide +kernel
theorem d_Mod_expression_183 : decode m_Mod_expression.2.1 183 = .ok (.aload_n 0, 1) := by decide +kernel
theorem d_Mod_expression_184 : decode m_Mod_expression.2.1 184 = .ok (.dup, 1) := by decide +kernel
theorem d_Mod_expression_185 : decode m_Mod_expression.2.1 185 = .ok (.getfield 81, 3) := by decide +kernel
theorem d_Mod_expression_188 : decode m_Mod_expression.2.1 188 = .ok (.iconst 1, 1) := by decide +kernel
theorem d_Mod_expression_189 : decode m_Mod_expression.2.1 189 = .ok (.iadd, 1) := by decide +kernel
theorem d_Mod_expression_190 : decode m_Mod_expression.2.1 190 = .ok (.putfield 81, 3) := by decide +kernel
theorem d_Mod_expression_193 : decode m_Mod_expression.2.1 193 = .ok (.iconst 1, 1) := by decide +kernel
theorem d_Mod_expression_194 : decode m_Mod_expression.2.1 194 = .ok (.istore 4, 2) := by decide +kernel
theorem d_Mod_expression_196 : decode m_Mod_expression.2.1 196 = .ok (.goto 55, 3) := by decide +kernel
theorem d_Mod_expression_199 : decode m_Mod_expression.2.1 199 = .ok (.aload_n 0, 1) := by decide +kernel
theorem d_Mod_expression_200 : decode m_Mod_expression.2.1 200 = .ok (.aload_n 0, 1) := by decide +kernel
theorem d_Mod_expression_201 : decode m_Mod_expression.2.1 201 = .ok (.getfield 42, 3) := by decide +kernel
theorem d_Mod_expression_204 : decode m_Mod_expression.2.1 204 = .ok (.iload_n 2, 1) := by decide +kernel
theorem d_Mod_expression_205 : decode m_Mod_expression.2.1 205 = .ok (.iaload, 1) := by decide +kernel
theorem d_Mod_expression_206 : decode m_Mod_expression.2.1 206 = .ok (.iconst 1, 1) := by decide +kernel
theorem d_Mod_expression_207 : decode m_Mod_expression.2.1 207 = .ok (.invokevirtual 121, 3) := by decide +kernel
theorem d_Mod_expression_210 : decode m_Mod_expression.2.1 210 = .ok (.iload_n 2, 1) := by decide +kernel
theorem d_Mod_expression_211 : decode m_Mod_expression.2.1 211 = .ok (.ifCond .ne 10, 3) := by decide +kernel
theorem d_Mod_expression_214 : decode m_Mod_expression.2.1 214 = .ok (.aload_n 0, 1) := by decide +kernel
theorem d_Mod_expression_215 : decode m_Mod_expression.2.1 215 = .ok (.iconst 0, 1) := by decide +kernel
theorem d_Mod_expression_216 : decode m_Mod_expression.2.1 216 = .ok (.invokevirtual 91, 3) := by decide +kernel
theorem d_Mod_expression_219 : decode m_Mod_expression.2.1 219 = .ok (.iconst 1, 1) := by decide +kernel
theorem d_Mod_expression_220 : decode m_Mod_expression.2.1 220 = .ok (.ireturn, 1) := by decide +kernel
theorem d_Mod_expression_221 : decode m_Mod_expression.2.1 221 = .ok (.aload_n 0, 1) := by decide +kernel
theorem d_Mod_expression_222 : decode m_Mod_expression.2.1 222 = .ok (.bipush 41, 2) := by decide +kernel
theorem d_Mod_expression_224 : decode m_Mod_expression.2.1 224 = .ok (.invokevirtual 124, 3) := by decide +kernel
theorem d_Mod_expression_227 : decode m_Mod_expression.2.1 227 = .ok (.ifCond .ne 5, 3) := by decide +kernel
theorem d_Mod_expression_230 : decode m_Mod_expression.2.1 230 = .ok (.iconst 0, 1) := by decide +kernel
theorem d_Mod_expression_231 : decode m_Mod_expression.2.1 231 = .ok (.ireturn, 1) := by decide +kernel
theorem d_Mod_expression_232 : decode m_Mod_expression.2.1 232 = .ok (.iinc 2 (-1), 3) := by decide +kernel
theorem d_Mod_expression_235 : decode m_Mod_expression.2.1 235 = .ok (.iinc 3 (-1), 3) := by decide +kernel
theorem d_Mod_expression_238 : decode m_Mod_expression.2.1 238 = .ok (.iload_n 3, 1) := by decide +kernel
theorem d_Mod_expression_239 : decode m_Mod_expression.2.1 239 = .ok (.aload_n 0, 1) := by decide +kernel
theorem d_Mod_expression_240 : decode m_Mod_expression.2.1 240 = .ok (.aload_n 0, 1) := by decide +kernel
theorem d_Mod_expression_241 : decode m_Mod_expression.2.1 241 = .ok (.getfield 42, 3) := by decide +kernel
theorem d_Mod_expression_244 : decode m_Mod_expression.2.1 244 = .ok (.iload_n 2, 1) := by decide +kernel
theorem d_Mod_expression_245 : decode m_Mod_expression.2.1 245 = .ok (.iaload, 1) := by decide +kernel
theorem d_Mod_expression_246 : decode m_Mod_expression.2.1 246 = .ok (.invokevirtual 112, 3) := by decide +kernel
theorem d_Mod_expression_249 : decode m_Mod_expression.2.1 249 = .ok (.isub, 1) := by decide +kernel
theorem d_Mod_expression_250 : decode m_Mod_expression.2.1 250 = .ok (.istore_n 3, 1) := by decide +kernel
theorem d_Mod_expression_251 : decode m_Mod_expression.2.1 251 = .ok (.goto (-222), 3) := by decide +kernel
theorem d_Mod_expression_254 : decode m_Mod_expression.2.1 254 = .ok (.iconst 0, 1) := by decide +kernel
theorem d_Mod_expression_255 : decode m_Mod_expression.2.1 255 = .ok (.ireturn, 1) := by decide +kernel
theorem d_Mod_unit_0 : decode m_Mod_unit.2.1 0 = .ok (.aload_n 0, 1) := by decide +kernel
theorem d_Mod_unit_1 : decode m_Mod_unit.2.1 1 = .ok (.invokevirtual 84, 3) := by decide +kernel
theorem d_Mod_unit_4 : decode m_Mod_unit.2.1 4 = .ok (.istore_n 1, 1) := by decide +kernel
theorem d_Mod_unit_5 : decode m_Mod_unit.2.1 5 = .ok (.iload_n 1, 1) := by decide +kernel
theorem d_Mod_unit_6 : decode m_Mod_unit.2.1 6 = .ok (.bipush 48, 2) := by decide +kernel
theorem d_Mod_unit_8 : decode m_Mod_unit.2.1 8 = .ok (.bipush 57, 2) := by decide +kernel
theorem d_Mod_unit_10 : decode m_Mod_unit.2.1 10 = .ok (.invokestatic 66, 3) := by decide +kernel
theorem d_Mod_unit_13 : decode m_Mod_unit.2.1 13 = .ok (.ifCond .eq 63, 3) := by decide +kernel
theorem d_Mod_unit_16 : decode m_Mod_unit.2.1 16 = .ok (.iconst 0, 1) := by decide +kernel
theorem d_Mod_unit_17 : decode m_Mod_unit.2.1 17 = .ok (.istore_n 2, 1) := by decide +kernel
theorem d_Mod_unit_18 : decode m_Mod_unit.2.1 18 = .ok (.iconst 0, 1) := by decide +kernel
theorem d_Mod_unit_19 : decode m_Mod_unit.2.1 19 = .ok (.istore_n 3, 1) := by decide +kernel
theorem d_Mod_unit_20 : decode m_Mod_unit.2.1 20 = .ok (.iload_n 3, 1) := by decide +kernel
theorem d_Mod_unit_21 : decode m_Mod_unit.2.1 21 = .ok (.iconst 4, 1) := by decide +kernel
theorem d_Mod_unit_22 : decode m_Mod_unit.2.1 22 = .ok (.if_icmp .ge 46, 3) := by decide +kernel
theorem d_Mod_unit_25 : decode m_Mod_unit.2.1 25 = .ok (.aload_n 0, 1) := by decide +kernel
theorem d_Mod_unit_26 : decode m_Mod_unit.2.1 26 = .ok (.invokevirtual 84, 3) := by decide +kernel
theorem d_Mod_unit_29 : decode m_Mod_unit.2.1 29 = .ok (.bipush 48, 2) := by decide +kernel
theorem d_Mod_unit_31 : decode m_Mod_unit.2.1 31 = .ok (.bipush 57, 2) := by decide +kernel
theorem d_Mod_unit_33 : decode m_Mod_unit.2.1 33 = .ok (.invokestatic 66, 3) := by decide +kernel
theorem d_Mod_unit_36 : decode m_Mod_unit.2.1 36 = .ok (.ifCond .eq 32, 3) := by decide +kernel
theorem d_Mod_unit_39 : decode m_Mod_unit.2.1 39 = .ok (.iload_n 2, 1) := by decide +kernel
theorem d_Mod_unit_40 : decode m_Mod_unit.2.1 40 = .ok (.bipush 10, 2) := by decide +kernel
theorem d_Mod_unit_42 : decode m_Mod_unit.2.1 42 = .ok (.imul, 1) := by decide +kernel
theorem d_Mod_unit_43 : decode m_Mod_unit.2.1 43 = .ok (.aload_n 0, 1) := by decide +kernel
theorem d_Mod_unit_44 : decode m_Mod_unit.2.1 44 = .ok (.invokevirtual 84, 3) := by decide +kernel
theorem d_Mod_unit_47 : decode m_Mod_unit.2.1 47 = .ok (.iadd, 1) := by decide +kernel
theorem d_Mod_unit_48 : decode m_Mod_unit.2.1 48 = .ok (.bipush 48, 2) := by decide +kernel
theorem d_Mod_unit_50 : decode m_Mod_unit.2.1 50 = .ok (.isub, 1) := by decide +kernel
theorem d_Mod_unit_51 : decode m_Mod_unit.2.1 51 = .ok (.istore_n 2, 1) := by decide +kernel
theorem d_Mod_unit_52 : decode m_Mod_unit.2.1 52 = .ok (.aload_n 0, 1) := by decide +kernel
theorem d_Mod_unit_53 : decode m_Mod_unit.2.1 53 = .ok (.dup, 1) := by decide +kernel
theorem d_Mod_unit_54 : decode m_Mod_unit.2.1 54 = .ok (.getfield 81, 3) := by decide +kernel
theorem d_Mod_unit_57 : decode m_Mod_unit.2.1 57 = .ok (.iconst 1, 1) := by decide +kernel
theorem d_Mod_unit_58 : decode m_Mod_unit.2.1 58 = .ok (.iadd, 1) := by decide +kernel
theorem d_Mod_unit_59 : decode m_Mod_unit.2.1 59 = .ok (.putfield 81, 3) := by decide +kernel
theorem d_Mod_unit_62 : decode m_Mod_unit.2.1 62 = .ok (.iinc 3 1, 3) := by decide +kernel
theorem d_Mod_unit_65 : decode m_Mod_unit.2.1 65 = .ok (.goto (-45), 3) := by decide +kernel
theorem d_Mod_unit_68 : decode m_Mod_unit.2.1 68 = .ok (.aload_n 0, 1) := by decide +kernel
theorem d_Mod_unit_69 : decode m_Mod_unit.2.1 69 = .ok (.iconst 1, 1) := by decide +kernel
theorem d_Mod_unit_70 : decode m_Mod_unit.2.1 70 = .ok (.iload_n 2, 1) := by decide +kernel
theorem d_Mod_unit_71 : decode m_Mod_unit.2.1 71 = .ok (.invokevirtual 98, 3) := by decide +kernel
theorem d_Mod_unit_74 : decode m_Mod_unit.2.1 74 = .ok (.iconst 1, 1) := by decide +kernel
theorem d_Mod_unit_75 : decode m_Mod_unit.2.1 75 = .ok (.ireturn, 1) := by decide +kernel
theorem d_Mod_unit_76 : decode m_Mod_unit.2.1 76 = .ok (.iload_n 1, 1) := by decide +kernel
theorem d_Mod_unit_77 : decode m_Mod_unit.2.1 77 = .ok (.bipush 63, 2) := by decide +kernel
theorem d_Mod_unit_79 : decode m_Mod_unit.2.1 79 = .ok (.if_icmp .ne 21, 3) := by decide +kernel
theorem d_Mod_unit_82 : decode m_Mod_unit.2.1 82 = .ok (.aload_n 0, 1) := by decide +kernel
theorem d_Mod_unit_83 : decode m_Mod_unit.2.1 83 = .ok (.dup, 1) := by decide +kernel
theorem d_Mod_unit_84 : decode m_Mod_unit.2.1 84 = .ok (.getfield 102, 3) := by decide +kernel
theorem d_Mod_unit_87 : decode m_Mod_unit.2.1 87 = .ok (.iconst 1, 1) := by decide +kernel
theorem d_Mod_unit_88 : decode m_Mod_unit.2.1 88 = .ok (.iadd, 1) := by decide +kernel
theorem d_Mod_unit_89 : decode m_Mod_unit.2.1 89 = .ok (.putfield 102, 3) := by decide +kernel
theorem d_Mod_unit_92 : decode m_Mod_unit.2.1 92 = .ok (.aload_n 0, 1) := by decide +kernel
theorem d_Mod_unit_93 : decode m_Mod_unit.2.1 93 = .ok (.iconst 3, 1) := by decide +kernel
theorem d_Mod_unit_94 : decode m_Mod_unit.2.1 94 = .ok (.invokevirtual 91, 3) := by decide +kernel
theorem d_Mod_unit_97 : decode m_Mod_unit.2.1 97 = .ok (.goto 35, 3) := by decide +kernel
theorem d_Mod_unit_100 : decode m_Mod_unit.2.1 100 = .ok (.iload_n 1, 1) := by decide +kernel
theorem d_Mod_unit_101 : decode m_Mod_unit.2.1 101 = .ok (.bipush 97, 2) := by decide +kernel
theorem d_Mod_unit_103 : decode m_Mod_unit.2.1 103 = .ok (.bipush 97, 2) := by decide +kernel
theorem d_Mod_unit_105 : decode m_Mod_unit.2.1 105 = .ok (.aload_n 0, 1) := by decide +kernel
theorem d_Mod_unit_106 : decode m_Mod_unit.2.1 106 = .ok (.getfield 105, 3) := by decide +kernel
theorem d_Mod_unit_109 : decode m_Mod_unit.2.1 109 = .ok (.iadd, 1) := by decide +kernel
theorem d_Mod_unit_110 : decode m_Mod_unit.2.1 110 = .ok (.iconst 1, 1) := by decide +kernel
theorem d_Mod_unit_111 : decode m_Mod_unit.2.1 111 = .ok (.isub, 1) := by decide +kernel
theorem d_Mod_unit_112 : decode m_Mod_unit.2.1 112 = .ok (.invokestatic 66, 3) := by decide +kernel
theorem d_Mod_unit_115 : decode m_Mod_unit.2.1 115 = .ok (.ifCond .eq 15, 3) := by decide +kernel
theorem d_Mod_unit_118 : decode m_Mod_unit.2.1 118 = .ok (.aload_n 0, 1) := by decide +kernel
theorem d_Mod_unit_119 : decode m_Mod_unit.2.1 119 = .ok (.iconst 2, 1) := by decide +kernel
theorem d_Mod_unit_120 : decode m_Mod_unit.2.1 120 = .ok (.iload_n 1, 1) := by decide +kernel
theorem d_Mod_unit_121 : decode m_Mod_unit.2.1 121 = .ok (.bipush 97, 2) := by decide +kernel
theorem d_Mod_unit_123 : decode m_Mod_unit.2.1 123 = .ok (.isub, 1) := by decide +kernel
theorem d_Mod_unit_124 : decode m_Mod_unit.2.1 124 = .ok (.invokevirtual 98, 3) := by decide +kernel
theorem d_Mod_unit_127 : decode m_Mod_unit.2.1 127 = .ok (.goto 5, 3) := by decide +kernel
theorem d_Mod_unit_130 : decode m_Mod_unit.2.1 130 = .ok (.iconst 0, 1) := by decide +kernel
theorem d_Mod_unit_131 : decode m_Mod_unit.2.1 131 = .ok (.ireturn, 1) := by decide +kernel
theorem d_Mod_unit_132 : decode m_Mod_unit.2.1 132 = .ok (.aload_n 0, 1) := by decide +kernel
theorem d_Mod_unit_133 : decode m_Mod_unit.2.1 133 = .ok (.dup, 1) := by decide +kernel
theorem d_Mod_unit_134 : decode m_Mod_unit.2.1 134 = .ok (.getfield 81, 3) := by decide +kernel
theorem d_Mod_unit_137 : decode m_Mod_unit.2.1 137 = .ok (.iconst 1, 1) := by decide +kernel
theorem d_Mod_unit_138 : decode m_Mod_unit.2.1 138 = .ok (.iadd, 1) := by decide +kernel
theorem d_Mod_unit_139 : decode m_Mod_unit.2.1 139 = .ok (.putfield 81, 3) := by decide +kernel
theorem d_Mod_unit_142 : decode m_Mod_unit.2.1 142 = .ok (.iconst 1, 1) := by decide +kernel
theorem d_Mod_unit_143 : decode m_Mod_unit.2.1 143 = .ok (.ireturn, 1) := by decide +kernel
theorem d_Mod_emit2_0 : decode m_Mod_emit2.2.1 0 = .ok (.aload_n 0, 1) := by decide +kernel
theorem d_Mod_emit2_1 : decode m_Mod_emit2.2.1 1 = .ok (.iload_n 1, 1) := by decide +kernel
theorem d_Mod_emit2_2 : decode m_Mod_emit2.2.1 2 = .ok (.invokevirtual 91, 3) := by decide +kernel
theorem d_Mod_emit2_5 : decode m_Mod_emit2.2.1 5 = .ok (.aload_n 0, 1) := by decide +kernel
theorem d_Mod_emit2_6 : decode m_Mod_emit2.2.1 6 = .ok (.iload_n 2, 1) := by decide +kernel
theorem d_Mod_emit2_7 : decode m_Mod_emit2.2.1 7 = .ok (.invokevirtual 91, 3) := by decide +kernel
theorem d_Mod_emit2_10 : decode m_Mod_emit2.2.1 10 = .ok (.return_, 1) := by decide +kernel
theorem d_Mod_emit_0 : decode m_Mod_emit.2.1 0 = .ok (.aload_n 0, 1) := by decide +kernel
theorem d_Mod_emit_1 : decode m_Mod_emit.2.1 1 = .ok (.getfield 13, 3) := by decide +kernel
theorem d_Mod_emit_4 : decode m_Mod_emit.2.1 4 = .ok (.aload_n 0, 1) := by decide +kernel
theorem d_Mod_emit_5 : decode m_Mod_emit.2.1 5 = .ok (.getfield 88, 3) := by decide +kernel
theorem d_Mod_emit_8 : decode m_Mod_emit.2.1 8 = .ok (.iload_n 1, 1) := by decide +kernel
theorem d_Mod_emit_9 : decode m_Mod_emit.2.1 9 = .ok (.iastore, 1) := by decide +kernel
theorem d_Mod_emit_10 : decode m_Mod_emit.2.1 10 = .ok (.aload_n 0, 1) := by decide +kernel
theorem d_Mod_emit_11 : decode m_Mod_emit.2.1 11 = .ok (.dup, 1) := by decide +kernel
theorem d_Mod_emit_12 : decode m_Mod_emit.2.1 12 = .ok (.getfield 88, 3) := by decide +kernel
theorem d_Mod_emit_15 : decode m_Mod_emit.2.1 15 = .ok (.iconst 1, 1) := by decide +kernel
theorem d_Mod_emit_16 : decode m_Mod_emit.2.1 16 = .ok (.iadd, 1) := by decide +kernel
theorem d_Mod_emit_17 : decode m_Mod_emit.2.1 17 = .ok (.putfield 88, 3) := by decide +kernel
theorem d_Mod_emit_20 : decode m_Mod_emit.2.1 20 = .ok (.return_, 1) := by decide +kernel
theorem d_Mod_writeSigns_0 : decode m_Mod_writeSigns.2.1 0 = .ok (.iconst 0, 1) := by decide +kernel
theorem d_Mod_writeSigns_1 : decode m_Mod_writeSigns.2.1 1 = .ok (.istore_n 2, 1) := by decide +kernel
theorem d_Mod_writeSigns_2 : decode m_Mod_writeSigns.2.1 2 = .ok (.aload_n 0, 1) := by decide +kernel
theorem d_Mod_writeSigns_3 : decode m_Mod_writeSigns.2.1 3 = .ok (.getfield 95, 3) := by decide +kernel
theorem d_Mod_writeSigns_6 : decode m_Mod_writeSigns.2.1 6 = .ok (.iload_n 1, 1) := by decide +kernel
theorem d_Mod_writeSigns_7 : decode m_Mod_writeSigns.2.1 7 = .ok (.if_icmp .le 39, 3) := by decide +kernel
theorem d_Mod_writeSigns_10 : decode m_Mod_writeSigns.2.1 10 = .ok (.aload_n 0, 1) := by decide +kernel
theorem d_Mod_writeSigns_11 : decode m_Mod_writeSigns.2.1 11 = .ok (.getfield 39, 3) := by decide +kernel
theorem d_Mod_writeSigns_14 : decode m_Mod_writeSigns.2.1 14 = .ok (.aload_n 0, 1) := by decide +kernel
theorem d_Mod_writeSigns_15 : decode m_Mod_writeSigns.2.1 15 = .ok (.getfield 95, 3) := by decide +kernel
theorem d_Mod_writeSigns_18 : decode m_Mod_writeSigns.2.1 18 = .ok (.iconst 1, 1) := by decide +kernel
theorem d_Mod_writeSigns_19 : decode m_Mod_writeSigns.2.1 19 = .ok (.isub, 1) := by decide +kernel
theorem d_Mod_writeSigns_20 : decode m_Mod_writeSigns.2.1 20 = .ok (.iaload, 1) := by decide +kernel
theorem d_Mod_writeSigns_21 : decode m_Mod_writeSigns.2.1 21 = .ok (.iconst 4, 1) := by decide +kernel
theorem d_Mod_writeSigns_22 : decode m_Mod_writeSigns.2.1 22 = .ok (.if_icmp .ne 24, 3) := by decide +kernel
theorem d_Mod_writeSigns_25 : decode m_Mod_writeSigns.2.1 25 = .ok (.aload_n 0, 1) := by decide +kernel
theorem d_Mod_writeSigns_26 : decode m_Mod_writeSigns.2.1 26 = .ok (.dup, 1) := by decide +kernel
theorem d_Mod_writeSigns_27 : decode m_Mod_writeSigns.2.1 27 = .ok (.getfield 95, 3) := by decide +kernel
theorem d_Mod_writeSigns_30 : decode m_Mod_writeSigns.2.1 30 = .ok (.iconst 1, 1) := by decide +kernel
theorem d_Mod_writeSigns_31 : decode m_Mod_writeSigns.2.1 31 = .ok (.isub, 1) := by decide +kernel
theorem d_Mod_writeSigns_32 : decode m_Mod_writeSigns.2.1 32 = .ok (.putfield 95, 3) := by decide +kernel
theorem d_Mod_writeSigns_35 : decode m_Mod_writeSigns.2.1 35 = .ok (.iinc 2 1, 3) := by decide +kernel
theorem d_Mod_writeSigns_38 : decode m_Mod_writeSigns.2.1 38 = .ok (.aload_n 0, 1) := by decide +kernel
theorem d_Mod_writeSigns_39 : decode m_Mod_writeSigns.2.1 39 = .ok (.iconst 5, 1) := by decide +kernel
theorem d_Mod_writeSigns_40 : decode m_Mod_writeSigns.2.1 40 = .ok (.invokevirtual 91, 3) := by decide +kernel
theorem d_Mod_writeSigns_43 : decode m_Mod_writeSigns.2.1 43 = .ok (.goto (-41), 3) := by decide +kernel
theorem d_Mod_writeSigns_46 : decode m_Mod_writeSigns.2.1 46 = .ok (.iload_n 2, 1) := by decide +kernel
theorem d_Mod_writeSigns_47 : decode m_Mod_writeSigns.2.1 47 = .ok (.ireturn, 1) := by decide +kernel
theorem d_Mod_push_0 : decode m_Mod_push.2.1 0 = .ok (.aload_n 0, 1) := by decide +kernel
theorem d_Mod_push_1 : decode m_Mod_push.2.1 1 = .ok (.getfield 36, 3) := by decide +kernel
theorem d_Mod_push_4 : decode m_Mod_push.2.1 4 = .ok (.aload_n 0, 1) := by decide +kernel
theorem d_Mod_push_5 : decode m_Mod_push.2.1 5 = .ok (.getfield 95, 3) := by decide +kernel
theorem d_Mod_push_8 : decode m_Mod_push.2.1 8 = .ok (.iload_n 1, 1) := by decide +kernel
theorem d_Mod_push_9 : decode m_Mod_push.2.1 9 = .ok (.iastore, 1) := by decide +kernel
theorem d_Mod_push_10 : decode m_Mod_push.2.1 10 = .ok (.aload_n 0, 1) := by decide +kernel
theorem d_Mod_push_11 : decode m_Mod_push.2.1 11 = .ok (.getfield 39, 3) := by decide +kernel
theorem d_Mod_push_14 : decode m_Mod_push.2.1 14 = .ok (.aload_n 0, 1) := by decide +kernel
theorem d_Mod_push_15 : decode m_Mod_push.2.1 15 = .ok (.getfield 95, 3) := by decide +kernel
theorem d_Mod_push_18 : decode m_Mod_push.2.1 18 = .ok (.iload_n 2, 1) := by decide +kernel
theorem d_Mod_push_19 : decode m_Mod_push.2.1 19 = .ok (.iastore, 1) := by decide +kernel
theorem d_Mod_push_20 : decode m_Mod_push.2.1 20 = .ok (.aload_n 0, 1) := by decide +kernel
theorem d_Mod_push_21 : decode m_Mod_push.2.1 21 = .ok (.dup, 1) := by decide +kernel
theorem d_Mod_push_22 : decode m_Mod_push.2.1 22 = .ok (.getfield 95, 3) := by decide +kernel
theorem d_Mod_push_25 : decode m_Mod_push.2.1 25 = .ok (.iconst 1, 1) := by decide +kernel
theorem d_Mod_push_26 : decode m_Mod_push.2.1 26 = .ok (.iadd, 1) := by decide +kernel
theorem d_Mod_push_27 : decode m_Mod_push.2.1 27 = .ok (.putfield 95, 3) := by decide +kernel
theorem d_Mod_push_30 : decode m_Mod_push.2.1 30 = .ok (.return_, 1) := by decide +kernel
theorem d_Mod_rank_0 : decode m_Mod_rank.2.1 0 = .ok (.iload_n 0, 1) := by decide +kernel
theorem d_Mod_rank_1 : decode m_Mod_rank.2.1 1 = .ok (.bipush 43, 2) := by decide +kernel
theorem d_Mod_rank_3 : decode m_Mod_rank.2.1 3 = .ok (.if_icmp .eq 9, 3) := by decide +kernel
theorem d_Mod_rank_6 : decode m_Mod_rank.2.1 6 = .ok (.iload_n 0, 1) := by decide +kernel
theorem d_Mod_rank_7 : decode m_Mod_rank.2.1 7 = .ok (.bipush 45, 2) := by decide +kernel
theorem d_Mod_rank_9 : decode m_Mod_rank.2.1 9 = .ok (.if_icmp .ne 7, 3) := by decide +kernel
theorem d_Mod_rank_12 : decode m_Mod_rank.2.1 12 = .ok (.iconst 2, 1) := by decide +kernel
theorem d_Mod_rank_13 : decode m_Mod_rank.2.1 13 = .ok (.goto 26, 3) := by decide +kernel
theorem d_Mod_rank_16 : decode m_Mod_rank.2.1 16 = .ok (.iload_n 0, 1) := by decide +kernel
theorem d_Mod_rank_17 : decode m_Mod_rank.2.1 17 = .ok (.bipush 42, 2) := by decide +kernel
theorem d_Mod_rank_19 : decode m_Mod_rank.2.1 19 = .ok (.if_icmp .eq 15, 3) := by decide +kernel
theorem d_Mod_rank_22 : decode m_Mod_rank.2.1 22 = .ok (.iload_n 0, 1) := by decide +kernel
theorem d_Mod_rank_23 : decode m_Mod_rank.2.1 23 = .ok (.bipush 47, 2) := by decide +kernel
theorem d_Mod_rank_25 : decode m_Mod_rank.2.1 25 = .ok (.if_icmp .eq 9, 3) := by decide +kernel
theorem d_Mod_rank_28 : decode m_Mod_rank.2.1 28 = .ok (.iload_n 0, 1) := by decide +kernel
theorem d_Mod_rank_29 : decode m_Mod_rank.2.1 29 = .ok (.bipush 37, 2) := by decide +kernel
theorem d_Mod_rank_31 : decode m_Mod_rank.2.1 31 = .ok (.if_icmp .ne 7, 3) := by decide +kernel
theorem d_Mod_rank_34 : decode m_Mod_rank.2.1 34 = .ok (.iconst 3, 1) := by decide +kernel
theorem d_Mod_rank_35 : decode m_Mod_rank.2.1 35 = .ok (.goto 4, 3) := by decide +kernel
theorem d_Mod_rank_38 : decode m_Mod_rank.2.1 38 = .ok (.iconst 0, 1) := by decide +kernel
theorem d_Mod_rank_39 : decode m_Mod_rank.2.1 39 = .ok (.ireturn, 1) := by decide +kernel
theorem d_Mod_write_0 : decode m_Mod_write.2.1 0 = .ok (.aload_n 0, 1) := by decide +kernel
theorem d_Mod_write_1 : decode m_Mod_write.2.1 1 = .ok (.getfield 95, 3) := by decide +kernel
theorem d_Mod_write_4 : decode m_Mod_write.2.1 4 = .ok (.iload_n 1, 1) := by decide +kernel
theorem d_Mod_write_5 : decode m_Mod_write.2.1 5 = .ok (.if_icmp .le 66, 3) := by decide +kernel
theorem d_Mod_write_8 : decode m_Mod_write.2.1 8 = .ok (.aload_n 0, 1) := by decide +kernel
theorem d_Mod_write_9 : decode m_Mod_write.2.1 9 = .ok (.getfield 39, 3) := by decide +kernel
theorem d_Mod_write_12 : decode m_Mod_write.2.1 12 = .ok (.aload_n 0, 1) := by decide +kernel
theorem d_Mod_write_13 : decode m_Mod_write.2.1 13 = .ok (.getfield 95, 3) := by decide +kernel
theorem d_Mod_write_16 : decode m_Mod_write.2.1 16 = .ok (.iconst 1, 1) := by decide +kernel
theorem d_Mod_write_17 : decode m_Mod_write.2.1 17 = .ok (.isub, 1) := by decide +kernel
theorem d_Mod_write_18 : decode m_Mod_write.2.1 18 = .ok (.iaload, 1) := by decide +kernel
theorem d_Mod_write_19 : decode m_Mod_write.2.1 19 = .ok (.iload_n 2, 1) := by decide +kernel
theorem d_Mod_write_20 : decode m_Mod_write.2.1 20 = .ok (.if_icmp .lt 51, 3) := by decide +kernel
theorem d_Mod_write_23 : decode m_Mod_write.2.1 23 = .ok (.aload_n 0, 1) := by decide +kernel
theorem d_Mod_write_24 : decode m_Mod_write.2.1 24 = .ok (.dup, 1) := by decide +kernel
theorem d_Mod_write_25 : decode m_Mod_write.2.1 25 = .ok (.getfield 95, 3) := by decide +kernel
theorem d_Mod_write_28 : decode m_Mod_write.2.1 28 = .ok (.iconst 1, 1) := by decide +kernel
theorem d_Mod_write_29 : decode m_Mod_write.2.1 29 = .ok (.isub, 1) := by decide +kernel
theorem d_Mod_write_30 : decode m_Mod_write.2.1 30 = .ok (.putfield 95, 3) := by decide +kernel
theorem d_Mod_write_33 : decode m_Mod_write.2.1 33 = .ok (.aload_n 0, 1) := by decide +kernel
theorem d_Mod_write_34 : decode m_Mod_write.2.1 34 = .ok (.getfield 39, 3) := by decide +kernel
theorem d_Mod_write_37 : decode m_Mod_write.2.1 37 = .ok (.aload_n 0, 1) := by decide +kernel
theorem d_Mod_write_38 : decode m_Mod_write.2.1 38 = .ok (.getfield 95, 3) := by decide +kernel
theorem d_Mod_write_41 : decode m_Mod_write.2.1 41 = .ok (.iaload, 1) := by decide +kernel
theorem d_Mod_write_42 : decode m_Mod_write.2.1 42 = .ok (.iconst 4, 1) := by decide +kernel
theorem d_Mod_write_43 : decode m_Mod_write.2.1 43 = .ok (.if_icmp .ne 11, 3) := by decide +kernel
theorem d_Mod_write_46 : decode m_Mod_write.2.1 46 = .ok (.aload_n 0, 1) := by decide +kernel
theorem d_Mod_write_47 : decode m_Mod_write.2.1 47 = .ok (.iconst 5, 1) := by decide +kernel
theorem d_Mod_write_48 : decode m_Mod_write.2.1 48 = .ok (.invokevirtual 91, 3) := by decide +kernel
theorem d_Mod_write_51 : decode m_Mod_write.2.1 51 = .ok (.goto (-51), 3) := by decide +kernel
theorem d_Mod_write_54 : decode m_Mod_write.2.1 54 = .ok (.aload_n 0, 1) := by decide +kernel
theorem d_Mod_write_55 : decode m_Mod_write.2.1 55 = .ok (.iconst 4, 1) := by decide +kernel
theorem d_Mod_write_56 : decode m_Mod_write.2.1 56 = .ok (.aload_n 0, 1) := by decide +kernel
theorem d_Mod_write_57 : decode m_Mod_write.2.1 57 = .ok (.getfield 36, 3) := by decide +kernel
theorem d_Mod_write_60 : decode m_Mod_write.2.1 60 = .ok (.aload_n 0, 1) := by decide +kernel
theorem d_Mod_write_61 : decode m_Mod_write.2.1 61 = .ok (.getfield 95, 3) := by decide +kernel
theorem d_Mod_write_64 : decode m_Mod_write.2.1 64 = .ok (.iaload, 1) := by decide +kernel
theorem d_Mod_write_65 : decode m_Mod_write.2.1 65 = .ok (.invokevirtual 98, 3) := by decide +kernel
theorem d_Mod_write_68 : decode m_Mod_write.2.1 68 = .ok (.goto (-68), 3) := by decide +kernel
theorem d_Mod_write_71 : decode m_Mod_write.2.1 71 = .ok (.return_, 1) := by decide +kernel
theorem d_Mod_condition_0 : decode m_Mod_condition.2.1 0 = .ok (.aload_n 0, 1) := by decide +kernel
theorem d_Mod_condition_1 : decode m_Mod_condition.2.1 1 = .ok (.bipush 91, 2) := by decide +kernel
theorem d_Mod_condition_3 : decode m_Mod_condition.2.1 3 = .ok (.invokevirtual 124, 3) := by decide +kernel
theorem d_Mod_condition_6 : decode m_Mod_condition.2.1 6 = .ok (.ifCond .ne 5, 3) := by decide +kernel
theorem d_Mod_condition_9 : decode m_Mod_condition.2.1 9 = .ok (.iconst 1, 1) := by decide +kernel
theorem d_Mod_condition_10 : decode m_Mod_condition.2.1 10 = .ok (.ireturn, 1) := by decide +kernel
theorem d_Mod_condition_11 : decode m_Mod_condition.2.1 11 = .ok (.iload_n 1, 1) := by decide +kernel
theorem d_Mod_condition_12 : decode m_Mod_condition.2.1 12 = .ok (.bipush 12, 2) := by decide +kernel
theorem d_Mod_condition_14 : decode m_Mod_condition.2.1 14 = .ok (.iadd, 1) := by decide +kernel
theorem d_Mod_condition_15 : decode m_Mod_condition.2.1 15 = .ok (.aload_n 0, 1) := by decide +kernel
theorem d_Mod_condition_16 : decode m_Mod_condition.2.1 16 = .ok (.getfield 13, 3) := by decide +kernel
theorem d_Mod_condition_19 : decode m_Mod_condition.2.1 19 = .ok (.iload_n 1, 1) := by decide +kernel
theorem d_Mod_condition_20 : decode m_Mod_condition.2.1 20 = .ok (.bipush 8, 2) := by decide +kernel
theorem d_Mod_condition_22 : decode m_Mod_condition.2.1 22 = .ok (.iadd, 1) := by decide +kernel
theorem d_Mod_condition_23 : decode m_Mod_condition.2.1 23 = .ok (.iaload, 1) := by decide +kernel
theorem d_Mod_condition_24 : decode m_Mod_condition.2.1 24 = .ok (.iconst 4, 1) := by decide +kernel
theorem d_Mod_condition_25 : decode m_Mod_condition.2.1 25 = .ok (.imul, 1) := by decide +kernel
theorem d_Mod_condition_26 : decode m_Mod_condition.2.1 26 = .ok (.iadd, 1) := by decide +kernel
theorem d_Mod_condition_27 : decode m_Mod_condition.2.1 27 = .ok (.istore_n 2, 1) := by decide +kernel
theorem d_Mod_condition_28 : decode m_Mod_condition.2.1 28 = .ok (.aload_n 0, 1) := by decide +kernel
theorem d_Mod_condition_29 : decode m_Mod_condition.2.1 29 = .ok (.iload_n 2, 1) := by decide +kernel
theorem d_Mod_condition_30 : decode m_Mod_condition.2.1 30 = .ok (.invokevirtual 128, 3) := by decide +kernel
theorem d_Mod_condition_33 : decode m_Mod_condition.2.1 33 = .ok (.ifCond .ne 5, 3) := by decide +kernel
theorem d_Mod_condition_36 : decode m_Mod_condition.2.1 36 = .ok (.iconst 0, 1) := by decide +kernel
theorem d_Mod_condition_37 : decode m_Mod_condition.2.1 37 = .ok (.ireturn, 1) := by decide +kernel
theorem d_Mod_condition_38 : decode m_Mod_condition.2.1 38 = .ok (.aload_n 0, 1) := by decide +kernel
theorem d_Mod_condition_39 : decode m_Mod_condition.2.1 39 = .ok (.invokevirtual 84, 3) := by decide +kernel
theorem d_Mod_condition_42 : decode m_Mod_condition.2.1 42 = .ok (.istore_n 3, 1) := by decide +kernel
theorem d_Mod_condition_43 : decode m_Mod_condition.2.1 43 = .ok (.iload_n 3, 1) := by decide +kernel
theorem d_Mod_condition_44 : decode m_Mod_condition.2.1 44 = .ok (.bipush 60, 2) := by decide +kernel
theorem d_Mod_condition_46 : decode m_Mod_condition.2.1 46 = .ok (.if_icmp .eq 17, 3) := by decide +kernel
theorem d_Mod_condition_49 : decode m_Mod_condition.2.1 49 = .ok (.iload_n 3, 1) := by decide +kernel
theorem d_Mod_condition_50 : decode m_Mod_condition.2.1 50 = .ok (.bipush 61, 2) := by decide +kernel
theorem d_Mod_condition_52 : decode m_Mod_condition.2.1 52 = .ok (.if_icmp .eq 11, 3) := by decide +kernel
theorem d_Mod_condition_55 : decode m_Mod_condition.2.1 55 = .ok (.iload_n 3, 1) := by decide +kernel
theorem d_Mod_condition_56 : decode m_Mod_condition.2.1 56 = .ok (.bipush 62, 2) := by decide +kernel
theorem d_Mod_condition_58 : decode m_Mod_condition.2.1 58 = .ok (.if_icmp .eq 5, 3) := by decide +kernel
theorem d_Mod_condition_61 : decode m_Mod_condition.2.1 61 = .ok (.iconst 0, 1) := by decide +kernel
theorem d_Mod_condition_62 : decode m_Mod_condition.2.1 62 = .ok (.ireturn, 1) := by decide +kernel
theorem d_Mod_condition_63 : decode m_Mod_condition.2.1 63 = .ok (.aload_n 0, 1) := by decide +kernel
theorem d_Mod_condition_64 : decode m_Mod_condition.2.1 64 = .ok (.dup, 1) := by decide +kernel
theorem d_Mod_condition_65 : decode m_Mod_condition.2.1 65 = .ok (.getfield 81, 3) := by decide +kernel
theorem d_Mod_condition_68 : decode m_Mod_condition.2.1 68 = .ok (.iconst 1, 1) := by decide +kernel
theorem d_Mod_condition_69 : decode m_Mod_condition.2.1 69 = .ok (.iadd, 1) := by decide +kernel
theorem d_Mod_condition_70 : decode m_Mod_condition.2.1 70 = .ok (.putfield 81, 3) := by decide +kernel
theorem d_Mod_condition_73 : decode m_Mod_condition.2.1 73 = .ok (.aload_n 0, 1) := by decide +kernel
theorem d_Mod_condition_74 : decode m_Mod_condition.2.1 74 = .ok (.iload_n 2, 1) := by decide +kernel
theorem d_Mod_condition_75 : decode m_Mod_condition.2.1 75 = .ok (.iconst 1, 1) := by decide +kernel
theorem d_Mod_condition_76 : decode m_Mod_condition.2.1 76 = .ok (.iadd, 1) := by decide +kernel
theorem d_Mod_condition_77 : decode m_Mod_condition.2.1 77 = .ok (.invokevirtual 128, 3) := by decide +kernel
theorem d_Mod_condition_80 : decode m_Mod_condition.2.1 80 = .ok (.ifCond .ne 5, 3) := by decide +kernel
theorem d_Mod_condition_83 : decode m_Mod_condition.2.1 83 = .ok (.iconst 0, 1) := by decide +kernel
theorem d_Mod_condition_84 : decode m_Mod_condition.2.1 84 = .ok (.ireturn, 1) := by decide +kernel
theorem d_Mod_condition_85 : decode m_Mod_condition.2.1 85 = .ok (.aload_n 0, 1) := by decide +kernel
theorem d_Mod_condition_86 : decode m_Mod_condition.2.1 86 = .ok (.getfield 13, 3) := by decide +kernel
theorem d_Mod_condition_89 : decode m_Mod_condition.2.1 89 = .ok (.iload_n 2, 1) := by decide +kernel
theorem d_Mod_condition_90 : decode m_Mod_condition.2.1 90 = .ok (.iconst 2, 1) := by decide +kernel
theorem d_Mod_condition_91 : decode m_Mod_condition.2.1 91 = .ok (.iadd, 1) := by decide +kernel
theorem d_Mod_condition_92 : decode m_Mod_condition.2.1 92 = .ok (.iload_n 3, 1) := by decide +kernel
theorem d_Mod_condition_93 : decode m_Mod_condition.2.1 93 = .ok (.iastore, 1) := by decide +kernel
theorem d_Mod_condition_94 : decode m_Mod_condition.2.1 94 = .ok (.aload_n 0, 1) := by decide +kernel
theorem d_Mod_condition_95 : decode m_Mod_condition.2.1 95 = .ok (.getfield 13, 3) := by decide +kernel
theorem d_Mod_condition_98 : decode m_Mod_condition.2.1 98 = .ok (.iload_n 2, 1) := by decide +kernel
theorem d_Mod_condition_99 : decode m_Mod_condition.2.1 99 = .ok (.iconst 3, 1) := by decide +kernel
theorem d_Mod_condition_100 : decode m_Mod_condition.2.1 100 = .ok (.iadd, 1) := by decide +kernel
theorem d_Mod_condition_101 : decode m_Mod_condition.2.1 101 = .ok (.aload_n 0, 1) := by decide +kernel
theorem d_Mod_condition_102 : decode m_Mod_condition.2.1 102 = .ok (.invokevirtual 84, 3) := by decide +kernel
theorem d_Mod_condition_105 : decode m_Mod_condition.2.1 105 = .ok (.bipush 38, 2) := by decide +kernel
theorem d_Mod_condition_107 : decode m_Mod_condition.2.1 107 = .ok (.if_icmp .ne 7, 3) := by decide +kernel
theorem d_Mod_condition_110 : decode m_Mod_condition.2.1 110 = .ok (.iconst 0, 1) := by decide +kernel
theorem d_Mod_condition_111 : decode m_Mod_condition.2.1 111 = .ok (.goto 4, 3) := by decide +kernel
theorem d_Mod_condition_114 : decode m_Mod_condition.2.1 114 = .ok (.iconst 1, 1) := by decide +kernel
theorem d_Mod_condition_115 : decode m_Mod_condition.2.1 115 = .ok (.iastore, 1) := by decide +kernel
theorem d_Mod_condition_116 : decode m_Mod_condition.2.1 116 = .ok (.aload_n 0, 1) := by decide +kernel
theorem d_Mod_condition_117 : decode m_Mod_condition.2.1 117 = .ok (.getfield 13, 3) := by decide +kernel
theorem d_Mod_condition_120 : decode m_Mod_condition.2.1 120 = .ok (.iload_n 1, 1) := by decide +kernel
theorem d_Mod_condition_121 : decode m_Mod_condition.2.1 121 = .ok (.bipush 8, 2) := by decide +kernel
theorem d_Mod_condition_123 : decode m_Mod_condition.2.1 123 = .ok (.iadd, 1) := by decide +kernel
theorem d_Mod_condition_124 : decode m_Mod_condition.2.1 124 = .ok (.dup2, 1) := by decide +kernel
theorem d_Mod_condition_125 : decode m_Mod_condition.2.1 125 = .ok (.iaload, 1) := by decide +kernel
theorem d_Mod_condition_126 : decode m_Mod_condition.2.1 126 = .ok (.iconst 1, 1) := by decide +kernel
theorem d_Mod_condition_127 : decode m_Mod_condition.2.1 127 = .ok (.iadd, 1) := by decide +kernel
theorem d_Mod_condition_128 : decode m_Mod_condition.2.1 128 = .ok (.iastore, 1) := by decide +kernel
theorem d_Mod_condition_129 : decode m_Mod_condition.2.1 129 = .ok (.aload_n 0, 1) := by decide +kernel
theorem d_Mod_condition_130 : decode m_Mod_condition.2.1 130 = .ok (.bipush 93, 2) := by decide +kernel
theorem d_Mod_condition_132 : decode m_Mod_condition.2.1 132 = .ok (.invokevirtual 124, 3) := by decide +kernel
theorem d_Mod_condition_135 : decode m_Mod_condition.2.1 135 = .ok (.ifCond .eq 5, 3) := by decide +kernel
theorem d_Mod_condition_138 : decode m_Mod_condition.2.1 138 = .ok (.iconst 1, 1) := by decide +kernel
theorem d_Mod_condition_139 : decode m_Mod_condition.2.1 139 = .ok (.ireturn, 1) := by decide +kernel
theorem d_Mod_condition_140 : decode m_Mod_condition.2.1 140 = .ok (.aload_n 0, 1) := by decide +kernel
theorem d_Mod_condition_141 : decode m_Mod_condition.2.1 141 = .ok (.bipush 38, 2) := by decide +kernel
theorem d_Mod_condition_143 : decode m_Mod_condition.2.1 143 = .ok (.invokevirtual 124, 3) := by decide +kernel
theorem d_Mod_condition_146 : decode m_Mod_condition.2.1 146 = .ok (.ifCond .ne 14, 3) := by decide +kernel
theorem d_Mod_condition_149 : decode m_Mod_condition.2.1 149 = .ok (.aload_n 0, 1) := by decide +kernel
theorem d_Mod_condition_150 : decode m_Mod_condition.2.1 150 = .ok (.bipush 124, 2) := by decide +kernel
theorem d_Mod_condition_152 : decode m_Mod_condition.2.1 152 = .ok (.invokevirtual 124, 3) := by decide +kernel
theorem d_Mod_condition_155 : decode m_Mod_condition.2.1 155 = .ok (.ifCond .ne 5, 3) := by decide +kernel
theorem d_Mod_condition_158 : decode m_Mod_condition.2.1 158 = .ok (.iconst 0, 1) := by decide +kernel
theorem d_Mod_condition_159 : decode m_Mod_condition.2.1 159 = .ok (.ireturn, 1) := by decide +kernel
theorem d_Mod_condition_160 : decode m_Mod_condition.2.1 160 = .ok (.goto (-149), 3) := by decide +kernel
theorem d_Mod_run_0 : decode m_Mod_run.2.1 0 = .ok (.aload_n 0, 1) := by decide +kernel
theorem d_Mod_run_1 : decode m_Mod_run.2.1 1 = .ok (.iload_n 1, 1) := by decide +kernel
theorem d_Mod_run_2 : decode m_Mod_run.2.1 2 = .ok (.iconst 0, 1) := by decide +kernel
theorem d_Mod_run_3 : decode m_Mod_run.2.1 3 = .ok (.iconst 3, 1) := by decide +kernel
theorem d_Mod_run_4 : decode m_Mod_run.2.1 4 = .ok (.invokestatic 66, 3) := by decide +kernel
theorem d_Mod_run_7 : decode m_Mod_run.2.1 7 = .ok (.invokevirtual 70, 3) := by decide +kernel
theorem d_Mod_run_10 : decode m_Mod_run.2.1 10 = .ok (.ifCond .eq 5, 3) := by decide +kernel
theorem d_Mod_run_13 : decode m_Mod_run.2.1 13 = .ok (.iconst 0, 1) := by decide +kernel
theorem d_Mod_run_14 : decode m_Mod_run.2.1 14 = .ok (.ireturn, 1) := by decide +kernel
theorem d_Mod_run_15 : decode m_Mod_run.2.1 15 = .ok (.aload_n 0, 1) := by decide +kernel
theorem d_Mod_run_16 : decode m_Mod_run.2.1 16 = .ok (.getfield 28, 3) := by decide +kernel
theorem d_Mod_run_19 : decode m_Mod_run.2.1 19 = .ok (.iload_n 1, 1) := by decide +kernel
theorem d_Mod_run_20 : decode m_Mod_run.2.1 20 = .ok (.baload, 1) := by decide +kernel
theorem d_Mod_run_21 : decode m_Mod_run.2.1 21 = .ok (.ifCond .eq 12, 3) := by decide +kernel
theorem d_Mod_run_24 : decode m_Mod_run.2.1 24 = .ok (.aload_n 0, 1) := by decide +kernel
theorem d_Mod_run_25 : decode m_Mod_run.2.1 25 = .ok (.iload_n 1, 1) := by decide +kernel
theorem d_Mod_run_26 : decode m_Mod_run.2.1 26 = .ok (.iload_n 2, 1) := by decide +kernel
theorem d_Mod_run_27 : decode m_Mod_run.2.1 27 = .ok (.invokevirtual 205, 3) := by decide +kernel
theorem d_Mod_run_30 : decode m_Mod_run.2.1 30 = .ok (.goto 8, 3) := by decide +kernel
theorem d_Mod_run_33 : decode m_Mod_run.2.1 33 = .ok (.aload_n 0, 1) := by decide +kernel
theorem d_Mod_run_34 : decode m_Mod_run.2.1 34 = .ok (.iconst 2, 1) := by decide +kernel
theorem d_Mod_run_35 : decode m_Mod_run.2.1 35 = .ok (.invokevirtual 77, 3) := by decide +kernel
theorem d_Mod_run_38 : decode m_Mod_run.2.1 38 = .ok (.ireturn, 1) := by decide +kernel
theorem d_Mod_perform_0 : decode m_Mod_perform.2.1 0 = .ok (.iload_n 1, 1) := by decide +kernel
theorem d_Mod_perform_1 : decode m_Mod_perform.2.1 1 = .ok (.sipush 400, 3) := by decide +kernel
theorem d_Mod_perform_4 : decode m_Mod_perform.2.1 4 = .ok (.imul, 1) := by decide +kernel
theorem d_Mod_perform_5 : decode m_Mod_perform.2.1 5 = .ok (.istore_n 3, 1) := by decide +kernel
theorem d_Mod_perform_6 : decode m_Mod_perform.2.1 6 = .ok (.aload_n 0, 1) := by decide +kernel
theorem d_Mod_perform_7 : decode m_Mod_perform.2.1 7 = .ok (.getfield 13, 3) := by decide +kernel
theorem d_Mod_perform_10 : decode m_Mod_perform.2.1 10 = .ok (.iload_n 3, 1) := by decide +kernel
theorem d_Mod_perform_11 : decode m_Mod_perform.2.1 11 = .ok (.iaload, 1) := by decide +kernel
theorem d_Mod_perform_12 : decode m_Mod_perform.2.1 12 = .ok (.istore 4, 2) := by decide +kernel
theorem d_Mod_perform_14 : decode m_Mod_perform.2.1 14 = .ok (.aload_n 0, 1) := by decide +kernel
theorem d_Mod_perform_15 : decode m_Mod_perform.2.1 15 = .ok (.iload_n 2, 1) := by decide +kernel
theorem d_Mod_perform_16 : decode m_Mod_perform.2.1 16 = .ok (.putfield 147, 3) := by decide +kernel
theorem d_Mod_perform_19 : decode m_Mod_perform.2.1 19 = .ok (.aload_n 0, 1) := by decide +kernel
theorem d_Mod_perform_20 : decode m_Mod_perform.2.1 20 = .ok (.iconst 0, 1) := by decide +kernel
theorem d_Mod_perform_21 : decode m_Mod_perform.2.1 21 = .ok (.putfield 167, 3) := by decide +kernel
theorem d_Mod_perform_24 : decode m_Mod_perform.2.1 24 = .ok (.aload_n 0, 1) := by decide +kernel
theorem d_Mod_perform_25 : decode m_Mod_perform.2.1 25 = .ok (.iconst 0, 1) := by decide +kernel
theorem d_Mod_perform_26 : decode m_Mod_perform.2.1 26 = .ok (.putfield 177, 3) := by decide +kernel
theorem d_Mod_perform_29 : decode m_Mod_perform.2.1 29 = .ok (.iload 4, 2) := by decide +kernel
theorem d_Mod_perform_31 : decode m_Mod_perform.2.1 31 = .ok (.bipush 73, 2) := by decide +kernel
theorem d_Mod_perform_33 : decode m_Mod_perform.2.1 33 = .ok (.if_icmp .ne 11, 3) := by decide +kernel
theorem d_Mod_perform_36 : decode m_Mod_perform.2.1 36 = .ok (.aload_n 0, 1) := by decide +kernel
theorem d_Mod_perform_37 : decode m_Mod_perform.2.1 37 = .ok (.iload_n 3, 1) := by decide +kernel
theorem d_Mod_perform_38 : decode m_Mod_perform.2.1 38 = .ok (.invokevirtual 183, 3) := by decide +kernel
theorem d_Mod_perform_41 : decode m_Mod_perform.2.1 41 = .ok (.goto 30, 3) := by decide +kernel
theorem d_Mod_perform_44 : decode m_Mod_perform.2.1 44 = .ok (.iload 4, 2) := by decide +kernel
theorem d_Mod_perform_46 : decode m_Mod_perform.2.1 46 = .ok (.bipush 68, 2) := by decide +kernel
theorem d_Mod_perform_48 : decode m_Mod_perform.2.1 48 = .ok (.if_icmp .eq 10, 3) := by decide +kernel
theorem d_Mod_perform_51 : decode m_Mod_perform.2.1 51 = .ok (.iload 4, 2) := by decide +kernel
theorem d_Mod_perform_53 : decode m_Mod_perform.2.1 53 = .ok (.bipush 85, 2) := by decide +kernel
theorem d_Mod_perform_55 : decode m_Mod_perform.2.1 55 = .ok (.if_icmp .ne 11, 3) := by decide +kernel
theorem d_Mod_perform_58 : decode m_Mod_perform.2.1 58 = .ok (.aload_n 0, 1) := by decide +kernel
theorem d_Mod_perform_59 : decode m_Mod_perform.2.1 59 = .ok (.iload_n 3, 1) := by decide +kernel
theorem d_Mod_perform_60 : decode m_Mod_perform.2.1 60 = .ok (.invokevirtual 186, 3) := by decide +kernel
theorem d_Mod_perform_63 : decode m_Mod_perform.2.1 63 = .ok (.goto 8, 3) := by decide +kernel
theorem d_Mod_perform_66 : decode m_Mod_perform.2.1 66 = .ok (.aload_n 0, 1) := by decide +kernel
theorem d_Mod_perform_67 : decode m_Mod_perform.2.1 67 = .ok (.iload_n 3, 1) := by decide +kernel
theorem d_Mod_perform_68 : decode m_Mod_perform.2.1 68 = .ok (.invokevirtual 189, 3) := by decide +kernel
theorem d_Mod_perform_71 : decode m_Mod_perform.2.1 71 = .ok (.istore 5, 2) := by decide +kernel
theorem d_Mod_perform_73 : decode m_Mod_perform.2.1 73 = .ok (.aload_n 0, 1) := by decide +kernel
theorem d_Mod_perform_74 : decode m_Mod_perform.2.1 74 = .ok (.getfield 63, 3) := by decide +kernel
theorem d_Mod_perform_77 : decode m_Mod_perform.2.1 77 = .ok (.ifCond .le 20, 3) := by decide +kernel
theorem d_Mod_perform_80 : decode m_Mod_perform.2.1 80 = .ok (.aload_n 0, 1) := by decide +kernel
theorem d_Mod_perform_81 : decode m_Mod_perform.2.1 81 = .ok (.iconst 0, 1) := by decide +kernel
theorem d_Mod_perform_82 : decode m_Mod_perform.2.1 82 = .ok (.putfield 167, 3) := by decide +kernel
theorem d_Mod_perform_85 : decode m_Mod_perform.2.1 85 = .ok (.aload_n 0, 1) := by decide +kernel
theorem d_Mod_perform_86 : decode m_Mod_perform.2.1 86 = .ok (.dup, 1) := by decide +kernel
theorem d_Mod_perform_87 : decode m_Mod_perform.2.1 87 = .ok (.getfield 192, 3) := by decide +kernel
theorem d_Mod_perform_90 : decode m_Mod_perform.2.1 90 = .ok (.iconst 1, 1) := by decide +kernel
theorem d_Mod_perform_91 : decode m_Mod_perform.2.1 91 = .ok (.iadd, 1) := by decide +kernel
theorem d_Mod_perform_92 : decode m_Mod_perform.2.1 92 = .ok (.putfield 192, 3) := by decide +kernel
theorem d_Mod_perform_95 : decode m_Mod_perform.2.1 95 = .ok (.iconst 0, 1) := by decide +kernel
theorem d_Mod_perform_96 : decode m_Mod_perform.2.1 96 = .ok (.ireturn, 1) := by decide +kernel
theorem d_Mod_perform_97 : decode m_Mod_perform.2.1 97 = .ok (.aload_n 0, 1) := by decide +kernel
theorem d_Mod_perform_98 : decode m_Mod_perform.2.1 98 = .ok (.getfield 195, 3) := by decide +kernel
theorem d_Mod_perform_101 : decode m_Mod_perform.2.1 101 = .ok (.ifCond .eq 35, 3) := by decide +kernel
theorem d_Mod_perform_104 : decode m_Mod_perform.2.1 104 = .ok (.iload 4, 2) := by decide +kernel
theorem d_Mod_perform_106 : decode m_Mod_perform.2.1 106 = .ok (.bipush 73, 2) := by decide +kernel
theorem d_Mod_perform_108 : decode m_Mod_perform.2.1 108 = .ok (.if_icmp .eq 17, 3) := by decide +kernel
theorem d_Mod_perform_111 : decode m_Mod_perform.2.1 111 = .ok (.iload 4, 2) := by decide +kernel
theorem d_Mod_perform_113 : decode m_Mod_perform.2.1 113 = .ok (.bipush 68, 2) := by decide +kernel
theorem d_Mod_perform_115 : decode m_Mod_perform.2.1 115 = .ok (.if_icmp .eq 10, 3) := by decide +kernel
theorem d_Mod_perform_118 : decode m_Mod_perform.2.1 118 = .ok (.iload 4, 2) := by decide +kernel
theorem d_Mod_perform_120 : decode m_Mod_perform.2.1 120 = .ok (.bipush 85, 2) := by decide +kernel
theorem d_Mod_perform_122 : decode m_Mod_perform.2.1 122 = .ok (.if_icmp .ne 14, 3) := by decide +kernel
theorem d_Mod_perform_125 : decode m_Mod_perform.2.1 125 = .ok (.aload_n 0, 1) := by decide +kernel
theorem d_Mod_perform_126 : decode m_Mod_perform.2.1 126 = .ok (.dup, 1) := by decide +kernel
theorem d_Mod_perform_127 : decode m_Mod_perform.2.1 127 = .ok (.getfield 199, 3) := by decide +kernel
theorem d_Mod_perform_130 : decode m_Mod_perform.2.1 130 = .ok (.iload 5, 2) := by decide +kernel
theorem d_Mod_perform_132 : decode m_Mod_perform.2.1 132 = .ok (.iadd, 1) := by decide +kernel
theorem d_Mod_perform_133 : decode m_Mod_perform.2.1 133 = .ok (.putfield 199, 3) := by decide +kernel
theorem d_Mod_perform_136 : decode m_Mod_perform.2.1 136 = .ok (.aload_n 0, 1) := by decide +kernel
theorem d_Mod_perform_137 : decode m_Mod_perform.2.1 137 = .ok (.dup, 1) := by decide +kernel
theorem d_Mod_perform_138 : decode m_Mod_perform.2.1 138 = .ok (.getfield 202, 3) := by decide +kernel
theorem d_Mod_perform_141 : decode m_Mod_perform.2.1 141 = .ok (.iconst 1, 1) := by decide +kernel
theorem d_Mod_perform_142 : decode m_Mod_perform.2.1 142 = .ok (.iadd, 1) := by decide +kernel
theorem d_Mod_perform_143 : decode m_Mod_perform.2.1 143 = .ok (.putfield 202, 3) := by decide +kernel
theorem d_Mod_perform_146 : decode m_Mod_perform.2.1 146 = .ok (.iload 5, 2) := by decide +kernel
theorem d_Mod_perform_148 : decode m_Mod_perform.2.1 148 = .ok (.ireturn, 1) := by decide +kernel
theorem d_Mod_insert_0 : decode m_Mod_insert.2.1 0 = .ok (.iconst 3, 1) := by decide +kernel
theorem d_Mod_insert_1 : decode m_Mod_insert.2.1 1 = .ok (.newarray .int, 2) := by decide +kernel
theorem d_Mod_insert_3 : decode m_Mod_insert.2.1 3 = .ok (.dup, 1) := by decide +kernel
theorem d_Mod_insert_4 : decode m_Mod_insert.2.1 4 = .ok (.iconst 0, 1) := by decide +kernel
theorem d_Mod_insert_5 : decode m_Mod_insert.2.1 5 = .ok (.iconst 0, 1) := by decide +kernel
theorem d_Mod_insert_6 : decode m_Mod_insert.2.1 6 = .ok (.iastore, 1) := by decide +kernel
theorem d_Mod_insert_7 : decode m_Mod_insert.2.1 7 = .ok (.dup, 1) := by decide +kernel
theorem d_Mod_insert_8 : decode m_Mod_insert.2.1 8 = .ok (.iconst 1, 1) := by decide +kernel
theorem d_Mod_insert_9 : decode m_Mod_insert.2.1 9 = .ok (.iconst 0, 1) := by decide +kernel
theorem d_Mod_insert_10 : decode m_Mod_insert.2.1 10 = .ok (.iastore, 1) := by decide +kernel
theorem d_Mod_insert_11 : decode m_Mod_insert.2.1 11 = .ok (.dup, 1) := by decide +kernel
theorem d_Mod_insert_12 : decode m_Mod_insert.2.1 12 = .ok (.iconst 2, 1) := by decide +kernel
theorem d_Mod_insert_13 : decode m_Mod_insert.2.1 13 = .ok (.iconst 0, 1) := by decide +kernel
theorem d_Mod_insert_14 : decode m_Mod_insert.2.1 14 = .ok (.iastore, 1) := by decide +kernel
theorem d_Mod_insert_15 : decode m_Mod_insert.2.1 15 = .ok (.astore_n 2, 1) := by decide +kernel
theorem d_Mod_insert_16 : decode m_Mod_insert.2.1 16 = .ok (.iconst 0, 1) := by decide +kernel
theorem d_Mod_insert_17 : decode m_Mod_insert.2.1 17 = .ok (.istore_n 3, 1) := by decide +kernel
theorem d_Mod_insert_18 : decode m_Mod_insert.2.1 18 = .ok (.iload_n 3, 1) := by decide +kernel
theorem d_Mod_insert_19 : decode m_Mod_insert.2.1 19 = .ok (.iconst 3, 1) := by decide +kernel
theorem d_Mod_insert_20 : decode m_Mod_insert.2.1 20 = .ok (.if_icmp .ge 27, 3) := by decide +kernel
theorem d_Mod_insert_23 : decode m_Mod_insert.2.1 23 = .ok (.aload_n 0, 1) := by decide +kernel
theorem d_Mod_insert_24 : decode m_Mod_insert.2.1 24 = .ok (.getfield 63, 3) := by decide +kernel
theorem d_Mod_insert_27 : decode m_Mod_insert.2.1 27 = .ok (.ifCond .ne 20, 3) := by decide +kernel
theorem d_Mod_insert_30 : decode m_Mod_insert.2.1 30 = .ok (.aload_n 2, 1) := by decide +kernel
theorem d_Mod_insert_31 : decode m_Mod_insert.2.1 31 = .ok (.iload_n 3, 1) := by decide +kernel
theorem d_Mod_insert_32 : decode m_Mod_insert.2.1 32 = .ok (.aload_n 0, 1) := by decide +kernel
theorem d_Mod_insert_33 : decode m_Mod_insert.2.1 33 = .ok (.iload_n 1, 1) := by decide +kernel
theorem d_Mod_insert_34 : decode m_Mod_insert.2.1 34 = .ok (.iconst 4, 1) := by decide +kernel
theorem d_Mod_insert_35 : decode m_Mod_insert.2.1 35 = .ok (.iload_n 3, 1) := by decide +kernel
theorem d_Mod_insert_36 : decode m_Mod_insert.2.1 36 = .ok (.iadd, 1) := by decide +kernel
theorem d_Mod_insert_37 : decode m_Mod_insert.2.1 37 = .ok (.invokevirtual 154, 3) := by decide +kernel
theorem d_Mod_insert_40 : decode m_Mod_insert.2.1 40 = .ok (.iastore, 1) := by decide +kernel
theorem d_Mod_insert_41 : decode m_Mod_insert.2.1 41 = .ok (.iinc 3 1, 3) := by decide +kernel
theorem d_Mod_insert_44 : decode m_Mod_insert.2.1 44 = .ok (.goto (-26), 3) := by decide +kernel
theorem d_Mod_insert_47 : decode m_Mod_insert.2.1 47 = .ok (.aload_n 0, 1) := by decide +kernel
theorem d_Mod_insert_48 : decode m_Mod_insert.2.1 48 = .ok (.getfield 13, 3) := by decide +kernel
theorem d_Mod_insert_51 : decode m_Mod_insert.2.1 51 = .ok (.iload_n 1, 1) := by decide +kernel
theorem d_Mod_insert_52 : decode m_Mod_insert.2.1 52 = .ok (.iconst 1, 1) := by decide +kernel
theorem d_Mod_insert_53 : decode m_Mod_insert.2.1 53 = .ok (.iadd, 1) := by decide +kernel
theorem d_Mod_insert_54 : decode m_Mod_insert.2.1 54 = .ok (.iaload, 1) := by decide +kernel
theorem d_Mod_insert_55 : decode m_Mod_insert.2.1 55 = .ok (.istore_n 3, 1) := by decide +kernel
theorem d_Mod_insert_56 : decode m_Mod_insert.2.1 56 = .ok (.aload_n 0, 1) := by decide +kernel
theorem d_Mod_insert_57 : decode m_Mod_insert.2.1 57 = .ok (.getfield 19, 3) := by decide +kernel
theorem d_Mod_insert_60 : decode m_Mod_insert.2.1 60 = .ok (.iload_n 3, 1) := by decide +kernel
theorem d_Mod_insert_61 : decode m_Mod_insert.2.1 61 = .ok (.iaload, 1) := by decide +kernel
theorem d_Mod_insert_62 : decode m_Mod_insert.2.1 62 = .ok (.istore 4, 2) := by decide +kernel
theorem d_Mod_insert_64 : decode m_Mod_insert.2.1 64 = .ok (.iconst 0, 1) := by decide +kernel
theorem d_Mod_insert_65 : decode m_Mod_insert.2.1 65 = .ok (.istore 5, 2) := by decide +kernel
theorem d_Mod_insert_67 : decode m_Mod_insert.2.1 67 = .ok (.aload_n 0, 1) := by decide +kernel
theorem d_Mod_insert_68 : decode m_Mod_insert.2.1 68 = .ok (.getfield 63, 3) := by decide +kernel
theorem d_Mod_insert_71 : decode m_Mod_insert.2.1 71 = .ok (.ifCond .le 5, 3) := by decide +kernel
theorem d_Mod_insert_74 : decode m_Mod_insert.2.1 74 = .ok (.iconst 0, 1) := by decide +kernel
theorem d_Mod_insert_75 : decode m_Mod_insert.2.1 75 = .ok (.ireturn, 1) := by decide +kernel
theorem d_Mod_insert_76 : decode m_Mod_insert.2.1 76 = .ok (.iload 5, 2) := by decide +kernel
theorem d_Mod_insert_78 : decode m_Mod_insert.2.1 78 = .ok (.iload 4, 2) := by decide +kernel
theorem d_Mod_insert_80 : decode m_Mod_insert.2.1 80 = .ok (.if_icmp .ge 29, 3) := by decide +kernel
theorem d_Mod_insert_83 : decode m_Mod_insert.2.1 83 = .ok (.aload_n 0, 1) := by decide +kernel
theorem d_Mod_insert_84 : decode m_Mod_insert.2.1 84 = .ok (.getfield 16, 3) := by decide +kernel
theorem d_Mod_insert_87 : decode m_Mod_insert.2.1 87 = .ok (.iload_n 3, 1) := by decide +kernel
theorem d_Mod_insert_88 : decode m_Mod_insert.2.1 88 = .ok (.bipush 60, 2) := by decide +kernel
theorem d_Mod_insert_90 : decode m_Mod_insert.2.1 90 = .ok (.imul, 1) := by decide +kernel
theorem d_Mod_insert_91 : decode m_Mod_insert.2.1 91 = .ok (.iload 5, 2) := by decide +kernel
theorem d_Mod_insert_93 : decode m_Mod_insert.2.1 93 = .ok (.iconst 3, 1) := by decide +kernel
theorem d_Mod_insert_94 : decode m_Mod_insert.2.1 94 = .ok (.imul, 1) := by decide +kernel
theorem d_Mod_insert_95 : decode m_Mod_insert.2.1 95 = .ok (.iadd, 1) := by decide +kernel
theorem d_Mod_insert_96 : decode m_Mod_insert.2.1 96 = .ok (.iaload, 1) := by decide +kernel
theorem d_Mod_insert_97 : decode m_Mod_insert.2.1 97 = .ok (.aload_n 2, 1) := by decide +kernel
theorem d_Mod_insert_98 : decode m_Mod_insert.2.1 98 = .ok (.iconst 0, 1) := by decide +kernel
theorem d_Mod_insert_99 : decode m_Mod_insert.2.1 99 = .ok (.iaload, 1) := by decide +kernel
theorem d_Mod_insert_100 : decode m_Mod_insert.2.1 100 = .ok (.if_icmp .ge 9, 3) := by decide +kernel
theorem d_Mod_insert_103 : decode m_Mod_insert.2.1 103 = .ok (.iinc 5 1, 3) := by decide +kernel
theorem d_Mod_insert_106 : decode m_Mod_insert.2.1 106 = .ok (.goto (-30), 3) := by decide +kernel
theorem d_Mod_insert_109 : decode m_Mod_insert.2.1 109 = .ok (.iload 5, 2) := by decide +kernel
theorem d_Mod_insert_111 : decode m_Mod_insert.2.1 111 = .ok (.iload 4, 2) := by decide +kernel
theorem d_Mod_insert_113 : decode m_Mod_insert.2.1 113 = .ok (.if_icmp .ge 23, 3) := by decide +kernel
theorem d_Mod_insert_116 : decode m_Mod_insert.2.1 116 = .ok (.aload_n 0, 1) := by decide +kernel
theorem d_Mod_insert_117 : decode m_Mod_insert.2.1 117 = .ok (.getfield 16, 3) := by decide +kernel
theorem d_Mod_insert_120 : decode m_Mod_insert.2.1 120 = .ok (.iload_n 3, 1) := by decide +kernel
theorem d_Mod_insert_121 : decode m_Mod_insert.2.1 121 = .ok (.bipush 60, 2) := by decide +kernel
theorem d_Mod_insert_123 : decode m_Mod_insert.2.1 123 = .ok (.imul, 1) := by decide +kernel
theorem d_Mod_insert_124 : decode m_Mod_insert.2.1 124 = .ok (.iload 5, 2) := by decide +kernel
theorem d_Mod_insert_126 : decode m_Mod_insert.2.1 126 = .ok (.iconst 3, 1) := by decide +kernel
theorem d_Mod_insert_127 : decode m_Mod_insert.2.1 127 = .ok (.imul, 1) := by decide +kernel
theorem d_Mod_insert_128 : decode m_Mod_insert.2.1 128 = .ok (.iadd, 1) := by decide +kernel
theorem d_Mod_insert_129 : decode m_Mod_insert.2.1 129 = .ok (.iaload, 1) := by decide +kernel
theorem d_Mod_insert_130 : decode m_Mod_insert.2.1 130 = .ok (.aload_n 2, 1) := by decide +kernel
theorem d_Mod_insert_131 : decode m_Mod_insert.2.1 131 = .ok (.iconst 0, 1) := by decide +kernel
theorem d_Mod_insert_132 : decode m_Mod_insert.2.1 132 = .ok (.iaload, 1) := by decide +kernel
theorem d_Mod_insert_133 : decode m_Mod_insert.2.1 133 = .ok (.if_icmp .eq 10, 3) := by decide +kernel
theorem d_Mod_insert_136 : decode m_Mod_insert.2.1 136 = .ok (.iload 4, 2) := by decide +kernel
theorem d_Mod_insert_138 : decode m_Mod_insert.2.1 138 = .ok (.bipush 20, 2) := by decide +kernel
theorem d_Mod_insert_140 : decode m_Mod_insert.2.1 140 = .ok (.if_icmp .ne 9, 3) := by decide +kernel
theorem d_Mod_insert_143 : decode m_Mod_insert.2.1 143 = .ok (.aload_n 0, 1) := by decide +kernel
theorem d_Mod_insert_144 : decode m_Mod_insert.2.1 144 = .ok (.iconst 4, 1) := by decide +kernel
theorem d_Mod_insert_145 : decode m_Mod_insert.2.1 145 = .ok (.invokevirtual 77, 3) := by decide +kernel
theorem d_Mod_insert_148 : decode m_Mod_insert.2.1 148 = .ok (.ireturn, 1) := by decide +kernel
theorem d_Mod_insert_149 : decode m_Mod_insert.2.1 149 = .ok (.iload 4, 2) := by decide +kernel
theorem d_Mod_insert_151 : decode m_Mod_insert.2.1 151 = .ok (.iconst 3, 1) := by decide +kernel
theorem d_Mod_insert_152 : decode m_Mod_insert.2.1 152 = .ok (.imul, 1) := by decide +kernel
theorem d_Mod_insert_153 : decode m_Mod_insert.2.1 153 = .ok (.iconst 1, 1) := by decide +kernel
theorem d_Mod_insert_154 : decode m_Mod_insert.2.1 154 = .ok (.isub, 1) := by decide +kernel
theorem d_Mod_insert_155 : decode m_Mod_insert.2.1 155 = .ok (.istore 6, 2) := by decide +kernel
theorem d_Mod_insert_157 : decode m_Mod_insert.2.1 157 = .ok (.iload 6, 2) := by decide +kernel
theorem d_Mod_insert_159 : decode m_Mod_insert.2.1 159 = .ok (.iload 5, 2) := by decide +kernel
theorem d_Mod_insert_161 : decode m_Mod_insert.2.1 161 = .ok (.iconst 3, 1) := by decide +kernel
theorem d_Mod_insert_162 : decode m_Mod_insert.2.1 162 = .ok (.imul, 1) := by decide +kernel
theorem d_Mod_insert_163 : decode m_Mod_insert.2.1 163 = .ok (.if_icmp .lt 35, 3) := by decide +kernel
theorem d_Mod_insert_166 : decode m_Mod_insert.2.1 166 = .ok (.aload_n 0, 1) := by decide +kernel
theorem d_Mod_insert_167 : decode m_Mod_insert.2.1 167 = .ok (.getfield 16, 3) := by decide +kernel
theorem d_Mod_insert_170 : decode m_Mod_insert.2.1 170 = .ok (.iload_n 3, 1) := by decide +kernel
theorem d_Mod_insert_171 : decode m_Mod_insert.2.1 171 = .ok (.bipush 60, 2) := by decide +kernel
theorem d_Mod_insert_173 : decode m_Mod_insert.2.1 173 = .ok (.imul, 1) := by decide +kernel
theorem d_Mod_insert_174 : decode m_Mod_insert.2.1 174 = .ok (.iload 6, 2) := by decide +kernel
theorem d_Mod_insert_176 : decode m_Mod_insert.2.1 176 = .ok (.iadd, 1) := by decide +kernel
theorem d_Mod_insert_177 : decode m_Mod_insert.2.1 177 = .ok (.iconst 3, 1) := by decide +kernel
theorem d_Mod_insert_178 : decode m_Mod_insert.2.1 178 = .ok (.iadd, 1) := by decide +kernel
theorem d_Mod_insert_179 : decode m_Mod_insert.2.1 179 = .ok (.aload_n 0, 1) := by decide +kernel
theorem d_Mod_insert_180 : decode m_Mod_insert.2.1 180 = .ok (.getfield 16, 3) := by decide +kernel
theorem d_Mod_insert_183 : decode m_Mod_insert.2.1 183 = .ok (.iload_n 3, 1) := by decide +kernel
theorem d_Mod_insert_184 : decode m_Mod_insert.2.1 184 = .ok (.bipush 60, 2) := by decide +kernel
theorem d_Mod_insert_186 : decode m_Mod_insert.2.1 186 = .ok (.imul, 1) := by decide +kernel
theorem d_Mod_insert_187 : decode m_Mod_insert.2.1 187 = .ok (.iload 6, 2) := by decide +kernel
theorem d_Mod_insert_189 : decode m_Mod_insert.2.1 189 = .ok (.iadd, 1) := by decide +kernel
theorem d_Mod_insert_190 : decode m_Mod_insert.2.1 190 = .ok (.iaload, 1) := by decide +kernel
theorem d_Mod_insert_191 : decode m_Mod_insert.2.1 191 = .ok (.iastore, 1) := by decide +kernel
theorem d_Mod_insert_192 : decode m_Mod_insert.2.1 192 = .ok (.iinc 6 (-1), 3) := by decide +kernel
theorem d_Mod_insert_195 : decode m_Mod_insert.2.1 195 = .ok (.goto (-38), 3) := by decide +kernel
theorem d_Mod_insert_198 : decode m_Mod_insert.2.1 198 = .ok (.iconst 0, 1) := by decide +kernel
theorem d_Mod_insert_199 : decode m_Mod_insert.2.1 199 = .ok (.istore 6, 2) := by decide +kernel
theorem d_Mod_insert_201 : decode m_Mod_insert.2.1 201 = .ok (.iload 6, 2) := by decide +kernel
theorem d_Mod_insert_203 : decode m_Mod_insert.2.1 203 = .ok (.iconst 3, 1) := by decide +kernel
theorem d_Mod_insert_204 : decode m_Mod_insert.2.1 204 = .ok (.if_icmp .ge 30, 3) := by decide +kernel
theorem d_Mod_insert_207 : decode m_Mod_insert.2.1 207 = .ok (.aload_n 0, 1) := by decide +kernel
theorem d_Mod_insert_208 : decode m_Mod_insert.2.1 208 = .ok (.getfield 16, 3) := by decide +kernel
theorem d_Mod_insert_211 : decode m_Mod_insert.2.1 211 = .ok (.iload_n 3, 1) := by decide +kernel
theorem d_Mod_insert_212 : decode m_Mod_insert.2.1 212 = .ok (.bipush 60, 2) := by decide +kernel
theorem d_Mod_insert_214 : decode m_Mod_insert.2.1 214 = .ok (.imul, 1) := by decide +kernel
theorem d_Mod_insert_215 : decode m_Mod_insert.2.1 215 = .ok (.iload 5, 2) := by decide +kernel
theorem d_Mod_insert_217 : decode m_Mod_insert.2.1 217 = .ok (.iconst 3, 1) := by decide +kernel
theorem d_Mod_insert_218 : decode m_Mod_insert.2.1 218 = .ok (.imul, 1) := by decide +kernel
theorem d_Mod_insert_219 : decode m_Mod_insert.2.1 219 = .ok (.iadd, 1) := by decide +kernel
theorem d_Mod_insert_220 : decode m_Mod_insert.2.1 220 = .ok (.iload 6, 2) := by decide +kernel
theorem d_Mod_insert_222 : decode m_Mod_insert.2.1 222 = .ok (.iadd, 1) := by decide +kernel
theorem d_Mod_insert_223 : decode m_Mod_insert.2.1 223 = .ok (.aload_n 2, 1) := by decide +kernel
theorem d_Mod_insert_224 : decode m_Mod_insert.2.1 224 = .ok (.iload 6, 2) := by decide +kernel
theorem d_Mod_insert_226 : decode m_Mod_insert.2.1 226 = .ok (.iaload, 1) := by decide +kernel
theorem d_Mod_insert_227 : decode m_Mod_insert.2.1 227 = .ok (.iastore, 1) := by decide +kernel
theorem d_Mod_insert_228 : decode m_Mod_insert.2.1 228 = .ok (.iinc 6 1, 3) := by decide +kernel
theorem d_Mod_insert_231 : decode m_Mod_insert.2.1 231 = .ok (.goto (-30), 3) := by decide +kernel
theorem d_Mod_insert_234 : decode m_Mod_insert.2.1 234 = .ok (.aload_n 0, 1) := by decide +kernel
theorem d_Mod_insert_235 : decode m_Mod_insert.2.1 235 = .ok (.getfield 19, 3) := by decide +kernel
theorem d_Mod_insert_238 : decode m_Mod_insert.2.1 238 = .ok (.iload_n 3, 1) := by decide +kernel
theorem d_Mod_insert_239 : decode m_Mod_insert.2.1 239 = .ok (.dup2, 1) := by decide +kernel
theorem d_Mod_insert_240 : decode m_Mod_insert.2.1 240 = .ok (.iaload, 1) := by decide +kernel
theorem d_Mod_insert_241 : decode m_Mod_insert.2.1 241 = .ok (.iconst 1, 1) := by decide +kernel
theorem d_Mod_insert_242 : decode m_Mod_insert.2.1 242 = .ok (.iadd, 1) := by decide +kernel
theorem d_Mod_insert_243 : decode m_Mod_insert.2.1 243 = .ok (.iastore, 1) := by decide +kernel
theorem d_Mod_insert_244 : decode m_Mod_insert.2.1 244 = .ok (.iconst 1, 1) := by decide +kernel
theorem d_Mod_insert_245 : decode m_Mod_insert.2.1 245 = .ok (.ireturn, 1) := by decide +kernel
theorem d_Mod_worked_0 : decode m_Mod_worked.2.1 0 = .ok (.aload_n 0, 1) := by decide +kernel
theorem d_Mod_worked_1 : decode m_Mod_worked.2.1 1 = .ok (.getfield 13, 3) := by decide +kernel
theorem d_Mod_worked_4 : decode m_Mod_worked.2.1 4 = .ok (.iload_n 1, 1) := by decide +kernel
theorem d_Mod_worked_5 : decode m_Mod_worked.2.1 5 = .ok (.iload_n 2, 1) := by decide +kernel
theorem d_Mod_worked_6 : decode m_Mod_worked.2.1 6 = .ok (.iadd, 1) := by decide +kernel
theorem d_Mod_worked_7 : decode m_Mod_worked.2.1 7 = .ok (.iaload, 1) := by decide +kernel
theorem d_Mod_worked_8 : decode m_Mod_worked.2.1 8 = .ok (.sipush 1600, 3) := by decide +kernel
theorem d_Mod_worked_11 : decode m_Mod_worked.2.1 11 = .ok (.isub, 1) := by decide +kernel
theorem d_Mod_worked_12 : decode m_Mod_worked.2.1 12 = .ok (.iload_n 1, 1) := by decide +kernel
theorem d_Mod_worked_13 : decode m_Mod_worked.2.1 13 = .ok (.iadd, 1) := by decide +kernel
theorem d_Mod_worked_14 : decode m_Mod_worked.2.1 14 = .ok (.istore_n 3, 1) := by decide +kernel
theorem d_Mod_worked_15 : decode m_Mod_worked.2.1 15 = .ok (.iconst 0, 1) := by decide +kernel
theorem d_Mod_worked_16 : decode m_Mod_worked.2.1 16 = .ok (.istore 4, 2) := by decide +kernel
theorem d_Mod_worked_18 : decode m_Mod_worked.2.1 18 = .ok (.aload_n 0, 1) := by decide +kernel
theorem d_Mod_worked_19 : decode m_Mod_worked.2.1 19 = .ok (.getfield 13, 3) := by decide +kernel
theorem d_Mod_worked_22 : decode m_Mod_worked.2.1 22 = .ok (.iload_n 3, 1) := by decide +kernel
theorem d_Mod_worked_23 : decode m_Mod_worked.2.1 23 = .ok (.iaload, 1) := by decide +kernel
theorem d_Mod_worked_24 : decode m_Mod_worked.2.1 24 = .ok (.ifCond .eq 173, 3) := by decide +kernel
theorem d_Mod_worked_27 : decode m_Mod_worked.2.1 27 = .ok (.aload_n 0, 1) := by decide +kernel
theorem d_Mod_worked_28 : decode m_Mod_worked.2.1 28 = .ok (.getfield 63, 3) := by decide +kernel
theorem d_Mod_worked_31 : decode m_Mod_worked.2.1 31 = .ok (.ifCond .ne 166, 3) := by decide +kernel
theorem d_Mod_worked_34 : decode m_Mod_worked.2.1 34 = .ok (.aload_n 0, 1) := by decide +kernel
theorem d_Mod_worked_35 : decode m_Mod_worked.2.1 35 = .ok (.getfield 13, 3) := by decide +kernel
theorem d_Mod_worked_38 : decode m_Mod_worked.2.1 38 = .ok (.iload_n 3, 1) := by decide +kernel
theorem d_Mod_worked_39 : decode m_Mod_worked.2.1 39 = .ok (.iaload, 1) := by decide +kernel
theorem d_Mod_worked_40 : decode m_Mod_worked.2.1 40 = .ok (.istore 5, 2) := by decide +kernel
theorem d_Mod_worked_42 : decode m_Mod_worked.2.1 42 = .ok (.iload 5, 2) := by decide +kernel
theorem d_Mod_worked_44 : decode m_Mod_worked.2.1 44 = .ok (.iconst 4, 1) := by decide +kernel
theorem d_Mod_worked_45 : decode m_Mod_worked.2.1 45 = .ok (.if_icmp .ge 59, 3) := by decide +kernel
theorem d_Mod_worked_48 : decode m_Mod_worked.2.1 48 = .ok (.aload_n 0, 1) := by decide +kernel
theorem d_Mod_worked_49 : decode m_Mod_worked.2.1 49 = .ok (.getfield 45, 3) := by decide +kernel
theorem d_Mod_worked_52 : decode m_Mod_worked.2.1 52 = .ok (.iload 4, 2) := by decide +kernel
theorem d_Mod_worked_54 : decode m_Mod_worked.2.1 54 = .ok (.iload 5, 2) := by decide +kernel
theorem d_Mod_worked_56 : decode m_Mod_worked.2.1 56 = .ok (.iconst 1, 1) := by decide +kernel
theorem d_Mod_worked_57 : decode m_Mod_worked.2.1 57 = .ok (.if_icmp .ne 14, 3) := by decide +kernel
theorem d_Mod_worked_60 : decode m_Mod_worked.2.1 60 = .ok (.aload_n 0, 1) := by decide +kernel
theorem d_Mod_worked_61 : decode m_Mod_worked.2.1 61 = .ok (.getfield 13, 3) := by decide +kernel
theorem d_Mod_worked_64 : decode m_Mod_worked.2.1 64 = .ok (.iload_n 3, 1) := by decide +kernel
theorem d_Mod_worked_65 : decode m_Mod_worked.2.1 65 = .ok (.iconst 1, 1) := by decide +kernel
theorem d_Mod_worked_66 : decode m_Mod_worked.2.1 66 = .ok (.iadd, 1) := by decide +kernel
theorem d_Mod_worked_67 : decode m_Mod_worked.2.1 67 = .ok (.iaload, 1) := by decide +kernel
theorem d_Mod_worked_68 : decode m_Mod_worked.2.1 68 = .ok (.goto 29, 3) := by decide +kernel
theorem d_Mod_worked_71 : decode m_Mod_worked.2.1 71 = .ok (.iload 5, 2) := by decide +kernel
theorem d_Mod_worked_73 : decode m_Mod_worked.2.1 73 = .ok (.iconst 2, 1) := by decide +kernel
theorem d_Mod_worked_74 : decode m_Mod_worked.2.1 74 = .ok (.if_icmp .ne 19, 3) := by decide +kernel
theorem d_Mod_worked_77 : decode m_Mod_worked.2.1 77 = .ok (.aload_n 0, 1) := by decide +kernel
theorem d_Mod_worked_78 : decode m_Mod_worked.2.1 78 = .ok (.getfield 48, 3) := by decide +kernel
theorem d_Mod_worked_81 : decode m_Mod_worked.2.1 81 = .ok (.aload_n 0, 1) := by decide +kernel
theorem d_Mod_worked_82 : decode m_Mod_worked.2.1 82 = .ok (.getfield 13, 3) := by decide +kernel
theorem d_Mod_worked_85 : decode m_Mod_worked.2.1 85 = .ok (.iload_n 3, 1) := by decide +kernel
theorem d_Mod_worked_86 : decode m_Mod_worked.2.1 86 = .ok (.iconst 1, 1) := by decide +kernel
theorem d_Mod_worked_87 : decode m_Mod_worked.2.1 87 = .ok (.iadd, 1) := by decide +kernel
theorem d_Mod_worked_88 : decode m_Mod_worked.2.1 88 = .ok (.iaload, 1) := by decide +kernel
theorem d_Mod_worked_89 : decode m_Mod_worked.2.1 89 = .ok (.iaload, 1) := by decide +kernel
theorem d_Mod_worked_90 : decode m_Mod_worked.2.1 90 = .ok (.goto 7, 3) := by decide +kernel
theorem d_Mod_worked_93 : decode m_Mod_worked.2.1 93 = .ok (.aload_n 0, 1) := by decide +kernel
theorem d_Mod_worked_94 : decode m_Mod_worked.2.1 94 = .ok (.getfield 147, 3) := by decide +kernel
theorem d_Mod_worked_97 : decode m_Mod_worked.2.1 97 = .ok (.iastore, 1) := by decide +kernel
theorem d_Mod_worked_98 : decode m_Mod_worked.2.1 98 = .ok (.iinc 4 1, 3) := by decide +kernel
theorem d_Mod_worked_101 : decode m_Mod_worked.2.1 101 = .ok (.goto 73, 3) := by decide +kernel
theorem d_Mod_worked_104 : decode m_Mod_worked.2.1 104 = .ok (.iload 5, 2) := by decide +kernel
theorem d_Mod_worked_106 : decode m_Mod_worked.2.1 106 = .ok (.iconst 5, 1) := by decide +kernel
theorem d_Mod_worked_107 : decode m_Mod_worked.2.1 107 = .ok (.if_icmp .ne 25, 3) := by decide +kernel
theorem d_Mod_worked_110 : decode m_Mod_worked.2.1 110 = .ok (.aload_n 0, 1) := by decide +kernel
theorem d_Mod_worked_111 : decode m_Mod_worked.2.1 111 = .ok (.getfield 45, 3) := by decide +kernel
theorem d_Mod_worked_114 : decode m_Mod_worked.2.1 114 = .ok (.iload 4, 2) := by decide +kernel
theorem d_Mod_worked_116 : decode m_Mod_worked.2.1 116 = .ok (.iconst 1, 1) := by decide +kernel
theorem d_Mod_worked_117 : decode m_Mod_worked.2.1 117 = .ok (.isub, 1) := by decide +kernel
theorem d_Mod_worked_118 : decode m_Mod_worked.2.1 118 = .ok (.aload_n 0, 1) := by decide +kernel
theorem d_Mod_worked_119 : decode m_Mod_worked.2.1 119 = .ok (.getfield 45, 3) := by decide +kernel
theorem d_Mod_worked_122 : decode m_Mod_worked.2.1 122 = .ok (.iload 4, 2) := by decide +kernel
theorem d_Mod_worked_124 : decode m_Mod_worked.2.1 124 = .ok (.iconst 1, 1) := by decide +kernel
theorem d_Mod_worked_125 : decode m_Mod_worked.2.1 125 = .ok (.isub, 1) := by decide +kernel
theorem d_Mod_worked_126 : decode m_Mod_worked.2.1 126 = .ok (.iaload, 1) := by decide +kernel
theorem d_Mod_worked_127 : decode m_Mod_worked.2.1 127 = .ok (.ineg, 1) := by decide +kernel
theorem d_Mod_worked_128 : decode m_Mod_worked.2.1 128 = .ok (.iastore, 1) := by decide +kernel
theorem d_Mod_worked_129 : decode m_Mod_worked.2.1 129 = .ok (.goto 45, 3) := by decide +kernel
theorem d_Mod_worked_132 : decode m_Mod_worked.2.1 132 = .ok (.aload_n 0, 1) := by decide +kernel
theorem d_Mod_worked_133 : decode m_Mod_worked.2.1 133 = .ok (.getfield 45, 3) := by decide +kernel
theorem d_Mod_worked_136 : decode m_Mod_worked.2.1 136 = .ok (.iload 4, 2) := by decide +kernel
theorem d_Mod_worked_138 : decode m_Mod_worked.2.1 138 = .ok (.iconst 2, 1) := by decide +kernel
theorem d_Mod_worked_139 : decode m_Mod_worked.2.1 139 = .ok (.isub, 1) := by decide +kernel
theorem d_Mod_worked_140 : decode m_Mod_worked.2.1 140 = .ok (.aload_n 0, 1) := by decide +kernel
theorem d_Mod_worked_141 : decode m_Mod_worked.2.1 141 = .ok (.aload_n 0, 1) := by decide +kernel
theorem d_Mod_worked_142 : decode m_Mod_worked.2.1 142 = .ok (.getfield 13, 3) := by decide +kernel
theorem d_Mod_worked_145 : decode m_Mod_worked.2.1 145 = .ok (.iload_n 3, 1) := by decide +kernel
theorem d_Mod_worked_146 : decode m_Mod_worked.2.1 146 = .ok (.iconst 1, 1) := by decide +kernel
theorem d_Mod_worked_147 : decode m_Mod_worked.2.1 147 = .ok (.iadd, 1) := by decide +kernel
theorem d_Mod_worked_148 : decode m_Mod_worked.2.1 148 = .ok (.iaload, 1) := by decide +kernel
theorem d_Mod_worked_149 : decode m_Mod_worked.2.1 149 = .ok (.aload_n 0, 1) := by decide +kernel
theorem d_Mod_worked_150 : decode m_Mod_worked.2.1 150 = .ok (.getfield 45, 3) := by decide +kernel
theorem d_Mod_worked_153 : decode m_Mod_worked.2.1 153 = .ok (.iload 4, 2) := by decide +kernel
theorem d_Mod_worked_155 : decode m_Mod_worked.2.1 155 = .ok (.iconst 2, 1) := by decide +kernel
theorem d_Mod_worked_156 : decode m_Mod_worked.2.1 156 = .ok (.isub, 1) := by decide +kernel
theorem d_Mod_worked_157 : decode m_Mod_worked.2.1 157 = .ok (.iaload, 1) := by decide +kernel
theorem d_Mod_worked_158 : decode m_Mod_worked.2.1 158 = .ok (.aload_n 0, 1) := by decide +kernel
theorem d_Mod_worked_159 : decode m_Mod_worked.2.1 159 = .ok (.getfield 45, 3) := by decide +kernel
theorem d_Mod_worked_162 : decode m_Mod_worked.2.1 162 = .ok (.iload 4, 2) := by decide +kernel
theorem d_Mod_worked_164 : decode m_Mod_worked.2.1 164 = .ok (.iconst 1, 1) := by decide +kernel
theorem d_Mod_worked_165 : decode m_Mod_worked.2.1 165 = .ok (.isub, 1) := by decide +kernel
theorem d_Mod_worked_166 : decode m_Mod_worked.2.1 166 = .ok (.iaload, 1) := by decide +kernel
theorem d_Mod_worked_167 : decode m_Mod_worked.2.1 167 = .ok (.invokevirtual 150, 3) := by decide +kernel
theorem d_Mod_worked_170 : decode m_Mod_worked.2.1 170 = .ok (.iastore, 1) := by decide +kernel
theorem d_Mod_worked_171 : decode m_Mod_worked.2.1 171 = .ok (.iinc 4 (-1), 3) := by decide +kernel
theorem d_Mod_worked_174 : decode m_Mod_worked.2.1 174 = .ok (.iload_n 3, 1) := by decide +kernel
theorem d_Mod_worked_175 : decode m_Mod_worked.2.1 175 = .ok (.iload 5, 2) := by decide +kernel
theorem d_Mod_worked_177 : decode m_Mod_worked.2.1 177 = .ok (.iconst 3, 1) := by decide +kernel
theorem d_Mod_worked_178 : decode m_Mod_worked.2.1 178 = .ok (.if_icmp .eq 9, 3) := by decide +kernel
theorem d_Mod_worked_181 : decode m_Mod_worked.2.1 181 = .ok (.iload 5, 2) := by decide +kernel
theorem d_Mod_worked_183 : decode m_Mod_worked.2.1 183 = .ok (.iconst 5, 1) := by decide +kernel
theorem d_Mod_worked_184 : decode m_Mod_worked.2.1 184 = .ok (.if_icmp .ne 7, 3) := by decide +kernel
theorem d_Mod_worked_187 : decode m_Mod_worked.2.1 187 = .ok (.iconst 1, 1) := by decide +kernel
theorem d_Mod_worked_188 : decode m_Mod_worked.2.1 188 = .ok (.goto 4, 3) := by decide +kernel
theorem d_Mod_worked_191 : decode m_Mod_worked.2.1 191 = .ok (.iconst 2, 1) := by decide +kernel
theorem d_Mod_worked_192 : decode m_Mod_worked.2.1 192 = .ok (.iadd, 1) := by decide +kernel
theorem d_Mod_worked_193 : decode m_Mod_worked.2.1 193 = .ok (.istore_n 3, 1) := by decide +kernel
theorem d_Mod_worked_194 : decode m_Mod_worked.2.1 194 = .ok (.goto (-176), 3) := by decide +kernel
theorem d_Mod_worked_197 : decode m_Mod_worked.2.1 197 = .ok (.aload_n 0, 1) := by decide +kernel
theorem d_Mod_worked_198 : decode m_Mod_worked.2.1 198 = .ok (.getfield 45, 3) := by decide +kernel
theorem d_Mod_worked_201 : decode m_Mod_worked.2.1 201 = .ok (.iconst 0, 1) := by decide +kernel
theorem d_Mod_worked_202 : decode m_Mod_worked.2.1 202 = .ok (.iaload, 1) := by decide +kernel
theorem d_Mod_worked_203 : decode m_Mod_worked.2.1 203 = .ok (.ireturn, 1) := by decide +kernel
theorem d_Mod_binary_0 : decode m_Mod_binary.2.1 0 = .ok (.iload_n 1, 1) := by decide +kernel
theorem d_Mod_binary_1 : decode m_Mod_binary.2.1 1 = .ok (.bipush 47, 2) := by decide +kernel
theorem d_Mod_binary_3 : decode m_Mod_binary.2.1 3 = .ok (.if_icmp .eq 9, 3) := by decide +kernel
theorem d_Mod_binary_6 : decode m_Mod_binary.2.1 6 = .ok (.iload_n 1, 1) := by decide +kernel
theorem d_Mod_binary_7 : decode m_Mod_binary.2.1 7 = .ok (.bipush 37, 2) := by decide +kernel
theorem d_Mod_binary_9 : decode m_Mod_binary.2.1 9 = .ok (.if_icmp .ne 13, 3) := by decide +kernel
theorem d_Mod_binary_12 : decode m_Mod_binary.2.1 12 = .ok (.iload_n 3, 1) := by decide +kernel
theorem d_Mod_binary_13 : decode m_Mod_binary.2.1 13 = .ok (.ifCond .ne 9, 3) := by decide +kernel
theorem d_Mod_binary_16 : decode m_Mod_binary.2.1 16 = .ok (.aload_n 0, 1) := by decide +kernel
theorem d_Mod_binary_17 : decode m_Mod_binary.2.1 17 = .ok (.iconst 3, 1) := by decide +kernel
theorem d_Mod_binary_18 : decode m_Mod_binary.2.1 18 = .ok (.invokevirtual 77, 3) := by decide +kernel
theorem d_Mod_binary_21 : decode m_Mod_binary.2.1 21 = .ok (.ireturn, 1) := by decide +kernel
theorem d_Mod_binary_22 : decode m_Mod_binary.2.1 22 = .ok (.iload_n 1, 1) := by decide +kernel
theorem d_Mod_binary_23 : decode m_Mod_binary.2.1 23 = .ok (.tableswitch 53 42 47 #[45, 37, 53, 41, 53, 49], 37) := by decide +kernel
theorem d_Mod_binary_60 : decode m_Mod_binary.2.1 60 = .ok (.iload_n 2, 1) := by decide +kernel
theorem d_Mod_binary_61 : decode m_Mod_binary.2.1 61 = .ok (.iload_n 3, 1) := by decide +kernel
theorem d_Mod_binary_62 : decode m_Mod_binary.2.1 62 = .ok (.iadd, 1) := by decide +kernel
theorem d_Mod_binary_63 : decode m_Mod_binary.2.1 63 = .ok (.ireturn, 1) := by decide +kernel
theorem d_Mod_binary_64 : decode m_Mod_binary.2.1 64 = .ok (.iload_n 2, 1) := by decide +kernel
theorem d_Mod_binary_65 : decode m_Mod_binary.2.1 65 = .ok (.iload_n 3, 1) := by decide +kernel
theorem d_Mod_binary_66 : decode m_Mod_binary.2.1 66 = .ok (.isub, 1) := by decide +kernel
theorem d_Mod_binary_67 : decode m_Mod_binary.2.1 67 = .ok (.ireturn, 1) := by decide +kernel
theorem d_Mod_binary_68 : decode m_Mod_binary.2.1 68 = .ok (.iload_n 2, 1) := by decide +kernel
theorem d_Mod_binary_69 : decode m_Mod_binary.2.1 69 = .ok (.iload_n 3, 1) := by decide +kernel
theorem d_Mod_binary_70 : decode m_Mod_binary.2.1 70 = .ok (.imul, 1) := by decide +kernel
theorem d_Mod_binary_71 : decode m_Mod_binary.2.1 71 = .ok (.ireturn, 1) := by decide +kernel
theorem d_Mod_binary_72 : decode m_Mod_binary.2.1 72 = .ok (.iload_n 2, 1) := by decide +kernel
theorem d_Mod_binary_73 : decode m_Mod_binary.2.1 73 = .ok (.iload_n 3, 1) := by decide +kernel
theorem d_Mod_binary_74 : decode m_Mod_binary.2.1 74 = .ok (.idiv, 1) := by decide +kernel
theorem d_Mod_binary_75 : decode m_Mod_binary.2.1 75 = .ok (.ireturn, 1) := by decide +kernel
theorem d_Mod_binary_76 : decode m_Mod_binary.2.1 76 = .ok (.iload_n 2, 1) := by decide +kernel
theorem d_Mod_binary_77 : decode m_Mod_binary.2.1 77 = .ok (.iload_n 3, 1) := by decide +kernel
theorem d_Mod_binary_78 : decode m_Mod_binary.2.1 78 = .ok (.irem, 1) := by decide +kernel
theorem d_Mod_binary_79 : decode m_Mod_binary.2.1 79 = .ok (.ireturn, 1) := by decide +kernel
theorem d_Mod_change_0 : decode m_Mod_change.2.1 0 = .ok (.aload_n 0, 1) := by decide +kernel
theorem d_Mod_change_1 : decode m_Mod_change.2.1 1 = .ok (.getfield 13, 3) := by decide +kernel
theorem d_Mod_change_4 : decode m_Mod_change.2.1 4 = .ok (.iload_n 1, 1) := by decide +kernel
theorem d_Mod_change_5 : decode m_Mod_change.2.1 5 = .ok (.iconst 1, 1) := by decide +kernel
theorem d_Mod_change_6 : decode m_Mod_change.2.1 6 = .ok (.iadd, 1) := by decide +kernel
theorem d_Mod_change_7 : decode m_Mod_change.2.1 7 = .ok (.iaload, 1) := by decide +kernel
theorem d_Mod_change_8 : decode m_Mod_change.2.1 8 = .ok (.istore_n 2, 1) := by decide +kernel
theorem d_Mod_change_9 : decode m_Mod_change.2.1 9 = .ok (.aload_n 0, 1) := by decide +kernel
theorem d_Mod_change_10 : decode m_Mod_change.2.1 10 = .ok (.getfield 19, 3) := by decide +kernel
theorem d_Mod_change_13 : decode m_Mod_change.2.1 13 = .ok (.iload_n 2, 1) := by decide +kernel
theorem d_Mod_change_14 : decode m_Mod_change.2.1 14 = .ok (.iaload, 1) := by decide +kernel
theorem d_Mod_change_15 : decode m_Mod_change.2.1 15 = .ok (.istore_n 3, 1) := by decide +kernel
theorem d_Mod_change_16 : decode m_Mod_change.2.1 16 = .ok (.iconst 0, 1) := by decide +kernel
theorem d_Mod_change_17 : decode m_Mod_change.2.1 17 = .ok (.istore 4, 2) := by decide +kernel
theorem d_Mod_change_19 : decode m_Mod_change.2.1 19 = .ok (.iconst 0, 1) := by decide +kernel
theorem d_Mod_change_20 : decode m_Mod_change.2.1 20 = .ok (.istore 5, 2) := by decide +kernel
theorem d_Mod_change_22 : decode m_Mod_change.2.1 22 = .ok (.aload_n 0, 1) := by decide +kernel
theorem d_Mod_change_23 : decode m_Mod_change.2.1 23 = .ok (.getfield 13, 3) := by decide +kernel
theorem d_Mod_change_26 : decode m_Mod_change.2.1 26 = .ok (.iload_n 1, 1) := by decide +kernel
theorem d_Mod_change_27 : decode m_Mod_change.2.1 27 = .ok (.iaload, 1) := by decide +kernel
theorem d_Mod_change_28 : decode m_Mod_change.2.1 28 = .ok (.bipush 85, 2) := by decide +kernel
theorem d_Mod_change_30 : decode m_Mod_change.2.1 30 = .ok (.if_icmp .ne 7, 3) := by decide +kernel
theorem d_Mod_change_33 : decode m_Mod_change.2.1 33 = .ok (.iconst 1, 1) := by decide +kernel
theorem d_Mod_change_34 : decode m_Mod_change.2.1 34 = .ok (.goto 4, 3) := by decide +kernel
theorem d_Mod_change_37 : decode m_Mod_change.2.1 37 = .ok (.iconst 0, 1) := by decide +kernel
theorem d_Mod_change_38 : decode m_Mod_change.2.1 38 = .ok (.istore 6, 2) := by decide +kernel
theorem d_Mod_change_40 : decode m_Mod_change.2.1 40 = .ok (.iconst 0, 1) := by decide +kernel
theorem d_Mod_change_41 : decode m_Mod_change.2.1 41 = .ok (.istore 7, 2) := by decide +kernel
theorem d_Mod_change_43 : decode m_Mod_change.2.1 43 = .ok (.iload 7, 2) := by decide +kernel
theorem d_Mod_change_45 : decode m_Mod_change.2.1 45 = .ok (.iload_n 3, 1) := by decide +kernel
theorem d_Mod_change_46 : decode m_Mod_change.2.1 46 = .ok (.if_icmp .ge 85, 3) := by decide +kernel
theorem d_Mod_change_49 : decode m_Mod_change.2.1 49 = .ok (.aload_n 0, 1) := by decide +kernel
theorem d_Mod_change_50 : decode m_Mod_change.2.1 50 = .ok (.getfield 63, 3) := by decide +kernel
theorem d_Mod_change_53 : decode m_Mod_change.2.1 53 = .ok (.ifCond .ne 78, 3) := by decide +kernel
theorem d_Mod_change_56 : decode m_Mod_change.2.1 56 = .ok (.aload_n 0, 1) := by decide +kernel
theorem d_Mod_change_57 : decode m_Mod_change.2.1 57 = .ok (.iload_n 2, 1) := by decide +kernel
theorem d_Mod_change_58 : decode m_Mod_change.2.1 58 = .ok (.iload 7, 2) := by decide +kernel
theorem d_Mod_change_60 : decode m_Mod_change.2.1 60 = .ok (.iconst 0, 1) := by decide +kernel
theorem d_Mod_change_61 : decode m_Mod_change.2.1 61 = .ok (.invokevirtual 170, 3) := by decide +kernel
theorem d_Mod_change_64 : decode m_Mod_change.2.1 64 = .ok (.aload_n 0, 1) := by decide +kernel
theorem d_Mod_change_65 : decode m_Mod_change.2.1 65 = .ok (.getfield 57, 3) := by decide +kernel
theorem d_Mod_change_68 : decode m_Mod_change.2.1 68 = .ok (.iload 7, 2) := by decide +kernel
theorem d_Mod_change_70 : decode m_Mod_change.2.1 70 = .ok (.aload_n 0, 1) := by decide +kernel
theorem d_Mod_change_71 : decode m_Mod_change.2.1 71 = .ok (.iload_n 1, 1) := by decide +kernel
theorem d_Mod_change_72 : decode m_Mod_change.2.1 72 = .ok (.invokevirtual 158, 3) := by decide +kernel
theorem d_Mod_change_75 : decode m_Mod_change.2.1 75 = .ok (.ifCond .eq 7, 3) := by decide +kernel
theorem d_Mod_change_78 : decode m_Mod_change.2.1 78 = .ok (.iconst 1, 1) := by decide +kernel
theorem d_Mod_change_79 : decode m_Mod_change.2.1 79 = .ok (.goto 4, 3) := by decide +kernel
theorem d_Mod_change_82 : decode m_Mod_change.2.1 82 = .ok (.iconst 0, 1) := by decide +kernel
theorem d_Mod_change_83 : decode m_Mod_change.2.1 83 = .ok (.iastore, 1) := by decide +kernel
theorem d_Mod_change_84 : decode m_Mod_change.2.1 84 = .ok (.aload_n 0, 1) := by decide +kernel
theorem d_Mod_change_85 : decode m_Mod_change.2.1 85 = .ok (.getfield 57, 3) := by decide +kernel
theorem d_Mod_change_88 : decode m_Mod_change.2.1 88 = .ok (.iload 7, 2) := by decide +kernel
theorem d_Mod_change_90 : decode m_Mod_change.2.1 90 = .ok (.iaload, 1) := by decide +kernel
theorem d_Mod_change_91 : decode m_Mod_change.2.1 91 = .ok (.iconst 1, 1) := by decide +kernel
theorem d_Mod_change_92 : decode m_Mod_change.2.1 92 = .ok (.if_icmp .ne 21, 3) := by decide +kernel
theorem d_Mod_change_95 : decode m_Mod_change.2.1 95 = .ok (.iload 6, 2) := by decide +kernel
theorem d_Mod_change_97 : decode m_Mod_change.2.1 97 = .ok (.ifCond .eq 16, 3) := by decide +kernel
theorem d_Mod_change_100 : decode m_Mod_change.2.1 100 = .ok (.aload_n 0, 1) := by decide +kernel
theorem d_Mod_change_101 : decode m_Mod_change.2.1 101 = .ok (.getfield 60, 3) := by decide +kernel
theorem d_Mod_change_104 : decode m_Mod_change.2.1 104 = .ok (.iload 7, 2) := by decide +kernel
theorem d_Mod_change_106 : decode m_Mod_change.2.1 106 = .ok (.aload_n 0, 1) := by decide +kernel
theorem d_Mod_change_107 : decode m_Mod_change.2.1 107 = .ok (.iload_n 1, 1) := by decide +kernel
theorem d_Mod_change_108 : decode m_Mod_change.2.1 108 = .ok (.iconst 4, 1) := by decide +kernel
theorem d_Mod_change_109 : decode m_Mod_change.2.1 109 = .ok (.invokevirtual 154, 3) := by decide +kernel
theorem d_Mod_change_112 : decode m_Mod_change.2.1 112 = .ok (.iastore, 1) := by decide +kernel
theorem d_Mod_change_113 : decode m_Mod_change.2.1 113 = .ok (.iload 4, 2) := by decide +kernel
theorem d_Mod_change_115 : decode m_Mod_change.2.1 115 = .ok (.aload_n 0, 1) := by decide +kernel
theorem d_Mod_change_116 : decode m_Mod_change.2.1 116 = .ok (.getfield 57, 3) := by decide +kernel
theorem d_Mod_change_119 : decode m_Mod_change.2.1 119 = .ok (.iload 7, 2) := by decide +kernel
theorem d_Mod_change_121 : decode m_Mod_change.2.1 121 = .ok (.iaload, 1) := by decide +kernel
theorem d_Mod_change_122 : decode m_Mod_change.2.1 122 = .ok (.iadd, 1) := by decide +kernel
theorem d_Mod_change_123 : decode m_Mod_change.2.1 123 = .ok (.istore 4, 2) := by decide +kernel
theorem d_Mod_change_125 : decode m_Mod_change.2.1 125 = .ok (.iinc 7 1, 3) := by decide +kernel
theorem d_Mod_change_128 : decode m_Mod_change.2.1 128 = .ok (.goto (-85), 3) := by decide +kernel
theorem d_Mod_change_131 : decode m_Mod_change.2.1 131 = .ok (.aload_n 0, 1) := by decide +kernel
theorem d_Mod_change_132 : decode m_Mod_change.2.1 132 = .ok (.getfield 63, 3) := by decide +kernel
theorem d_Mod_change_135 : decode m_Mod_change.2.1 135 = .ok (.ifCond .le 5, 3) := by decide +kernel
theorem d_Mod_change_138 : decode m_Mod_change.2.1 138 = .ok (.iconst 0, 1) := by decide +kernel
theorem d_Mod_change_139 : decode m_Mod_change.2.1 139 = .ok (.ireturn, 1) := by decide +kernel
theorem d_Mod_change_140 : decode m_Mod_change.2.1 140 = .ok (.iconst 0, 1) := by decide +kernel
theorem d_Mod_change_141 : decode m_Mod_change.2.1 141 = .ok (.istore 7, 2) := by decide +kernel
theorem d_Mod_change_143 : decode m_Mod_change.2.1 143 = .ok (.iload 7, 2) := by decide +kernel
theorem d_Mod_change_145 : decode m_Mod_change.2.1 145 = .ok (.iload_n 3, 1) := by decide +kernel
theorem d_Mod_change_146 : decode m_Mod_change.2.1 146 = .ok (.if_icmp .ge 127, 3) := by decide +kernel
theorem d_Mod_change_149 : decode m_Mod_change.2.1 149 = .ok (.iload 6, 2) := by decide +kernel
theorem d_Mod_change_151 : decode m_Mod_change.2.1 151 = .ok (.ifCond .eq 45, 3) := by decide +kernel
theorem d_Mod_change_154 : decode m_Mod_change.2.1 154 = .ok (.aload_n 0, 1) := by decide +kernel
theorem d_Mod_change_155 : decode m_Mod_change.2.1 155 = .ok (.getfield 57, 3) := by decide +kernel
theorem d_Mod_change_158 : decode m_Mod_change.2.1 158 = .ok (.iload 7, 2) := by decide +kernel
theorem d_Mod_change_160 : decode m_Mod_change.2.1 160 = .ok (.iaload, 1) := by decide +kernel
theorem d_Mod_change_161 : decode m_Mod_change.2.1 161 = .ok (.iconst 1, 1) := by decide +kernel
theorem d_Mod_change_162 : decode m_Mod_change.2.1 162 = .ok (.if_icmp .ne 34, 3) := by decide +kernel
theorem d_Mod_change_165 : decode m_Mod_change.2.1 165 = .ok (.aload_n 0, 1) := by decide +kernel
theorem d_Mod_change_166 : decode m_Mod_change.2.1 166 = .ok (.getfield 16, 3) := by decide +kernel
theorem d_Mod_change_169 : decode m_Mod_change.2.1 169 = .ok (.iload_n 2, 1) := by decide +kernel
theorem d_Mod_change_170 : decode m_Mod_change.2.1 170 = .ok (.bipush 60, 2) := by decide +kernel
theorem d_Mod_change_172 : decode m_Mod_change.2.1 172 = .ok (.imul, 1) := by decide +kernel
theorem d_Mod_change_173 : decode m_Mod_change.2.1 173 = .ok (.iload 7, 2) := by decide +kernel
theorem d_Mod_change_175 : decode m_Mod_change.2.1 175 = .ok (.iconst 3, 1) := by decide +kernel
theorem d_Mod_change_176 : decode m_Mod_change.2.1 176 = .ok (.imul, 1) := by decide +kernel
theorem d_Mod_change_177 : decode m_Mod_change.2.1 177 = .ok (.iadd, 1) := by decide +kernel
theorem d_Mod_change_178 : decode m_Mod_change.2.1 178 = .ok (.aload_n 0, 1) := by decide +kernel
theorem d_Mod_change_179 : decode m_Mod_change.2.1 179 = .ok (.getfield 13, 3) := by decide +kernel
theorem d_Mod_change_182 : decode m_Mod_change.2.1 182 = .ok (.iload_n 1, 1) := by decide +kernel
theorem d_Mod_change_183 : decode m_Mod_change.2.1 183 = .ok (.bipush 9, 2) := by decide +kernel
theorem d_Mod_change_185 : decode m_Mod_change.2.1 185 = .ok (.iadd, 1) := by decide +kernel
theorem d_Mod_change_186 : decode m_Mod_change.2.1 186 = .ok (.iaload, 1) := by decide +kernel
theorem d_Mod_change_187 : decode m_Mod_change.2.1 187 = .ok (.iadd, 1) := by decide +kernel
theorem d_Mod_change_188 : decode m_Mod_change.2.1 188 = .ok (.aload_n 0, 1) := by decide +kernel
theorem d_Mod_change_189 : decode m_Mod_change.2.1 189 = .ok (.getfield 60, 3) := by decide +kernel
theorem d_Mod_change_192 : decode m_Mod_change.2.1 192 = .ok (.iload 7, 2) := by decide +kernel
theorem d_Mod_change_194 : decode m_Mod_change.2.1 194 = .ok (.iaload, 1) := by decide +kernel
theorem d_Mod_change_195 : decode m_Mod_change.2.1 195 = .ok (.iastore, 1) := by decide +kernel
theorem d_Mod_change_196 : decode m_Mod_change.2.1 196 = .ok (.iload 6, 2) := by decide +kernel
theorem d_Mod_change_198 : decode m_Mod_change.2.1 198 = .ok (.ifCond .ne 69, 3) := by decide +kernel
theorem d_Mod_change_201 : decode m_Mod_change.2.1 201 = .ok (.aload_n 0, 1) := by decide +kernel
theorem d_Mod_change_202 : decode m_Mod_change.2.1 202 = .ok (.getfield 57, 3) := by decide +kernel
theorem d_Mod_change_205 : decode m_Mod_change.2.1 205 = .ok (.iload 7, 2) := by decide +kernel
theorem d_Mod_change_207 : decode m_Mod_change.2.1 207 = .ok (.iaload, 1) := by decide +kernel
theorem d_Mod_change_208 : decode m_Mod_change.2.1 208 = .ok (.iconst 1, 1) := by decide +kernel
theorem d_Mod_change_209 : decode m_Mod_change.2.1 209 = .ok (.if_icmp .ne 6, 3) := by decide +kernel
theorem d_Mod_change_212 : decode m_Mod_change.2.1 212 = .ok (.goto 55, 3) := by decide +kernel
theorem d_Mod_change_215 : decode m_Mod_change.2.1 215 = .ok (.iconst 0, 1) := by decide +kernel
theorem d_Mod_change_216 : decode m_Mod_change.2.1 216 = .ok (.istore 8, 2) := by decide +kernel
theorem d_Mod_change_218 : decode m_Mod_change.2.1 218 = .ok (.iload 8, 2) := by decide +kernel
theorem d_Mod_change_220 : decode m_Mod_change.2.1 220 = .ok (.iconst 3, 1) := by decide +kernel
theorem d_Mod_change_221 : decode m_Mod_change.2.1 221 = .ok (.if_icmp .ge 43, 3) := by decide +kernel
theorem d_Mod_change_224 : decode m_Mod_change.2.1 224 = .ok (.aload_n 0, 1) := by decide +kernel
theorem d_Mod_change_225 : decode m_Mod_change.2.1 225 = .ok (.getfield 16, 3) := by decide +kernel
theorem d_Mod_change_228 : decode m_Mod_change.2.1 228 = .ok (.iload_n 2, 1) := by decide +kernel
theorem d_Mod_change_229 : decode m_Mod_change.2.1 229 = .ok (.bipush 60, 2) := by decide +kernel
theorem d_Mod_change_231 : decode m_Mod_change.2.1 231 = .ok (.imul, 1) := by decide +kernel
theorem d_Mod_change_232 : decode m_Mod_change.2.1 232 = .ok (.iload 5, 2) := by decide +kernel
theorem d_Mod_change_234 : decode m_Mod_change.2.1 234 = .ok (.iconst 3, 1) := by decide +kernel
theorem d_Mod_change_235 : decode m_Mod_change.2.1 235 = .ok (.imul, 1) := by decide +kernel
theorem d_Mod_change_236 : decode m_Mod_change.2.1 236 = .ok (.iadd, 1) := by decide +kernel
theorem d_Mod_change_237 : decode m_Mod_change.2.1 237 = .ok (.iload 8, 2) := by decide +kernel
theorem d_Mod_change_239 : decode m_Mod_change.2.1 239 = .ok (.iadd, 1) := by decide +kernel
theorem d_Mod_change_240 : decode m_Mod_change.2.1 240 = .ok (.aload_n 0, 1) := by decide +kernel
theorem d_Mod_change_241 : decode m_Mod_change.2.1 241 = .ok (.getfield 16, 3) := by decide +kernel
theorem d_Mod_change_244 : decode m_Mod_change.2.1 244 = .ok (.iload_n 2, 1) := by decide +kernel
theorem d_Mod_change_245 : decode m_Mod_change.2.1 245 = .ok (.bipush 60, 2) := by decide +kernel
theorem d_Mod_change_247 : decode m_Mod_change.2.1 247 = .ok (.imul, 1) := by decide +kernel
theorem d_Mod_change_248 : decode m_Mod_change.2.1 248 = .ok (.iload 7, 2) := by decide +kernel
theorem d_Mod_change_250 : decode m_Mod_change.2.1 250 = .ok (.iconst 3, 1) := by decide +kernel
theorem d_Mod_change_251 : decode m_Mod_change.2.1 251 = .ok (.imul, 1) := by decide +kernel
theorem d_Mod_change_252 : decode m_Mod_change.2.1 252 = .ok (.iadd, 1) := by decide +kernel
theorem d_Mod_change_253 : decode m_Mod_change.2.1 253 = .ok (.iload 8, 2) := by decide +kernel
theorem d_Mod_change_255 : decode m_Mod_change.2.1 255 = .ok (.iadd, 1) := by decide +kernel
theorem d_Mod_change_256 : decode m_Mod_change.2.1 256 = .ok (.iaload, 1) := by decide +kernel
theorem d_Mod_change_257 : decode m_Mod_change.2.1 257 = .ok (.iastore, 1) := by decide +kernel
theorem d_Mod_change_258 : decode m_Mod_change.2.1 258 = .ok (.iinc 8 1, 3) := by decide +kernel
theorem d_Mod_change_261 : decode m_Mod_change.2.1 261 = .ok (.goto (-43), 3) := by decide +kernel
theorem d_Mod_change_264 : decode m_Mod_change.2.1 264 = .ok (.iinc 5 1, 3) := by decide +kernel
theorem d_Mod_change_267 : decode m_Mod_change.2.1 267 = .ok (.iinc 7 1, 3) := by decide +kernel
theorem d_Mod_change_270 : decode m_Mod_change.2.1 270 = .ok (.goto (-127), 3) := by decide +kernel
theorem d_Mod_change_273 : decode m_Mod_change.2.1 273 = .ok (.iload 6, 2) := by decide +kernel
theorem d_Mod_change_275 : decode m_Mod_change.2.1 275 = .ok (.ifCond .ne 11, 3) := by decide +kernel
theorem d_Mod_change_278 : decode m_Mod_change.2.1 278 = .ok (.aload_n 0, 1) := by decide +kernel
theorem d_Mod_change_279 : decode m_Mod_change.2.1 279 = .ok (.getfield 19, 3) := by decide +kernel
theorem d_Mod_change_282 : decode m_Mod_change.2.1 282 = .ok (.iload_n 2, 1) := by decide +kernel
theorem d_Mod_change_283 : decode m_Mod_change.2.1 283 = .ok (.iload 5, 2) := by decide +kernel
theorem d_Mod_change_285 : decode m_Mod_change.2.1 285 = .ok (.iastore, 1) := by decide +kernel
theorem d_Mod_change_286 : decode m_Mod_change.2.1 286 = .ok (.iload 4, 2) := by decide +kernel
theorem d_Mod_change_288 : decode m_Mod_change.2.1 288 = .ok (.ireturn, 1) := by decide +kernel
theorem d_Mod_stand_0 : decode m_Mod_stand.2.1 0 = .ok (.iconst 0, 1) := by decide +kernel
theorem d_Mod_stand_1 : decode m_Mod_stand.2.1 1 = .ok (.istore 4, 2) := by decide +kernel
theorem d_Mod_stand_3 : decode m_Mod_stand.2.1 3 = .ok (.iload 4, 2) := by decide +kernel
theorem d_Mod_stand_5 : decode m_Mod_stand.2.1 5 = .ok (.iconst 3, 1) := by decide +kernel
theorem d_Mod_stand_6 : decode m_Mod_stand.2.1 6 = .ok (.if_icmp .ge 34, 3) := by decide +kernel
theorem d_Mod_stand_9 : decode m_Mod_stand.2.1 9 = .ok (.aload_n 0, 1) := by decide +kernel
theorem d_Mod_stand_10 : decode m_Mod_stand.2.1 10 = .ok (.getfield 48, 3) := by decide +kernel
theorem d_Mod_stand_13 : decode m_Mod_stand.2.1 13 = .ok (.iload_n 3, 1) := by decide +kernel
theorem d_Mod_stand_14 : decode m_Mod_stand.2.1 14 = .ok (.iload 4, 2) := by decide +kernel
theorem d_Mod_stand_16 : decode m_Mod_stand.2.1 16 = .ok (.iadd, 1) := by decide +kernel
theorem d_Mod_stand_17 : decode m_Mod_stand.2.1 17 = .ok (.aload_n 0, 1) := by decide +kernel
theorem d_Mod_stand_18 : decode m_Mod_stand.2.1 18 = .ok (.getfield 16, 3) := by decide +kernel
theorem d_Mod_stand_21 : decode m_Mod_stand.2.1 21 = .ok (.iload_n 1, 1) := by decide +kernel
theorem d_Mod_stand_22 : decode m_Mod_stand.2.1 22 = .ok (.bipush 60, 2) := by decide +kernel
theorem d_Mod_stand_24 : decode m_Mod_stand.2.1 24 = .ok (.imul, 1) := by decide +kernel
theorem d_Mod_stand_25 : decode m_Mod_stand.2.1 25 = .ok (.iload_n 2, 1) := by decide +kernel
theorem d_Mod_stand_26 : decode m_Mod_stand.2.1 26 = .ok (.iconst 3, 1) := by decide +kernel
theorem d_Mod_stand_27 : decode m_Mod_stand.2.1 27 = .ok (.imul, 1) := by decide +kernel
theorem d_Mod_stand_28 : decode m_Mod_stand.2.1 28 = .ok (.iadd, 1) := by decide +kernel
theorem d_Mod_stand_29 : decode m_Mod_stand.2.1 29 = .ok (.iload 4, 2) := by decide +kernel
theorem d_Mod_stand_31 : decode m_Mod_stand.2.1 31 = .ok (.iadd, 1) := by decide +kernel
theorem d_Mod_stand_32 : decode m_Mod_stand.2.1 32 = .ok (.iaload, 1) := by decide +kernel
theorem d_Mod_stand_33 : decode m_Mod_stand.2.1 33 = .ok (.iastore, 1) := by decide +kernel
theorem d_Mod_stand_34 : decode m_Mod_stand.2.1 34 = .ok (.iinc 4 1, 3) := by decide +kernel
theorem d_Mod_stand_37 : decode m_Mod_stand.2.1 37 = .ok (.goto (-34), 3) := by decide +kernel
theorem d_Mod_stand_40 : decode m_Mod_stand.2.1 40 = .ok (.return_, 1) := by decide +kernel
theorem d_Mod_meets_0 : decode m_Mod_meets.2.1 0 = .ok (.aload_n 0, 1) := by decide +kernel
theorem d_Mod_meets_1 : decode m_Mod_meets.2.1 1 = .ok (.getfield 13, 3) := by decide +kernel
theorem d_Mod_meets_4 : decode m_Mod_meets.2.1 4 = .ok (.iload_n 1, 1) := by decide +kernel
theorem d_Mod_meets_5 : decode m_Mod_meets.2.1 5 = .ok (.bipush 8, 2) := by decide +kernel
theorem d_Mod_meets_7 : decode m_Mod_meets.2.1 7 = .ok (.iadd, 1) := by decide +kernel
theorem d_Mod_meets_8 : decode m_Mod_meets.2.1 8 = .ok (.iaload, 1) := by decide +kernel
theorem d_Mod_meets_9 : decode m_Mod_meets.2.1 9 = .ok (.istore_n 2, 1) := by decide +kernel
theorem d_Mod_meets_10 : decode m_Mod_meets.2.1 10 = .ok (.iconst 1, 1) := by decide +kernel
theorem d_Mod_meets_11 : decode m_Mod_meets.2.1 11 = .ok (.istore_n 3, 1) := by decide +kernel
theorem d_Mod_meets_12 : decode m_Mod_meets.2.1 12 = .ok (.iconst 0, 1) := by decide +kernel
theorem d_Mod_meets_13 : decode m_Mod_meets.2.1 13 = .ok (.istore 4, 2) := by decide +kernel
theorem d_Mod_meets_15 : decode m_Mod_meets.2.1 15 = .ok (.iload 4, 2) := by decide +kernel
theorem d_Mod_meets_17 : decode m_Mod_meets.2.1 17 = .ok (.iload_n 2, 1) := by decide +kernel
theorem d_Mod_meets_18 : decode m_Mod_meets.2.1 18 = .ok (.if_icmp .ge 178, 3) := by decide +kernel
theorem d_Mod_meets_21 : decode m_Mod_meets.2.1 21 = .ok (.aload_n 0, 1) := by decide +kernel
theorem d_Mod_meets_22 : decode m_Mod_meets.2.1 22 = .ok (.getfield 63, 3) := by decide +kernel
theorem d_Mod_meets_25 : decode m_Mod_meets.2.1 25 = .ok (.ifCond .ne 171, 3) := by decide +kernel
theorem d_Mod_meets_28 : decode m_Mod_meets.2.1 28 = .ok (.bipush 12, 2) := by decide +kernel
theorem d_Mod_meets_30 : decode m_Mod_meets.2.1 30 = .ok (.iload 4, 2) := by decide +kernel
theorem d_Mod_meets_32 : decode m_Mod_meets.2.1 32 = .ok (.iconst 4, 1) := by decide +kernel
theorem d_Mod_meets_33 : decode m_Mod_meets.2.1 33 = .ok (.imul, 1) := by decide +kernel
theorem d_Mod_meets_34 : decode m_Mod_meets.2.1 34 = .ok (.iadd, 1) := by decide +kernel
theorem d_Mod_meets_35 : decode m_Mod_meets.2.1 35 = .ok (.istore 5, 2) := by decide +kernel
theorem d_Mod_meets_37 : decode m_Mod_meets.2.1 37 = .ok (.iload_n 3, 1) := by decide +kernel
theorem d_Mod_meets_38 : decode m_Mod_meets.2.1 38 = .ok (.ifCond .eq 104, 3) := by decide +kernel
theorem d_Mod_meets_41 : decode m_Mod_meets.2.1 41 = .ok (.aload_n 0, 1) := by decide +kernel
theorem d_Mod_meets_42 : decode m_Mod_meets.2.1 42 = .ok (.iload_n 1, 1) := by decide +kernel
theorem d_Mod_meets_43 : decode m_Mod_meets.2.1 43 = .ok (.iload 5, 2) := by decide +kernel
theorem d_Mod_meets_45 : decode m_Mod_meets.2.1 45 = .ok (.invokevirtual 154, 3) := by decide +kernel
theorem d_Mod_meets_48 : decode m_Mod_meets.2.1 48 = .ok (.istore 6, 2) := by decide +kernel
theorem d_Mod_meets_50 : decode m_Mod_meets.2.1 50 = .ok (.aload_n 0, 1) := by decide +kernel
theorem d_Mod_meets_51 : decode m_Mod_meets.2.1 51 = .ok (.getfield 13, 3) := by decide +kernel
theorem d_Mod_meets_54 : decode m_Mod_meets.2.1 54 = .ok (.iload_n 1, 1) := by decide +kernel
theorem d_Mod_meets_55 : decode m_Mod_meets.2.1 55 = .ok (.iload 5, 2) := by decide +kernel
theorem d_Mod_meets_57 : decode m_Mod_meets.2.1 57 = .ok (.iadd, 1) := by decide +kernel
theorem d_Mod_meets_58 : decode m_Mod_meets.2.1 58 = .ok (.iconst 2, 1) := by decide +kernel
theorem d_Mod_meets_59 : decode m_Mod_meets.2.1 59 = .ok (.iadd, 1) := by decide +kernel
theorem d_Mod_meets_60 : decode m_Mod_meets.2.1 60 = .ok (.iaload, 1) := by decide +kernel
theorem d_Mod_meets_61 : decode m_Mod_meets.2.1 61 = .ok (.istore 7, 2) := by decide +kernel
theorem d_Mod_meets_63 : decode m_Mod_meets.2.1 63 = .ok (.aload_n 0, 1) := by decide +kernel
theorem d_Mod_meets_64 : decode m_Mod_meets.2.1 64 = .ok (.getfield 63, 3) := by decide +kernel
theorem d_Mod_meets_67 : decode m_Mod_meets.2.1 67 = .ok (.ifCond .le 7, 3) := by decide +kernel
theorem d_Mod_meets_70 : decode m_Mod_meets.2.1 70 = .ok (.iconst 0, 1) := by decide +kernel
theorem d_Mod_meets_71 : decode m_Mod_meets.2.1 71 = .ok (.goto 12, 3) := by decide +kernel
theorem d_Mod_meets_74 : decode m_Mod_meets.2.1 74 = .ok (.aload_n 0, 1) := by decide +kernel
theorem d_Mod_meets_75 : decode m_Mod_meets.2.1 75 = .ok (.iload_n 1, 1) := by decide +kernel
theorem d_Mod_meets_76 : decode m_Mod_meets.2.1 76 = .ok (.iload 5, 2) := by decide +kernel
theorem d_Mod_meets_78 : decode m_Mod_meets.2.1 78 = .ok (.iconst 1, 1) := by decide +kernel
theorem d_Mod_meets_79 : decode m_Mod_meets.2.1 79 = .ok (.iadd, 1) := by decide +kernel
theorem d_Mod_meets_80 : decode m_Mod_meets.2.1 80 = .ok (.invokevirtual 154, 3) := by decide +kernel
theorem d_Mod_meets_83 : decode m_Mod_meets.2.1 83 = .ok (.istore 8, 2) := by decide +kernel
theorem d_Mod_meets_85 : decode m_Mod_meets.2.1 85 = .ok (.iload 7, 2) := by decide +kernel
theorem d_Mod_meets_87 : decode m_Mod_meets.2.1 87 = .ok (.bipush 60, 2) := by decide +kernel
theorem d_Mod_meets_89 : decode m_Mod_meets.2.1 89 = .ok (.if_icmp .ne 18, 3) := by decide +kernel
theorem d_Mod_meets_92 : decode m_Mod_meets.2.1 92 = .ok (.iload 6, 2) := by decide +kernel
theorem d_Mod_meets_94 : decode m_Mod_meets.2.1 94 = .ok (.iload 8, 2) := by decide +kernel
theorem d_Mod_meets_96 : decode m_Mod_meets.2.1 96 = .ok (.if_icmp .ge 7, 3) := by decide +kernel
theorem d_Mod_meets_99 : decode m_Mod_meets.2.1 99 = .ok (.iconst 1, 1) := by decide +kernel
theorem d_Mod_meets_100 : decode m_Mod_meets.2.1 100 = .ok (.goto 41, 3) := by decide +kernel
theorem d_Mod_meets_103 : decode m_Mod_meets.2.1 103 = .ok (.iconst 0, 1) := by decide +kernel
theorem d_Mod_meets_104 : decode m_Mod_meets.2.1 104 = .ok (.goto 37, 3) := by decide +kernel
theorem d_Mod_meets_107 : decode m_Mod_meets.2.1 107 = .ok (.iload 7, 2) := by decide +kernel
theorem d_Mod_meets_109 : decode m_Mod_meets.2.1 109 = .ok (.bipush 61, 2) := by decide +kernel
theorem d_Mod_meets_111 : decode m_Mod_meets.2.1 111 = .ok (.if_icmp .ne 18, 3) := by decide +kernel
theorem d_Mod_meets_114 : decode m_Mod_meets.2.1 114 = .ok (.iload 6, 2) := by decide +kernel
theorem d_Mod_meets_116 : decode m_Mod_meets.2.1 116 = .ok (.iload 8, 2) := by decide +kernel
theorem d_Mod_meets_118 : decode m_Mod_meets.2.1 118 = .ok (.if_icmp .ne 7, 3) := by decide +kernel
theorem d_Mod_meets_121 : decode m_Mod_meets.2.1 121 = .ok (.iconst 1, 1) := by decide +kernel
theorem d_Mod_meets_122 : decode m_Mod_meets.2.1 122 = .ok (.goto 19, 3) := by decide +kernel
theorem d_Mod_meets_125 : decode m_Mod_meets.2.1 125 = .ok (.iconst 0, 1) := by decide +kernel
theorem d_Mod_meets_126 : decode m_Mod_meets.2.1 126 = .ok (.goto 15, 3) := by decide +kernel
theorem d_Mod_meets_129 : decode m_Mod_meets.2.1 129 = .ok (.iload 6, 2) := by decide +kernel
theorem d_Mod_meets_131 : decode m_Mod_meets.2.1 131 = .ok (.iload 8, 2) := by decide +kernel
theorem d_Mod_meets_133 : decode m_Mod_meets.2.1 133 = .ok (.if_icmp .le 7, 3) := by decide +kernel
theorem d_Mod_meets_136 : decode m_Mod_meets.2.1 136 = .ok (.iconst 1, 1) := by decide +kernel
theorem d_Mod_meets_137 : decode m_Mod_meets.2.1 137 = .ok (.goto 4, 3) := by decide +kernel
theorem d_Mod_meets_140 : decode m_Mod_meets.2.1 140 = .ok (.iconst 0, 1) := by decide +kernel
theorem d_Mod_meets_141 : decode m_Mod_meets.2.1 141 = .ok (.istore_n 3, 1) := by decide +kernel
theorem d_Mod_meets_142 : decode m_Mod_meets.2.1 142 = .ok (.aload_n 0, 1) := by decide +kernel
theorem d_Mod_meets_143 : decode m_Mod_meets.2.1 143 = .ok (.getfield 13, 3) := by decide +kernel
theorem d_Mod_meets_146 : decode m_Mod_meets.2.1 146 = .ok (.iload_n 1, 1) := by decide +kernel
theorem d_Mod_meets_147 : decode m_Mod_meets.2.1 147 = .ok (.iload 5, 2) := by decide +kernel
theorem d_Mod_meets_149 : decode m_Mod_meets.2.1 149 = .ok (.iadd, 1) := by decide +kernel
theorem d_Mod_meets_150 : decode m_Mod_meets.2.1 150 = .ok (.iconst 3, 1) := by decide +kernel
theorem d_Mod_meets_151 : decode m_Mod_meets.2.1 151 = .ok (.iadd, 1) := by decide +kernel
theorem d_Mod_meets_152 : decode m_Mod_meets.2.1 152 = .ok (.iaload, 1) := by decide +kernel
theorem d_Mod_meets_153 : decode m_Mod_meets.2.1 153 = .ok (.ifCond .ne 6, 3) := by decide +kernel
theorem d_Mod_meets_156 : decode m_Mod_meets.2.1 156 = .ok (.goto 34, 3) := by decide +kernel
theorem d_Mod_meets_159 : decode m_Mod_meets.2.1 159 = .ok (.iload_n 3, 1) := by decide +kernel
theorem d_Mod_meets_160 : decode m_Mod_meets.2.1 160 = .ok (.ifCond .ne 11, 3) := by decide +kernel
theorem d_Mod_meets_163 : decode m_Mod_meets.2.1 163 = .ok (.iload 4, 2) := by decide +kernel
theorem d_Mod_meets_165 : decode m_Mod_meets.2.1 165 = .ok (.iload_n 2, 1) := by decide +kernel
theorem d_Mod_meets_166 : decode m_Mod_meets.2.1 166 = .ok (.iconst 1, 1) := by decide +kernel
theorem d_Mod_meets_167 : decode m_Mod_meets.2.1 167 = .ok (.isub, 1) := by decide +kernel
theorem d_Mod_meets_168 : decode m_Mod_meets.2.1 168 = .ok (.if_icmp .ne 20, 3) := by decide +kernel
theorem d_Mod_meets_171 : decode m_Mod_meets.2.1 171 = .ok (.iload_n 3, 1) := by decide +kernel
theorem d_Mod_meets_172 : decode m_Mod_meets.2.1 172 = .ok (.ifCond .eq 14, 3) := by decide +kernel
theorem d_Mod_meets_175 : decode m_Mod_meets.2.1 175 = .ok (.aload_n 0, 1) := by decide +kernel
theorem d_Mod_meets_176 : decode m_Mod_meets.2.1 176 = .ok (.getfield 63, 3) := by decide +kernel
theorem d_Mod_meets_179 : decode m_Mod_meets.2.1 179 = .ok (.ifCond .ne 7, 3) := by decide +kernel
theorem d_Mod_meets_182 : decode m_Mod_meets.2.1 182 = .ok (.iconst 1, 1) := by decide +kernel
theorem d_Mod_meets_183 : decode m_Mod_meets.2.1 183 = .ok (.goto 4, 3) := by decide +kernel
theorem d_Mod_meets_186 : decode m_Mod_meets.2.1 186 = .ok (.iconst 0, 1) := by decide +kernel
theorem d_Mod_meets_187 : decode m_Mod_meets.2.1 187 = .ok (.ireturn, 1) := by decide +kernel
theorem d_Mod_meets_188 : decode m_Mod_meets.2.1 188 = .ok (.iconst 1, 1) := by decide +kernel
theorem d_Mod_meets_189 : decode m_Mod_meets.2.1 189 = .ok (.istore_n 3, 1) := by decide +kernel
theorem d_Mod_meets_190 : decode m_Mod_meets.2.1 190 = .ok (.iinc 4 1, 3) := by decide +kernel
theorem d_Mod_meets_193 : decode m_Mod_meets.2.1 193 = .ok (.goto (-178), 3) := by decide +kernel
theorem d_Mod_meets_196 : decode m_Mod_meets.2.1 196 = .ok (.aload_n 0, 1) := by decide +kernel
theorem d_Mod_meets_197 : decode m_Mod_meets.2.1 197 = .ok (.getfield 63, 3) := by decide +kernel
theorem d_Mod_meets_200 : decode m_Mod_meets.2.1 200 = .ok (.ifCond .ne 7, 3) := by decide +kernel
theorem d_Mod_meets_203 : decode m_Mod_meets.2.1 203 = .ok (.iconst 1, 1) := by decide +kernel
theorem d_Mod_meets_204 : decode m_Mod_meets.2.1 204 = .ok (.goto 4, 3) := by decide +kernel
theorem d_Mod_meets_207 : decode m_Mod_meets.2.1 207 = .ok (.iconst 0, 1) := by decide +kernel
theorem d_Mod_meets_208 : decode m_Mod_meets.2.1 208 = .ok (.ireturn, 1) := by decide +kernel
theorem d_Mod_select_0 : decode m_Mod_select.2.1 0 = .ok (.aload_n 0, 1) := by decide +kernel
theorem d_Mod_select_1 : decode m_Mod_select.2.1 1 = .ok (.getfield 13, 3) := by decide +kernel
theorem d_Mod_select_4 : decode m_Mod_select.2.1 4 = .ok (.iload_n 1, 1) := by decide +kernel
theorem d_Mod_select_5 : decode m_Mod_select.2.1 5 = .ok (.iaload, 1) := by decide +kernel
theorem d_Mod_select_6 : decode m_Mod_select.2.1 6 = .ok (.istore_n 2, 1) := by decide +kernel
theorem d_Mod_select_7 : decode m_Mod_select.2.1 7 = .ok (.aload_n 0, 1) := by decide +kernel
theorem d_Mod_select_8 : decode m_Mod_select.2.1 8 = .ok (.getfield 13, 3) := by decide +kernel
theorem d_Mod_select_11 : decode m_Mod_select.2.1 11 = .ok (.iload_n 1, 1) := by decide +kernel
theorem d_Mod_select_12 : decode m_Mod_select.2.1 12 = .ok (.iconst 1, 1) := by decide +kernel
theorem d_Mod_select_13 : decode m_Mod_select.2.1 13 = .ok (.iadd, 1) := by decide +kernel
theorem d_Mod_select_14 : decode m_Mod_select.2.1 14 = .ok (.iaload, 1) := by decide +kernel
theorem d_Mod_select_15 : decode m_Mod_select.2.1 15 = .ok (.istore_n 3, 1) := by decide +kernel
theorem d_Mod_select_16 : decode m_Mod_select.2.1 16 = .ok (.aload_n 0, 1) := by decide +kernel
theorem d_Mod_select_17 : decode m_Mod_select.2.1 17 = .ok (.getfield 13, 3) := by decide +kernel
theorem d_Mod_select_20 : decode m_Mod_select.2.1 20 = .ok (.iload_n 1, 1) := by decide +kernel
theorem d_Mod_select_21 : decode m_Mod_select.2.1 21 = .ok (.iconst 2, 1) := by decide +kernel
theorem d_Mod_select_22 : decode m_Mod_select.2.1 22 = .ok (.iadd, 1) := by decide +kernel
theorem d_Mod_select_23 : decode m_Mod_select.2.1 23 = .ok (.iaload, 1) := by decide +kernel
theorem d_Mod_select_24 : decode m_Mod_select.2.1 24 = .ok (.istore 4, 2) := by decide +kernel
theorem d_Mod_select_26 : decode m_Mod_select.2.1 26 = .ok (.iload_n 2, 1) := by decide +kernel
theorem d_Mod_select_27 : decode m_Mod_select.2.1 27 = .ok (.bipush 80, 2) := by decide +kernel
theorem d_Mod_select_29 : decode m_Mod_select.2.1 29 = .ok (.if_icmp .eq 9, 3) := by decide +kernel
theorem d_Mod_select_32 : decode m_Mod_select.2.1 32 = .ok (.iload_n 2, 1) := by decide +kernel
theorem d_Mod_select_33 : decode m_Mod_select.2.1 33 = .ok (.bipush 66, 2) := by decide +kernel
theorem d_Mod_select_35 : decode m_Mod_select.2.1 35 = .ok (.if_icmp .ne 7, 3) := by decide +kernel
theorem d_Mod_select_38 : decode m_Mod_select.2.1 38 = .ok (.iconst 1, 1) := by decide +kernel
theorem d_Mod_select_39 : decode m_Mod_select.2.1 39 = .ok (.goto 4, 3) := by decide +kernel
theorem d_Mod_select_42 : decode m_Mod_select.2.1 42 = .ok (.iconst 0, 1) := by decide +kernel
theorem d_Mod_select_43 : decode m_Mod_select.2.1 43 = .ok (.istore 5, 2) := by decide +kernel
theorem d_Mod_select_45 : decode m_Mod_select.2.1 45 = .ok (.aload_n 0, 1) := by decide +kernel
theorem d_Mod_select_46 : decode m_Mod_select.2.1 46 = .ok (.iconst 0, 1) := by decide +kernel
theorem d_Mod_select_47 : decode m_Mod_select.2.1 47 = .ok (.putfield 161, 3) := by decide +kernel
theorem d_Mod_select_50 : decode m_Mod_select.2.1 50 = .ok (.aload_n 0, 1) := by decide +kernel
theorem d_Mod_select_51 : decode m_Mod_select.2.1 51 = .ok (.iconst 0, 1) := by decide +kernel
theorem d_Mod_select_52 : decode m_Mod_select.2.1 52 = .ok (.putfield 164, 3) := by decide +kernel
theorem d_Mod_select_55 : decode m_Mod_select.2.1 55 = .ok (.iconst 0, 1) := by decide +kernel
theorem d_Mod_select_56 : decode m_Mod_select.2.1 56 = .ok (.istore 6, 2) := by decide +kernel
theorem d_Mod_select_58 : decode m_Mod_select.2.1 58 = .ok (.iload 6, 2) := by decide +kernel
theorem d_Mod_select_60 : decode m_Mod_select.2.1 60 = .ok (.aload_n 0, 1) := by decide +kernel
theorem d_Mod_select_61 : decode m_Mod_select.2.1 61 = .ok (.getfield 19, 3) := by decide +kernel
theorem d_Mod_select_64 : decode m_Mod_select.2.1 64 = .ok (.iload_n 3, 1) := by decide +kernel
theorem d_Mod_select_65 : decode m_Mod_select.2.1 65 = .ok (.iaload, 1) := by decide +kernel
theorem d_Mod_select_66 : decode m_Mod_select.2.1 66 = .ok (.if_icmp .ge 80, 3) := by decide +kernel
theorem d_Mod_select_69 : decode m_Mod_select.2.1 69 = .ok (.aload_n 0, 1) := by decide +kernel
theorem d_Mod_select_70 : decode m_Mod_select.2.1 70 = .ok (.getfield 63, 3) := by decide +kernel
theorem d_Mod_select_73 : decode m_Mod_select.2.1 73 = .ok (.ifCond .ne 73, 3) := by decide +kernel
theorem d_Mod_select_76 : decode m_Mod_select.2.1 76 = .ok (.aload_n 0, 1) := by decide +kernel
theorem d_Mod_select_77 : decode m_Mod_select.2.1 77 = .ok (.iload_n 3, 1) := by decide +kernel
theorem d_Mod_select_78 : decode m_Mod_select.2.1 78 = .ok (.iload 6, 2) := by decide +kernel
theorem d_Mod_select_80 : decode m_Mod_select.2.1 80 = .ok (.iconst 0, 1) := by decide +kernel
theorem d_Mod_select_81 : decode m_Mod_select.2.1 81 = .ok (.invokevirtual 170, 3) := by decide +kernel
theorem d_Mod_select_84 : decode m_Mod_select.2.1 84 = .ok (.iconst 0, 1) := by decide +kernel
theorem d_Mod_select_85 : decode m_Mod_select.2.1 85 = .ok (.istore 7, 2) := by decide +kernel
theorem d_Mod_select_87 : decode m_Mod_select.2.1 87 = .ok (.iload 7, 2) := by decide +kernel
theorem d_Mod_select_89 : decode m_Mod_select.2.1 89 = .ok (.iload 5, 2) := by decide +kernel
theorem d_Mod_select_91 : decode m_Mod_select.2.1 91 = .ok (.ifCond .eq 13, 3) := by decide +kernel
theorem d_Mod_select_94 : decode m_Mod_select.2.1 94 = .ok (.aload_n 0, 1) := by decide +kernel
theorem d_Mod_select_95 : decode m_Mod_select.2.1 95 = .ok (.getfield 19, 3) := by decide +kernel
theorem d_Mod_select_98 : decode m_Mod_select.2.1 98 = .ok (.iload 4, 2) := by decide +kernel
theorem d_Mod_select_100 : decode m_Mod_select.2.1 100 = .ok (.iaload, 1) := by decide +kernel
theorem d_Mod_select_101 : decode m_Mod_select.2.1 101 = .ok (.goto 4, 3) := by decide +kernel
theorem d_Mod_select_104 : decode m_Mod_select.2.1 104 = .ok (.iconst 1, 1) := by decide +kernel
theorem d_Mod_select_105 : decode m_Mod_select.2.1 105 = .ok (.if_icmp .ge 35, 3) := by decide +kernel
theorem d_Mod_select_108 : decode m_Mod_select.2.1 108 = .ok (.aload_n 0, 1) := by decide +kernel
theorem d_Mod_select_109 : decode m_Mod_select.2.1 109 = .ok (.getfield 63, 3) := by decide +kernel
theorem d_Mod_select_112 : decode m_Mod_select.2.1 112 = .ok (.ifCond .ne 28, 3) := by decide +kernel
theorem d_Mod_select_115 : decode m_Mod_select.2.1 115 = .ok (.iload 5, 2) := by decide +kernel
theorem d_Mod_select_117 : decode m_Mod_select.2.1 117 = .ok (.ifCond .eq 12, 3) := by decide +kernel
theorem d_Mod_select_120 : decode m_Mod_select.2.1 120 = .ok (.aload_n 0, 1) := by decide +kernel
theorem d_Mod_select_121 : decode m_Mod_select.2.1 121 = .ok (.iload 4, 2) := by decide +kernel
theorem d_Mod_select_123 : decode m_Mod_select.2.1 123 = .ok (.iload 7, 2) := by decide +kernel
theorem d_Mod_select_125 : decode m_Mod_select.2.1 125 = .ok (.iconst 3, 1) := by decide +kernel
theorem d_Mod_select_126 : decode m_Mod_select.2.1 126 = .ok (.invokevirtual 170, 3) := by decide +kernel
theorem d_Mod_select_129 : decode m_Mod_select.2.1 129 = .ok (.aload_n 0, 1) := by decide +kernel
theorem d_Mod_select_130 : decode m_Mod_select.2.1 130 = .ok (.iload_n 1, 1) := by decide +kernel
theorem d_Mod_select_131 : decode m_Mod_select.2.1 131 = .ok (.invokevirtual 174, 3) := by decide +kernel
theorem d_Mod_select_134 : decode m_Mod_select.2.1 134 = .ok (.iinc 7 1, 3) := by decide +kernel
theorem d_Mod_select_137 : decode m_Mod_select.2.1 137 = .ok (.goto (-50), 3) := by decide +kernel
theorem d_Mod_select_140 : decode m_Mod_select.2.1 140 = .ok (.iinc 6 1, 3) := by decide +kernel
theorem d_Mod_select_143 : decode m_Mod_select.2.1 143 = .ok (.goto (-85), 3) := by decide +kernel
theorem d_Mod_select_146 : decode m_Mod_select.2.1 146 = .ok (.aload_n 0, 1) := by decide +kernel
theorem d_Mod_select_147 : decode m_Mod_select.2.1 147 = .ok (.getfield 63, 3) := by decide +kernel
theorem d_Mod_select_150 : decode m_Mod_select.2.1 150 = .ok (.ifCond .le 5, 3) := by decide +kernel
theorem d_Mod_select_153 : decode m_Mod_select.2.1 153 = .ok (.iconst 0, 1) := by decide +kernel
theorem d_Mod_select_154 : decode m_Mod_select.2.1 154 = .ok (.ireturn, 1) := by decide +kernel
theorem d_Mod_select_155 : decode m_Mod_select.2.1 155 = .ok (.aload_n 0, 1) := by decide +kernel
theorem d_Mod_select_156 : decode m_Mod_select.2.1 156 = .ok (.aload_n 0, 1) := by decide +kernel
theorem d_Mod_select_157 : decode m_Mod_select.2.1 157 = .ok (.getfield 13, 3) := by decide +kernel
theorem d_Mod_select_160 : decode m_Mod_select.2.1 160 = .ok (.iload_n 1, 1) := by decide +kernel
theorem d_Mod_select_161 : decode m_Mod_select.2.1 161 = .ok (.iconst 3, 1) := by decide +kernel
theorem d_Mod_select_162 : decode m_Mod_select.2.1 162 = .ok (.iadd, 1) := by decide +kernel
theorem d_Mod_select_163 : decode m_Mod_select.2.1 163 = .ok (.iaload, 1) := by decide +kernel
theorem d_Mod_select_164 : decode m_Mod_select.2.1 164 = .ok (.putfield 177, 3) := by decide +kernel
theorem d_Mod_select_167 : decode m_Mod_select.2.1 167 = .ok (.aload_n 0, 1) := by decide +kernel
theorem d_Mod_select_168 : decode m_Mod_select.2.1 168 = .ok (.getfield 13, 3) := by decide +kernel
theorem d_Mod_select_171 : decode m_Mod_select.2.1 171 = .ok (.iload_n 1, 1) := by decide +kernel
theorem d_Mod_select_172 : decode m_Mod_select.2.1 172 = .ok (.bipush 10, 2) := by decide +kernel
theorem d_Mod_select_174 : decode m_Mod_select.2.1 174 = .ok (.iadd, 1) := by decide +kernel
theorem d_Mod_select_175 : decode m_Mod_select.2.1 175 = .ok (.iaload, 1) := by decide +kernel
theorem d_Mod_select_176 : decode m_Mod_select.2.1 176 = .ok (.ifCond .lt 7, 3) := by decide +kernel
theorem d_Mod_select_179 : decode m_Mod_select.2.1 179 = .ok (.aload_n 0, 1) := by decide +kernel
theorem d_Mod_select_180 : decode m_Mod_select.2.1 180 = .ok (.invokevirtual 180, 3) := by decide +kernel
theorem d_Mod_select_183 : decode m_Mod_select.2.1 183 = .ok (.iload_n 2, 1) := by decide +kernel
theorem d_Mod_select_184 : decode m_Mod_select.2.1 184 = .ok (.bipush 83, 2) := by decide +kernel
theorem d_Mod_select_186 : decode m_Mod_select.2.1 186 = .ok (.if_icmp .eq 9, 3) := by decide +kernel
theorem d_Mod_select_189 : decode m_Mod_select.2.1 189 = .ok (.iload_n 2, 1) := by decide +kernel
theorem d_Mod_select_190 : decode m_Mod_select.2.1 190 = .ok (.bipush 80, 2) := by decide +kernel
theorem d_Mod_select_192 : decode m_Mod_select.2.1 192 = .ok (.if_icmp .ne 8, 3) := by decide +kernel
theorem d_Mod_select_195 : decode m_Mod_select.2.1 195 = .ok (.aload_n 0, 1) := by decide +kernel
theorem d_Mod_select_196 : decode m_Mod_select.2.1 196 = .ok (.getfield 167, 3) := by decide +kernel
theorem d_Mod_select_199 : decode m_Mod_select.2.1 199 = .ok (.ireturn, 1) := by decide +kernel
theorem d_Mod_select_200 : decode m_Mod_select.2.1 200 = .ok (.aload_n 0, 1) := by decide +kernel
theorem d_Mod_select_201 : decode m_Mod_select.2.1 201 = .ok (.getfield 13, 3) := by decide +kernel
theorem d_Mod_select_204 : decode m_Mod_select.2.1 204 = .ok (.iload_n 1, 1) := by decide +kernel
theorem d_Mod_select_205 : decode m_Mod_select.2.1 205 = .ok (.bipush 9, 2) := by decide +kernel
theorem d_Mod_select_207 : decode m_Mod_select.2.1 207 = .ok (.iadd, 1) := by decide +kernel
theorem d_Mod_select_208 : decode m_Mod_select.2.1 208 = .ok (.iaload, 1) := by decide +kernel
theorem d_Mod_select_209 : decode m_Mod_select.2.1 209 = .ok (.istore 6, 2) := by decide +kernel
theorem d_Mod_select_211 : decode m_Mod_select.2.1 211 = .ok (.iload 6, 2) := by decide +kernel
theorem d_Mod_select_213 : decode m_Mod_select.2.1 213 = .ok (.bipush 62, 2) := by decide +kernel
theorem d_Mod_select_215 : decode m_Mod_select.2.1 215 = .ok (.if_icmp .eq 10, 3) := by decide +kernel
theorem d_Mod_select_218 : decode m_Mod_select.2.1 218 = .ok (.iload 6, 2) := by decide +kernel
theorem d_Mod_select_220 : decode m_Mod_select.2.1 220 = .ok (.bipush 60, 2) := by decide +kernel
theorem d_Mod_select_222 : decode m_Mod_select.2.1 222 = .ok (.if_icmp .ne 16, 3) := by decide +kernel
theorem d_Mod_select_225 : decode m_Mod_select.2.1 225 = .ok (.aload_n 0, 1) := by decide +kernel
theorem d_Mod_select_226 : decode m_Mod_select.2.1 226 = .ok (.getfield 164, 3) := by decide +kernel
theorem d_Mod_select_229 : decode m_Mod_select.2.1 229 = .ok (.ifCond .ne 9, 3) := by decide +kernel
theorem d_Mod_select_232 : decode m_Mod_select.2.1 232 = .ok (.aload_n 0, 1) := by decide +kernel
theorem d_Mod_select_233 : decode m_Mod_select.2.1 233 = .ok (.iconst 2, 1) := by decide +kernel
theorem d_Mod_select_234 : decode m_Mod_select.2.1 234 = .ok (.invokevirtual 77, 3) := by decide +kernel
theorem d_Mod_select_237 : decode m_Mod_select.2.1 237 = .ok (.ireturn, 1) := by decide +kernel
theorem d_Mod_select_238 : decode m_Mod_select.2.1 238 = .ok (.aload_n 0, 1) := by decide +kernel
theorem d_Mod_select_239 : decode m_Mod_select.2.1 239 = .ok (.getfield 51, 3) := by decide +kernel
theorem d_Mod_select_242 : decode m_Mod_select.2.1 242 = .ok (.iconst 0, 1) := by decide +kernel
theorem d_Mod_select_243 : decode m_Mod_select.2.1 243 = .ok (.iload 6, 2) := by decide +kernel
theorem d_Mod_select_245 : decode m_Mod_select.2.1 245 = .ok (.bipush 35, 2) := by decide +kernel
theorem d_Mod_select_247 : decode m_Mod_select.2.1 247 = .ok (.if_icmp .ne 10, 3) := by decide +kernel
theorem d_Mod_select_250 : decode m_Mod_select.2.1 250 = .ok (.aload_n 0, 1) := by decide +kernel
theorem d_Mod_select_251 : decode m_Mod_select.2.1 251 = .ok (.getfield 164, 3) := by decide +kernel
theorem d_Mod_select_254 : decode m_Mod_select.2.1 254 = .ok (.goto 7, 3) := by decide +kernel
theorem d_Mod_select_257 : decode m_Mod_select.2.1 257 = .ok (.aload_n 0, 1) := by decide +kernel
theorem d_Mod_select_258 : decode m_Mod_select.2.1 258 = .ok (.getfield 161, 3) := by decide +kernel
theorem d_Mod_select_261 : decode m_Mod_select.2.1 261 = .ok (.iastore, 1) := by decide +kernel
theorem d_Mod_select_262 : decode m_Mod_select.2.1 262 = .ok (.aload_n 0, 1) := by decide +kernel
theorem d_Mod_select_263 : decode m_Mod_select.2.1 263 = .ok (.iconst 1, 1) := by decide +kernel
theorem d_Mod_select_264 : decode m_Mod_select.2.1 264 = .ok (.putfield 167, 3) := by decide +kernel
theorem d_Mod_select_267 : decode m_Mod_select.2.1 267 = .ok (.iconst 1, 1) := by decide +kernel
theorem d_Mod_select_268 : decode m_Mod_select.2.1 268 = .ok (.ireturn, 1) := by decide +kernel
theorem d_Mod_collect_0 : decode m_Mod_collect.2.1 0 = .ok (.aload_n 0, 1) := by decide +kernel
theorem d_Mod_collect_1 : decode m_Mod_collect.2.1 1 = .ok (.getfield 13, 3) := by decide +kernel
theorem d_Mod_collect_4 : decode m_Mod_collect.2.1 4 = .ok (.iload_n 1, 1) := by decide +kernel
theorem d_Mod_collect_5 : decode m_Mod_collect.2.1 5 = .ok (.iaload, 1) := by decide +kernel
theorem d_Mod_collect_6 : decode m_Mod_collect.2.1 6 = .ok (.istore_n 2, 1) := by decide +kernel
theorem d_Mod_collect_7 : decode m_Mod_collect.2.1 7 = .ok (.aload_n 0, 1) := by decide +kernel
theorem d_Mod_collect_8 : decode m_Mod_collect.2.1 8 = .ok (.iload_n 1, 1) := by decide +kernel
theorem d_Mod_collect_9 : decode m_Mod_collect.2.1 9 = .ok (.invokevirtual 158, 3) := by decide +kernel
theorem d_Mod_collect_12 : decode m_Mod_collect.2.1 12 = .ok (.ifCond .ne 4, 3) := by decide +kernel
theorem d_Mod_collect_15 : decode m_Mod_collect.2.1 15 = .ok (.return_, 1) := by decide +kernel
theorem d_Mod_collect_16 : decode m_Mod_collect.2.1 16 = .ok (.iload_n 2, 1) := by decide +kernel
theorem d_Mod_collect_17 : decode m_Mod_collect.2.1 17 = .ok (.bipush 65, 2) := by decide +kernel
theorem d_Mod_collect_19 : decode m_Mod_collect.2.1 19 = .ok (.if_icmp .eq 9, 3) := by decide +kernel
theorem d_Mod_collect_22 : decode m_Mod_collect.2.1 22 = .ok (.iload_n 2, 1) := by decide +kernel
theorem d_Mod_collect_23 : decode m_Mod_collect.2.1 23 = .ok (.bipush 66, 2) := by decide +kernel
theorem d_Mod_collect_25 : decode m_Mod_collect.2.1 25 = .ok (.if_icmp .ne 94, 3) := by decide +kernel
theorem d_Mod_collect_28 : decode m_Mod_collect.2.1 28 = .ok (.aload_n 0, 1) := by decide +kernel
theorem d_Mod_collect_29 : decode m_Mod_collect.2.1 29 = .ok (.iload_n 1, 1) := by decide +kernel
theorem d_Mod_collect_30 : decode m_Mod_collect.2.1 30 = .ok (.iconst 4, 1) := by decide +kernel
theorem d_Mod_collect_31 : decode m_Mod_collect.2.1 31 = .ok (.invokevirtual 154, 3) := by decide +kernel
theorem d_Mod_collect_34 : decode m_Mod_collect.2.1 34 = .ok (.istore_n 3, 1) := by decide +kernel
theorem d_Mod_collect_35 : decode m_Mod_collect.2.1 35 = .ok (.aload_n 0, 1) := by decide +kernel
theorem d_Mod_collect_36 : decode m_Mod_collect.2.1 36 = .ok (.getfield 13, 3) := by decide +kernel
theorem d_Mod_collect_39 : decode m_Mod_collect.2.1 39 = .ok (.iload_n 1, 1) := by decide +kernel
theorem d_Mod_collect_40 : decode m_Mod_collect.2.1 40 = .ok (.bipush 9, 2) := by decide +kernel
theorem d_Mod_collect_42 : decode m_Mod_collect.2.1 42 = .ok (.iadd, 1) := by decide +kernel
theorem d_Mod_collect_43 : decode m_Mod_collect.2.1 43 = .ok (.iaload, 1) := by decide +kernel
theorem d_Mod_collect_44 : decode m_Mod_collect.2.1 44 = .ok (.istore 4, 2) := by decide +kernel
theorem d_Mod_collect_46 : decode m_Mod_collect.2.1 46 = .ok (.iload 4, 2) := by decide +kernel
theorem d_Mod_collect_48 : decode m_Mod_collect.2.1 48 = .ok (.bipush 43, 2) := by decide +kernel
theorem d_Mod_collect_50 : decode m_Mod_collect.2.1 50 = .ok (.if_icmp .ne 16, 3) := by decide +kernel
theorem d_Mod_collect_53 : decode m_Mod_collect.2.1 53 = .ok (.aload_n 0, 1) := by decide +kernel
theorem d_Mod_collect_54 : decode m_Mod_collect.2.1 54 = .ok (.dup, 1) := by decide +kernel
theorem d_Mod_collect_55 : decode m_Mod_collect.2.1 55 = .ok (.getfield 161, 3) := by decide +kernel
theorem d_Mod_collect_58 : decode m_Mod_collect.2.1 58 = .ok (.iload_n 3, 1) := by decide +kernel
theorem d_Mod_collect_59 : decode m_Mod_collect.2.1 59 = .ok (.iadd, 1) := by decide +kernel
theorem d_Mod_collect_60 : decode m_Mod_collect.2.1 60 = .ok (.putfield 161, 3) := by decide +kernel
theorem d_Mod_collect_63 : decode m_Mod_collect.2.1 63 = .ok (.goto 45, 3) := by decide +kernel
theorem d_Mod_collect_66 : decode m_Mod_collect.2.1 66 = .ok (.aload_n 0, 1) := by decide +kernel
theorem d_Mod_collect_67 : decode m_Mod_collect.2.1 67 = .ok (.getfield 164, 3) := by decide +kernel
theorem d_Mod_collect_70 : decode m_Mod_collect.2.1 70 = .ok (.ifCond .eq 33, 3) := by decide +kernel
theorem d_Mod_collect_73 : decode m_Mod_collect.2.1 73 = .ok (.iload 4, 2) := by decide +kernel
theorem d_Mod_collect_75 : decode m_Mod_collect.2.1 75 = .ok (.bipush 62, 2) := by decide +kernel
theorem d_Mod_collect_77 : decode m_Mod_collect.2.1 77 = .ok (.if_icmp .ne 11, 3) := by decide +kernel
theorem d_Mod_collect_80 : decode m_Mod_collect.2.1 80 = .ok (.iload_n 3, 1) := by decide +kernel
theorem d_Mod_collect_81 : decode m_Mod_collect.2.1 81 = .ok (.aload_n 0, 1) := by decide +kernel
theorem d_Mod_collect_82 : decode m_Mod_collect.2.1 82 = .ok (.getfield 161, 3) := by decide +kernel
theorem d_Mod_collect_85 : decode m_Mod_collect.2.1 85 = .ok (.if_icmp .gt 18, 3) := by decide +kernel
theorem d_Mod_collect_88 : decode m_Mod_collect.2.1 88 = .ok (.iload 4, 2) := by decide +kernel
theorem d_Mod_collect_90 : decode m_Mod_collect.2.1 90 = .ok (.bipush 60, 2) := by decide +kernel
theorem d_Mod_collect_92 : decode m_Mod_collect.2.1 92 = .ok (.if_icmp .ne 16, 3) := by decide +kernel
theorem d_Mod_collect_95 : decode m_Mod_collect.2.1 95 = .ok (.iload_n 3, 1) := by decide +kernel
theorem d_Mod_collect_96 : decode m_Mod_collect.2.1 96 = .ok (.aload_n 0, 1) := by decide +kernel
theorem d_Mod_collect_97 : decode m_Mod_collect.2.1 97 = .ok (.getfield 161, 3) := by decide +kernel
theorem d_Mod_collect_100 : decode m_Mod_collect.2.1 100 = .ok (.if_icmp .ge 8, 3) := by decide +kernel
theorem d_Mod_collect_103 : decode m_Mod_collect.2.1 103 = .ok (.aload_n 0, 1) := by decide +kernel
theorem d_Mod_collect_104 : decode m_Mod_collect.2.1 104 = .ok (.iload_n 3, 1) := by decide +kernel
theorem d_Mod_collect_105 : decode m_Mod_collect.2.1 105 = .ok (.putfield 161, 3) := by decide +kernel
theorem d_Mod_collect_108 : decode m_Mod_collect.2.1 108 = .ok (.aload_n 0, 1) := by decide +kernel
theorem d_Mod_collect_109 : decode m_Mod_collect.2.1 109 = .ok (.dup, 1) := by decide +kernel
theorem d_Mod_collect_110 : decode m_Mod_collect.2.1 110 = .ok (.getfield 164, 3) := by decide +kernel
theorem d_Mod_collect_113 : decode m_Mod_collect.2.1 113 = .ok (.iconst 1, 1) := by decide +kernel
theorem d_Mod_collect_114 : decode m_Mod_collect.2.1 114 = .ok (.iadd, 1) := by decide +kernel
theorem d_Mod_collect_115 : decode m_Mod_collect.2.1 115 = .ok (.putfield 164, 3) := by decide +kernel
theorem d_Mod_collect_118 : decode m_Mod_collect.2.1 118 = .ok (.return_, 1) := by decide +kernel
theorem d_Mod_collect_119 : decode m_Mod_collect.2.1 119 = .ok (.iconst 0, 1) := by decide +kernel
theorem d_Mod_collect_120 : decode m_Mod_collect.2.1 120 = .ok (.istore_n 3, 1) := by decide +kernel
theorem d_Mod_collect_121 : decode m_Mod_collect.2.1 121 = .ok (.iload_n 3, 1) := by decide +kernel
theorem d_Mod_collect_122 : decode m_Mod_collect.2.1 122 = .ok (.aload_n 0, 1) := by decide +kernel
theorem d_Mod_collect_123 : decode m_Mod_collect.2.1 123 = .ok (.getfield 13, 3) := by decide +kernel
theorem d_Mod_collect_126 : decode m_Mod_collect.2.1 126 = .ok (.iload_n 1, 1) := by decide +kernel
theorem d_Mod_collect_127 : decode m_Mod_collect.2.1 127 = .ok (.iconst 3, 1) := by decide +kernel
theorem d_Mod_collect_128 : decode m_Mod_collect.2.1 128 = .ok (.iadd, 1) := by decide +kernel
theorem d_Mod_collect_129 : decode m_Mod_collect.2.1 129 = .ok (.iaload, 1) := by decide +kernel
theorem d_Mod_collect_130 : decode m_Mod_collect.2.1 130 = .ok (.if_icmp .ge 37, 3) := by decide +kernel
theorem d_Mod_collect_133 : decode m_Mod_collect.2.1 133 = .ok (.aload_n 0, 1) := by decide +kernel
theorem d_Mod_collect_134 : decode m_Mod_collect.2.1 134 = .ok (.getfield 63, 3) := by decide +kernel
theorem d_Mod_collect_137 : decode m_Mod_collect.2.1 137 = .ok (.ifCond .ne 30, 3) := by decide +kernel
theorem d_Mod_collect_140 : decode m_Mod_collect.2.1 140 = .ok (.aload_n 0, 1) := by decide +kernel
theorem d_Mod_collect_141 : decode m_Mod_collect.2.1 141 = .ok (.getfield 51, 3) := by decide +kernel
theorem d_Mod_collect_144 : decode m_Mod_collect.2.1 144 = .ok (.aload_n 0, 1) := by decide +kernel
theorem d_Mod_collect_145 : decode m_Mod_collect.2.1 145 = .ok (.getfield 167, 3) := by decide +kernel
theorem d_Mod_collect_148 : decode m_Mod_collect.2.1 148 = .ok (.iconst 3, 1) := by decide +kernel
theorem d_Mod_collect_149 : decode m_Mod_collect.2.1 149 = .ok (.imul, 1) := by decide +kernel
theorem d_Mod_collect_150 : decode m_Mod_collect.2.1 150 = .ok (.iload_n 3, 1) := by decide +kernel
theorem d_Mod_collect_151 : decode m_Mod_collect.2.1 151 = .ok (.iadd, 1) := by decide +kernel
theorem d_Mod_collect_152 : decode m_Mod_collect.2.1 152 = .ok (.aload_n 0, 1) := by decide +kernel
theorem d_Mod_collect_153 : decode m_Mod_collect.2.1 153 = .ok (.iload_n 1, 1) := by decide +kernel
theorem d_Mod_collect_154 : decode m_Mod_collect.2.1 154 = .ok (.iconst 4, 1) := by decide +kernel
theorem d_Mod_collect_155 : decode m_Mod_collect.2.1 155 = .ok (.iload_n 3, 1) := by decide +kernel
theorem d_Mod_collect_156 : decode m_Mod_collect.2.1 156 = .ok (.iadd, 1) := by decide +kernel
theorem d_Mod_collect_157 : decode m_Mod_collect.2.1 157 = .ok (.invokevirtual 154, 3) := by decide +kernel
theorem d_Mod_collect_160 : decode m_Mod_collect.2.1 160 = .ok (.iastore, 1) := by decide +kernel
theorem d_Mod_collect_161 : decode m_Mod_collect.2.1 161 = .ok (.iinc 3 1, 3) := by decide +kernel
theorem d_Mod_collect_164 : decode m_Mod_collect.2.1 164 = .ok (.goto (-43), 3) := by decide +kernel
theorem d_Mod_collect_167 : decode m_Mod_collect.2.1 167 = .ok (.aload_n 0, 1) := by decide +kernel
theorem d_Mod_collect_168 : decode m_Mod_collect.2.1 168 = .ok (.getfield 63, 3) := by decide +kernel
theorem d_Mod_collect_171 : decode m_Mod_collect.2.1 171 = .ok (.ifCond .le 4, 3) := by decide +kernel
theorem d_Mod_collect_174 : decode m_Mod_collect.2.1 174 = .ok (.return_, 1) := by decide +kernel
theorem d_Mod_collect_175 : decode m_Mod_collect.2.1 175 = .ok (.aload_n 0, 1) := by decide +kernel
theorem d_Mod_collect_176 : decode m_Mod_collect.2.1 176 = .ok (.getfield 13, 3) := by decide +kernel
theorem d_Mod_collect_179 : decode m_Mod_collect.2.1 179 = .ok (.iload_n 1, 1) := by decide +kernel
theorem d_Mod_collect_180 : decode m_Mod_collect.2.1 180 = .ok (.bipush 10, 2) := by decide +kernel
theorem d_Mod_collect_182 : decode m_Mod_collect.2.1 182 = .ok (.iadd, 1) := by decide +kernel
theorem d_Mod_collect_183 : decode m_Mod_collect.2.1 183 = .ok (.iaload, 1) := by decide +kernel
theorem d_Mod_collect_184 : decode m_Mod_collect.2.1 184 = .ok (.ifCond .lt 26, 3) := by decide +kernel
theorem d_Mod_collect_187 : decode m_Mod_collect.2.1 187 = .ok (.aload_n 0, 1) := by decide +kernel
theorem d_Mod_collect_188 : decode m_Mod_collect.2.1 188 = .ok (.getfield 54, 3) := by decide +kernel
theorem d_Mod_collect_191 : decode m_Mod_collect.2.1 191 = .ok (.aload_n 0, 1) := by decide +kernel
theorem d_Mod_collect_192 : decode m_Mod_collect.2.1 192 = .ok (.getfield 167, 3) := by decide +kernel
theorem d_Mod_collect_195 : decode m_Mod_collect.2.1 195 = .ok (.aload_n 0, 1) := by decide +kernel
theorem d_Mod_collect_196 : decode m_Mod_collect.2.1 196 = .ok (.getfield 48, 3) := by decide +kernel
theorem d_Mod_collect_199 : decode m_Mod_collect.2.1 199 = .ok (.aload_n 0, 1) := by decide +kernel
theorem d_Mod_collect_200 : decode m_Mod_collect.2.1 200 = .ok (.getfield 13, 3) := by decide +kernel
theorem d_Mod_collect_203 : decode m_Mod_collect.2.1 203 = .ok (.iload_n 1, 1) := by decide +kernel
theorem d_Mod_collect_204 : decode m_Mod_collect.2.1 204 = .ok (.bipush 10, 2) := by decide +kernel
theorem d_Mod_collect_206 : decode m_Mod_collect.2.1 206 = .ok (.iadd, 1) := by decide +kernel
theorem d_Mod_collect_207 : decode m_Mod_collect.2.1 207 = .ok (.iaload, 1) := by decide +kernel
theorem d_Mod_collect_208 : decode m_Mod_collect.2.1 208 = .ok (.iaload, 1) := by decide +kernel
theorem d_Mod_collect_209 : decode m_Mod_collect.2.1 209 = .ok (.iastore, 1) := by decide +kernel
theorem d_Mod_collect_210 : decode m_Mod_collect.2.1 210 = .ok (.aload_n 0, 1) := by decide +kernel
theorem d_Mod_collect_211 : decode m_Mod_collect.2.1 211 = .ok (.dup, 1) := by decide +kernel
theorem d_Mod_collect_212 : decode m_Mod_collect.2.1 212 = .ok (.getfield 167, 3) := by decide +kernel
theorem d_Mod_collect_215 : decode m_Mod_collect.2.1 215 = .ok (.iconst 1, 1) := by decide +kernel
theorem d_Mod_collect_216 : decode m_Mod_collect.2.1 216 = .ok (.iadd, 1) := by decide +kernel
theorem d_Mod_collect_217 : decode m_Mod_collect.2.1 217 = .ok (.putfield 167, 3) := by decide +kernel
theorem d_Mod_collect_220 : decode m_Mod_collect.2.1 220 = .ok (.aload_n 0, 1) := by decide +kernel
theorem d_Mod_collect_221 : decode m_Mod_collect.2.1 221 = .ok (.getfield 167, 3) := by decide +kernel
theorem d_Mod_collect_224 : decode m_Mod_collect.2.1 224 = .ok (.bipush 40, 2) := by decide +kernel
theorem d_Mod_collect_226 : decode m_Mod_collect.2.1 226 = .ok (.if_icmp .le 8, 3) := by decide +kernel
theorem d_Mod_collect_229 : decode m_Mod_collect.2.1 229 = .ok (.aload_n 0, 1) := by decide +kernel
theorem d_Mod_collect_230 : decode m_Mod_collect.2.1 230 = .ok (.iconst 5, 1) := by decide +kernel
theorem d_Mod_collect_231 : decode m_Mod_collect.2.1 231 = .ok (.putfield 63, 3) := by decide +kernel
theorem d_Mod_collect_234 : decode m_Mod_collect.2.1 234 = .ok (.return_, 1) := by decide +kernel
theorem d_Mod_sortResult_0 : decode m_Mod_sortResult.2.1 0 = .ok (.iconst 1, 1) := by decide +kernel
theorem d_Mod_sortResult_1 : decode m_Mod_sortResult.2.1 1 = .ok (.istore_n 1, 1) := by decide +kernel
theorem d_Mod_sortResult_2 : decode m_Mod_sortResult.2.1 2 = .ok (.iload_n 1, 1) := by decide +kernel
theorem d_Mod_sortResult_3 : decode m_Mod_sortResult.2.1 3 = .ok (.aload_n 0, 1) := by decide +kernel
theorem d_Mod_sortResult_4 : decode m_Mod_sortResult.2.1 4 = .ok (.getfield 167, 3) := by decide +kernel
theorem d_Mod_sortResult_7 : decode m_Mod_sortResult.2.1 7 = .ok (.if_icmp .ge 135, 3) := by decide +kernel
theorem d_Mod_sortResult_10 : decode m_Mod_sortResult.2.1 10 = .ok (.iload_n 1, 1) := by decide +kernel
theorem d_Mod_sortResult_11 : decode m_Mod_sortResult.2.1 11 = .ok (.istore_n 2, 1) := by decide +kernel
theorem d_Mod_sortResult_12 : decode m_Mod_sortResult.2.1 12 = .ok (.iload_n 2, 1) := by decide +kernel
theorem d_Mod_sortResult_13 : decode m_Mod_sortResult.2.1 13 = .ok (.ifCond .le 123, 3) := by decide +kernel
theorem d_Mod_sortResult_16 : decode m_Mod_sortResult.2.1 16 = .ok (.aload_n 0, 1) := by decide +kernel
theorem d_Mod_sortResult_17 : decode m_Mod_sortResult.2.1 17 = .ok (.getfield 54, 3) := by decide +kernel
theorem d_Mod_sortResult_20 : decode m_Mod_sortResult.2.1 20 = .ok (.iload_n 2, 1) := by decide +kernel
theorem d_Mod_sortResult_21 : decode m_Mod_sortResult.2.1 21 = .ok (.iconst 1, 1) := by decide +kernel
theorem d_Mod_sortResult_22 : decode m_Mod_sortResult.2.1 22 = .ok (.isub, 1) := by decide +kernel
theorem d_Mod_sortResult_23 : decode m_Mod_sortResult.2.1 23 = .ok (.iaload, 1) := by decide +kernel
theorem d_Mod_sortResult_24 : decode m_Mod_sortResult.2.1 24 = .ok (.aload_n 0, 1) := by decide +kernel
theorem d_Mod_sortResult_25 : decode m_Mod_sortResult.2.1 25 = .ok (.getfield 54, 3) := by decide +kernel
theorem d_Mod_sortResult_28 : decode m_Mod_sortResult.2.1 28 = .ok (.iload_n 2, 1) := by decide +kernel
theorem d_Mod_sortResult_29 : decode m_Mod_sortResult.2.1 29 = .ok (.iaload, 1) := by decide +kernel
theorem d_Mod_sortResult_30 : decode m_Mod_sortResult.2.1 30 = .ok (.if_icmp .le 106, 3) := by decide +kernel
theorem d_Mod_sortResult_33 : decode m_Mod_sortResult.2.1 33 = .ok (.aload_n 0, 1) := by decide +kernel
theorem d_Mod_sortResult_34 : decode m_Mod_sortResult.2.1 34 = .ok (.getfield 54, 3) := by decide +kernel
theorem d_Mod_sortResult_37 : decode m_Mod_sortResult.2.1 37 = .ok (.iload_n 2, 1) := by decide +kernel
theorem d_Mod_sortResult_38 : decode m_Mod_sortResult.2.1 38 = .ok (.iaload, 1) := by decide +kernel
theorem d_Mod_sortResult_39 : decode m_Mod_sortResult.2.1 39 = .ok (.istore_n 3, 1) := by decide +kernel
theorem d_Mod_sortResult_40 : decode m_Mod_sortResult.2.1 40 = .ok (.aload_n 0, 1) := by decide +kernel
theorem d_Mod_sortResult_41 : decode m_Mod_sortResult.2.1 41 = .ok (.getfield 54, 3) := by decide +kernel
theorem d_Mod_sortResult_44 : decode m_Mod_sortResult.2.1 44 = .ok (.iload_n 2, 1) := by decide +kernel
theorem d_Mod_sortResult_45 : decode m_Mod_sortResult.2.1 45 = .ok (.aload_n 0, 1) := by decide +kernel
theorem d_Mod_sortResult_46 : decode m_Mod_sortResult.2.1 46 = .ok (.getfield 54, 3) := by decide +kernel
theorem d_Mod_sortResult_49 : decode m_Mod_sortResult.2.1 49 = .ok (.iload_n 2, 1) := by decide +kernel
theorem d_Mod_sortResult_50 : decode m_Mod_sortResult.2.1 50 = .ok (.iconst 1, 1) := by decide +kernel
theorem d_Mod_sortResult_51 : decode m_Mod_sortResult.2.1 51 = .ok (.isub, 1) := by decide +kernel
theorem d_Mod_sortResult_52 : decode m_Mod_sortResult.2.1 52 = .ok (.iaload, 1) := by decide +kernel
theorem d_Mod_sortResult_53 : decode m_Mod_sortResult.2.1 53 = .ok (.iastore, 1) := by decide +kernel
theorem d_Mod_sortResult_54 : decode m_Mod_sortResult.2.1 54 = .ok (.aload_n 0, 1) := by decide +kernel
theorem d_Mod_sortResult_55 : decode m_Mod_sortResult.2.1 55 = .ok (.getfield 54, 3) := by decide +kernel
theorem d_Mod_sortResult_58 : decode m_Mod_sortResult.2.1 58 = .ok (.iload_n 2, 1) := by decide +kernel
theorem d_Mod_sortResult_59 : decode m_Mod_sortResult.2.1 59 = .ok (.iconst 1, 1) := by decide +kernel
theorem d_Mod_sortResult_60 : decode m_Mod_sortResult.2.1 60 = .ok (.isub, 1) := by decide +kernel
theorem d_Mod_sortResult_61 : decode m_Mod_sortResult.2.1 61 = .ok (.iload_n 3, 1) := by decide +kernel
theorem d_Mod_sortResult_62 : decode m_Mod_sortResult.2.1 62 = .ok (.iastore, 1) := by decide +kernel
theorem d_Mod_sortResult_63 : decode m_Mod_sortResult.2.1 63 = .ok (.iconst 0, 1) := by decide +kernel
theorem d_Mod_sortResult_64 : decode m_Mod_sortResult.2.1 64 = .ok (.istore 4, 2) := by decide +kernel
theorem d_Mod_sortResult_66 : decode m_Mod_sortResult.2.1 66 = .ok (.iload 4, 2) := by decide +kernel
theorem d_Mod_sortResult_68 : decode m_Mod_sortResult.2.1 68 = .ok (.iconst 3, 1) := by decide +kernel
theorem d_Mod_sortResult_69 : decode m_Mod_sortResult.2.1 69 = .ok (.if_icmp .ge 61, 3) := by decide +kernel
theorem d_Mod_sortResult_72 : decode m_Mod_sortResult.2.1 72 = .ok (.aload_n 0, 1) := by decide +kernel
theorem d_Mod_sortResult_73 : decode m_Mod_sortResult.2.1 73 = .ok (.getfield 51, 3) := by decide +kernel
theorem d_Mod_sortResult_76 : decode m_Mod_sortResult.2.1 76 = .ok (.iload_n 2, 1) := by decide +kernel
theorem d_Mod_sortResult_77 : decode m_Mod_sortResult.2.1 77 = .ok (.iconst 3, 1) := by decide +kernel
theorem d_Mod_sortResult_78 : decode m_Mod_sortResult.2.1 78 = .ok (.imul, 1) := by decide +kernel
theorem d_Mod_sortResult_79 : decode m_Mod_sortResult.2.1 79 = .ok (.iload 4, 2) := by decide +kernel
theorem d_Mod_sortResult_81 : decode m_Mod_sortResult.2.1 81 = .ok (.iadd, 1) := by decide +kernel
theorem d_Mod_sortResult_82 : decode m_Mod_sortResult.2.1 82 = .ok (.iaload, 1) := by decide +kernel
theorem d_Mod_sortResult_83 : decode m_Mod_sortResult.2.1 83 = .ok (.istore 5, 2) := by decide +kernel
theorem d_Mod_sortResult_85 : decode m_Mod_sortResult.2.1 85 = .ok (.aload_n 0, 1) := by decide +kernel
theorem d_Mod_sortResult_86 : decode m_Mod_sortResult.2.1 86 = .ok (.getfield 51, 3) := by decide +kernel
theorem d_Mod_sortResult_89 : decode m_Mod_sortResult.2.1 89 = .ok (.iload_n 2, 1) := by decide +kernel
theorem d_Mod_sortResult_90 : decode m_Mod_sortResult.2.1 90 = .ok (.iconst 3, 1) := by decide +kernel
theorem d_Mod_sortResult_91 : decode m_Mod_sortResult.2.1 91 = .ok (.imul, 1) := by decide +kernel
theorem d_Mod_sortResult_92 : decode m_Mod_sortResult.2.1 92 = .ok (.iload 4, 2) := by decide +kernel
theorem d_Mod_sortResult_94 : decode m_Mod_sortResult.2.1 94 = .ok (.iadd, 1) := by decide +kernel
theorem d_Mod_sortResult_95 : decode m_Mod_sortResult.2.1 95 = .ok (.aload_n 0, 1) := by decide +kernel
theorem d_Mod_sortResult_96 : decode m_Mod_sortResult.2.1 96 = .ok (.getfield 51, 3) := by decide +kernel
theorem d_Mod_sortResult_99 : decode m_Mod_sortResult.2.1 99 = .ok (.iload_n 2, 1) := by decide +kernel
theorem d_Mod_sortResult_100 : decode m_Mod_sortResult.2.1 100 = .ok (.iconst 3, 1) := by decide +kernel
theorem d_Mod_sortResult_101 : decode m_Mod_sortResult.2.1 101 = .ok (.imul, 1) := by decide +kernel
theorem d_Mod_sortResult_102 : decode m_Mod_sortResult.2.1 102 = .ok (.iconst 3, 1) := by decide +kernel
theorem d_Mod_sortResult_103 : decode m_Mod_sortResult.2.1 103 = .ok (.isub, 1) := by decide +kernel
theorem d_Mod_sortResult_104 : decode m_Mod_sortResult.2.1 104 = .ok (.iload 4, 2) := by decide +kernel
theorem d_Mod_sortResult_106 : decode m_Mod_sortResult.2.1 106 = .ok (.iadd, 1) := by decide +kernel
theorem d_Mod_sortResult_107 : decode m_Mod_sortResult.2.1 107 = .ok (.iaload, 1) := by decide +kernel
theorem d_Mod_sortResult_108 : decode m_Mod_sortResult.2.1 108 = .ok (.iastore, 1) := by decide +kernel
theorem d_Mod_sortResult_109 : decode m_Mod_sortResult.2.1 109 = .ok (.aload_n 0, 1) := by decide +kernel
theorem d_Mod_sortResult_110 : decode m_Mod_sortResult.2.1 110 = .ok (.getfield 51, 3) := by decide +kernel
theorem d_Mod_sortResult_113 : decode m_Mod_sortResult.2.1 113 = .ok (.iload_n 2, 1) := by decide +kernel
theorem d_Mod_sortResult_114 : decode m_Mod_sortResult.2.1 114 = .ok (.iconst 3, 1) := by decide +kernel
theorem d_Mod_sortResult_115 : decode m_Mod_sortResult.2.1 115 = .ok (.imul, 1) := by decide +kernel
theorem d_Mod_sortResult_116 : decode m_Mod_sortResult.2.1 116 = .ok (.iconst 3, 1) := by decide +kernel
theorem d_Mod_sortResult_117 : decode m_Mod_sortResult.2.1 117 = .ok (.isub, 1) := by decide +kernel
theorem d_Mod_sortResult_118 : decode m_Mod_sortResult.2.1 118 = .ok (.iload 4, 2) := by decide +kernel
theorem d_Mod_sortResult_120 : decode m_Mod_sortResult.2.1 120 = .ok (.iadd, 1) := by decide +kernel
theorem d_Mod_sortResult_121 : decode m_Mod_sortResult.2.1 121 = .ok (.iload 5, 2) := by decide +kernel
theorem d_Mod_sortResult_123 : decode m_Mod_sortResult.2.1 123 = .ok (.iastore, 1) := by decide +kernel
theorem d_Mod_sortResult_124 : decode m_Mod_sortResult.2.1 124 = .ok (.iinc 4 1, 3) := by decide +kernel
theorem d_Mod_sortResult_127 : decode m_Mod_sortResult.2.1 127 = .ok (.goto (-61), 3) := by decide +kernel
theorem d_Mod_sortResult_130 : decode m_Mod_sortResult.2.1 130 = .ok (.iinc 2 (-1), 3) := by decide +kernel
theorem d_Mod_sortResult_133 : decode m_Mod_sortResult.2.1 133 = .ok (.goto (-121), 3) := by decide +kernel
theorem d_Mod_sortResult_136 : decode m_Mod_sortResult.2.1 136 = .ok (.iinc 1 1, 3) := by decide +kernel
theorem d_Mod_sortResult_139 : decode m_Mod_sortResult.2.1 139 = .ok (.goto (-137), 3) := by decide +kernel
theorem d_Mod_sortResult_142 : decode m_Mod_sortResult.2.1 142 = .ok (.return_, 1) := by decide +kernel
theorem d_Mod_ask_0 : decode m_Mod_ask.2.1 0 = .ok (.aload_n 0, 1) := by decide +kernel
theorem d_Mod_ask_1 : decode m_Mod_ask.2.1 1 = .ok (.aload_n 0, 1) := by decide +kernel
theorem d_Mod_ask_2 : decode m_Mod_ask.2.1 2 = .ok (.iconst 4, 1) := by decide +kernel
theorem d_Mod_ask_3 : decode m_Mod_ask.2.1 3 = .ok (.invokevirtual 144, 3) := by decide +kernel
theorem d_Mod_ask_6 : decode m_Mod_ask.2.1 6 = .ok (.invokevirtual 70, 3) := by decide +kernel
theorem d_Mod_ask_9 : decode m_Mod_ask.2.1 9 = .ok (.ifCond .eq 5, 3) := by decide +kernel
theorem d_Mod_ask_12 : decode m_Mod_ask.2.1 12 = .ok (.iconst 0, 1) := by decide +kernel
theorem d_Mod_ask_13 : decode m_Mod_ask.2.1 13 = .ok (.ireturn, 1) := by decide +kernel
theorem d_Mod_ask_14 : decode m_Mod_ask.2.1 14 = .ok (.aload_n 0, 1) := by decide +kernel
theorem d_Mod_ask_15 : decode m_Mod_ask.2.1 15 = .ok (.iconst 4, 1) := by decide +kernel
theorem d_Mod_ask_16 : decode m_Mod_ask.2.1 16 = .ok (.iload_n 1, 1) := by decide +kernel
theorem d_Mod_ask_17 : decode m_Mod_ask.2.1 17 = .ok (.invokevirtual 205, 3) := by decide +kernel
theorem d_Mod_ask_20 : decode m_Mod_ask.2.1 20 = .ok (.ireturn, 1) := by decide +kernel
theorem d_Mod_value_0 : decode m_Mod_value.2.1 0 = .ok (.aload_n 0, 1) := by decide +kernel
theorem d_Mod_value_1 : decode m_Mod_value.2.1 1 = .ok (.iconst 0, 1) := by decide +kernel
theorem d_Mod_value_2 : decode m_Mod_value.2.1 2 = .ok (.putfield 63, 3) := by decide +kernel
theorem d_Mod_value_5 : decode m_Mod_value.2.1 5 = .ok (.iload_n 1, 1) := by decide +kernel
theorem d_Mod_value_6 : decode m_Mod_value.2.1 6 = .ok (.iconst 0, 1) := by decide +kernel
theorem d_Mod_value_7 : decode m_Mod_value.2.1 7 = .ok (.aload_n 0, 1) := by decide +kernel
theorem d_Mod_value_8 : decode m_Mod_value.2.1 8 = .ok (.getfield 167, 3) := by decide +kernel
theorem d_Mod_value_11 : decode m_Mod_value.2.1 11 = .ok (.iconst 1, 1) := by decide +kernel
theorem d_Mod_value_12 : decode m_Mod_value.2.1 12 = .ok (.isub, 1) := by decide +kernel
theorem d_Mod_value_13 : decode m_Mod_value.2.1 13 = .ok (.invokestatic 66, 3) := by decide +kernel
theorem d_Mod_value_16 : decode m_Mod_value.2.1 16 = .ok (.ifCond .eq 30, 3) := by decide +kernel
theorem d_Mod_value_19 : decode m_Mod_value.2.1 19 = .ok (.iload_n 2, 1) := by decide +kernel
theorem d_Mod_value_20 : decode m_Mod_value.2.1 20 = .ok (.iconst 0, 1) := by decide +kernel
theorem d_Mod_value_21 : decode m_Mod_value.2.1 21 = .ok (.aload_n 0, 1) := by decide +kernel
theorem d_Mod_value_22 : decode m_Mod_value.2.1 22 = .ok (.getfield 177, 3) := by decide +kernel
theorem d_Mod_value_25 : decode m_Mod_value.2.1 25 = .ok (.iconst 1, 1) := by decide +kernel
theorem d_Mod_value_26 : decode m_Mod_value.2.1 26 = .ok (.isub, 1) := by decide +kernel
theorem d_Mod_value_27 : decode m_Mod_value.2.1 27 = .ok (.invokestatic 66, 3) := by decide +kernel
theorem d_Mod_value_30 : decode m_Mod_value.2.1 30 = .ok (.ifCond .eq 16, 3) := by decide +kernel
theorem d_Mod_value_33 : decode m_Mod_value.2.1 33 = .ok (.aload_n 0, 1) := by decide +kernel
theorem d_Mod_value_34 : decode m_Mod_value.2.1 34 = .ok (.getfield 51, 3) := by decide +kernel
theorem d_Mod_value_37 : decode m_Mod_value.2.1 37 = .ok (.iload_n 1, 1) := by decide +kernel
theorem d_Mod_value_38 : decode m_Mod_value.2.1 38 = .ok (.iconst 3, 1) := by decide +kernel
theorem d_Mod_value_39 : decode m_Mod_value.2.1 39 = .ok (.imul, 1) := by decide +kernel
theorem d_Mod_value_40 : decode m_Mod_value.2.1 40 = .ok (.iload_n 2, 1) := by decide +kernel
theorem d_Mod_value_41 : decode m_Mod_value.2.1 41 = .ok (.iadd, 1) := by decide +kernel
theorem d_Mod_value_42 : decode m_Mod_value.2.1 42 = .ok (.iaload, 1) := by decide +kernel
theorem d_Mod_value_43 : decode m_Mod_value.2.1 43 = .ok (.goto 8, 3) := by decide +kernel
theorem d_Mod_value_46 : decode m_Mod_value.2.1 46 = .ok (.aload_n 0, 1) := by decide +kernel
theorem d_Mod_value_47 : decode m_Mod_value.2.1 47 = .ok (.iconst 1, 1) := by decide +kernel
theorem d_Mod_value_48 : decode m_Mod_value.2.1 48 = .ok (.invokevirtual 77, 3) := by decide +kernel
theorem d_Mod_value_51 : decode m_Mod_value.2.1 51 = .ok (.ireturn, 1) := by decide +kernel
theorem d_Mod_row_0 : decode m_Mod_row.2.1 0 = .ok (.aload_n 0, 1) := by decide +kernel
theorem d_Mod_row_1 : decode m_Mod_row.2.1 1 = .ok (.iload_n 1, 1) := by decide +kernel
theorem d_Mod_row_2 : decode m_Mod_row.2.1 2 = .ok (.iconst 0, 1) := by decide +kernel
theorem d_Mod_row_3 : decode m_Mod_row.2.1 3 = .ok (.iconst 2, 1) := by decide +kernel
theorem d_Mod_row_4 : decode m_Mod_row.2.1 4 = .ok (.invokestatic 66, 3) := by decide +kernel
theorem d_Mod_row_7 : decode m_Mod_row.2.1 7 = .ok (.ifCond .eq 16, 3) := by decide +kernel
theorem d_Mod_row_10 : decode m_Mod_row.2.1 10 = .ok (.iload_n 3, 1) := by decide +kernel
theorem d_Mod_row_11 : decode m_Mod_row.2.1 11 = .ok (.iconst 0, 1) := by decide +kernel
theorem d_Mod_row_12 : decode m_Mod_row.2.1 12 = .ok (.iconst 2, 1) := by decide +kernel
theorem d_Mod_row_13 : decode m_Mod_row.2.1 13 = .ok (.invokestatic 66, 3) := by decide +kernel
theorem d_Mod_row_16 : decode m_Mod_row.2.1 16 = .ok (.ifCond .eq 7, 3) := by decide +kernel
theorem d_Mod_row_19 : decode m_Mod_row.2.1 19 = .ok (.iconst 1, 1) := by decide +kernel
theorem d_Mod_row_20 : decode m_Mod_row.2.1 20 = .ok (.goto 4, 3) := by decide +kernel
theorem d_Mod_row_23 : decode m_Mod_row.2.1 23 = .ok (.iconst 0, 1) := by decide +kernel
theorem d_Mod_row_24 : decode m_Mod_row.2.1 24 = .ok (.invokevirtual 70, 3) := by decide +kernel
theorem d_Mod_row_27 : decode m_Mod_row.2.1 27 = .ok (.ifCond .eq 5, 3) := by decide +kernel
theorem d_Mod_row_30 : decode m_Mod_row.2.1 30 = .ok (.iconst 0, 1) := by decide +kernel
theorem d_Mod_row_31 : decode m_Mod_row.2.1 31 = .ok (.ireturn, 1) := by decide +kernel
theorem d_Mod_row_32 : decode m_Mod_row.2.1 32 = .ok (.iload_n 2, 1) := by decide +kernel
theorem d_Mod_row_33 : decode m_Mod_row.2.1 33 = .ok (.iconst 0, 1) := by decide +kernel
theorem d_Mod_row_34 : decode m_Mod_row.2.1 34 = .ok (.aload_n 0, 1) := by decide +kernel
theorem d_Mod_row_35 : decode m_Mod_row.2.1 35 = .ok (.getfield 19, 3) := by decide +kernel
theorem d_Mod_row_38 : decode m_Mod_row.2.1 38 = .ok (.iload_n 1, 1) := by decide +kernel
theorem d_Mod_row_39 : decode m_Mod_row.2.1 39 = .ok (.iaload, 1) := by decide +kernel
theorem d_Mod_row_40 : decode m_Mod_row.2.1 40 = .ok (.iconst 1, 1) := by decide +kernel
theorem d_Mod_row_41 : decode m_Mod_row.2.1 41 = .ok (.isub, 1) := by decide +kernel
theorem d_Mod_row_42 : decode m_Mod_row.2.1 42 = .ok (.invokestatic 66, 3) := by decide +kernel
theorem d_Mod_row_45 : decode m_Mod_row.2.1 45 = .ok (.ifCond .eq 21, 3) := by decide +kernel
theorem d_Mod_row_48 : decode m_Mod_row.2.1 48 = .ok (.aload_n 0, 1) := by decide +kernel
theorem d_Mod_row_49 : decode m_Mod_row.2.1 49 = .ok (.getfield 16, 3) := by decide +kernel
theorem d_Mod_row_52 : decode m_Mod_row.2.1 52 = .ok (.iload_n 1, 1) := by decide +kernel
theorem d_Mod_row_53 : decode m_Mod_row.2.1 53 = .ok (.bipush 60, 2) := by decide +kernel
theorem d_Mod_row_55 : decode m_Mod_row.2.1 55 = .ok (.imul, 1) := by decide +kernel
theorem d_Mod_row_56 : decode m_Mod_row.2.1 56 = .ok (.iload_n 2, 1) := by decide +kernel
theorem d_Mod_row_57 : decode m_Mod_row.2.1 57 = .ok (.iconst 3, 1) := by decide +kernel
theorem d_Mod_row_58 : decode m_Mod_row.2.1 58 = .ok (.imul, 1) := by decide +kernel
theorem d_Mod_row_59 : decode m_Mod_row.2.1 59 = .ok (.iadd, 1) := by decide +kernel
theorem d_Mod_row_60 : decode m_Mod_row.2.1 60 = .ok (.iload_n 3, 1) := by decide +kernel
theorem d_Mod_row_61 : decode m_Mod_row.2.1 61 = .ok (.iadd, 1) := by decide +kernel
theorem d_Mod_row_62 : decode m_Mod_row.2.1 62 = .ok (.iaload, 1) := by decide +kernel
theorem d_Mod_row_63 : decode m_Mod_row.2.1 63 = .ok (.goto 8, 3) := by decide +kernel
theorem d_Mod_row_66 : decode m_Mod_row.2.1 66 = .ok (.aload_n 0, 1) := by decide +kernel
theorem d_Mod_row_67 : decode m_Mod_row.2.1 67 = .ok (.iconst 2, 1) := by decide +kernel
theorem d_Mod_row_68 : decode m_Mod_row.2.1 68 = .ok (.invokevirtual 77, 3) := by decide +kernel
theorem d_Mod_row_71 : decode m_Mod_row.2.1 71 = .ok (.ireturn, 1) := by decide +kernel
theorem d_Mod_begin_0 : decode m_Mod_begin.2.1 0 = .ok (.aload_n 0, 1) := by decide +kernel
theorem d_Mod_begin_1 : decode m_Mod_begin.2.1 1 = .ok (.aload_n 0, 1) := by decide +kernel
theorem d_Mod_begin_2 : decode m_Mod_begin.2.1 2 = .ok (.getfield 195, 3) := by decide +kernel
theorem d_Mod_begin_5 : decode m_Mod_begin.2.1 5 = .ok (.ifCond .eq 7, 3) := by decide +kernel
theorem d_Mod_begin_8 : decode m_Mod_begin.2.1 8 = .ok (.iconst 1, 1) := by decide +kernel
theorem d_Mod_begin_9 : decode m_Mod_begin.2.1 9 = .ok (.goto 4, 3) := by decide +kernel
theorem d_Mod_begin_12 : decode m_Mod_begin.2.1 12 = .ok (.iconst 0, 1) := by decide +kernel
theorem d_Mod_begin_13 : decode m_Mod_begin.2.1 13 = .ok (.putfield 63, 3) := by decide +kernel
theorem d_Mod_begin_16 : decode m_Mod_begin.2.1 16 = .ok (.aload_n 0, 1) := by decide +kernel
theorem d_Mod_begin_17 : decode m_Mod_begin.2.1 17 = .ok (.getfield 63, 3) := by decide +kernel
theorem d_Mod_begin_20 : decode m_Mod_begin.2.1 20 = .ok (.ifCond .le 4, 3) := by decide +kernel
theorem d_Mod_begin_23 : decode m_Mod_begin.2.1 23 = .ok (.return_, 1) := by decide +kernel
theorem d_Mod_begin_24 : decode m_Mod_begin.2.1 24 = .ok (.aload_n 0, 1) := by decide +kernel
theorem d_Mod_begin_25 : decode m_Mod_begin.2.1 25 = .ok (.iconst 1, 1) := by decide +kernel
theorem d_Mod_begin_26 : decode m_Mod_begin.2.1 26 = .ok (.putfield 195, 3) := by decide +kernel
theorem d_Mod_begin_29 : decode m_Mod_begin.2.1 29 = .ok (.aload_n 0, 1) := by decide +kernel
theorem d_Mod_begin_30 : decode m_Mod_begin.2.1 30 = .ok (.iconst 0, 1) := by decide +kernel
theorem d_Mod_begin_31 : decode m_Mod_begin.2.1 31 = .ok (.putfield 199, 3) := by decide +kernel
theorem d_Mod_begin_34 : decode m_Mod_begin.2.1 34 = .ok (.iconst 0, 1) := by decide +kernel
theorem d_Mod_begin_35 : decode m_Mod_begin.2.1 35 = .ok (.istore_n 1, 1) := by decide +kernel
theorem d_Mod_begin_36 : decode m_Mod_begin.2.1 36 = .ok (.iload_n 1, 1) := by decide +kernel
theorem d_Mod_begin_37 : decode m_Mod_begin.2.1 37 = .ok (.sipush 180, 3) := by decide +kernel
theorem d_Mod_begin_40 : decode m_Mod_begin.2.1 40 = .ok (.if_icmp .ge 21, 3) := by decide +kernel
theorem d_Mod_begin_43 : decode m_Mod_begin.2.1 43 = .ok (.aload_n 0, 1) := by decide +kernel
theorem d_Mod_begin_44 : decode m_Mod_begin.2.1 44 = .ok (.getfield 22, 3) := by decide +kernel
theorem d_Mod_begin_47 : decode m_Mod_begin.2.1 47 = .ok (.iload_n 1, 1) := by decide +kernel
theorem d_Mod_begin_48 : decode m_Mod_begin.2.1 48 = .ok (.aload_n 0, 1) := by decide +kernel
theorem d_Mod_begin_49 : decode m_Mod_begin.2.1 49 = .ok (.getfield 16, 3) := by decide +kernel
theorem d_Mod_begin_52 : decode m_Mod_begin.2.1 52 = .ok (.iload_n 1, 1) := by decide +kernel
theorem d_Mod_begin_53 : decode m_Mod_begin.2.1 53 = .ok (.iaload, 1) := by decide +kernel
theorem d_Mod_begin_54 : decode m_Mod_begin.2.1 54 = .ok (.iastore, 1) := by decide +kernel
theorem d_Mod_begin_55 : decode m_Mod_begin.2.1 55 = .ok (.iinc 1 1, 3) := by decide +kernel
theorem d_Mod_begin_58 : decode m_Mod_begin.2.1 58 = .ok (.goto (-22), 3) := by decide +kernel
theorem d_Mod_begin_61 : decode m_Mod_begin.2.1 61 = .ok (.iconst 0, 1) := by decide +kernel
theorem d_Mod_begin_62 : decode m_Mod_begin.2.1 62 = .ok (.istore_n 1, 1) := by decide +kernel
theorem d_Mod_begin_63 : decode m_Mod_begin.2.1 63 = .ok (.iload_n 1, 1) := by decide +kernel
theorem d_Mod_begin_64 : decode m_Mod_begin.2.1 64 = .ok (.iconst 3, 1) := by decide +kernel
theorem d_Mod_begin_65 : decode m_Mod_begin.2.1 65 = .ok (.if_icmp .ge 21, 3) := by decide +kernel
theorem d_Mod_begin_68 : decode m_Mod_begin.2.1 68 = .ok (.aload_n 0, 1) := by decide +kernel
theorem d_Mod_begin_69 : decode m_Mod_begin.2.1 69 = .ok (.getfield 25, 3) := by decide +kernel
theorem d_Mod_begin_72 : decode m_Mod_begin.2.1 72 = .ok (.iload_n 1, 1) := by decide +kernel
theorem d_Mod_begin_73 : decode m_Mod_begin.2.1 73 = .ok (.aload_n 0, 1) := by decide +kernel
theorem d_Mod_begin_74 : decode m_Mod_begin.2.1 74 = .ok (.getfield 19, 3) := by decide +kernel
theorem d_Mod_begin_77 : decode m_Mod_begin.2.1 77 = .ok (.iload_n 1, 1) := by decide +kernel
theorem d_Mod_begin_78 : decode m_Mod_begin.2.1 78 = .ok (.iaload, 1) := by decide +kernel
theorem d_Mod_begin_79 : decode m_Mod_begin.2.1 79 = .ok (.iastore, 1) := by decide +kernel
theorem d_Mod_begin_80 : decode m_Mod_begin.2.1 80 = .ok (.iinc 1 1, 3) := by decide +kernel
theorem d_Mod_begin_83 : decode m_Mod_begin.2.1 83 = .ok (.goto (-20), 3) := by decide +kernel
theorem d_Mod_begin_86 : decode m_Mod_begin.2.1 86 = .ok (.return_, 1) := by decide +kernel
theorem d_Mod_end_0 : decode m_Mod_end.2.1 0 = .ok (.aload_n 0, 1) := by decide +kernel
theorem d_Mod_end_1 : decode m_Mod_end.2.1 1 = .ok (.invokevirtual 208, 3) := by decide +kernel
theorem d_Mod_end_4 : decode m_Mod_end.2.1 4 = .ok (.ireturn, 1) := by decide +kernel
theorem d_Mod_finish_0 : decode m_Mod_finish.2.1 0 = .ok (.aload_n 0, 1) := by decide +kernel
theorem d_Mod_finish_1 : decode m_Mod_finish.2.1 1 = .ok (.aload_n 0, 1) := by decide +kernel
theorem d_Mod_finish_2 : decode m_Mod_finish.2.1 2 = .ok (.getfield 195, 3) := by decide +kernel
theorem d_Mod_finish_5 : decode m_Mod_finish.2.1 5 = .ok (.ifCond .eq 7, 3) := by decide +kernel
theorem d_Mod_finish_8 : decode m_Mod_finish.2.1 8 = .ok (.iconst 0, 1) := by decide +kernel
theorem d_Mod_finish_9 : decode m_Mod_finish.2.1 9 = .ok (.goto 4, 3) := by decide +kernel
theorem d_Mod_finish_12 : decode m_Mod_finish.2.1 12 = .ok (.iconst 1, 1) := by decide +kernel
theorem d_Mod_finish_13 : decode m_Mod_finish.2.1 13 = .ok (.putfield 63, 3) := by decide +kernel
theorem d_Mod_finish_16 : decode m_Mod_finish.2.1 16 = .ok (.aload_n 0, 1) := by decide +kernel
theorem d_Mod_finish_17 : decode m_Mod_finish.2.1 17 = .ok (.iconst 0, 1) := by decide +kernel
theorem d_Mod_finish_18 : decode m_Mod_finish.2.1 18 = .ok (.putfield 195, 3) := by decide +kernel
theorem d_Mod_finish_21 : decode m_Mod_finish.2.1 21 = .ok (.aload_n 0, 1) := by decide +kernel
theorem d_Mod_finish_22 : decode m_Mod_finish.2.1 22 = .ok (.getfield 199, 3) := by decide +kernel
theorem d_Mod_finish_25 : decode m_Mod_finish.2.1 25 = .ok (.istore_n 1, 1) := by decide +kernel
theorem d_Mod_finish_26 : decode m_Mod_finish.2.1 26 = .ok (.aload_n 0, 1) := by decide +kernel
theorem d_Mod_finish_27 : decode m_Mod_finish.2.1 27 = .ok (.iconst 0, 1) := by decide +kernel
theorem d_Mod_finish_28 : decode m_Mod_finish.2.1 28 = .ok (.putfield 199, 3) := by decide +kernel
theorem d_Mod_finish_31 : decode m_Mod_finish.2.1 31 = .ok (.aload_n 0, 1) := by decide +kernel
theorem d_Mod_finish_32 : decode m_Mod_finish.2.1 32 = .ok (.getfield 63, 3) := by decide +kernel
theorem d_Mod_finish_35 : decode m_Mod_finish.2.1 35 = .ok (.ifCond .le 7, 3) := by decide +kernel
theorem d_Mod_finish_38 : decode m_Mod_finish.2.1 38 = .ok (.iconst 0, 1) := by decide +kernel
theorem d_Mod_finish_39 : decode m_Mod_finish.2.1 39 = .ok (.goto 4, 3) := by decide +kernel
theorem d_Mod_finish_42 : decode m_Mod_finish.2.1 42 = .ok (.iload_n 1, 1) := by decide +kernel
theorem d_Mod_finish_43 : decode m_Mod_finish.2.1 43 = .ok (.ireturn, 1) := by decide +kernel
theorem d_Mod_back_0 : decode m_Mod_back.2.1 0 = .ok (.aload_n 0, 1) := by decide +kernel
theorem d_Mod_back_1 : decode m_Mod_back.2.1 1 = .ok (.getfield 195, 3) := by decide +kernel
theorem d_Mod_back_4 : decode m_Mod_back.2.1 4 = .ok (.ifCond .eq 55, 3) := by decide +kernel
theorem d_Mod_back_7 : decode m_Mod_back.2.1 7 = .ok (.iconst 0, 1) := by decide +kernel
theorem d_Mod_back_8 : decode m_Mod_back.2.1 8 = .ok (.istore_n 1, 1) := by decide +kernel
theorem d_Mod_back_9 : decode m_Mod_back.2.1 9 = .ok (.iload_n 1, 1) := by decide +kernel
theorem d_Mod_back_10 : decode m_Mod_back.2.1 10 = .ok (.sipush 180, 3) := by decide +kernel
theorem d_Mod_back_13 : decode m_Mod_back.2.1 13 = .ok (.if_icmp .ge 21, 3) := by decide +kernel
theorem d_Mod_back_16 : decode m_Mod_back.2.1 16 = .ok (.aload_n 0, 1) := by decide +kernel
theorem d_Mod_back_17 : decode m_Mod_back.2.1 17 = .ok (.getfield 16, 3) := by decide +kernel
theorem d_Mod_back_20 : decode m_Mod_back.2.1 20 = .ok (.iload_n 1, 1) := by decide +kernel
theorem d_Mod_back_21 : decode m_Mod_back.2.1 21 = .ok (.aload_n 0, 1) := by decide +kernel
theorem d_Mod_back_22 : decode m_Mod_back.2.1 22 = .ok (.getfield 22, 3) := by decide +kernel
theorem d_Mod_back_25 : decode m_Mod_back.2.1 25 = .ok (.iload_n 1, 1) := by decide +kernel
theorem d_Mod_back_26 : decode m_Mod_back.2.1 26 = .ok (.iaload, 1) := by decide +kernel
theorem d_Mod_back_27 : decode m_Mod_back.2.1 27 = .ok (.iastore, 1) := by decide +kernel
theorem d_Mod_back_28 : decode m_Mod_back.2.1 28 = .ok (.iinc 1 1, 3) := by decide +kernel
theorem d_Mod_back_31 : decode m_Mod_back.2.1 31 = .ok (.goto (-22), 3) := by decide +kernel
theorem d_Mod_back_34 : decode m_Mod_back.2.1 34 = .ok (.iconst 0, 1) := by decide +kernel
theorem d_Mod_back_35 : decode m_Mod_back.2.1 35 = .ok (.istore_n 1, 1) := by decide +kernel
theorem d_Mod_back_36 : decode m_Mod_back.2.1 36 = .ok (.iload_n 1, 1) := by decide +kernel
theorem d_Mod_back_37 : decode m_Mod_back.2.1 37 = .ok (.iconst 3, 1) := by decide +kernel
theorem d_Mod_back_38 : decode m_Mod_back.2.1 38 = .ok (.if_icmp .ge 21, 3) := by decide +kernel
theorem d_Mod_back_41 : decode m_Mod_back.2.1 41 = .ok (.aload_n 0, 1) := by decide +kernel
theorem d_Mod_back_42 : decode m_Mod_back.2.1 42 = .ok (.getfield 19, 3) := by decide +kernel
theorem d_Mod_back_45 : decode m_Mod_back.2.1 45 = .ok (.iload_n 1, 1) := by decide +kernel
theorem d_Mod_back_46 : decode m_Mod_back.2.1 46 = .ok (.aload_n 0, 1) := by decide +kernel
theorem d_Mod_back_47 : decode m_Mod_back.2.1 47 = .ok (.getfield 25, 3) := by decide +kernel
theorem d_Mod_back_50 : decode m_Mod_back.2.1 50 = .ok (.iload_n 1, 1) := by decide +kernel
theorem d_Mod_back_51 : decode m_Mod_back.2.1 51 = .ok (.iaload, 1) := by decide +kernel
theorem d_Mod_back_52 : decode m_Mod_back.2.1 52 = .ok (.iastore, 1) := by decide +kernel
theorem d_Mod_back_53 : decode m_Mod_back.2.1 53 = .ok (.iinc 1 1, 3) := by decide +kernel
theorem d_Mod_back_56 : decode m_Mod_back.2.1 56 = .ok (.goto (-20), 3) := by decide +kernel
theorem d_Mod_back_59 : decode m_Mod_back.2.1 59 = .ok (.aload_n 0, 1) := by decide +kernel
theorem d_Mod_back_60 : decode m_Mod_back.2.1 60 = .ok (.invokevirtual 208, 3) := by decide +kernel
theorem d_Mod_back_63 : decode m_Mod_back.2.1 63 = .ok (.ireturn, 1) := by decide +kernel
theorem d_Mod_count_0 : decode m_Mod_count.2.1 0 = .ok (.aload_n 0, 1) := by decide +kernel
theorem d_Mod_count_1 : decode m_Mod_count.2.1 1 = .ok (.iconst 0, 1) := by decide +kernel
theorem d_Mod_count_2 : decode m_Mod_count.2.1 2 = .ok (.putfield 63, 3) := by decide +kernel
theorem d_Mod_count_5 : decode m_Mod_count.2.1 5 = .ok (.iconst 0, 1) := by decide +kernel
theorem d_Mod_count_6 : decode m_Mod_count.2.1 6 = .ok (.istore_n 2, 1) := by decide +kernel
theorem d_Mod_count_7 : decode m_Mod_count.2.1 7 = .ok (.iconst 0, 1) := by decide +kernel
theorem d_Mod_count_8 : decode m_Mod_count.2.1 8 = .ok (.istore_n 3, 1) := by decide +kernel
theorem d_Mod_count_9 : decode m_Mod_count.2.1 9 = .ok (.iload_n 3, 1) := by decide +kernel
theorem d_Mod_count_10 : decode m_Mod_count.2.1 10 = .ok (.iconst 4, 1) := by decide +kernel
theorem d_Mod_count_11 : decode m_Mod_count.2.1 11 = .ok (.if_icmp .ge 21, 3) := by decide +kernel
theorem d_Mod_count_14 : decode m_Mod_count.2.1 14 = .ok (.aload_n 0, 1) := by decide +kernel
theorem d_Mod_count_15 : decode m_Mod_count.2.1 15 = .ok (.getfield 28, 3) := by decide +kernel
theorem d_Mod_count_18 : decode m_Mod_count.2.1 18 = .ok (.iload_n 3, 1) := by decide +kernel
theorem d_Mod_count_19 : decode m_Mod_count.2.1 19 = .ok (.baload, 1) := by decide +kernel
theorem d_Mod_count_20 : decode m_Mod_count.2.1 20 = .ok (.ifCond .eq 6, 3) := by decide +kernel
theorem d_Mod_count_23 : decode m_Mod_count.2.1 23 = .ok (.iinc 2 1, 3) := by decide +kernel
theorem d_Mod_count_26 : decode m_Mod_count.2.1 26 = .ok (.iinc 3 1, 3) := by decide +kernel
theorem d_Mod_count_29 : decode m_Mod_count.2.1 29 = .ok (.goto (-20), 3) := by decide +kernel
theorem d_Mod_count_32 : decode m_Mod_count.2.1 32 = .ok (.iload_n 1, 1) := by decide +kernel
theorem d_Mod_count_33 : decode m_Mod_count.2.1 33 = .ok (.tableswitch 133 0 11 #[63, 68, 73, 75, 75, 75, 84, 89, 105, 118, 123, 128], 63) := by decide +kernel
theorem d_Mod_count_96 : decode m_Mod_count.2.1 96 = .ok (.aload_n 0, 1) := by decide +kernel
theorem d_Mod_count_97 : decode m_Mod_count.2.1 97 = .ok (.getfield 32, 3) := by decide +kernel
theorem d_Mod_count_100 : decode m_Mod_count.2.1 100 = .ok (.ireturn, 1) := by decide +kernel
theorem d_Mod_count_101 : decode m_Mod_count.2.1 101 = .ok (.aload_n 0, 1) := by decide +kernel
theorem d_Mod_count_102 : decode m_Mod_count.2.1 102 = .ok (.getfield 74, 3) := by decide +kernel
theorem d_Mod_count_105 : decode m_Mod_count.2.1 105 = .ok (.ireturn, 1) := by decide +kernel
theorem d_Mod_count_106 : decode m_Mod_count.2.1 106 = .ok (.iload_n 2, 1) := by decide +kernel
theorem d_Mod_count_107 : decode m_Mod_count.2.1 107 = .ok (.ireturn, 1) := by decide +kernel
theorem d_Mod_count_108 : decode m_Mod_count.2.1 108 = .ok (.aload_n 0, 1) := by decide +kernel
theorem d_Mod_count_109 : decode m_Mod_count.2.1 109 = .ok (.getfield 19, 3) := by decide +kernel
theorem d_Mod_count_112 : decode m_Mod_count.2.1 112 = .ok (.iload_n 1, 1) := by decide +kernel
theorem d_Mod_count_113 : decode m_Mod_count.2.1 113 = .ok (.iconst 3, 1) := by decide +kernel
theorem d_Mod_count_114 : decode m_Mod_count.2.1 114 = .ok (.isub, 1) := by decide +kernel
theorem d_Mod_count_115 : decode m_Mod_count.2.1 115 = .ok (.iaload, 1) := by decide +kernel
theorem d_Mod_count_116 : decode m_Mod_count.2.1 116 = .ok (.ireturn, 1) := by decide +kernel
theorem d_Mod_count_117 : decode m_Mod_count.2.1 117 = .ok (.aload_n 0, 1) := by decide +kernel
theorem d_Mod_count_118 : decode m_Mod_count.2.1 118 = .ok (.getfield 167, 3) := by decide +kernel
theorem d_Mod_count_121 : decode m_Mod_count.2.1 121 = .ok (.ireturn, 1) := by decide +kernel
theorem d_Mod_count_122 : decode m_Mod_count.2.1 122 = .ok (.aload_n 0, 1) := by decide +kernel
theorem d_Mod_count_123 : decode m_Mod_count.2.1 123 = .ok (.getfield 167, 3) := by decide +kernel
theorem d_Mod_count_126 : decode m_Mod_count.2.1 126 = .ok (.ifCond .le 10, 3) := by decide +kernel
theorem d_Mod_count_129 : decode m_Mod_count.2.1 129 = .ok (.aload_n 0, 1) := by decide +kernel
theorem d_Mod_count_130 : decode m_Mod_count.2.1 130 = .ok (.getfield 177, 3) := by decide +kernel
theorem d_Mod_count_133 : decode m_Mod_count.2.1 133 = .ok (.goto 4, 3) := by decide +kernel
theorem d_Mod_count_136 : decode m_Mod_count.2.1 136 = .ok (.iconst 0, 1) := by decide +kernel
theorem d_Mod_count_137 : decode m_Mod_count.2.1 137 = .ok (.ireturn, 1) := by decide +kernel
theorem d_Mod_count_138 : decode m_Mod_count.2.1 138 = .ok (.aload_n 0, 1) := by decide +kernel
theorem d_Mod_count_139 : decode m_Mod_count.2.1 139 = .ok (.getfield 195, 3) := by decide +kernel
theorem d_Mod_count_142 : decode m_Mod_count.2.1 142 = .ok (.ifCond .eq 7, 3) := by decide +kernel
theorem d_Mod_count_145 : decode m_Mod_count.2.1 145 = .ok (.iconst 1, 1) := by decide +kernel
theorem d_Mod_count_146 : decode m_Mod_count.2.1 146 = .ok (.goto 4, 3) := by decide +kernel
theorem d_Mod_count_149 : decode m_Mod_count.2.1 149 = .ok (.iconst 0, 1) := by decide +kernel
theorem d_Mod_count_150 : decode m_Mod_count.2.1 150 = .ok (.ireturn, 1) := by decide +kernel
theorem d_Mod_count_151 : decode m_Mod_count.2.1 151 = .ok (.aload_n 0, 1) := by decide +kernel
theorem d_Mod_count_152 : decode m_Mod_count.2.1 152 = .ok (.getfield 199, 3) := by decide +kernel
theorem d_Mod_count_155 : decode m_Mod_count.2.1 155 = .ok (.ireturn, 1) := by decide +kernel
theorem d_Mod_count_156 : decode m_Mod_count.2.1 156 = .ok (.aload_n 0, 1) := by decide +kernel
theorem d_Mod_count_157 : decode m_Mod_count.2.1 157 = .ok (.getfield 202, 3) := by decide +kernel
theorem d_Mod_count_160 : decode m_Mod_count.2.1 160 = .ok (.ireturn, 1) := by decide +kernel
theorem d_Mod_count_161 : decode m_Mod_count.2.1 161 = .ok (.aload_n 0, 1) := by decide +kernel
theorem d_Mod_count_162 : decode m_Mod_count.2.1 162 = .ok (.getfield 192, 3) := by decide +kernel
theorem d_Mod_count_165 : decode m_Mod_count.2.1 165 = .ok (.ireturn, 1) := by decide +kernel
theorem d_Mod_count_166 : decode m_Mod_count.2.1 166 = .ok (.iconst (-1), 1) := by decide +kernel
theorem d_Mod_count_167 : decode m_Mod_count.2.1 167 = .ok (.ireturn, 1) := by decide +kernel
