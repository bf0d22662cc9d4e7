theorem d_QS_init_0 : decode m_QS_init.2.1 0 = .ok (.aload_n 0, 1) := by decide +kernel
theorem d_QS_init_1 : decode m_QS_init.2.1 1 = .ok (.invokespecial 3, 3) := by decide +kernel
theorem d_QS_init_4 : decode m_QS_init.2.1 4 = .ok (.aload_n 0, 1) := by decide +kernel
theorem d_QS_init_5 : decode m_QS_init.2.1 5 = .ok (.iconst 3, 1) := by decide +kernel
theorem d_QS_init_6 : decode m_QS_init.2.1 6 = .ok (.anewarray 9, 3) := by decide +kernel
theorem d_QS_init_9 : decode m_QS_init.2.1 9 = .ok (.putfield 11, 3) := by decide +kernel
theorem d_QS_init_12 : decode m_QS_init.2.1 12 = .ok (.aload_n 0, 1) := by decide +kernel
theorem d_QS_init_13 : decode m_QS_init.2.1 13 = .ok (.iconst 3, 1) := by decide +kernel
theorem d_QS_init_14 : decode m_QS_init.2.1 14 = .ok (.anewarray 9, 3) := by decide +kernel
theorem d_QS_init_17 : decode m_QS_init.2.1 17 = .ok (.putfield 15, 3) := by decide +kernel
theorem d_QS_init_20 : decode m_QS_init.2.1 20 = .ok (.aload_n 0, 1) := by decide +kernel
theorem d_QS_init_21 : decode m_QS_init.2.1 21 = .ok (.new 18, 3) := by decide +kernel
theorem d_QS_init_24 : decode m_QS_init.2.1 24 = .ok (.dup, 1) := by decide +kernel
theorem d_QS_init_25 : decode m_QS_init.2.1 25 = .ok (.invokespecial 20, 3) := by decide +kernel
theorem d_QS_init_28 : decode m_QS_init.2.1 28 = .ok (.putfield 21, 3) := by decide +kernel
theorem d_QS_init_31 : decode m_QS_init.2.1 31 = .ok (.aload_n 0, 1) := by decide +kernel
theorem d_QS_init_32 : decode m_QS_init.2.1 32 = .ok (.new 25, 3) := by decide +kernel
theorem d_QS_init_35 : decode m_QS_init.2.1 35 = .ok (.dup, 1) := by decide +kernel
theorem d_QS_init_36 : decode m_QS_init.2.1 36 = .ok (.invokespecial 27, 3) := by decide +kernel
theorem d_QS_init_39 : decode m_QS_init.2.1 39 = .ok (.putfield 28, 3) := by decide +kernel
theorem d_QS_init_42 : decode m_QS_init.2.1 42 = .ok (.aload_n 0, 1) := by decide +kernel
theorem d_QS_init_43 : decode m_QS_init.2.1 43 = .ok (.new 32, 3) := by decide +kernel
theorem d_QS_init_46 : decode m_QS_init.2.1 46 = .ok (.dup, 1) := by decide +kernel
theorem d_QS_init_47 : decode m_QS_init.2.1 47 = .ok (.invokespecial 34, 3) := by decide +kernel
theorem d_QS_init_50 : decode m_QS_init.2.1 50 = .ok (.putfield 35, 3) := by decide +kernel
theorem d_QS_init_53 : decode m_QS_init.2.1 53 = .ok (.aload_n 0, 1) := by decide +kernel
theorem d_QS_init_54 : decode m_QS_init.2.1 54 = .ok (.iconst 4, 1) := by decide +kernel
theorem d_QS_init_55 : decode m_QS_init.2.1 55 = .ok (.anewarray 39, 3) := by decide +kernel
theorem d_QS_init_58 : decode m_QS_init.2.1 58 = .ok (.putfield 41, 3) := by decide +kernel
theorem d_QS_init_61 : decode m_QS_init.2.1 61 = .ok (.aload_n 0, 1) := by decide +kernel
theorem d_QS_init_62 : decode m_QS_init.2.1 62 = .ok (.bipush 20, 2) := by decide +kernel
theorem d_QS_init_64 : decode m_QS_init.2.1 64 = .ok (.newarray .boolean, 2) := by decide +kernel
theorem d_QS_init_66 : decode m_QS_init.2.1 66 = .ok (.putfield 45, 3) := by decide +kernel
theorem d_QS_init_69 : decode m_QS_init.2.1 69 = .ok (.aload_n 0, 1) := by decide +kernel
theorem d_QS_init_70 : decode m_QS_init.2.1 70 = .ok (.bipush 20, 2) := by decide +kernel
theorem d_QS_init_72 : decode m_QS_init.2.1 72 = .ok (.newarray .int, 2) := by decide +kernel
theorem d_QS_init_74 : decode m_QS_init.2.1 74 = .ok (.putfield 49, 3) := by decide +kernel
theorem d_QS_init_77 : decode m_QS_init.2.1 77 = .ok (.aload_n 0, 1) := by decide +kernel
theorem d_QS_init_78 : decode m_QS_init.2.1 78 = .ok (.new 39, 3) := by decide +kernel
theorem d_QS_init_81 : decode m_QS_init.2.1 81 = .ok (.dup, 1) := by decide +kernel
theorem d_QS_init_82 : decode m_QS_init.2.1 82 = .ok (.invokespecial 53, 3) := by decide +kernel
theorem d_QS_init_85 : decode m_QS_init.2.1 85 = .ok (.putfield 54, 3) := by decide +kernel
theorem d_QS_init_88 : decode m_QS_init.2.1 88 = .ok (.iconst 0, 1) := by decide +kernel
theorem d_QS_init_89 : decode m_QS_init.2.1 89 = .ok (.istore_n 1, 1) := by decide +kernel
theorem d_QS_init_90 : decode m_QS_init.2.1 90 = .ok (.iload_n 1, 1) := by decide +kernel
theorem d_QS_init_91 : decode m_QS_init.2.1 91 = .ok (.iconst 3, 1) := by decide +kernel
theorem d_QS_init_92 : decode m_QS_init.2.1 92 = .ok (.if_icmp .ge 35, 3) := by decide +kernel
theorem d_QS_init_95 : decode m_QS_init.2.1 95 = .ok (.aload_n 0, 1) := by decide +kernel
theorem d_QS_init_96 : decode m_QS_init.2.1 96 = .ok (.getfield 11, 3) := by decide +kernel
theorem d_QS_init_99 : decode m_QS_init.2.1 99 = .ok (.iload_n 1, 1) := by decide +kernel
theorem d_QS_init_100 : decode m_QS_init.2.1 100 = .ok (.new 9, 3) := by decide +kernel
theorem d_QS_init_103 : decode m_QS_init.2.1 103 = .ok (.dup, 1) := by decide +kernel
theorem d_QS_init_104 : decode m_QS_init.2.1 104 = .ok (.invokespecial 58, 3) := by decide +kernel
theorem d_QS_init_107 : decode m_QS_init.2.1 107 = .ok (.aastore, 1) := by decide +kernel
theorem d_QS_init_108 : decode m_QS_init.2.1 108 = .ok (.aload_n 0, 1) := by decide +kernel
theorem d_QS_init_109 : decode m_QS_init.2.1 109 = .ok (.getfield 15, 3) := by decide +kernel
theorem d_QS_init_112 : decode m_QS_init.2.1 112 = .ok (.iload_n 1, 1) := by decide +kernel
theorem d_QS_init_113 : decode m_QS_init.2.1 113 = .ok (.new 9, 3) := by decide +kernel
theorem d_QS_init_116 : decode m_QS_init.2.1 116 = .ok (.dup, 1) := by decide +kernel
theorem d_QS_init_117 : decode m_QS_init.2.1 117 = .ok (.invokespecial 58, 3) := by decide +kernel
theorem d_QS_init_120 : decode m_QS_init.2.1 120 = .ok (.aastore, 1) := by decide +kernel
theorem d_QS_init_121 : decode m_QS_init.2.1 121 = .ok (.iinc 1 1, 3) := by decide +kernel
theorem d_QS_init_124 : decode m_QS_init.2.1 124 = .ok (.goto (-34), 3) := by decide +kernel
theorem d_QS_init_127 : decode m_QS_init.2.1 127 = .ok (.return_, 1) := by decide +kernel
theorem d_Reader_init_0 : decode m_Reader_init.2.1 0 = .ok (.aload_n 0, 1) := by decide +kernel
theorem d_Reader_init_1 : decode m_Reader_init.2.1 1 = .ok (.invokespecial 3, 3) := by decide +kernel
theorem d_Reader_init_4 : decode m_Reader_init.2.1 4 = .ok (.aload_n 0, 1) := by decide +kernel
theorem d_Reader_init_5 : decode m_Reader_init.2.1 5 = .ok (.bipush 48, 2) := by decide +kernel
theorem d_Reader_init_7 : decode m_Reader_init.2.1 7 = .ok (.newarray .char, 2) := by decide +kernel
theorem d_Reader_init_9 : decode m_Reader_init.2.1 9 = .ok (.putfield 9, 3) := by decide +kernel
theorem d_Reader_init_12 : decode m_Reader_init.2.1 12 = .ok (.aload_n 0, 1) := by decide +kernel
theorem d_Reader_init_13 : decode m_Reader_init.2.1 13 = .ok (.iconst (-1), 1) := by decide +kernel
theorem d_Reader_init_14 : decode m_Reader_init.2.1 14 = .ok (.putfield 15, 3) := by decide +kernel
theorem d_Reader_init_17 : decode m_Reader_init.2.1 17 = .ok (.aload_n 0, 1) := by decide +kernel
theorem d_Reader_init_18 : decode m_Reader_init.2.1 18 = .ok (.ldc 19, 2) := by decide +kernel
theorem d_Reader_init_20 : decode m_Reader_init.2.1 20 = .ok (.putfield 21, 3) := by decide +kernel
theorem d_Reader_init_23 : decode m_Reader_init.2.1 23 = .ok (.return_, 1) := by decide +kernel
theorem d_Machine_init_0 : decode m_Machine_init.2.1 0 = .ok (.aload_n 0, 1) := by decide +kernel
theorem d_Machine_init_1 : decode m_Machine_init.2.1 1 = .ok (.invokespecial 3, 3) := by decide +kernel
theorem d_Machine_init_4 : decode m_Machine_init.2.1 4 = .ok (.aload_n 0, 1) := by decide +kernel
theorem d_Machine_init_5 : decode m_Machine_init.2.1 5 = .ok (.bipush 20, 2) := by decide +kernel
theorem d_Machine_init_7 : decode m_Machine_init.2.1 7 = .ok (.newarray .int, 2) := by decide +kernel
theorem d_Machine_init_9 : decode m_Machine_init.2.1 9 = .ok (.putfield 9, 3) := by decide +kernel
theorem d_Machine_init_12 : decode m_Machine_init.2.1 12 = .ok (.return_, 1) := by decide +kernel
theorem d_Result_init_0 : decode m_Result_init.2.1 0 = .ok (.aload_n 0, 1) := by decide +kernel
theorem d_Result_init_1 : decode m_Result_init.2.1 1 = .ok (.invokespecial 3, 3) := by decide +kernel
theorem d_Result_init_4 : decode m_Result_init.2.1 4 = .ok (.aload_n 0, 1) := by decide +kernel
theorem d_Result_init_5 : decode m_Result_init.2.1 5 = .ok (.bipush 120, 2) := by decide +kernel
theorem d_Result_init_7 : decode m_Result_init.2.1 7 = .ok (.newarray .int, 2) := by decide +kernel
theorem d_Result_init_9 : decode m_Result_init.2.1 9 = .ok (.putfield 9, 3) := by decide +kernel
theorem d_Result_init_12 : decode m_Result_init.2.1 12 = .ok (.aload_n 0, 1) := by decide +kernel
theorem d_Result_init_13 : decode m_Result_init.2.1 13 = .ok (.bipush 40, 2) := by decide +kernel
theorem d_Result_init_15 : decode m_Result_init.2.1 15 = .ok (.newarray .int, 2) := by decide +kernel
theorem d_Result_init_17 : decode m_Result_init.2.1 17 = .ok (.putfield 15, 3) := by decide +kernel
theorem d_Result_init_20 : decode m_Result_init.2.1 20 = .ok (.aload_n 0, 1) := by decide +kernel
theorem d_Result_init_21 : decode m_Result_init.2.1 21 = .ok (.bipush 40, 2) := by decide +kernel
theorem d_Result_init_23 : decode m_Result_init.2.1 23 = .ok (.newarray .int, 2) := by decide +kernel
theorem d_Result_init_25 : decode m_Result_init.2.1 25 = .ok (.putfield 18, 3) := by decide +kernel
theorem d_Result_init_28 : decode m_Result_init.2.1 28 = .ok (.return_, 1) := by decide +kernel
theorem d_Code_init_0 : decode m_Code_init.2.1 0 = .ok (.aload_n 0, 1) := by decide +kernel
theorem d_Code_init_1 : decode m_Code_init.2.1 1 = .ok (.invokespecial 3, 3) := by decide +kernel
theorem d_Code_init_4 : decode m_Code_init.2.1 4 = .ok (.aload_n 0, 1) := by decide +kernel
theorem d_Code_init_5 : decode m_Code_init.2.1 5 = .ok (.bipush 48, 2) := by decide +kernel
theorem d_Code_init_7 : decode m_Code_init.2.1 7 = .ok (.newarray .int, 2) := by decide +kernel
theorem d_Code_init_9 : decode m_Code_init.2.1 9 = .ok (.putfield 9, 3) := by decide +kernel
theorem d_Code_init_12 : decode m_Code_init.2.1 12 = .ok (.aload_n 0, 1) := by decide +kernel
theorem d_Code_init_13 : decode m_Code_init.2.1 13 = .ok (.bipush 48, 2) := by decide +kernel
theorem d_Code_init_15 : decode m_Code_init.2.1 15 = .ok (.newarray .int, 2) := by decide +kernel
theorem d_Code_init_17 : decode m_Code_init.2.1 17 = .ok (.putfield 15, 3) := by decide +kernel
theorem d_Code_init_20 : decode m_Code_init.2.1 20 = .ok (.aload_n 0, 1) := by decide +kernel
theorem d_Code_init_21 : decode m_Code_init.2.1 21 = .ok (.bipush 48, 2) := by decide +kernel
theorem d_Code_init_23 : decode m_Code_init.2.1 23 = .ok (.newarray .int, 2) := by decide +kernel
theorem d_Code_init_25 : decode m_Code_init.2.1 25 = .ok (.putfield 18, 3) := by decide +kernel
theorem d_Code_init_28 : decode m_Code_init.2.1 28 = .ok (.return_, 1) := by decide +kernel
theorem d_Table_init_0 : decode m_Table_init.2.1 0 = .ok (.aload_n 0, 1) := by decide +kernel
theorem d_Table_init_1 : decode m_Table_init.2.1 1 = .ok (.invokespecial 3, 3) := by decide +kernel
theorem d_Table_init_4 : decode m_Table_init.2.1 4 = .ok (.aload_n 0, 1) := by decide +kernel
theorem d_Table_init_5 : decode m_Table_init.2.1 5 = .ok (.bipush 20, 2) := by decide +kernel
theorem d_Table_init_7 : decode m_Table_init.2.1 7 = .ok (.anewarray 9, 3) := by decide +kernel
theorem d_Table_init_10 : decode m_Table_init.2.1 10 = .ok (.putfield 11, 3) := by decide +kernel
theorem d_Table_init_13 : decode m_Table_init.2.1 13 = .ok (.iconst 0, 1) := by decide +kernel
theorem d_Table_init_14 : decode m_Table_init.2.1 14 = .ok (.istore_n 1, 1) := by decide +kernel
theorem d_Table_init_15 : decode m_Table_init.2.1 15 = .ok (.iload_n 1, 1) := by decide +kernel
theorem d_Table_init_16 : decode m_Table_init.2.1 16 = .ok (.bipush 20, 2) := by decide +kernel
theorem d_Table_init_18 : decode m_Table_init.2.1 18 = .ok (.if_icmp .ge 22, 3) := by decide +kernel
theorem d_Table_init_21 : decode m_Table_init.2.1 21 = .ok (.aload_n 0, 1) := by decide +kernel
theorem d_Table_init_22 : decode m_Table_init.2.1 22 = .ok (.getfield 11, 3) := by decide +kernel
theorem d_Table_init_25 : decode m_Table_init.2.1 25 = .ok (.iload_n 1, 1) := by decide +kernel
theorem d_Table_init_26 : decode m_Table_init.2.1 26 = .ok (.new 9, 3) := by decide +kernel
theorem d_Table_init_29 : decode m_Table_init.2.1 29 = .ok (.dup, 1) := by decide +kernel
theorem d_Table_init_30 : decode m_Table_init.2.1 30 = .ok (.invokespecial 17, 3) := by decide +kernel
theorem d_Table_init_33 : decode m_Table_init.2.1 33 = .ok (.aastore, 1) := by decide +kernel
theorem d_Table_init_34 : decode m_Table_init.2.1 34 = .ok (.iinc 1 1, 3) := by decide +kernel
theorem d_Table_init_37 : decode m_Table_init.2.1 37 = .ok (.goto (-22), 3) := by decide +kernel
theorem d_Table_init_40 : decode m_Table_init.2.1 40 = .ok (.return_, 1) := by decide +kernel
theorem d_Page_init_0 : decode m_Page_init.2.1 0 = .ok (.aload_n 0, 1) := by decide +kernel
theorem d_Page_init_1 : decode m_Page_init.2.1 1 = .ok (.invokespecial 3, 3) := by decide +kernel
theorem d_Page_init_4 : decode m_Page_init.2.1 4 = .ok (.aload_n 0, 1) := by decide +kernel
theorem d_Page_init_5 : decode m_Page_init.2.1 5 = .ok (.bipush 12, 2) := by decide +kernel
theorem d_Page_init_7 : decode m_Page_init.2.1 7 = .ok (.newarray .int, 2) := by decide +kernel
theorem d_Page_init_9 : decode m_Page_init.2.1 9 = .ok (.putfield 9, 3) := by decide +kernel
theorem d_Page_init_12 : decode m_Page_init.2.1 12 = .ok (.return_, 1) := by decide +kernel
theorem d_QS_count_0 : decode m_QS_count.2.1 0 = .ok (.iload_n 1, 1) := by decide +kernel
theorem d_QS_count_1 : decode m_QS_count.2.1 1 = .ok (.tableswitch 145 0 11 #[63, 71, 79, 84, 84, 84, 96, 104, 112, 125, 130, 135], 63) := by decide +kernel
theorem d_QS_count_64 : decode m_QS_count.2.1 64 = .ok (.aload_n 0, 1) := by decide +kernel
theorem d_QS_count_65 : decode m_QS_count.2.1 65 = .ok (.getfield 21, 3) := by decide +kernel
theorem d_QS_count_68 : decode m_QS_count.2.1 68 = .ok (.invokevirtual 112, 3) := by decide +kernel
theorem d_QS_count_71 : decode m_QS_count.2.1 71 = .ok (.ireturn, 1) := by decide +kernel
theorem d_QS_count_72 : decode m_QS_count.2.1 72 = .ok (.aload_n 0, 1) := by decide +kernel
theorem d_QS_count_73 : decode m_QS_count.2.1 73 = .ok (.getfield 21, 3) := by decide +kernel
theorem d_QS_count_76 : decode m_QS_count.2.1 76 = .ok (.invokevirtual 115, 3) := by decide +kernel
theorem d_QS_count_79 : decode m_QS_count.2.1 79 = .ok (.ireturn, 1) := by decide +kernel
theorem d_QS_count_80 : decode m_QS_count.2.1 80 = .ok (.aload_n 0, 1) := by decide +kernel
theorem d_QS_count_81 : decode m_QS_count.2.1 81 = .ok (.invokevirtual 118, 3) := by decide +kernel
theorem d_QS_count_84 : decode m_QS_count.2.1 84 = .ok (.ireturn, 1) := by decide +kernel
theorem d_QS_count_85 : decode m_QS_count.2.1 85 = .ok (.aload_n 0, 1) := by decide +kernel
theorem d_QS_count_86 : decode m_QS_count.2.1 86 = .ok (.getfield 11, 3) := by decide +kernel
theorem d_QS_count_89 : decode m_QS_count.2.1 89 = .ok (.iload_n 1, 1) := by decide +kernel
theorem d_QS_count_90 : decode m_QS_count.2.1 90 = .ok (.iconst 3, 1) := by decide +kernel
theorem d_QS_count_91 : decode m_QS_count.2.1 91 = .ok (.isub, 1) := by decide +kernel
theorem d_QS_count_92 : decode m_QS_count.2.1 92 = .ok (.aaload, 1) := by decide +kernel
theorem d_QS_count_93 : decode m_QS_count.2.1 93 = .ok (.invokevirtual 96, 3) := by decide +kernel
theorem d_QS_count_96 : decode m_QS_count.2.1 96 = .ok (.ireturn, 1) := by decide +kernel
theorem d_QS_count_97 : decode m_QS_count.2.1 97 = .ok (.aload_n 0, 1) := by decide +kernel
theorem d_QS_count_98 : decode m_QS_count.2.1 98 = .ok (.getfield 35, 3) := by decide +kernel
theorem d_QS_count_101 : decode m_QS_count.2.1 101 = .ok (.invokevirtual 82, 3) := by decide +kernel
theorem d_QS_count_104 : decode m_QS_count.2.1 104 = .ok (.ireturn, 1) := by decide +kernel
theorem d_QS_count_105 : decode m_QS_count.2.1 105 = .ok (.aload_n 0, 1) := by decide +kernel
theorem d_QS_count_106 : decode m_QS_count.2.1 106 = .ok (.getfield 35, 3) := by decide +kernel
theorem d_QS_count_109 : decode m_QS_count.2.1 109 = .ok (.invokevirtual 86, 3) := by decide +kernel
theorem d_QS_count_112 : decode m_QS_count.2.1 112 = .ok (.ireturn, 1) := by decide +kernel
theorem d_QS_count_113 : decode m_QS_count.2.1 113 = .ok (.aload_n 0, 1) := by decide +kernel
theorem d_QS_count_114 : decode m_QS_count.2.1 114 = .ok (.getfield 98, 3) := by decide +kernel
theorem d_QS_count_117 : decode m_QS_count.2.1 117 = .ok (.ifCond .eq 7, 3) := by decide +kernel
theorem d_QS_count_120 : decode m_QS_count.2.1 120 = .ok (.iconst 1, 1) := by decide +kernel
theorem d_QS_count_121 : decode m_QS_count.2.1 121 = .ok (.goto 4, 3) := by decide +kernel
theorem d_QS_count_124 : decode m_QS_count.2.1 124 = .ok (.iconst 0, 1) := by decide +kernel
theorem d_QS_count_125 : decode m_QS_count.2.1 125 = .ok (.ireturn, 1) := by decide +kernel
theorem d_QS_count_126 : decode m_QS_count.2.1 126 = .ok (.aload_n 0, 1) := by decide +kernel
theorem d_QS_count_127 : decode m_QS_count.2.1 127 = .ok (.getfield 121, 3) := by decide +kernel
theorem d_QS_count_130 : decode m_QS_count.2.1 130 = .ok (.ireturn, 1) := by decide +kernel
theorem d_QS_count_131 : decode m_QS_count.2.1 131 = .ok (.aload_n 0, 1) := by decide +kernel
theorem d_QS_count_132 : decode m_QS_count.2.1 132 = .ok (.getfield 124, 3) := by decide +kernel
theorem d_QS_count_135 : decode m_QS_count.2.1 135 = .ok (.ireturn, 1) := by decide +kernel
theorem d_QS_count_136 : decode m_QS_count.2.1 136 = .ok (.aload_n 0, 1) := by decide +kernel
theorem d_QS_count_137 : decode m_QS_count.2.1 137 = .ok (.getfield 127, 3) := by decide +kernel
theorem d_QS_count_140 : decode m_QS_count.2.1 140 = .ok (.aload_n 0, 1) := by decide +kernel
theorem d_QS_count_141 : decode m_QS_count.2.1 141 = .ok (.getfield 124, 3) := by decide +kernel
theorem d_QS_count_144 : decode m_QS_count.2.1 144 = .ok (.isub, 1) := by decide +kernel
theorem d_QS_count_145 : decode m_QS_count.2.1 145 = .ok (.ireturn, 1) := by decide +kernel
theorem d_QS_count_146 : decode m_QS_count.2.1 146 = .ok (.iconst (-1), 1) := by decide +kernel
theorem d_QS_count_147 : decode m_QS_count.2.1 147 = .ok (.ireturn, 1) := by decide +kernel
theorem d_Reader_place_0 : decode m_Reader_place.2.1 0 = .ok (.aload_n 0, 1) := by decide +kernel
theorem d_Reader_place_1 : decode m_Reader_place.2.1 1 = .ok (.getfield 15, 3) := by decide +kernel
theorem d_Reader_place_4 : decode m_Reader_place.2.1 4 = .ok (.ireturn, 1) := by decide +kernel
theorem d_Reader_length_0 : decode m_Reader_length.2.1 0 = .ok (.aload_n 0, 1) := by decide +kernel
theorem d_Reader_length_1 : decode m_Reader_length.2.1 1 = .ok (.getfield 25, 3) := by decide +kernel
theorem d_Reader_length_4 : decode m_Reader_length.2.1 4 = .ok (.ireturn, 1) := by decide +kernel
theorem d_QS_statementsKept_0 : decode m_QS_statementsKept.2.1 0 = .ok (.iconst 0, 1) := by decide +kernel
theorem d_QS_statementsKept_1 : decode m_QS_statementsKept.2.1 1 = .ok (.istore_n 1, 1) := by decide +kernel
theorem d_QS_statementsKept_2 : decode m_QS_statementsKept.2.1 2 = .ok (.iconst 0, 1) := by decide +kernel
theorem d_QS_statementsKept_3 : decode m_QS_statementsKept.2.1 3 = .ok (.istore_n 2, 1) := by decide +kernel
theorem d_QS_statementsKept_4 : decode m_QS_statementsKept.2.1 4 = .ok (.iload_n 2, 1) := by decide +kernel
theorem d_QS_statementsKept_5 : decode m_QS_statementsKept.2.1 5 = .ok (.iconst 4, 1) := by decide +kernel
theorem d_QS_statementsKept_6 : decode m_QS_statementsKept.2.1 6 = .ok (.if_icmp .ge 21, 3) := by decide +kernel
theorem d_QS_statementsKept_9 : decode m_QS_statementsKept.2.1 9 = .ok (.aload_n 0, 1) := by decide +kernel
theorem d_QS_statementsKept_10 : decode m_QS_statementsKept.2.1 10 = .ok (.getfield 41, 3) := by decide +kernel
theorem d_QS_statementsKept_13 : decode m_QS_statementsKept.2.1 13 = .ok (.iload_n 2, 1) := by decide +kernel
theorem d_QS_statementsKept_14 : decode m_QS_statementsKept.2.1 14 = .ok (.aaload, 1) := by decide +kernel
theorem d_QS_statementsKept_15 : decode m_QS_statementsKept.2.1 15 = .ok (.ifnull 6, 3) := by decide +kernel
theorem d_QS_statementsKept_18 : decode m_QS_statementsKept.2.1 18 = .ok (.iinc 1 1, 3) := by decide +kernel
theorem d_QS_statementsKept_21 : decode m_QS_statementsKept.2.1 21 = .ok (.iinc 2 1, 3) := by decide +kernel
theorem d_QS_statementsKept_24 : decode m_QS_statementsKept.2.1 24 = .ok (.goto (-20), 3) := by decide +kernel
theorem d_QS_statementsKept_27 : decode m_QS_statementsKept.2.1 27 = .ok (.iload_n 1, 1) := by decide +kernel
theorem d_QS_statementsKept_28 : decode m_QS_statementsKept.2.1 28 = .ok (.ireturn, 1) := by decide +kernel
theorem d_Table_size_0 : decode m_Table_size.2.1 0 = .ok (.aload_n 0, 1) := by decide +kernel
theorem d_Table_size_1 : decode m_Table_size.2.1 1 = .ok (.getfield 18, 3) := by decide +kernel
theorem d_Table_size_4 : decode m_Table_size.2.1 4 = .ok (.ireturn, 1) := by decide +kernel
theorem d_Result_size_0 : decode m_Result_size.2.1 0 = .ok (.aload_n 0, 1) := by decide +kernel
theorem d_Result_size_1 : decode m_Result_size.2.1 1 = .ok (.getfield 21, 3) := by decide +kernel
theorem d_Result_size_4 : decode m_Result_size.2.1 4 = .ok (.ireturn, 1) := by decide +kernel
theorem d_Result_width_0 : decode m_Result_width.2.1 0 = .ok (.aload_n 0, 1) := by decide +kernel
theorem d_Result_width_1 : decode m_Result_width.2.1 1 = .ok (.getfield 21, 3) := by decide +kernel
theorem d_Result_width_4 : decode m_Result_width.2.1 4 = .ok (.ifCond .ne 7, 3) := by decide +kernel
theorem d_Result_width_7 : decode m_Result_width.2.1 7 = .ok (.iconst 0, 1) := by decide +kernel
theorem d_Result_width_8 : decode m_Result_width.2.1 8 = .ok (.goto 7, 3) := by decide +kernel
theorem d_Result_width_11 : decode m_Result_width.2.1 11 = .ok (.aload_n 0, 1) := by decide +kernel
theorem d_Result_width_12 : decode m_Result_width.2.1 12 = .ok (.getfield 25, 3) := by decide +kernel
theorem d_Result_width_15 : decode m_Result_width.2.1 15 = .ok (.ireturn, 1) := by decide +kernel
theorem d_QS_type_0 : decode m_QS_type.2.1 0 = .ok (.aload_n 0, 1) := by decide +kernel
theorem d_QS_type_1 : decode m_QS_type.2.1 1 = .ok (.getfield 21, 3) := by decide +kernel
theorem d_QS_type_4 : decode m_QS_type.2.1 4 = .ok (.lload_n 1, 1) := by decide +kernel
theorem d_QS_type_5 : decode m_QS_type.2.1 5 = .ok (.invokevirtual 59, 3) := by decide +kernel
theorem d_QS_type_8 : decode m_QS_type.2.1 8 = .ok (.ireturn, 1) := by decide +kernel
theorem d_Reader_add_0 : decode m_Reader_add.2.1 0 = .ok (.aload_n 0, 1) := by decide +kernel
theorem d_Reader_add_1 : decode m_Reader_add.2.1 1 = .ok (.getfield 25, 3) := by decide +kernel
theorem d_Reader_add_4 : decode m_Reader_add.2.1 4 = .ok (.lload_n 1, 1) := by decide +kernel
theorem d_Reader_add_5 : decode m_Reader_add.2.1 5 = .ok (.invokestatic 28, 3) := by decide +kernel
theorem d_Reader_add_8 : decode m_Reader_add.2.1 8 = .ok (.iadd, 1) := by decide +kernel
theorem d_Reader_add_9 : decode m_Reader_add.2.1 9 = .ok (.bipush 48, 2) := by decide +kernel
theorem d_Reader_add_11 : decode m_Reader_add.2.1 11 = .ok (.if_icmp .le 11, 3) := by decide +kernel
theorem d_Reader_add_14 : decode m_Reader_add.2.1 14 = .ok (.new 32, 3) := by decide +kernel
theorem d_Reader_add_17 : decode m_Reader_add.2.1 17 = .ok (.dup, 1) := by decide +kernel
theorem d_Reader_add_18 : decode m_Reader_add.2.1 18 = .ok (.invokespecial 34, 3) := by decide +kernel
theorem d_Reader_add_21 : decode m_Reader_add.2.1 21 = .ok (.athrow, 1) := by decide +kernel
theorem d_Reader_add_22 : decode m_Reader_add.2.1 22 = .ok (.bipush 56, 2) := by decide +kernel
theorem d_Reader_add_24 : decode m_Reader_add.2.1 24 = .ok (.istore_n 3, 1) := by decide +kernel
theorem d_Reader_add_25 : decode m_Reader_add.2.1 25 = .ok (.iload_n 3, 1) := by decide +kernel
theorem d_Reader_add_26 : decode m_Reader_add.2.1 26 = .ok (.ifCond .lt 40, 3) := by decide +kernel
theorem d_Reader_add_29 : decode m_Reader_add.2.1 29 = .ok (.lload_n 1, 1) := by decide +kernel
theorem d_Reader_add_30 : decode m_Reader_add.2.1 30 = .ok (.iload_n 3, 1) := by decide +kernel
theorem d_Reader_add_31 : decode m_Reader_add.2.1 31 = .ok (.invokestatic 35, 3) := by decide +kernel
theorem d_Reader_add_34 : decode m_Reader_add.2.1 34 = .ok (.istore 4, 2) := by decide +kernel
theorem d_Reader_add_36 : decode m_Reader_add.2.1 36 = .ok (.iload 4, 2) := by decide +kernel
theorem d_Reader_add_38 : decode m_Reader_add.2.1 38 = .ok (.ifCond .eq 22, 3) := by decide +kernel
theorem d_Reader_add_41 : decode m_Reader_add.2.1 41 = .ok (.aload_n 0, 1) := by decide +kernel
theorem d_Reader_add_42 : decode m_Reader_add.2.1 42 = .ok (.getfield 9, 3) := by decide +kernel
theorem d_Reader_add_45 : decode m_Reader_add.2.1 45 = .ok (.aload_n 0, 1) := by decide +kernel
theorem d_Reader_add_46 : decode m_Reader_add.2.1 46 = .ok (.dup, 1) := by decide +kernel
theorem d_Reader_add_47 : decode m_Reader_add.2.1 47 = .ok (.getfield 25, 3) := by decide +kernel
theorem d_Reader_add_50 : decode m_Reader_add.2.1 50 = .ok (.dup_x1, 1) := by decide +kernel
theorem d_Reader_add_51 : decode m_Reader_add.2.1 51 = .ok (.iconst 1, 1) := by decide +kernel
theorem d_Reader_add_52 : decode m_Reader_add.2.1 52 = .ok (.iadd, 1) := by decide +kernel
theorem d_Reader_add_53 : decode m_Reader_add.2.1 53 = .ok (.putfield 25, 3) := by decide +kernel
theorem d_Reader_add_56 : decode m_Reader_add.2.1 56 = .ok (.iload 4, 2) := by decide +kernel
theorem d_Reader_add_58 : decode m_Reader_add.2.1 58 = .ok (.i2c, 1) := by decide +kernel
theorem d_Reader_add_59 : decode m_Reader_add.2.1 59 = .ok (.castore, 1) := by decide +kernel
theorem d_Reader_add_60 : decode m_Reader_add.2.1 60 = .ok (.iinc 3 (-8), 3) := by decide +kernel
theorem d_Reader_add_63 : decode m_Reader_add.2.1 63 = .ok (.goto (-38), 3) := by decide +kernel
theorem d_Reader_add_66 : decode m_Reader_add.2.1 66 = .ok (.aload_n 0, 1) := by decide +kernel
theorem d_Reader_add_67 : decode m_Reader_add.2.1 67 = .ok (.getfield 25, 3) := by decide +kernel
theorem d_Reader_add_70 : decode m_Reader_add.2.1 70 = .ok (.ireturn, 1) := by decide +kernel
theorem d_Reader_charactersIn_0 : decode m_Reader_charactersIn.2.1 0 = .ok (.iconst 0, 1) := by decide +kernel
theorem d_Reader_charactersIn_1 : decode m_Reader_charactersIn.2.1 1 = .ok (.istore_n 2, 1) := by decide +kernel
theorem d_Reader_charactersIn_2 : decode m_Reader_charactersIn.2.1 2 = .ok (.bipush 56, 2) := by decide +kernel
theorem d_Reader_charactersIn_4 : decode m_Reader_charactersIn.2.1 4 = .ok (.istore_n 3, 1) := by decide +kernel
theorem d_Reader_charactersIn_5 : decode m_Reader_charactersIn.2.1 5 = .ok (.iload_n 3, 1) := by decide +kernel
theorem d_Reader_charactersIn_6 : decode m_Reader_charactersIn.2.1 6 = .ok (.ifCond .lt 46, 3) := by decide +kernel
theorem d_Reader_charactersIn_9 : decode m_Reader_charactersIn.2.1 9 = .ok (.lload_n 0, 1) := by decide +kernel
theorem d_Reader_charactersIn_10 : decode m_Reader_charactersIn.2.1 10 = .ok (.iload_n 3, 1) := by decide +kernel
theorem d_Reader_charactersIn_11 : decode m_Reader_charactersIn.2.1 11 = .ok (.invokestatic 35, 3) := by decide +kernel
theorem d_Reader_charactersIn_14 : decode m_Reader_charactersIn.2.1 14 = .ok (.istore 4, 2) := by decide +kernel
theorem d_Reader_charactersIn_16 : decode m_Reader_charactersIn.2.1 16 = .ok (.iload 4, 2) := by decide +kernel
theorem d_Reader_charactersIn_18 : decode m_Reader_charactersIn.2.1 18 = .ok (.ifCond .eq 28, 3) := by decide +kernel
theorem d_Reader_charactersIn_21 : decode m_Reader_charactersIn.2.1 21 = .ok (.iload 4, 2) := by decide +kernel
theorem d_Reader_charactersIn_23 : decode m_Reader_charactersIn.2.1 23 = .ok (.bipush 33, 2) := by decide +kernel
theorem d_Reader_charactersIn_25 : decode m_Reader_charactersIn.2.1 25 = .ok (.if_icmp .lt 10, 3) := by decide +kernel
theorem d_Reader_charactersIn_28 : decode m_Reader_charactersIn.2.1 28 = .ok (.iload 4, 2) := by decide +kernel
theorem d_Reader_charactersIn_30 : decode m_Reader_charactersIn.2.1 30 = .ok (.bipush 126, 2) := by decide +kernel
theorem d_Reader_charactersIn_32 : decode m_Reader_charactersIn.2.1 32 = .ok (.if_icmp .le 11, 3) := by decide +kernel
theorem d_Reader_charactersIn_35 : decode m_Reader_charactersIn.2.1 35 = .ok (.new 39, 3) := by decide +kernel
theorem d_Reader_charactersIn_38 : decode m_Reader_charactersIn.2.1 38 = .ok (.dup, 1) := by decide +kernel
theorem d_Reader_charactersIn_39 : decode m_Reader_charactersIn.2.1 39 = .ok (.invokespecial 41, 3) := by decide +kernel
theorem d_Reader_charactersIn_42 : decode m_Reader_charactersIn.2.1 42 = .ok (.athrow, 1) := by decide +kernel
theorem d_Reader_charactersIn_43 : decode m_Reader_charactersIn.2.1 43 = .ok (.iinc 2 1, 3) := by decide +kernel
theorem d_Reader_charactersIn_46 : decode m_Reader_charactersIn.2.1 46 = .ok (.iinc 3 (-8), 3) := by decide +kernel
theorem d_Reader_charactersIn_49 : decode m_Reader_charactersIn.2.1 49 = .ok (.goto (-44), 3) := by decide +kernel
theorem d_Reader_charactersIn_52 : decode m_Reader_charactersIn.2.1 52 = .ok (.iload_n 2, 1) := by decide +kernel
theorem d_Reader_charactersIn_53 : decode m_Reader_charactersIn.2.1 53 = .ok (.ireturn, 1) := by decide +kernel
theorem d_Reader_byteAt_0 : decode m_Reader_byteAt.2.1 0 = .ok (.lload_n 0, 1) := by decide +kernel
theorem d_Reader_byteAt_1 : decode m_Reader_byteAt.2.1 1 = .ok (.iload_n 2, 1) := by decide +kernel
theorem d_Reader_byteAt_2 : decode m_Reader_byteAt.2.1 2 = .ok (.lushr, 1) := by decide +kernel
theorem d_Reader_byteAt_3 : decode m_Reader_byteAt.2.1 3 = .ok (.l2i, 1) := by decide +kernel
theorem d_Reader_byteAt_4 : decode m_Reader_byteAt.2.1 4 = .ok (.sipush 255, 3) := by decide +kernel
theorem d_Reader_byteAt_7 : decode m_Reader_byteAt.2.1 7 = .ok (.iand, 1) := by decide +kernel
theorem d_Reader_byteAt_8 : decode m_Reader_byteAt.2.1 8 = .ok (.ireturn, 1) := by decide +kernel
theorem d_QS_keep_0 : decode m_QS_keep.2.1 0 = .ok (.iload_n 1, 1) := by decide +kernel
theorem d_QS_keep_1 : decode m_QS_keep.2.1 1 = .ok (.invokestatic 63, 3) := by decide +kernel
theorem d_QS_keep_4 : decode m_QS_keep.2.1 4 = .ok (.aload_n 0, 1) := by decide +kernel
theorem d_QS_keep_5 : decode m_QS_keep.2.1 5 = .ok (.getfield 21, 3) := by decide +kernel
theorem d_QS_keep_8 : decode m_QS_keep.2.1 8 = .ok (.aload_n 0, 1) := by decide +kernel
theorem d_QS_keep_9 : decode m_QS_keep.2.1 9 = .ok (.getfield 54, 3) := by decide +kernel
theorem d_QS_keep_12 : decode m_QS_keep.2.1 12 = .ok (.invokevirtual 67, 3) := by decide +kernel
theorem d_QS_keep_15 : decode m_QS_keep.2.1 15 = .ok (.aload_n 0, 1) := by decide +kernel
theorem d_QS_keep_16 : decode m_QS_keep.2.1 16 = .ok (.getfield 54, 3) := by decide +kernel
theorem d_QS_keep_19 : decode m_QS_keep.2.1 19 = .ok (.astore_n 2, 1) := by decide +kernel
theorem d_QS_keep_20 : decode m_QS_keep.2.1 20 = .ok (.aload_n 0, 1) := by decide +kernel
theorem d_QS_keep_21 : decode m_QS_keep.2.1 21 = .ok (.aload_n 0, 1) := by decide +kernel
theorem d_QS_keep_22 : decode m_QS_keep.2.1 22 = .ok (.getfield 41, 3) := by decide +kernel
theorem d_QS_keep_25 : decode m_QS_keep.2.1 25 = .ok (.iload_n 1, 1) := by decide +kernel
theorem d_QS_keep_26 : decode m_QS_keep.2.1 26 = .ok (.aaload, 1) := by decide +kernel
theorem d_QS_keep_27 : decode m_QS_keep.2.1 27 = .ok (.ifnonnull 13, 3) := by decide +kernel
theorem d_QS_keep_30 : decode m_QS_keep.2.1 30 = .ok (.new 39, 3) := by decide +kernel
theorem d_QS_keep_33 : decode m_QS_keep.2.1 33 = .ok (.dup, 1) := by decide +kernel
theorem d_QS_keep_34 : decode m_QS_keep.2.1 34 = .ok (.invokespecial 53, 3) := by decide +kernel
theorem d_QS_keep_37 : decode m_QS_keep.2.1 37 = .ok (.goto 9, 3) := by decide +kernel
theorem d_QS_keep_40 : decode m_QS_keep.2.1 40 = .ok (.aload_n 0, 1) := by decide +kernel
theorem d_QS_keep_41 : decode m_QS_keep.2.1 41 = .ok (.getfield 41, 3) := by decide +kernel
theorem d_QS_keep_44 : decode m_QS_keep.2.1 44 = .ok (.iload_n 1, 1) := by decide +kernel
theorem d_QS_keep_45 : decode m_QS_keep.2.1 45 = .ok (.aaload, 1) := by decide +kernel
theorem d_QS_keep_46 : decode m_QS_keep.2.1 46 = .ok (.putfield 54, 3) := by decide +kernel
theorem d_QS_keep_49 : decode m_QS_keep.2.1 49 = .ok (.aload_n 0, 1) := by decide +kernel
theorem d_QS_keep_50 : decode m_QS_keep.2.1 50 = .ok (.getfield 41, 3) := by decide +kernel
theorem d_QS_keep_53 : decode m_QS_keep.2.1 53 = .ok (.iload_n 1, 1) := by decide +kernel
theorem d_QS_keep_54 : decode m_QS_keep.2.1 54 = .ok (.aload_n 2, 1) := by decide +kernel
theorem d_QS_keep_55 : decode m_QS_keep.2.1 55 = .ok (.aastore, 1) := by decide +kernel
theorem d_QS_keep_56 : decode m_QS_keep.2.1 56 = .ok (.aload_n 2, 1) := by decide +kernel
theorem d_QS_keep_57 : decode m_QS_keep.2.1 57 = .ok (.getfield 71, 3) := by decide +kernel
theorem d_QS_keep_60 : decode m_QS_keep.2.1 60 = .ok (.ireturn, 1) := by decide +kernel
theorem d_QS_refuseBadNumber_0 : decode m_QS_refuseBadNumber.2.1 0 = .ok (.iload_n 0, 1) := by decide +kernel
theorem d_QS_refuseBadNumber_1 : decode m_QS_refuseBadNumber.2.1 1 = .ok (.ifCond .lt 8, 3) := by decide +kernel
theorem d_QS_refuseBadNumber_4 : decode m_QS_refuseBadNumber.2.1 4 = .ok (.iload_n 0, 1) := by decide +kernel
theorem d_QS_refuseBadNumber_5 : decode m_QS_refuseBadNumber.2.1 5 = .ok (.iconst 4, 1) := by decide +kernel
theorem d_QS_refuseBadNumber_6 : decode m_QS_refuseBadNumber.2.1 6 = .ok (.if_icmp .lt 11, 3) := by decide +kernel
theorem d_QS_refuseBadNumber_9 : decode m_QS_refuseBadNumber.2.1 9 = .ok (.new 93, 3) := by decide +kernel
theorem d_QS_refuseBadNumber_12 : decode m_QS_refuseBadNumber.2.1 12 = .ok (.dup, 1) := by decide +kernel
theorem d_QS_refuseBadNumber_13 : decode m_QS_refuseBadNumber.2.1 13 = .ok (.invokespecial 95, 3) := by decide +kernel
theorem d_QS_refuseBadNumber_16 : decode m_QS_refuseBadNumber.2.1 16 = .ok (.athrow, 1) := by decide +kernel
theorem d_QS_refuseBadNumber_17 : decode m_QS_refuseBadNumber.2.1 17 = .ok (.return_, 1) := by decide +kernel
theorem d_Reader_read_0 : decode m_Reader_read.2.1 0 = .ok (.aload_n 0, 1) := by decide +kernel
theorem d_Reader_read_1 : decode m_Reader_read.2.1 1 = .ok (.aload_n 1, 1) := by decide +kernel
theorem d_Reader_read_2 : decode m_Reader_read.2.1 2 = .ok (.putfield 42, 3) := by decide +kernel
theorem d_Reader_read_5 : decode m_Reader_read.2.1 5 = .ok (.aload_n 0, 1) := by decide +kernel
theorem d_Reader_read_6 : decode m_Reader_read.2.1 6 = .ok (.getfield 42, 3) := by decide +kernel
theorem d_Reader_read_9 : decode m_Reader_read.2.1 9 = .ok (.invokevirtual 46, 3) := by decide +kernel
theorem d_Reader_read_12 : decode m_Reader_read.2.1 12 = .ok (.aload_n 0, 1) := by decide +kernel
theorem d_Reader_read_13 : decode m_Reader_read.2.1 13 = .ok (.iconst 0, 1) := by decide +kernel
theorem d_Reader_read_14 : decode m_Reader_read.2.1 14 = .ok (.putfield 51, 3) := by decide +kernel
theorem d_Reader_read_17 : decode m_Reader_read.2.1 17 = .ok (.aload_n 0, 1) := by decide +kernel
theorem d_Reader_read_18 : decode m_Reader_read.2.1 18 = .ok (.aload_n 0, 1) := by decide +kernel
theorem d_Reader_read_19 : decode m_Reader_read.2.1 19 = .ok (.getfield 25, 3) := by decide +kernel
theorem d_Reader_read_22 : decode m_Reader_read.2.1 22 = .ok (.putfield 54, 3) := by decide +kernel
theorem d_Reader_read_25 : decode m_Reader_read.2.1 25 = .ok (.aload_n 0, 1) := by decide +kernel
theorem d_Reader_read_26 : decode m_Reader_read.2.1 26 = .ok (.iconst 0, 1) := by decide +kernel
theorem d_Reader_read_27 : decode m_Reader_read.2.1 27 = .ok (.putfield 25, 3) := by decide +kernel
theorem d_Reader_read_30 : decode m_Reader_read.2.1 30 = .ok (.aload_n 0, 1) := by decide +kernel
theorem d_Reader_read_31 : decode m_Reader_read.2.1 31 = .ok (.invokevirtual 57, 3) := by decide +kernel
theorem d_Reader_read_34 : decode m_Reader_read.2.1 34 = .ok (.aload_n 0, 1) := by decide +kernel
theorem d_Reader_read_35 : decode m_Reader_read.2.1 35 = .ok (.getfield 42, 3) := by decide +kernel
theorem d_Reader_read_38 : decode m_Reader_read.2.1 38 = .ok (.getfield 60, 3) := by decide +kernel
theorem d_Reader_read_41 : decode m_Reader_read.2.1 41 = .ok (.lookupswitch 75 #[(65, 68), (66, 68), (68, 58), (73, 51), (85, 61)], 51) := by decide +kernel
theorem d_Reader_read_92 : decode m_Reader_read.2.1 92 = .ok (.aload_n 0, 1) := by decide +kernel
theorem d_Reader_read_93 : decode m_Reader_read.2.1 93 = .ok (.invokevirtual 63, 3) := by decide +kernel
theorem d_Reader_read_96 : decode m_Reader_read.2.1 96 = .ok (.goto 24, 3) := by decide +kernel
theorem d_Reader_read_99 : decode m_Reader_read.2.1 99 = .ok (.goto 21, 3) := by decide +kernel
theorem d_Reader_read_102 : decode m_Reader_read.2.1 102 = .ok (.aload_n 0, 1) := by decide +kernel
theorem d_Reader_read_103 : decode m_Reader_read.2.1 103 = .ok (.invokevirtual 66, 3) := by decide +kernel
theorem d_Reader_read_106 : decode m_Reader_read.2.1 106 = .ok (.goto 14, 3) := by decide +kernel
theorem d_Reader_read_109 : decode m_Reader_read.2.1 109 = .ok (.aload_n 0, 1) := by decide +kernel
theorem d_Reader_read_110 : decode m_Reader_read.2.1 110 = .ok (.invokevirtual 69, 3) := by decide +kernel
theorem d_Reader_read_113 : decode m_Reader_read.2.1 113 = .ok (.goto 7, 3) := by decide +kernel
theorem d_Reader_read_116 : decode m_Reader_read.2.1 116 = .ok (.aload_n 0, 1) := by decide +kernel
theorem d_Reader_read_117 : decode m_Reader_read.2.1 117 = .ok (.invokevirtual 72, 3) := by decide +kernel
theorem d_Reader_read_120 : decode m_Reader_read.2.1 120 = .ok (.aload_n 0, 1) := by decide +kernel
theorem d_Reader_read_121 : decode m_Reader_read.2.1 121 = .ok (.getfield 42, 3) := by decide +kernel
theorem d_Reader_read_124 : decode m_Reader_read.2.1 124 = .ok (.bipush 11, 2) := by decide +kernel
theorem d_Reader_read_126 : decode m_Reader_read.2.1 126 = .ok (.iconst 0, 1) := by decide +kernel
theorem d_Reader_read_127 : decode m_Reader_read.2.1 127 = .ok (.iconst 0, 1) := by decide +kernel
theorem d_Reader_read_128 : decode m_Reader_read.2.1 128 = .ok (.invokevirtual 75, 3) := by decide +kernel
theorem d_Reader_read_131 : decode m_Reader_read.2.1 131 = .ok (.aload_n 0, 1) := by decide +kernel
theorem d_Reader_read_132 : decode m_Reader_read.2.1 132 = .ok (.getfield 42, 3) := by decide +kernel
theorem d_Reader_read_135 : decode m_Reader_read.2.1 135 = .ok (.getfield 60, 3) := by decide +kernel
theorem d_Reader_read_138 : decode m_Reader_read.2.1 138 = .ok (.bipush 73, 2) := by decide +kernel
theorem d_Reader_read_140 : decode m_Reader_read.2.1 140 = .ok (.if_icmp .eq 16, 3) := by decide +kernel
theorem d_Reader_read_143 : decode m_Reader_read.2.1 143 = .ok (.aload_n 0, 1) := by decide +kernel
theorem d_Reader_read_144 : decode m_Reader_read.2.1 144 = .ok (.ldc 79, 2) := by decide +kernel
theorem d_Reader_read_146 : decode m_Reader_read.2.1 146 = .ok (.invokevirtual 81, 3) := by decide +kernel
theorem d_Reader_read_149 : decode m_Reader_read.2.1 149 = .ok (.ifCond .eq 7, 3) := by decide +kernel
theorem d_Reader_read_152 : decode m_Reader_read.2.1 152 = .ok (.aload_n 0, 1) := by decide +kernel
theorem d_Reader_read_153 : decode m_Reader_read.2.1 153 = .ok (.invokevirtual 85, 3) := by decide +kernel
theorem d_Reader_read_156 : decode m_Reader_read.2.1 156 = .ok (.aload_n 0, 1) := by decide +kernel
theorem d_Reader_read_157 : decode m_Reader_read.2.1 157 = .ok (.getfield 42, 3) := by decide +kernel
theorem d_Reader_read_160 : decode m_Reader_read.2.1 160 = .ok (.getfield 60, 3) := by decide +kernel
theorem d_Reader_read_163 : decode m_Reader_read.2.1 163 = .ok (.bipush 83, 2) := by decide +kernel
theorem d_Reader_read_165 : decode m_Reader_read.2.1 165 = .ok (.if_icmp .eq 15, 3) := by decide +kernel
theorem d_Reader_read_168 : decode m_Reader_read.2.1 168 = .ok (.aload_n 0, 1) := by decide +kernel
theorem d_Reader_read_169 : decode m_Reader_read.2.1 169 = .ok (.getfield 42, 3) := by decide +kernel
theorem d_Reader_read_172 : decode m_Reader_read.2.1 172 = .ok (.getfield 60, 3) := by decide +kernel
theorem d_Reader_read_175 : decode m_Reader_read.2.1 175 = .ok (.bipush 80, 2) := by decide +kernel
theorem d_Reader_read_177 : decode m_Reader_read.2.1 177 = .ok (.if_icmp .ne 16, 3) := by decide +kernel
theorem d_Reader_read_180 : decode m_Reader_read.2.1 180 = .ok (.aload_n 0, 1) := by decide +kernel
theorem d_Reader_read_181 : decode m_Reader_read.2.1 181 = .ok (.ldc 88, 2) := by decide +kernel
theorem d_Reader_read_183 : decode m_Reader_read.2.1 183 = .ok (.invokevirtual 81, 3) := by decide +kernel
theorem d_Reader_read_186 : decode m_Reader_read.2.1 186 = .ok (.ifCond .eq 7, 3) := by decide +kernel
theorem d_Reader_read_189 : decode m_Reader_read.2.1 189 = .ok (.aload_n 0, 1) := by decide +kernel
theorem d_Reader_read_190 : decode m_Reader_read.2.1 190 = .ok (.invokevirtual 90, 3) := by decide +kernel
theorem d_Reader_read_193 : decode m_Reader_read.2.1 193 = .ok (.aload_n 0, 1) := by decide +kernel
theorem d_Reader_read_194 : decode m_Reader_read.2.1 194 = .ok (.getfield 51, 3) := by decide +kernel
theorem d_Reader_read_197 : decode m_Reader_read.2.1 197 = .ok (.aload_n 0, 1) := by decide +kernel
theorem d_Reader_read_198 : decode m_Reader_read.2.1 198 = .ok (.getfield 54, 3) := by decide +kernel
theorem d_Reader_read_201 : decode m_Reader_read.2.1 201 = .ok (.if_icmp .ge 7, 3) := by decide +kernel
theorem d_Reader_read_204 : decode m_Reader_read.2.1 204 = .ok (.aload_n 0, 1) := by decide +kernel
theorem d_Reader_read_205 : decode m_Reader_read.2.1 205 = .ok (.invokevirtual 93, 3) := by decide +kernel
theorem d_Reader_read_208 : decode m_Reader_read.2.1 208 = .ok (.return_, 1) := by decide +kernel
theorem d_Code_clear_0 : decode m_Code_clear.2.1 0 = .ok (.aload_n 0, 1) := by decide +kernel
theorem d_Code_clear_1 : decode m_Code_clear.2.1 1 = .ok (.iconst 0, 1) := by decide +kernel
theorem d_Code_clear_2 : decode m_Code_clear.2.1 2 = .ok (.putfield 21, 3) := by decide +kernel
theorem d_Code_clear_5 : decode m_Code_clear.2.1 5 = .ok (.aload_n 0, 1) := by decide +kernel
theorem d_Code_clear_6 : decode m_Code_clear.2.1 6 = .ok (.iconst 0, 1) := by decide +kernel
theorem d_Code_clear_7 : decode m_Code_clear.2.1 7 = .ok (.putfield 25, 3) := by decide +kernel
theorem d_Code_clear_10 : decode m_Code_clear.2.1 10 = .ok (.aload_n 0, 1) := by decide +kernel
theorem d_Code_clear_11 : decode m_Code_clear.2.1 11 = .ok (.iconst 0, 1) := by decide +kernel
theorem d_Code_clear_12 : decode m_Code_clear.2.1 12 = .ok (.putfield 28, 3) := by decide +kernel
theorem d_Code_clear_15 : decode m_Code_clear.2.1 15 = .ok (.aload_n 0, 1) := by decide +kernel
theorem d_Code_clear_16 : decode m_Code_clear.2.1 16 = .ok (.iconst (-1), 1) := by decide +kernel
theorem d_Code_clear_17 : decode m_Code_clear.2.1 17 = .ok (.putfield 31, 3) := by decide +kernel
theorem d_Code_clear_20 : decode m_Code_clear.2.1 20 = .ok (.aload_n 0, 1) := by decide +kernel
theorem d_Code_clear_21 : decode m_Code_clear.2.1 21 = .ok (.iconst 0, 1) := by decide +kernel
theorem d_Code_clear_22 : decode m_Code_clear.2.1 22 = .ok (.putfield 34, 3) := by decide +kernel
theorem d_Code_clear_25 : decode m_Code_clear.2.1 25 = .ok (.aload_n 0, 1) := by decide +kernel
theorem d_Code_clear_26 : decode m_Code_clear.2.1 26 = .ok (.iconst 0, 1) := by decide +kernel
theorem d_Code_clear_27 : decode m_Code_clear.2.1 27 = .ok (.putfield 37, 3) := by decide +kernel
theorem d_Code_clear_30 : decode m_Code_clear.2.1 30 = .ok (.aload_n 0, 1) := by decide +kernel
theorem d_Code_clear_31 : decode m_Code_clear.2.1 31 = .ok (.iconst 0, 1) := by decide +kernel
theorem d_Code_clear_32 : decode m_Code_clear.2.1 32 = .ok (.putfield 40, 3) := by decide +kernel
theorem d_Code_clear_35 : decode m_Code_clear.2.1 35 = .ok (.aload_n 0, 1) := by decide +kernel
theorem d_Code_clear_36 : decode m_Code_clear.2.1 36 = .ok (.iconst (-1), 1) := by decide +kernel
theorem d_Code_clear_37 : decode m_Code_clear.2.1 37 = .ok (.putfield 43, 3) := by decide +kernel
theorem d_Code_clear_40 : decode m_Code_clear.2.1 40 = .ok (.aload_n 0, 1) := by decide +kernel
theorem d_Code_clear_41 : decode m_Code_clear.2.1 41 = .ok (.iconst (-1), 1) := by decide +kernel
theorem d_Code_clear_42 : decode m_Code_clear.2.1 42 = .ok (.putfield 46, 3) := by decide +kernel
theorem d_Code_clear_45 : decode m_Code_clear.2.1 45 = .ok (.aload_n 0, 1) := by decide +kernel
theorem d_Code_clear_46 : decode m_Code_clear.2.1 46 = .ok (.iconst 0, 1) := by decide +kernel
theorem d_Code_clear_47 : decode m_Code_clear.2.1 47 = .ok (.putfield 49, 3) := by decide +kernel
theorem d_Code_clear_50 : decode m_Code_clear.2.1 50 = .ok (.return_, 1) := by decide +kernel
theorem d_Reader_readHead_0 : decode m_Reader_readHead.2.1 0 = .ok (.aload_n 0, 1) := by decide +kernel
theorem d_Reader_readHead_1 : decode m_Reader_readHead.2.1 1 = .ok (.getfield 42, 3) := by decide +kernel
theorem d_Reader_readHead_4 : decode m_Reader_readHead.2.1 4 = .ok (.aload_n 0, 1) := by decide +kernel
theorem d_Reader_readHead_5 : decode m_Reader_readHead.2.1 5 = .ok (.ldc 96, 2) := by decide +kernel
theorem d_Reader_readHead_7 : decode m_Reader_readHead.2.1 7 = .ok (.invokevirtual 98, 3) := by decide +kernel
theorem d_Reader_readHead_10 : decode m_Reader_readHead.2.1 10 = .ok (.putfield 60, 3) := by decide +kernel
theorem d_Reader_readHead_13 : decode m_Reader_readHead.2.1 13 = .ok (.aload_n 0, 1) := by decide +kernel
theorem d_Reader_readHead_14 : decode m_Reader_readHead.2.1 14 = .ok (.getfield 42, 3) := by decide +kernel
theorem d_Reader_readHead_17 : decode m_Reader_readHead.2.1 17 = .ok (.aload_n 0, 1) := by decide +kernel
theorem d_Reader_readHead_18 : decode m_Reader_readHead.2.1 18 = .ok (.ldc 102, 2) := by decide +kernel
theorem d_Reader_readHead_20 : decode m_Reader_readHead.2.1 20 = .ok (.invokevirtual 98, 3) := by decide +kernel
theorem d_Reader_readHead_23 : decode m_Reader_readHead.2.1 23 = .ok (.bipush 48, 2) := by decide +kernel
theorem d_Reader_readHead_25 : decode m_Reader_readHead.2.1 25 = .ok (.isub, 1) := by decide +kernel
theorem d_Reader_readHead_26 : decode m_Reader_readHead.2.1 26 = .ok (.putfield 104, 3) := by decide +kernel
theorem d_Reader_readHead_29 : decode m_Reader_readHead.2.1 29 = .ok (.aload_n 0, 1) := by decide +kernel
theorem d_Reader_readHead_30 : decode m_Reader_readHead.2.1 30 = .ok (.aload_n 0, 1) := by decide +kernel
theorem d_Reader_readHead_31 : decode m_Reader_readHead.2.1 31 = .ok (.getfield 42, 3) := by decide +kernel
theorem d_Reader_readHead_34 : decode m_Reader_readHead.2.1 34 = .ok (.getfield 60, 3) := by decide +kernel
theorem d_Reader_readHead_37 : decode m_Reader_readHead.2.1 37 = .ok (.bipush 73, 2) := by decide +kernel
theorem d_Reader_readHead_39 : decode m_Reader_readHead.2.1 39 = .ok (.if_icmp .ne 8, 3) := by decide +kernel
theorem d_Reader_readHead_42 : decode m_Reader_readHead.2.1 42 = .ok (.ldc 19, 2) := by decide +kernel
theorem d_Reader_readHead_44 : decode m_Reader_readHead.2.1 44 = .ok (.goto 5, 3) := by decide +kernel
theorem d_Reader_readHead_47 : decode m_Reader_readHead.2.1 47 = .ok (.ldc 107, 2) := by decide +kernel
theorem d_Reader_readHead_49 : decode m_Reader_readHead.2.1 49 = .ok (.putfield 21, 3) := by decide +kernel
theorem d_Reader_readHead_52 : decode m_Reader_readHead.2.1 52 = .ok (.aload_n 0, 1) := by decide +kernel
theorem d_Reader_readHead_53 : decode m_Reader_readHead.2.1 53 = .ok (.getfield 42, 3) := by decide +kernel
theorem d_Reader_readHead_56 : decode m_Reader_readHead.2.1 56 = .ok (.getfield 60, 3) := by decide +kernel
theorem d_Reader_readHead_59 : decode m_Reader_readHead.2.1 59 = .ok (.bipush 80, 2) := by decide +kernel
theorem d_Reader_readHead_61 : decode m_Reader_readHead.2.1 61 = .ok (.if_icmp .eq 15, 3) := by decide +kernel
theorem d_Reader_readHead_64 : decode m_Reader_readHead.2.1 64 = .ok (.aload_n 0, 1) := by decide +kernel
theorem d_Reader_readHead_65 : decode m_Reader_readHead.2.1 65 = .ok (.getfield 42, 3) := by decide +kernel
theorem d_Reader_readHead_68 : decode m_Reader_readHead.2.1 68 = .ok (.getfield 60, 3) := by decide +kernel
theorem d_Reader_readHead_71 : decode m_Reader_readHead.2.1 71 = .ok (.bipush 66, 2) := by decide +kernel
theorem d_Reader_readHead_73 : decode m_Reader_readHead.2.1 73 = .ok (.if_icmp .ne 25, 3) := by decide +kernel
theorem d_Reader_readHead_76 : decode m_Reader_readHead.2.1 76 = .ok (.aload_n 0, 1) := by decide +kernel
theorem d_Reader_readHead_77 : decode m_Reader_readHead.2.1 77 = .ok (.getfield 42, 3) := by decide +kernel
theorem d_Reader_readHead_80 : decode m_Reader_readHead.2.1 80 = .ok (.aload_n 0, 1) := by decide +kernel
theorem d_Reader_readHead_81 : decode m_Reader_readHead.2.1 81 = .ok (.ldc 102, 2) := by decide +kernel
theorem d_Reader_readHead_83 : decode m_Reader_readHead.2.1 83 = .ok (.invokevirtual 98, 3) := by decide +kernel
theorem d_Reader_readHead_86 : decode m_Reader_readHead.2.1 86 = .ok (.bipush 48, 2) := by decide +kernel
theorem d_Reader_readHead_88 : decode m_Reader_readHead.2.1 88 = .ok (.isub, 1) := by decide +kernel
theorem d_Reader_readHead_89 : decode m_Reader_readHead.2.1 89 = .ok (.putfield 109, 3) := by decide +kernel
theorem d_Reader_readHead_92 : decode m_Reader_readHead.2.1 92 = .ok (.aload_n 0, 1) := by decide +kernel
theorem d_Reader_readHead_93 : decode m_Reader_readHead.2.1 93 = .ok (.ldc 112, 2) := by decide +kernel
theorem d_Reader_readHead_95 : decode m_Reader_readHead.2.1 95 = .ok (.putfield 21, 3) := by decide +kernel
theorem d_Reader_readHead_98 : decode m_Reader_readHead.2.1 98 = .ok (.return_, 1) := by decide +kernel
theorem d_Reader_take_0 : decode m_Reader_take.2.1 0 = .ok (.aload_n 0, 1) := by decide +kernel
theorem d_Reader_take_1 : decode m_Reader_take.2.1 1 = .ok (.getfield 51, 3) := by decide +kernel
theorem d_Reader_take_4 : decode m_Reader_take.2.1 4 = .ok (.aload_n 0, 1) := by decide +kernel
theorem d_Reader_take_5 : decode m_Reader_take.2.1 5 = .ok (.getfield 54, 3) := by decide +kernel
theorem d_Reader_take_8 : decode m_Reader_take.2.1 8 = .ok (.if_icmp .ge 19, 3) := by decide +kernel
theorem d_Reader_take_11 : decode m_Reader_take.2.1 11 = .ok (.aload_n 1, 1) := by decide +kernel
theorem d_Reader_take_12 : decode m_Reader_take.2.1 12 = .ok (.aload_n 0, 1) := by decide +kernel
theorem d_Reader_take_13 : decode m_Reader_take.2.1 13 = .ok (.getfield 9, 3) := by decide +kernel
theorem d_Reader_take_16 : decode m_Reader_take.2.1 16 = .ok (.aload_n 0, 1) := by decide +kernel
theorem d_Reader_take_17 : decode m_Reader_take.2.1 17 = .ok (.getfield 51, 3) := by decide +kernel
theorem d_Reader_take_20 : decode m_Reader_take.2.1 20 = .ok (.caload, 1) := by decide +kernel
theorem d_Reader_take_21 : decode m_Reader_take.2.1 21 = .ok (.invokevirtual 147, 3) := by decide +kernel
theorem d_Reader_take_24 : decode m_Reader_take.2.1 24 = .ok (.ifCond .ge 7, 3) := by decide +kernel
theorem d_Reader_take_27 : decode m_Reader_take.2.1 27 = .ok (.aload_n 0, 1) := by decide +kernel
theorem d_Reader_take_28 : decode m_Reader_take.2.1 28 = .ok (.invokevirtual 93, 3) := by decide +kernel
theorem d_Reader_take_31 : decode m_Reader_take.2.1 31 = .ok (.aload_n 0, 1) := by decide +kernel
theorem d_Reader_take_32 : decode m_Reader_take.2.1 32 = .ok (.getfield 9, 3) := by decide +kernel
theorem d_Reader_take_35 : decode m_Reader_take.2.1 35 = .ok (.aload_n 0, 1) := by decide +kernel
theorem d_Reader_take_36 : decode m_Reader_take.2.1 36 = .ok (.dup, 1) := by decide +kernel
theorem d_Reader_take_37 : decode m_Reader_take.2.1 37 = .ok (.getfield 51, 3) := by decide +kernel
theorem d_Reader_take_40 : decode m_Reader_take.2.1 40 = .ok (.dup_x1, 1) := by decide +kernel
theorem d_Reader_take_41 : decode m_Reader_take.2.1 41 = .ok (.iconst 1, 1) := by decide +kernel
theorem d_Reader_take_42 : decode m_Reader_take.2.1 42 = .ok (.iadd, 1) := by decide +kernel
theorem d_Reader_take_43 : decode m_Reader_take.2.1 43 = .ok (.putfield 51, 3) := by decide +kernel
theorem d_Reader_take_46 : decode m_Reader_take.2.1 46 = .ok (.caload, 1) := by decide +kernel
theorem d_Reader_take_47 : decode m_Reader_take.2.1 47 = .ok (.ireturn, 1) := by decide +kernel
theorem d_Reader_refuse_0 : decode m_Reader_refuse.2.1 0 = .ok (.aload_n 0, 1) := by decide +kernel
theorem d_Reader_refuse_1 : decode m_Reader_refuse.2.1 1 = .ok (.aload_n 0, 1) := by decide +kernel
theorem d_Reader_refuse_2 : decode m_Reader_refuse.2.1 2 = .ok (.getfield 51, 3) := by decide +kernel
theorem d_Reader_refuse_5 : decode m_Reader_refuse.2.1 5 = .ok (.putfield 15, 3) := by decide +kernel
theorem d_Reader_refuse_8 : decode m_Reader_refuse.2.1 8 = .ok (.new 39, 3) := by decide +kernel
theorem d_Reader_refuse_11 : decode m_Reader_refuse.2.1 11 = .ok (.dup, 1) := by decide +kernel
theorem d_Reader_refuse_12 : decode m_Reader_refuse.2.1 12 = .ok (.invokespecial 41, 3) := by decide +kernel
theorem d_Reader_refuse_15 : decode m_Reader_refuse.2.1 15 = .ok (.athrow, 1) := by decide +kernel
theorem d_Reader_readNewRow_0 : decode m_Reader_readNewRow.2.1 0 = .ok (.aload_n 0, 1) := by decide +kernel
theorem d_Reader_readNewRow_1 : decode m_Reader_readNewRow.2.1 1 = .ok (.ldc 114, 2) := by decide +kernel
theorem d_Reader_readNewRow_3 : decode m_Reader_readNewRow.2.1 3 = .ok (.invokevirtual 98, 3) := by decide +kernel
theorem d_Reader_readNewRow_6 : decode m_Reader_readNewRow.2.1 6 = .ok (.pop, 1) := by decide +kernel
theorem d_Reader_readNewRow_7 : decode m_Reader_readNewRow.2.1 7 = .ok (.aload_n 0, 1) := by decide +kernel
theorem d_Reader_readNewRow_8 : decode m_Reader_readNewRow.2.1 8 = .ok (.bipush 7, 2) := by decide +kernel
theorem d_Reader_readNewRow_10 : decode m_Reader_readNewRow.2.1 10 = .ok (.iconst 1, 1) := by decide +kernel
theorem d_Reader_readNewRow_11 : decode m_Reader_readNewRow.2.1 11 = .ok (.invokevirtual 116, 3) := by decide +kernel
theorem d_Reader_readNewRow_14 : decode m_Reader_readNewRow.2.1 14 = .ok (.aload_n 0, 1) := by decide +kernel
theorem d_Reader_readNewRow_15 : decode m_Reader_readNewRow.2.1 15 = .ok (.ldc 120, 2) := by decide +kernel
theorem d_Reader_readNewRow_17 : decode m_Reader_readNewRow.2.1 17 = .ok (.invokevirtual 98, 3) := by decide +kernel
theorem d_Reader_readNewRow_20 : decode m_Reader_readNewRow.2.1 20 = .ok (.pop, 1) := by decide +kernel
theorem d_Reader_readNewRow_21 : decode m_Reader_readNewRow.2.1 21 = .ok (.aload_n 0, 1) := by decide +kernel
theorem d_Reader_readNewRow_22 : decode m_Reader_readNewRow.2.1 22 = .ok (.bipush 8, 2) := by decide +kernel
theorem d_Reader_readNewRow_24 : decode m_Reader_readNewRow.2.1 24 = .ok (.iconst 1, 1) := by decide +kernel
theorem d_Reader_readNewRow_25 : decode m_Reader_readNewRow.2.1 25 = .ok (.invokevirtual 116, 3) := by decide +kernel
theorem d_Reader_readNewRow_28 : decode m_Reader_readNewRow.2.1 28 = .ok (.aload_n 0, 1) := by decide +kernel
theorem d_Reader_readNewRow_29 : decode m_Reader_readNewRow.2.1 29 = .ok (.ldc 120, 2) := by decide +kernel
theorem d_Reader_readNewRow_31 : decode m_Reader_readNewRow.2.1 31 = .ok (.invokevirtual 98, 3) := by decide +kernel
theorem d_Reader_readNewRow_34 : decode m_Reader_readNewRow.2.1 34 = .ok (.pop, 1) := by decide +kernel
theorem d_Reader_readNewRow_35 : decode m_Reader_readNewRow.2.1 35 = .ok (.aload_n 0, 1) := by decide +kernel
theorem d_Reader_readNewRow_36 : decode m_Reader_readNewRow.2.1 36 = .ok (.bipush 9, 2) := by decide +kernel
theorem d_Reader_readNewRow_38 : decode m_Reader_readNewRow.2.1 38 = .ok (.iconst 1, 1) := by decide +kernel
theorem d_Reader_readNewRow_39 : decode m_Reader_readNewRow.2.1 39 = .ok (.invokevirtual 116, 3) := by decide +kernel
theorem d_Reader_readNewRow_42 : decode m_Reader_readNewRow.2.1 42 = .ok (.aload_n 0, 1) := by decide +kernel
theorem d_Reader_readNewRow_43 : decode m_Reader_readNewRow.2.1 43 = .ok (.ldc 122, 2) := by decide +kernel
theorem d_Reader_readNewRow_45 : decode m_Reader_readNewRow.2.1 45 = .ok (.invokevirtual 98, 3) := by decide +kernel
theorem d_Reader_readNewRow_48 : decode m_Reader_readNewRow.2.1 48 = .ok (.pop, 1) := by decide +kernel
theorem d_Reader_readNewRow_49 : decode m_Reader_readNewRow.2.1 49 = .ok (.return_, 1) := by decide +kernel
theorem d_Reader_readSum_0 : decode m_Reader_readSum.2.1 0 = .ok (.aload_n 0, 1) := by decide +kernel
theorem d_Reader_readSum_1 : decode m_Reader_readSum.2.1 1 = .ok (.iload_n 1, 1) := by decide +kernel
theorem d_Reader_readSum_2 : decode m_Reader_readSum.2.1 2 = .ok (.iload_n 2, 1) := by decide +kernel
theorem d_Reader_readSum_3 : decode m_Reader_readSum.2.1 3 = .ok (.invokevirtual 166, 3) := by decide +kernel
theorem d_Reader_readSum_6 : decode m_Reader_readSum.2.1 6 = .ok (.iconst 0, 1) := by decide +kernel
theorem d_Reader_readSum_7 : decode m_Reader_readSum.2.1 7 = .ok (.istore_n 3, 1) := by decide +kernel
theorem d_Reader_readSum_8 : decode m_Reader_readSum.2.1 8 = .ok (.iload_n 3, 1) := by decide +kernel
theorem d_Reader_readSum_9 : decode m_Reader_readSum.2.1 9 = .ok (.bipush 48, 2) := by decide +kernel
theorem d_Reader_readSum_11 : decode m_Reader_readSum.2.1 11 = .ok (.if_icmp .ge 52, 3) := by decide +kernel
theorem d_Reader_readSum_14 : decode m_Reader_readSum.2.1 14 = .ok (.aload_n 0, 1) := by decide +kernel
theorem d_Reader_readSum_15 : decode m_Reader_readSum.2.1 15 = .ok (.ldc 169, 2) := by decide +kernel
theorem d_Reader_readSum_17 : decode m_Reader_readSum.2.1 17 = .ok (.invokevirtual 81, 3) := by decide +kernel
theorem d_Reader_readSum_20 : decode m_Reader_readSum.2.1 20 = .ok (.ifCond .eq 43, 3) := by decide +kernel
theorem d_Reader_readSum_23 : decode m_Reader_readSum.2.1 23 = .ok (.iconst 3, 1) := by decide +kernel
theorem d_Reader_readSum_24 : decode m_Reader_readSum.2.1 24 = .ok (.ldc 169, 2) := by decide +kernel
theorem d_Reader_readSum_26 : decode m_Reader_readSum.2.1 26 = .ok (.aload_n 0, 1) := by decide +kernel
theorem d_Reader_readSum_27 : decode m_Reader_readSum.2.1 27 = .ok (.ldc 169, 2) := by decide +kernel
theorem d_Reader_readSum_29 : decode m_Reader_readSum.2.1 29 = .ok (.invokevirtual 98, 3) := by decide +kernel
theorem d_Reader_readSum_32 : decode m_Reader_readSum.2.1 32 = .ok (.invokevirtual 147, 3) := by decide +kernel
theorem d_Reader_readSum_35 : decode m_Reader_readSum.2.1 35 = .ok (.iadd, 1) := by decide +kernel
theorem d_Reader_readSum_36 : decode m_Reader_readSum.2.1 36 = .ok (.istore 4, 2) := by decide +kernel
theorem d_Reader_readSum_38 : decode m_Reader_readSum.2.1 38 = .ok (.aload_n 0, 1) := by decide +kernel
theorem d_Reader_readSum_39 : decode m_Reader_readSum.2.1 39 = .ok (.iload_n 1, 1) := by decide +kernel
theorem d_Reader_readSum_40 : decode m_Reader_readSum.2.1 40 = .ok (.iconst 1, 1) := by decide +kernel
theorem d_Reader_readSum_41 : decode m_Reader_readSum.2.1 41 = .ok (.iadd, 1) := by decide +kernel
theorem d_Reader_readSum_42 : decode m_Reader_readSum.2.1 42 = .ok (.iload_n 2, 1) := by decide +kernel
theorem d_Reader_readSum_43 : decode m_Reader_readSum.2.1 43 = .ok (.invokevirtual 166, 3) := by decide +kernel
theorem d_Reader_readSum_46 : decode m_Reader_readSum.2.1 46 = .ok (.aload_n 0, 1) := by decide +kernel
theorem d_Reader_readSum_47 : decode m_Reader_readSum.2.1 47 = .ok (.getfield 42, 3) := by decide +kernel
theorem d_Reader_readSum_50 : decode m_Reader_readSum.2.1 50 = .ok (.iload 4, 2) := by decide +kernel
theorem d_Reader_readSum_52 : decode m_Reader_readSum.2.1 52 = .ok (.iload_n 1, 1) := by decide +kernel
theorem d_Reader_readSum_53 : decode m_Reader_readSum.2.1 53 = .ok (.iconst 0, 1) := by decide +kernel
theorem d_Reader_readSum_54 : decode m_Reader_readSum.2.1 54 = .ok (.invokevirtual 75, 3) := by decide +kernel
theorem d_Reader_readSum_57 : decode m_Reader_readSum.2.1 57 = .ok (.iinc 3 1, 3) := by decide +kernel
theorem d_Reader_readSum_60 : decode m_Reader_readSum.2.1 60 = .ok (.goto (-52), 3) := by decide +kernel
theorem d_Reader_readSum_63 : decode m_Reader_readSum.2.1 63 = .ok (.return_, 1) := by decide +kernel
theorem d_Reader_readTerm_0 : decode m_Reader_readTerm.2.1 0 = .ok (.aload_n 0, 1) := by decide +kernel
theorem d_Reader_readTerm_1 : decode m_Reader_readTerm.2.1 1 = .ok (.iload_n 1, 1) := by decide +kernel
theorem d_Reader_readTerm_2 : decode m_Reader_readTerm.2.1 2 = .ok (.iload_n 2, 1) := by decide +kernel
theorem d_Reader_readTerm_3 : decode m_Reader_readTerm.2.1 3 = .ok (.invokevirtual 171, 3) := by decide +kernel
theorem d_Reader_readTerm_6 : decode m_Reader_readTerm.2.1 6 = .ok (.iconst 0, 1) := by decide +kernel
theorem d_Reader_readTerm_7 : decode m_Reader_readTerm.2.1 7 = .ok (.istore_n 3, 1) := by decide +kernel
theorem d_Reader_readTerm_8 : decode m_Reader_readTerm.2.1 8 = .ok (.iload_n 3, 1) := by decide +kernel
theorem d_Reader_readTerm_9 : decode m_Reader_readTerm.2.1 9 = .ok (.bipush 48, 2) := by decide +kernel
theorem d_Reader_readTerm_11 : decode m_Reader_readTerm.2.1 11 = .ok (.if_icmp .ge 52, 3) := by decide +kernel
theorem d_Reader_readTerm_14 : decode m_Reader_readTerm.2.1 14 = .ok (.aload_n 0, 1) := by decide +kernel
theorem d_Reader_readTerm_15 : decode m_Reader_readTerm.2.1 15 = .ok (.ldc 174, 2) := by decide +kernel
theorem d_Reader_readTerm_17 : decode m_Reader_readTerm.2.1 17 = .ok (.invokevirtual 81, 3) := by decide +kernel
theorem d_Reader_readTerm_20 : decode m_Reader_readTerm.2.1 20 = .ok (.ifCond .eq 43, 3) := by decide +kernel
theorem d_Reader_readTerm_23 : decode m_Reader_readTerm.2.1 23 = .ok (.iconst 5, 1) := by decide +kernel
theorem d_Reader_readTerm_24 : decode m_Reader_readTerm.2.1 24 = .ok (.ldc 174, 2) := by decide +kernel
theorem d_Reader_readTerm_26 : decode m_Reader_readTerm.2.1 26 = .ok (.aload_n 0, 1) := by decide +kernel
theorem d_Reader_readTerm_27 : decode m_Reader_readTerm.2.1 27 = .ok (.ldc 174, 2) := by decide +kernel
theorem d_Reader_readTerm_29 : decode m_Reader_readTerm.2.1 29 = .ok (.invokevirtual 98, 3) := by decide +kernel
theorem d_Reader_readTerm_32 : decode m_Reader_readTerm.2.1 32 = .ok (.invokevirtual 147, 3) := by decide +kernel
theorem d_Reader_readTerm_35 : decode m_Reader_readTerm.2.1 35 = .ok (.iadd, 1) := by decide +kernel
theorem d_Reader_readTerm_36 : decode m_Reader_readTerm.2.1 36 = .ok (.istore 4, 2) := by decide +kernel
theorem d_Reader_readTerm_38 : decode m_Reader_readTerm.2.1 38 = .ok (.aload_n 0, 1) := by decide +kernel
theorem d_Reader_readTerm_39 : decode m_Reader_readTerm.2.1 39 = .ok (.iload_n 1, 1) := by decide +kernel
theorem d_Reader_readTerm_40 : decode m_Reader_readTerm.2.1 40 = .ok (.iconst 1, 1) := by decide +kernel
theorem d_Reader_readTerm_41 : decode m_Reader_readTerm.2.1 41 = .ok (.iadd, 1) := by decide +kernel
theorem d_Reader_readTerm_42 : decode m_Reader_readTerm.2.1 42 = .ok (.iload_n 2, 1) := by decide +kernel
theorem d_Reader_readTerm_43 : decode m_Reader_readTerm.2.1 43 = .ok (.invokevirtual 171, 3) := by decide +kernel
theorem d_Reader_readTerm_46 : decode m_Reader_readTerm.2.1 46 = .ok (.aload_n 0, 1) := by decide +kernel
theorem d_Reader_readTerm_47 : decode m_Reader_readTerm.2.1 47 = .ok (.getfield 42, 3) := by decide +kernel
theorem d_Reader_readTerm_50 : decode m_Reader_readTerm.2.1 50 = .ok (.iload 4, 2) := by decide +kernel
theorem d_Reader_readTerm_52 : decode m_Reader_readTerm.2.1 52 = .ok (.iload_n 1, 1) := by decide +kernel
theorem d_Reader_readTerm_53 : decode m_Reader_readTerm.2.1 53 = .ok (.iconst 0, 1) := by decide +kernel
theorem d_Reader_readTerm_54 : decode m_Reader_readTerm.2.1 54 = .ok (.invokevirtual 75, 3) := by decide +kernel
theorem d_Reader_readTerm_57 : decode m_Reader_readTerm.2.1 57 = .ok (.iinc 3 1, 3) := by decide +kernel
theorem d_Reader_readTerm_60 : decode m_Reader_readTerm.2.1 60 = .ok (.goto (-52), 3) := by decide +kernel
theorem d_Reader_readTerm_63 : decode m_Reader_readTerm.2.1 63 = .ok (.return_, 1) := by decide +kernel
theorem d_Reader_readUnit_0 : decode m_Reader_readUnit.2.1 0 = .ok (.aload_n 0, 1) := by decide +kernel
theorem d_Reader_readUnit_1 : decode m_Reader_readUnit.2.1 1 = .ok (.ldc 176, 2) := by decide +kernel
theorem d_Reader_readUnit_3 : decode m_Reader_readUnit.2.1 3 = .ok (.invokevirtual 81, 3) := by decide +kernel
theorem d_Reader_readUnit_6 : decode m_Reader_readUnit.2.1 6 = .ok (.ifCond .eq 19, 3) := by decide +kernel
theorem d_Reader_readUnit_9 : decode m_Reader_readUnit.2.1 9 = .ok (.aload_n 0, 1) := by decide +kernel
theorem d_Reader_readUnit_10 : decode m_Reader_readUnit.2.1 10 = .ok (.getfield 42, 3) := by decide +kernel
theorem d_Reader_readUnit_13 : decode m_Reader_readUnit.2.1 13 = .ok (.iconst 0, 1) := by decide +kernel
theorem d_Reader_readUnit_14 : decode m_Reader_readUnit.2.1 14 = .ok (.iload_n 1, 1) := by decide +kernel
theorem d_Reader_readUnit_15 : decode m_Reader_readUnit.2.1 15 = .ok (.aload_n 0, 1) := by decide +kernel
theorem d_Reader_readUnit_16 : decode m_Reader_readUnit.2.1 16 = .ok (.invokevirtual 178, 3) := by decide +kernel
theorem d_Reader_readUnit_19 : decode m_Reader_readUnit.2.1 19 = .ok (.invokevirtual 75, 3) := by decide +kernel
theorem d_Reader_readUnit_22 : decode m_Reader_readUnit.2.1 22 = .ok (.goto 165, 3) := by decide +kernel
theorem d_Reader_readUnit_25 : decode m_Reader_readUnit.2.1 25 = .ok (.aload_n 0, 1) := by decide +kernel
theorem d_Reader_readUnit_26 : decode m_Reader_readUnit.2.1 26 = .ok (.aload_n 0, 1) := by decide +kernel
theorem d_Reader_readUnit_27 : decode m_Reader_readUnit.2.1 27 = .ok (.getfield 21, 3) := by decide +kernel
theorem d_Reader_readUnit_30 : decode m_Reader_readUnit.2.1 30 = .ok (.invokevirtual 81, 3) := by decide +kernel
theorem d_Reader_readUnit_33 : decode m_Reader_readUnit.2.1 33 = .ok (.ifCond .eq 26, 3) := by decide +kernel
theorem d_Reader_readUnit_36 : decode m_Reader_readUnit.2.1 36 = .ok (.aload_n 0, 1) := by decide +kernel
theorem d_Reader_readUnit_37 : decode m_Reader_readUnit.2.1 37 = .ok (.getfield 42, 3) := by decide +kernel
theorem d_Reader_readUnit_40 : decode m_Reader_readUnit.2.1 40 = .ok (.iconst 1, 1) := by decide +kernel
theorem d_Reader_readUnit_41 : decode m_Reader_readUnit.2.1 41 = .ok (.iload_n 1, 1) := by decide +kernel
theorem d_Reader_readUnit_42 : decode m_Reader_readUnit.2.1 42 = .ok (.aload_n 0, 1) := by decide +kernel
theorem d_Reader_readUnit_43 : decode m_Reader_readUnit.2.1 43 = .ok (.aload_n 0, 1) := by decide +kernel
theorem d_Reader_readUnit_44 : decode m_Reader_readUnit.2.1 44 = .ok (.getfield 21, 3) := by decide +kernel
theorem d_Reader_readUnit_47 : decode m_Reader_readUnit.2.1 47 = .ok (.invokevirtual 98, 3) := by decide +kernel
theorem d_Reader_readUnit_50 : decode m_Reader_readUnit.2.1 50 = .ok (.bipush 97, 2) := by decide +kernel
theorem d_Reader_readUnit_52 : decode m_Reader_readUnit.2.1 52 = .ok (.isub, 1) := by decide +kernel
theorem d_Reader_readUnit_53 : decode m_Reader_readUnit.2.1 53 = .ok (.invokevirtual 75, 3) := by decide +kernel
theorem d_Reader_readUnit_56 : decode m_Reader_readUnit.2.1 56 = .ok (.goto 131, 3) := by decide +kernel
theorem d_Reader_readUnit_59 : decode m_Reader_readUnit.2.1 59 = .ok (.aload_n 0, 1) := by decide +kernel
theorem d_Reader_readUnit_60 : decode m_Reader_readUnit.2.1 60 = .ok (.ldc 182, 2) := by decide +kernel
theorem d_Reader_readUnit_62 : decode m_Reader_readUnit.2.1 62 = .ok (.invokevirtual 81, 3) := by decide +kernel
theorem d_Reader_readUnit_65 : decode m_Reader_readUnit.2.1 65 = .ok (.ifCond .eq 37, 3) := by decide +kernel
theorem d_Reader_readUnit_68 : decode m_Reader_readUnit.2.1 68 = .ok (.aload_n 0, 1) := by decide +kernel
theorem d_Reader_readUnit_69 : decode m_Reader_readUnit.2.1 69 = .ok (.ldc 182, 2) := by decide +kernel
theorem d_Reader_readUnit_71 : decode m_Reader_readUnit.2.1 71 = .ok (.invokevirtual 98, 3) := by decide +kernel
theorem d_Reader_readUnit_74 : decode m_Reader_readUnit.2.1 74 = .ok (.pop, 1) := by decide +kernel
theorem d_Reader_readUnit_75 : decode m_Reader_readUnit.2.1 75 = .ok (.aload_n 0, 1) := by decide +kernel
theorem d_Reader_readUnit_76 : decode m_Reader_readUnit.2.1 76 = .ok (.getfield 42, 3) := by decide +kernel
theorem d_Reader_readUnit_79 : decode m_Reader_readUnit.2.1 79 = .ok (.dup, 1) := by decide +kernel
theorem d_Reader_readUnit_80 : decode m_Reader_readUnit.2.1 80 = .ok (.getfield 184, 3) := by decide +kernel
theorem d_Reader_readUnit_83 : decode m_Reader_readUnit.2.1 83 = .ok (.iconst 1, 1) := by decide +kernel
theorem d_Reader_readUnit_84 : decode m_Reader_readUnit.2.1 84 = .ok (.iadd, 1) := by decide +kernel
theorem d_Reader_readUnit_85 : decode m_Reader_readUnit.2.1 85 = .ok (.putfield 184, 3) := by decide +kernel
theorem d_Reader_readUnit_88 : decode m_Reader_readUnit.2.1 88 = .ok (.aload_n 0, 1) := by decide +kernel
theorem d_Reader_readUnit_89 : decode m_Reader_readUnit.2.1 89 = .ok (.getfield 42, 3) := by decide +kernel
theorem d_Reader_readUnit_92 : decode m_Reader_readUnit.2.1 92 = .ok (.iconst 1, 1) := by decide +kernel
theorem d_Reader_readUnit_93 : decode m_Reader_readUnit.2.1 93 = .ok (.iload_n 1, 1) := by decide +kernel
theorem d_Reader_readUnit_94 : decode m_Reader_readUnit.2.1 94 = .ok (.bipush 6, 2) := by decide +kernel
theorem d_Reader_readUnit_96 : decode m_Reader_readUnit.2.1 96 = .ok (.invokevirtual 75, 3) := by decide +kernel
theorem d_Reader_readUnit_99 : decode m_Reader_readUnit.2.1 99 = .ok (.goto 88, 3) := by decide +kernel
theorem d_Reader_readUnit_102 : decode m_Reader_readUnit.2.1 102 = .ok (.iload_n 2, 1) := by decide +kernel
theorem d_Reader_readUnit_103 : decode m_Reader_readUnit.2.1 103 = .ok (.iconst 5, 1) := by decide +kernel
theorem d_Reader_readUnit_104 : decode m_Reader_readUnit.2.1 104 = .ok (.if_icmp .ge 40, 3) := by decide +kernel
theorem d_Reader_readUnit_107 : decode m_Reader_readUnit.2.1 107 = .ok (.aload_n 0, 1) := by decide +kernel
theorem d_Reader_readUnit_108 : decode m_Reader_readUnit.2.1 108 = .ok (.ldc 187, 2) := by decide +kernel
theorem d_Reader_readUnit_110 : decode m_Reader_readUnit.2.1 110 = .ok (.invokevirtual 81, 3) := by decide +kernel
theorem d_Reader_readUnit_113 : decode m_Reader_readUnit.2.1 113 = .ok (.ifCond .eq 31, 3) := by decide +kernel
theorem d_Reader_readUnit_116 : decode m_Reader_readUnit.2.1 116 = .ok (.aload_n 0, 1) := by decide +kernel
theorem d_Reader_readUnit_117 : decode m_Reader_readUnit.2.1 117 = .ok (.ldc 187, 2) := by decide +kernel
theorem d_Reader_readUnit_119 : decode m_Reader_readUnit.2.1 119 = .ok (.invokevirtual 98, 3) := by decide +kernel
theorem d_Reader_readUnit_122 : decode m_Reader_readUnit.2.1 122 = .ok (.pop, 1) := by decide +kernel
theorem d_Reader_readUnit_123 : decode m_Reader_readUnit.2.1 123 = .ok (.aload_n 0, 1) := by decide +kernel
theorem d_Reader_readUnit_124 : decode m_Reader_readUnit.2.1 124 = .ok (.iload_n 1, 1) := by decide +kernel
theorem d_Reader_readUnit_125 : decode m_Reader_readUnit.2.1 125 = .ok (.iload_n 2, 1) := by decide +kernel
theorem d_Reader_readUnit_126 : decode m_Reader_readUnit.2.1 126 = .ok (.iconst 1, 1) := by decide +kernel
theorem d_Reader_readUnit_127 : decode m_Reader_readUnit.2.1 127 = .ok (.iadd, 1) := by decide +kernel
theorem d_Reader_readUnit_128 : decode m_Reader_readUnit.2.1 128 = .ok (.invokevirtual 171, 3) := by decide +kernel
theorem d_Reader_readUnit_131 : decode m_Reader_readUnit.2.1 131 = .ok (.aload_n 0, 1) := by decide +kernel
theorem d_Reader_readUnit_132 : decode m_Reader_readUnit.2.1 132 = .ok (.getfield 42, 3) := by decide +kernel
theorem d_Reader_readUnit_135 : decode m_Reader_readUnit.2.1 135 = .ok (.iconst 2, 1) := by decide +kernel
theorem d_Reader_readUnit_136 : decode m_Reader_readUnit.2.1 136 = .ok (.iload_n 1, 1) := by decide +kernel
theorem d_Reader_readUnit_137 : decode m_Reader_readUnit.2.1 137 = .ok (.iconst 0, 1) := by decide +kernel
theorem d_Reader_readUnit_138 : decode m_Reader_readUnit.2.1 138 = .ok (.invokevirtual 75, 3) := by decide +kernel
theorem d_Reader_readUnit_141 : decode m_Reader_readUnit.2.1 141 = .ok (.goto 46, 3) := by decide +kernel
theorem d_Reader_readUnit_144 : decode m_Reader_readUnit.2.1 144 = .ok (.iload_n 2, 1) := by decide +kernel
theorem d_Reader_readUnit_145 : decode m_Reader_readUnit.2.1 145 = .ok (.iconst 5, 1) := by decide +kernel
theorem d_Reader_readUnit_146 : decode m_Reader_readUnit.2.1 146 = .ok (.if_icmp .ge 37, 3) := by decide +kernel
theorem d_Reader_readUnit_149 : decode m_Reader_readUnit.2.1 149 = .ok (.aload_n 0, 1) := by decide +kernel
theorem d_Reader_readUnit_150 : decode m_Reader_readUnit.2.1 150 = .ok (.ldc 114, 2) := by decide +kernel
theorem d_Reader_readUnit_152 : decode m_Reader_readUnit.2.1 152 = .ok (.invokevirtual 81, 3) := by decide +kernel
theorem d_Reader_readUnit_155 : decode m_Reader_readUnit.2.1 155 = .ok (.ifCond .eq 28, 3) := by decide +kernel
theorem d_Reader_readUnit_158 : decode m_Reader_readUnit.2.1 158 = .ok (.aload_n 0, 1) := by decide +kernel
theorem d_Reader_readUnit_159 : decode m_Reader_readUnit.2.1 159 = .ok (.ldc 114, 2) := by decide +kernel
theorem d_Reader_readUnit_161 : decode m_Reader_readUnit.2.1 161 = .ok (.invokevirtual 98, 3) := by decide +kernel
theorem d_Reader_readUnit_164 : decode m_Reader_readUnit.2.1 164 = .ok (.pop, 1) := by decide +kernel
theorem d_Reader_readUnit_165 : decode m_Reader_readUnit.2.1 165 = .ok (.aload_n 0, 1) := by decide +kernel
theorem d_Reader_readUnit_166 : decode m_Reader_readUnit.2.1 166 = .ok (.iload_n 1, 1) := by decide +kernel
theorem d_Reader_readUnit_167 : decode m_Reader_readUnit.2.1 167 = .ok (.iload_n 2, 1) := by decide +kernel
theorem d_Reader_readUnit_168 : decode m_Reader_readUnit.2.1 168 = .ok (.iconst 1, 1) := by decide +kernel
theorem d_Reader_readUnit_169 : decode m_Reader_readUnit.2.1 169 = .ok (.iadd, 1) := by decide +kernel
theorem d_Reader_readUnit_170 : decode m_Reader_readUnit.2.1 170 = .ok (.invokevirtual 116, 3) := by decide +kernel
theorem d_Reader_readUnit_173 : decode m_Reader_readUnit.2.1 173 = .ok (.aload_n 0, 1) := by decide +kernel
theorem d_Reader_readUnit_174 : decode m_Reader_readUnit.2.1 174 = .ok (.ldc 122, 2) := by decide +kernel
theorem d_Reader_readUnit_176 : decode m_Reader_readUnit.2.1 176 = .ok (.invokevirtual 98, 3) := by decide +kernel
theorem d_Reader_readUnit_179 : decode m_Reader_readUnit.2.1 179 = .ok (.pop, 1) := by decide +kernel
theorem d_Reader_readUnit_180 : decode m_Reader_readUnit.2.1 180 = .ok (.goto 7, 3) := by decide +kernel
theorem d_Reader_readUnit_183 : decode m_Reader_readUnit.2.1 183 = .ok (.aload_n 0, 1) := by decide +kernel
theorem d_Reader_readUnit_184 : decode m_Reader_readUnit.2.1 184 = .ok (.invokevirtual 93, 3) := by decide +kernel
theorem d_Reader_readUnit_187 : decode m_Reader_readUnit.2.1 187 = .ok (.return_, 1) := by decide +kernel
theorem d_Reader_sees_0 : decode m_Reader_sees.2.1 0 = .ok (.aload_n 0, 1) := by decide +kernel
theorem d_Reader_sees_1 : decode m_Reader_sees.2.1 1 = .ok (.getfield 51, 3) := by decide +kernel
theorem d_Reader_sees_4 : decode m_Reader_sees.2.1 4 = .ok (.aload_n 0, 1) := by decide +kernel
theorem d_Reader_sees_5 : decode m_Reader_sees.2.1 5 = .ok (.getfield 54, 3) := by decide +kernel
theorem d_Reader_sees_8 : decode m_Reader_sees.2.1 8 = .ok (.if_icmp .ge 23, 3) := by decide +kernel
theorem d_Reader_sees_11 : decode m_Reader_sees.2.1 11 = .ok (.aload_n 1, 1) := by decide +kernel
theorem d_Reader_sees_12 : decode m_Reader_sees.2.1 12 = .ok (.aload_n 0, 1) := by decide +kernel
theorem d_Reader_sees_13 : decode m_Reader_sees.2.1 13 = .ok (.getfield 9, 3) := by decide +kernel
theorem d_Reader_sees_16 : decode m_Reader_sees.2.1 16 = .ok (.aload_n 0, 1) := by decide +kernel
theorem d_Reader_sees_17 : decode m_Reader_sees.2.1 17 = .ok (.getfield 51, 3) := by decide +kernel
theorem d_Reader_sees_20 : decode m_Reader_sees.2.1 20 = .ok (.caload, 1) := by decide +kernel
theorem d_Reader_sees_21 : decode m_Reader_sees.2.1 21 = .ok (.invokevirtual 147, 3) := by decide +kernel
theorem d_Reader_sees_24 : decode m_Reader_sees.2.1 24 = .ok (.ifCond .lt 7, 3) := by decide +kernel
theorem d_Reader_sees_27 : decode m_Reader_sees.2.1 27 = .ok (.iconst 1, 1) := by decide +kernel
theorem d_Reader_sees_28 : decode m_Reader_sees.2.1 28 = .ok (.goto 4, 3) := by decide +kernel
theorem d_Reader_sees_31 : decode m_Reader_sees.2.1 31 = .ok (.iconst 0, 1) := by decide +kernel
theorem d_Reader_sees_32 : decode m_Reader_sees.2.1 32 = .ok (.ireturn, 1) := by decide +kernel
theorem d_Reader_takeNumber_0 : decode m_Reader_takeNumber.2.1 0 = .ok (.iconst 0, 1) := by decide +kernel
theorem d_Reader_takeNumber_1 : decode m_Reader_takeNumber.2.1 1 = .ok (.istore_n 1, 1) := by decide +kernel
theorem d_Reader_takeNumber_2 : decode m_Reader_takeNumber.2.1 2 = .ok (.iconst 0, 1) := by decide +kernel
theorem d_Reader_takeNumber_3 : decode m_Reader_takeNumber.2.1 3 = .ok (.istore_n 2, 1) := by decide +kernel
theorem d_Reader_takeNumber_4 : decode m_Reader_takeNumber.2.1 4 = .ok (.iload_n 2, 1) := by decide +kernel
theorem d_Reader_takeNumber_5 : decode m_Reader_takeNumber.2.1 5 = .ok (.iconst 4, 1) := by decide +kernel
theorem d_Reader_takeNumber_6 : decode m_Reader_takeNumber.2.1 6 = .ok (.if_icmp .ge 63, 3) := by decide +kernel
theorem d_Reader_takeNumber_9 : decode m_Reader_takeNumber.2.1 9 = .ok (.aload_n 0, 1) := by decide +kernel
theorem d_Reader_takeNumber_10 : decode m_Reader_takeNumber.2.1 10 = .ok (.getfield 51, 3) := by decide +kernel
theorem d_Reader_takeNumber_13 : decode m_Reader_takeNumber.2.1 13 = .ok (.aload_n 0, 1) := by decide +kernel
theorem d_Reader_takeNumber_14 : decode m_Reader_takeNumber.2.1 14 = .ok (.getfield 54, 3) := by decide +kernel
theorem d_Reader_takeNumber_17 : decode m_Reader_takeNumber.2.1 17 = .ok (.if_icmp .ge 52, 3) := by decide +kernel
theorem d_Reader_takeNumber_20 : decode m_Reader_takeNumber.2.1 20 = .ok (.aload_n 0, 1) := by decide +kernel
theorem d_Reader_takeNumber_21 : decode m_Reader_takeNumber.2.1 21 = .ok (.getfield 9, 3) := by decide +kernel
theorem d_Reader_takeNumber_24 : decode m_Reader_takeNumber.2.1 24 = .ok (.aload_n 0, 1) := by decide +kernel
theorem d_Reader_takeNumber_25 : decode m_Reader_takeNumber.2.1 25 = .ok (.getfield 51, 3) := by decide +kernel
theorem d_Reader_takeNumber_28 : decode m_Reader_takeNumber.2.1 28 = .ok (.caload, 1) := by decide +kernel
theorem d_Reader_takeNumber_29 : decode m_Reader_takeNumber.2.1 29 = .ok (.invokestatic 189, 3) := by decide +kernel
theorem d_Reader_takeNumber_32 : decode m_Reader_takeNumber.2.1 32 = .ok (.ifCond .eq 37, 3) := by decide +kernel
theorem d_Reader_takeNumber_35 : decode m_Reader_takeNumber.2.1 35 = .ok (.iload_n 1, 1) := by decide +kernel
theorem d_Reader_takeNumber_36 : decode m_Reader_takeNumber.2.1 36 = .ok (.bipush 10, 2) := by decide +kernel
theorem d_Reader_takeNumber_38 : decode m_Reader_takeNumber.2.1 38 = .ok (.imul, 1) := by decide +kernel
theorem d_Reader_takeNumber_39 : decode m_Reader_takeNumber.2.1 39 = .ok (.aload_n 0, 1) := by decide +kernel
theorem d_Reader_takeNumber_40 : decode m_Reader_takeNumber.2.1 40 = .ok (.getfield 9, 3) := by decide +kernel
theorem d_Reader_takeNumber_43 : decode m_Reader_takeNumber.2.1 43 = .ok (.aload_n 0, 1) := by decide +kernel
theorem d_Reader_takeNumber_44 : decode m_Reader_takeNumber.2.1 44 = .ok (.getfield 51, 3) := by decide +kernel
theorem d_Reader_takeNumber_47 : decode m_Reader_takeNumber.2.1 47 = .ok (.caload, 1) := by decide +kernel
theorem d_Reader_takeNumber_48 : decode m_Reader_takeNumber.2.1 48 = .ok (.iadd, 1) := by decide +kernel
theorem d_Reader_takeNumber_49 : decode m_Reader_takeNumber.2.1 49 = .ok (.bipush 48, 2) := by decide +kernel
theorem d_Reader_takeNumber_51 : decode m_Reader_takeNumber.2.1 51 = .ok (.isub, 1) := by decide +kernel
theorem d_Reader_takeNumber_52 : decode m_Reader_takeNumber.2.1 52 = .ok (.istore_n 1, 1) := by decide +kernel
theorem d_Reader_takeNumber_53 : decode m_Reader_takeNumber.2.1 53 = .ok (.aload_n 0, 1) := by decide +kernel
theorem d_Reader_takeNumber_54 : decode m_Reader_takeNumber.2.1 54 = .ok (.dup, 1) := by decide +kernel
theorem d_Reader_takeNumber_55 : decode m_Reader_takeNumber.2.1 55 = .ok (.getfield 51, 3) := by decide +kernel
theorem d_Reader_takeNumber_58 : decode m_Reader_takeNumber.2.1 58 = .ok (.iconst 1, 1) := by decide +kernel
theorem d_Reader_takeNumber_59 : decode m_Reader_takeNumber.2.1 59 = .ok (.iadd, 1) := by decide +kernel
theorem d_Reader_takeNumber_60 : decode m_Reader_takeNumber.2.1 60 = .ok (.putfield 51, 3) := by decide +kernel
theorem d_Reader_takeNumber_63 : decode m_Reader_takeNumber.2.1 63 = .ok (.iinc 2 1, 3) := by decide +kernel
theorem d_Reader_takeNumber_66 : decode m_Reader_takeNumber.2.1 66 = .ok (.goto (-62), 3) := by decide +kernel
theorem d_Reader_takeNumber_69 : decode m_Reader_takeNumber.2.1 69 = .ok (.iload_n 1, 1) := by decide +kernel
theorem d_Reader_takeNumber_70 : decode m_Reader_takeNumber.2.1 70 = .ok (.ireturn, 1) := by decide +kernel
theorem d_Reader_isDigit_0 : decode m_Reader_isDigit.2.1 0 = .ok (.iload_n 0, 1) := by decide +kernel
theorem d_Reader_isDigit_1 : decode m_Reader_isDigit.2.1 1 = .ok (.bipush 48, 2) := by decide +kernel
theorem d_Reader_isDigit_3 : decode m_Reader_isDigit.2.1 3 = .ok (.if_icmp .lt 13, 3) := by decide +kernel
theorem d_Reader_isDigit_6 : decode m_Reader_isDigit.2.1 6 = .ok (.iload_n 0, 1) := by decide +kernel
theorem d_Reader_isDigit_7 : decode m_Reader_isDigit.2.1 7 = .ok (.bipush 57, 2) := by decide +kernel
theorem d_Reader_isDigit_9 : decode m_Reader_isDigit.2.1 9 = .ok (.if_icmp .gt 7, 3) := by decide +kernel
theorem d_Reader_isDigit_12 : decode m_Reader_isDigit.2.1 12 = .ok (.iconst 1, 1) := by decide +kernel
theorem d_Reader_isDigit_13 : decode m_Reader_isDigit.2.1 13 = .ok (.goto 4, 3) := by decide +kernel
theorem d_Reader_isDigit_16 : decode m_Reader_isDigit.2.1 16 = .ok (.iconst 0, 1) := by decide +kernel
theorem d_Reader_isDigit_17 : decode m_Reader_isDigit.2.1 17 = .ok (.ireturn, 1) := by decide +kernel
theorem d_Code_add_0 : decode m_Code_add.2.1 0 = .ok (.aload_n 0, 1) := by decide +kernel
theorem d_Code_add_1 : decode m_Code_add.2.1 1 = .ok (.getfield 21, 3) := by decide +kernel
theorem d_Code_add_4 : decode m_Code_add.2.1 4 = .ok (.bipush 48, 2) := by decide +kernel
theorem d_Code_add_6 : decode m_Code_add.2.1 6 = .ok (.if_icmp .ge 43, 3) := by decide +kernel
theorem d_Code_add_9 : decode m_Code_add.2.1 9 = .ok (.aload_n 0, 1) := by decide +kernel
theorem d_Code_add_10 : decode m_Code_add.2.1 10 = .ok (.getfield 9, 3) := by decide +kernel
theorem d_Code_add_13 : decode m_Code_add.2.1 13 = .ok (.aload_n 0, 1) := by decide +kernel
theorem d_Code_add_14 : decode m_Code_add.2.1 14 = .ok (.getfield 21, 3) := by decide +kernel
theorem d_Code_add_17 : decode m_Code_add.2.1 17 = .ok (.iload_n 1, 1) := by decide +kernel
theorem d_Code_add_18 : decode m_Code_add.2.1 18 = .ok (.iastore, 1) := by decide +kernel
theorem d_Code_add_19 : decode m_Code_add.2.1 19 = .ok (.aload_n 0, 1) := by decide +kernel
theorem d_Code_add_20 : decode m_Code_add.2.1 20 = .ok (.getfield 15, 3) := by decide +kernel
theorem d_Code_add_23 : decode m_Code_add.2.1 23 = .ok (.aload_n 0, 1) := by decide +kernel
theorem d_Code_add_24 : decode m_Code_add.2.1 24 = .ok (.getfield 21, 3) := by decide +kernel
theorem d_Code_add_27 : decode m_Code_add.2.1 27 = .ok (.iload_n 2, 1) := by decide +kernel
theorem d_Code_add_28 : decode m_Code_add.2.1 28 = .ok (.iastore, 1) := by decide +kernel
theorem d_Code_add_29 : decode m_Code_add.2.1 29 = .ok (.aload_n 0, 1) := by decide +kernel
theorem d_Code_add_30 : decode m_Code_add.2.1 30 = .ok (.getfield 18, 3) := by decide +kernel
theorem d_Code_add_33 : decode m_Code_add.2.1 33 = .ok (.aload_n 0, 1) := by decide +kernel
theorem d_Code_add_34 : decode m_Code_add.2.1 34 = .ok (.getfield 21, 3) := by decide +kernel
theorem d_Code_add_37 : decode m_Code_add.2.1 37 = .ok (.iload_n 3, 1) := by decide +kernel
theorem d_Code_add_38 : decode m_Code_add.2.1 38 = .ok (.iastore, 1) := by decide +kernel
theorem d_Code_add_39 : decode m_Code_add.2.1 39 = .ok (.aload_n 0, 1) := by decide +kernel
theorem d_Code_add_40 : decode m_Code_add.2.1 40 = .ok (.dup, 1) := by decide +kernel
theorem d_Code_add_41 : decode m_Code_add.2.1 41 = .ok (.getfield 21, 3) := by decide +kernel
theorem d_Code_add_44 : decode m_Code_add.2.1 44 = .ok (.iconst 1, 1) := by decide +kernel
theorem d_Code_add_45 : decode m_Code_add.2.1 45 = .ok (.iadd, 1) := by decide +kernel
theorem d_Code_add_46 : decode m_Code_add.2.1 46 = .ok (.putfield 21, 3) := by decide +kernel
theorem d_Code_add_49 : decode m_Code_add.2.1 49 = .ok (.return_, 1) := by decide +kernel
theorem d_Reader_readChange_0 : decode m_Reader_readChange.2.1 0 = .ok (.aload_n 0, 1) := by decide +kernel
theorem d_Reader_readChange_1 : decode m_Reader_readChange.2.1 1 = .ok (.getfield 42, 3) := by decide +kernel
theorem d_Reader_readChange_4 : decode m_Reader_readChange.2.1 4 = .ok (.aload_n 0, 1) := by decide +kernel
theorem d_Reader_readChange_5 : decode m_Reader_readChange.2.1 5 = .ok (.ldc 124, 2) := by decide +kernel
theorem d_Reader_readChange_7 : decode m_Reader_readChange.2.1 7 = .ok (.invokevirtual 98, 3) := by decide +kernel
theorem d_Reader_readChange_10 : decode m_Reader_readChange.2.1 10 = .ok (.bipush 97, 2) := by decide +kernel
theorem d_Reader_readChange_12 : decode m_Reader_readChange.2.1 12 = .ok (.isub, 1) := by decide +kernel
theorem d_Reader_readChange_13 : decode m_Reader_readChange.2.1 13 = .ok (.putfield 126, 3) := by decide +kernel
theorem d_Reader_readChange_16 : decode m_Reader_readChange.2.1 16 = .ok (.aload_n 0, 1) := by decide +kernel
theorem d_Reader_readChange_17 : decode m_Reader_readChange.2.1 17 = .ok (.ldc 129, 2) := by decide +kernel
theorem d_Reader_readChange_19 : decode m_Reader_readChange.2.1 19 = .ok (.invokevirtual 98, 3) := by decide +kernel
theorem d_Reader_readChange_22 : decode m_Reader_readChange.2.1 22 = .ok (.pop, 1) := by decide +kernel
theorem d_Reader_readChange_23 : decode m_Reader_readChange.2.1 23 = .ok (.aload_n 0, 1) := by decide +kernel
theorem d_Reader_readChange_24 : decode m_Reader_readChange.2.1 24 = .ok (.bipush 7, 2) := by decide +kernel
theorem d_Reader_readChange_26 : decode m_Reader_readChange.2.1 26 = .ok (.iconst 1, 1) := by decide +kernel
theorem d_Reader_readChange_27 : decode m_Reader_readChange.2.1 27 = .ok (.invokevirtual 116, 3) := by decide +kernel
theorem d_Reader_readChange_30 : decode m_Reader_readChange.2.1 30 = .ok (.return_, 1) := by decide +kernel
theorem d_Reader_readFold_0 : decode m_Reader_readFold.2.1 0 = .ok (.aload_n 0, 1) := by decide +kernel
theorem d_Reader_readFold_1 : decode m_Reader_readFold.2.1 1 = .ok (.getfield 42, 3) := by decide +kernel
theorem d_Reader_readFold_4 : decode m_Reader_readFold.2.1 4 = .ok (.aload_n 0, 1) := by decide +kernel
theorem d_Reader_readFold_5 : decode m_Reader_readFold.2.1 5 = .ok (.ldc 131, 2) := by decide +kernel
theorem d_Reader_readFold_7 : decode m_Reader_readFold.2.1 7 = .ok (.invokevirtual 98, 3) := by decide +kernel
theorem d_Reader_readFold_10 : decode m_Reader_readFold.2.1 10 = .ok (.putfield 133, 3) := by decide +kernel
theorem d_Reader_readFold_13 : decode m_Reader_readFold.2.1 13 = .ok (.aload_n 0, 1) := by decide +kernel
theorem d_Reader_readFold_14 : decode m_Reader_readFold.2.1 14 = .ok (.bipush 7, 2) := by decide +kernel
theorem d_Reader_readFold_16 : decode m_Reader_readFold.2.1 16 = .ok (.iconst 1, 1) := by decide +kernel
theorem d_Reader_readFold_17 : decode m_Reader_readFold.2.1 17 = .ok (.invokevirtual 116, 3) := by decide +kernel
theorem d_Reader_readFold_20 : decode m_Reader_readFold.2.1 20 = .ok (.return_, 1) := by decide +kernel
theorem d_Reader_readList_0 : decode m_Reader_readList.2.1 0 = .ok (.aload_n 0, 1) := by decide +kernel
theorem d_Reader_readList_1 : decode m_Reader_readList.2.1 1 = .ok (.bipush 7, 2) := by decide +kernel
theorem d_Reader_readList_3 : decode m_Reader_readList.2.1 3 = .ok (.iconst 1, 1) := by decide +kernel
theorem d_Reader_readList_4 : decode m_Reader_readList.2.1 4 = .ok (.invokevirtual 116, 3) := by decide +kernel
theorem d_Reader_readList_7 : decode m_Reader_readList.2.1 7 = .ok (.aload_n 0, 1) := by decide +kernel
theorem d_Reader_readList_8 : decode m_Reader_readList.2.1 8 = .ok (.getfield 42, 3) := by decide +kernel
theorem d_Reader_readList_11 : decode m_Reader_readList.2.1 11 = .ok (.iconst 1, 1) := by decide +kernel
theorem d_Reader_readList_12 : decode m_Reader_readList.2.1 12 = .ok (.putfield 136, 3) := by decide +kernel
theorem d_Reader_readList_15 : decode m_Reader_readList.2.1 15 = .ok (.aload_n 0, 1) := by decide +kernel
theorem d_Reader_readList_16 : decode m_Reader_readList.2.1 16 = .ok (.getfield 42, 3) := by decide +kernel
theorem d_Reader_readList_19 : decode m_Reader_readList.2.1 19 = .ok (.getfield 136, 3) := by decide +kernel
theorem d_Reader_readList_22 : decode m_Reader_readList.2.1 22 = .ok (.iconst 3, 1) := by decide +kernel
theorem d_Reader_readList_23 : decode m_Reader_readList.2.1 23 = .ok (.if_icmp .ge 50, 3) := by decide +kernel
theorem d_Reader_readList_26 : decode m_Reader_readList.2.1 26 = .ok (.aload_n 0, 1) := by decide +kernel
theorem d_Reader_readList_27 : decode m_Reader_readList.2.1 27 = .ok (.ldc 120, 2) := by decide +kernel
theorem d_Reader_readList_29 : decode m_Reader_readList.2.1 29 = .ok (.invokevirtual 81, 3) := by decide +kernel
theorem d_Reader_readList_32 : decode m_Reader_readList.2.1 32 = .ok (.ifCond .eq 41, 3) := by decide +kernel
theorem d_Reader_readList_35 : decode m_Reader_readList.2.1 35 = .ok (.aload_n 0, 1) := by decide +kernel
theorem d_Reader_readList_36 : decode m_Reader_readList.2.1 36 = .ok (.ldc 120, 2) := by decide +kernel
theorem d_Reader_readList_38 : decode m_Reader_readList.2.1 38 = .ok (.invokevirtual 98, 3) := by decide +kernel
theorem d_Reader_readList_41 : decode m_Reader_readList.2.1 41 = .ok (.pop, 1) := by decide +kernel
theorem d_Reader_readList_42 : decode m_Reader_readList.2.1 42 = .ok (.aload_n 0, 1) := by decide +kernel
theorem d_Reader_readList_43 : decode m_Reader_readList.2.1 43 = .ok (.bipush 7, 2) := by decide +kernel
theorem d_Reader_readList_45 : decode m_Reader_readList.2.1 45 = .ok (.aload_n 0, 1) := by decide +kernel
theorem d_Reader_readList_46 : decode m_Reader_readList.2.1 46 = .ok (.getfield 42, 3) := by decide +kernel
theorem d_Reader_readList_49 : decode m_Reader_readList.2.1 49 = .ok (.getfield 136, 3) := by decide +kernel
theorem d_Reader_readList_52 : decode m_Reader_readList.2.1 52 = .ok (.iadd, 1) := by decide +kernel
theorem d_Reader_readList_53 : decode m_Reader_readList.2.1 53 = .ok (.iconst 1, 1) := by decide +kernel
theorem d_Reader_readList_54 : decode m_Reader_readList.2.1 54 = .ok (.invokevirtual 116, 3) := by decide +kernel
theorem d_Reader_readList_57 : decode m_Reader_readList.2.1 57 = .ok (.aload_n 0, 1) := by decide +kernel
theorem d_Reader_readList_58 : decode m_Reader_readList.2.1 58 = .ok (.getfield 42, 3) := by decide +kernel
theorem d_Reader_readList_61 : decode m_Reader_readList.2.1 61 = .ok (.dup, 1) := by decide +kernel
theorem d_Reader_readList_62 : decode m_Reader_readList.2.1 62 = .ok (.getfield 136, 3) := by decide +kernel
theorem d_Reader_readList_65 : decode m_Reader_readList.2.1 65 = .ok (.iconst 1, 1) := by decide +kernel
theorem d_Reader_readList_66 : decode m_Reader_readList.2.1 66 = .ok (.iadd, 1) := by decide +kernel
theorem d_Reader_readList_67 : decode m_Reader_readList.2.1 67 = .ok (.putfield 136, 3) := by decide +kernel
theorem d_Reader_readList_70 : decode m_Reader_readList.2.1 70 = .ok (.goto (-55), 3) := by decide +kernel
theorem d_Reader_readList_73 : decode m_Reader_readList.2.1 73 = .ok (.return_, 1) := by decide +kernel
theorem d_Reader_readCondition_0 : decode m_Reader_readCondition.2.1 0 = .ok (.aload_n 0, 1) := by decide +kernel
theorem d_Reader_readCondition_1 : decode m_Reader_readCondition.2.1 1 = .ok (.getfield 42, 3) := by decide +kernel
theorem d_Reader_readCondition_4 : decode m_Reader_readCondition.2.1 4 = .ok (.aload_n 0, 1) := by decide +kernel
theorem d_Reader_readCondition_5 : decode m_Reader_readCondition.2.1 5 = .ok (.getfield 42, 3) := by decide +kernel
theorem d_Reader_readCondition_8 : decode m_Reader_readCondition.2.1 8 = .ok (.getfield 139, 3) := by decide +kernel
theorem d_Reader_readCondition_11 : decode m_Reader_readCondition.2.1 11 = .ok (.putfield 142, 3) := by decide +kernel
theorem d_Reader_readCondition_14 : decode m_Reader_readCondition.2.1 14 = .ok (.aload_n 0, 1) := by decide +kernel
theorem d_Reader_readCondition_15 : decode m_Reader_readCondition.2.1 15 = .ok (.getfield 42, 3) := by decide +kernel
theorem d_Reader_readCondition_18 : decode m_Reader_readCondition.2.1 18 = .ok (.getfield 139, 3) := by decide +kernel
theorem d_Reader_readCondition_21 : decode m_Reader_readCondition.2.1 21 = .ok (.istore_n 1, 1) := by decide +kernel
theorem d_Reader_readCondition_22 : decode m_Reader_readCondition.2.1 22 = .ok (.aload_n 0, 1) := by decide +kernel
theorem d_Reader_readCondition_23 : decode m_Reader_readCondition.2.1 23 = .ok (.ldc 79, 2) := by decide +kernel
theorem d_Reader_readCondition_25 : decode m_Reader_readCondition.2.1 25 = .ok (.invokevirtual 98, 3) := by decide +kernel
theorem d_Reader_readCondition_28 : decode m_Reader_readCondition.2.1 28 = .ok (.pop, 1) := by decide +kernel
theorem d_Reader_readCondition_29 : decode m_Reader_readCondition.2.1 29 = .ok (.iconst 1, 1) := by decide +kernel
theorem d_Reader_readCondition_30 : decode m_Reader_readCondition.2.1 30 = .ok (.istore_n 2, 1) := by decide +kernel
theorem d_Reader_readCondition_31 : decode m_Reader_readCondition.2.1 31 = .ok (.iconst 0, 1) := by decide +kernel
theorem d_Reader_readCondition_32 : decode m_Reader_readCondition.2.1 32 = .ok (.istore_n 3, 1) := by decide +kernel
theorem d_Reader_readCondition_33 : decode m_Reader_readCondition.2.1 33 = .ok (.iload_n 3, 1) := by decide +kernel
theorem d_Reader_readCondition_34 : decode m_Reader_readCondition.2.1 34 = .ok (.bipush 48, 2) := by decide +kernel
theorem d_Reader_readCondition_36 : decode m_Reader_readCondition.2.1 36 = .ok (.if_icmp .ge 114, 3) := by decide +kernel
theorem d_Reader_readCondition_39 : decode m_Reader_readCondition.2.1 39 = .ok (.iload_n 2, 1) := by decide +kernel
theorem d_Reader_readCondition_40 : decode m_Reader_readCondition.2.1 40 = .ok (.ifCond .eq 110, 3) := by decide +kernel
theorem d_Reader_readCondition_43 : decode m_Reader_readCondition.2.1 43 = .ok (.aload_n 0, 1) := by decide +kernel
theorem d_Reader_readCondition_44 : decode m_Reader_readCondition.2.1 44 = .ok (.bipush 7, 2) := by decide +kernel
theorem d_Reader_readCondition_46 : decode m_Reader_readCondition.2.1 46 = .ok (.iconst 1, 1) := by decide +kernel
theorem d_Reader_readCondition_47 : decode m_Reader_readCondition.2.1 47 = .ok (.invokevirtual 116, 3) := by decide +kernel
theorem d_Reader_readCondition_50 : decode m_Reader_readCondition.2.1 50 = .ok (.ldc 145, 2) := by decide +kernel
theorem d_Reader_readCondition_52 : decode m_Reader_readCondition.2.1 52 = .ok (.aload_n 0, 1) := by decide +kernel
theorem d_Reader_readCondition_53 : decode m_Reader_readCondition.2.1 53 = .ok (.ldc 145, 2) := by decide +kernel
theorem d_Reader_readCondition_55 : decode m_Reader_readCondition.2.1 55 = .ok (.invokevirtual 98, 3) := by decide +kernel
theorem d_Reader_readCondition_58 : decode m_Reader_readCondition.2.1 58 = .ok (.invokevirtual 147, 3) := by decide +kernel
theorem d_Reader_readCondition_61 : decode m_Reader_readCondition.2.1 61 = .ok (.istore 4, 2) := by decide +kernel
theorem d_Reader_readCondition_63 : decode m_Reader_readCondition.2.1 63 = .ok (.aload_n 0, 1) := by decide +kernel
theorem d_Reader_readCondition_64 : decode m_Reader_readCondition.2.1 64 = .ok (.bipush 8, 2) := by decide +kernel
theorem d_Reader_readCondition_66 : decode m_Reader_readCondition.2.1 66 = .ok (.iconst 1, 1) := by decide +kernel
theorem d_Reader_readCondition_67 : decode m_Reader_readCondition.2.1 67 = .ok (.invokevirtual 116, 3) := by decide +kernel
theorem d_Reader_readCondition_70 : decode m_Reader_readCondition.2.1 70 = .ok (.aload_n 0, 1) := by decide +kernel
theorem d_Reader_readCondition_71 : decode m_Reader_readCondition.2.1 71 = .ok (.getfield 42, 3) := by decide +kernel
theorem d_Reader_readCondition_74 : decode m_Reader_readCondition.2.1 74 = .ok (.bipush 8, 2) := by decide +kernel
theorem d_Reader_readCondition_76 : decode m_Reader_readCondition.2.1 76 = .ok (.iload 4, 2) := by decide +kernel
theorem d_Reader_readCondition_78 : decode m_Reader_readCondition.2.1 78 = .ok (.iadd, 1) := by decide +kernel
theorem d_Reader_readCondition_79 : decode m_Reader_readCondition.2.1 79 = .ok (.bipush 7, 2) := by decide +kernel
theorem d_Reader_readCondition_81 : decode m_Reader_readCondition.2.1 81 = .ok (.iconst 0, 1) := by decide +kernel
theorem d_Reader_readCondition_82 : decode m_Reader_readCondition.2.1 82 = .ok (.invokevirtual 75, 3) := by decide +kernel
theorem d_Reader_readCondition_85 : decode m_Reader_readCondition.2.1 85 = .ok (.aload_n 0, 1) := by decide +kernel
theorem d_Reader_readCondition_86 : decode m_Reader_readCondition.2.1 86 = .ok (.ldc 153, 2) := by decide +kernel
theorem d_Reader_readCondition_88 : decode m_Reader_readCondition.2.1 88 = .ok (.invokevirtual 81, 3) := by decide +kernel
theorem d_Reader_readCondition_91 : decode m_Reader_readCondition.2.1 91 = .ok (.ifCond .ne 30, 3) := by decide +kernel
theorem d_Reader_readCondition_94 : decode m_Reader_readCondition.2.1 94 = .ok (.aload_n 0, 1) := by decide +kernel
theorem d_Reader_readCondition_95 : decode m_Reader_readCondition.2.1 95 = .ok (.getfield 42, 3) := by decide +kernel
theorem d_Reader_readCondition_98 : decode m_Reader_readCondition.2.1 98 = .ok (.bipush 11, 2) := by decide +kernel
theorem d_Reader_readCondition_100 : decode m_Reader_readCondition.2.1 100 = .ok (.iconst 0, 1) := by decide +kernel
theorem d_Reader_readCondition_101 : decode m_Reader_readCondition.2.1 101 = .ok (.iconst 0, 1) := by decide +kernel
theorem d_Reader_readCondition_102 : decode m_Reader_readCondition.2.1 102 = .ok (.invokevirtual 75, 3) := by decide +kernel
theorem d_Reader_readCondition_105 : decode m_Reader_readCondition.2.1 105 = .ok (.aload_n 0, 1) := by decide +kernel
theorem d_Reader_readCondition_106 : decode m_Reader_readCondition.2.1 106 = .ok (.getfield 42, 3) := by decide +kernel
theorem d_Reader_readCondition_109 : decode m_Reader_readCondition.2.1 109 = .ok (.iload_n 1, 1) := by decide +kernel
theorem d_Reader_readCondition_110 : decode m_Reader_readCondition.2.1 110 = .ok (.invokevirtual 155, 3) := by decide +kernel
theorem d_Reader_readCondition_113 : decode m_Reader_readCondition.2.1 113 = .ok (.aload_n 0, 1) := by decide +kernel
theorem d_Reader_readCondition_114 : decode m_Reader_readCondition.2.1 114 = .ok (.getfield 42, 3) := by decide +kernel
theorem d_Reader_readCondition_117 : decode m_Reader_readCondition.2.1 117 = .ok (.getfield 139, 3) := by decide +kernel
theorem d_Reader_readCondition_120 : decode m_Reader_readCondition.2.1 120 = .ok (.istore_n 1, 1) := by decide +kernel
theorem d_Reader_readCondition_121 : decode m_Reader_readCondition.2.1 121 = .ok (.aload_n 0, 1) := by decide +kernel
theorem d_Reader_readCondition_122 : decode m_Reader_readCondition.2.1 122 = .ok (.ldc 159, 2) := by decide +kernel
theorem d_Reader_readCondition_124 : decode m_Reader_readCondition.2.1 124 = .ok (.invokevirtual 81, 3) := by decide +kernel
theorem d_Reader_readCondition_127 : decode m_Reader_readCondition.2.1 127 = .ok (.istore_n 2, 1) := by decide +kernel
theorem d_Reader_readCondition_128 : decode m_Reader_readCondition.2.1 128 = .ok (.aload_n 0, 1) := by decide +kernel
theorem d_Reader_readCondition_129 : decode m_Reader_readCondition.2.1 129 = .ok (.iload_n 2, 1) := by decide +kernel
theorem d_Reader_readCondition_130 : decode m_Reader_readCondition.2.1 130 = .ok (.ifCond .eq 8, 3) := by decide +kernel
theorem d_Reader_readCondition_133 : decode m_Reader_readCondition.2.1 133 = .ok (.ldc 159, 2) := by decide +kernel
theorem d_Reader_readCondition_135 : decode m_Reader_readCondition.2.1 135 = .ok (.goto 5, 3) := by decide +kernel
theorem d_Reader_readCondition_138 : decode m_Reader_readCondition.2.1 138 = .ok (.ldc 161, 2) := by decide +kernel
theorem d_Reader_readCondition_140 : decode m_Reader_readCondition.2.1 140 = .ok (.invokevirtual 98, 3) := by decide +kernel
theorem d_Reader_readCondition_143 : decode m_Reader_readCondition.2.1 143 = .ok (.pop, 1) := by decide +kernel
theorem d_Reader_readCondition_144 : decode m_Reader_readCondition.2.1 144 = .ok (.iinc 3 1, 3) := by decide +kernel
theorem d_Reader_readCondition_147 : decode m_Reader_readCondition.2.1 147 = .ok (.goto (-114), 3) := by decide +kernel
theorem d_Reader_readCondition_150 : decode m_Reader_readCondition.2.1 150 = .ok (.aload_n 0, 1) := by decide +kernel
theorem d_Reader_readCondition_151 : decode m_Reader_readCondition.2.1 151 = .ok (.getfield 42, 3) := by decide +kernel
theorem d_Reader_readCondition_154 : decode m_Reader_readCondition.2.1 154 = .ok (.bipush 12, 2) := by decide +kernel
theorem d_Reader_readCondition_156 : decode m_Reader_readCondition.2.1 156 = .ok (.iconst 0, 1) := by decide +kernel
theorem d_Reader_readCondition_157 : decode m_Reader_readCondition.2.1 157 = .ok (.iconst 0, 1) := by decide +kernel
theorem d_Reader_readCondition_158 : decode m_Reader_readCondition.2.1 158 = .ok (.invokevirtual 75, 3) := by decide +kernel
theorem d_Reader_readCondition_161 : decode m_Reader_readCondition.2.1 161 = .ok (.return_, 1) := by decide +kernel
theorem d_Code_setJumpsFrom_0 : decode m_Code_setJumpsFrom.2.1 0 = .ok (.iload_n 1, 1) := by decide +kernel
theorem d_Code_setJumpsFrom_1 : decode m_Code_setJumpsFrom.2.1 1 = .ok (.istore_n 2, 1) := by decide +kernel
theorem d_Code_setJumpsFrom_2 : decode m_Code_setJumpsFrom.2.1 2 = .ok (.iload_n 2, 1) := by decide +kernel
theorem d_Code_setJumpsFrom_3 : decode m_Code_setJumpsFrom.2.1 3 = .ok (.aload_n 0, 1) := by decide +kernel
theorem d_Code_setJumpsFrom_4 : decode m_Code_setJumpsFrom.2.1 4 = .ok (.getfield 21, 3) := by decide +kernel
theorem d_Code_setJumpsFrom_7 : decode m_Code_setJumpsFrom.2.1 7 = .ok (.if_icmp .ge 41, 3) := by decide +kernel
theorem d_Code_setJumpsFrom_10 : decode m_Code_setJumpsFrom.2.1 10 = .ok (.aload_n 0, 1) := by decide +kernel
theorem d_Code_setJumpsFrom_11 : decode m_Code_setJumpsFrom.2.1 11 = .ok (.getfield 9, 3) := by decide +kernel
theorem d_Code_setJumpsFrom_14 : decode m_Code_setJumpsFrom.2.1 14 = .ok (.iload_n 2, 1) := by decide +kernel
theorem d_Code_setJumpsFrom_15 : decode m_Code_setJumpsFrom.2.1 15 = .ok (.iaload, 1) := by decide +kernel
theorem d_Code_setJumpsFrom_16 : decode m_Code_setJumpsFrom.2.1 16 = .ok (.bipush 8, 2) := by decide +kernel
theorem d_Code_setJumpsFrom_18 : decode m_Code_setJumpsFrom.2.1 18 = .ok (.if_icmp .lt 24, 3) := by decide +kernel
theorem d_Code_setJumpsFrom_21 : decode m_Code_setJumpsFrom.2.1 21 = .ok (.aload_n 0, 1) := by decide +kernel
theorem d_Code_setJumpsFrom_22 : decode m_Code_setJumpsFrom.2.1 22 = .ok (.getfield 9, 3) := by decide +kernel
theorem d_Code_setJumpsFrom_25 : decode m_Code_setJumpsFrom.2.1 25 = .ok (.iload_n 2, 1) := by decide +kernel
theorem d_Code_setJumpsFrom_26 : decode m_Code_setJumpsFrom.2.1 26 = .ok (.iaload, 1) := by decide +kernel
theorem d_Code_setJumpsFrom_27 : decode m_Code_setJumpsFrom.2.1 27 = .ok (.bipush 10, 2) := by decide +kernel
theorem d_Code_setJumpsFrom_29 : decode m_Code_setJumpsFrom.2.1 29 = .ok (.if_icmp .gt 13, 3) := by decide +kernel
theorem d_Code_setJumpsFrom_32 : decode m_Code_setJumpsFrom.2.1 32 = .ok (.aload_n 0, 1) := by decide +kernel
theorem d_Code_setJumpsFrom_33 : decode m_Code_setJumpsFrom.2.1 33 = .ok (.getfield 18, 3) := by decide +kernel
theorem d_Code_setJumpsFrom_36 : decode m_Code_setJumpsFrom.2.1 36 = .ok (.iload_n 2, 1) := by decide +kernel
theorem d_Code_setJumpsFrom_37 : decode m_Code_setJumpsFrom.2.1 37 = .ok (.aload_n 0, 1) := by decide +kernel
theorem d_Code_setJumpsFrom_38 : decode m_Code_setJumpsFrom.2.1 38 = .ok (.getfield 21, 3) := by decide +kernel
theorem d_Code_setJumpsFrom_41 : decode m_Code_setJumpsFrom.2.1 41 = .ok (.iastore, 1) := by decide +kernel
theorem d_Code_setJumpsFrom_42 : decode m_Code_setJumpsFrom.2.1 42 = .ok (.iinc 2 1, 3) := by decide +kernel
theorem d_Code_setJumpsFrom_45 : decode m_Code_setJumpsFrom.2.1 45 = .ok (.goto (-43), 3) := by decide +kernel
theorem d_Code_setJumpsFrom_48 : decode m_Code_setJumpsFrom.2.1 48 = .ok (.return_, 1) := by decide +kernel
theorem d_Reader_readOrder_0 : decode m_Reader_readOrder.2.1 0 = .ok (.aload_n 0, 1) := by decide +kernel
theorem d_Reader_readOrder_1 : decode m_Reader_readOrder.2.1 1 = .ok (.ldc 88, 2) := by decide +kernel
theorem d_Reader_readOrder_3 : decode m_Reader_readOrder.2.1 3 = .ok (.invokevirtual 98, 3) := by decide +kernel
theorem d_Reader_readOrder_6 : decode m_Reader_readOrder.2.1 6 = .ok (.pop, 1) := by decide +kernel
theorem d_Reader_readOrder_7 : decode m_Reader_readOrder.2.1 7 = .ok (.aload_n 0, 1) := by decide +kernel
theorem d_Reader_readOrder_8 : decode m_Reader_readOrder.2.1 8 = .ok (.getfield 42, 3) := by decide +kernel
theorem d_Reader_readOrder_11 : decode m_Reader_readOrder.2.1 11 = .ok (.aload_n 0, 1) := by decide +kernel
theorem d_Reader_readOrder_12 : decode m_Reader_readOrder.2.1 12 = .ok (.aload_n 0, 1) := by decide +kernel
theorem d_Reader_readOrder_13 : decode m_Reader_readOrder.2.1 13 = .ok (.getfield 21, 3) := by decide +kernel
theorem d_Reader_readOrder_16 : decode m_Reader_readOrder.2.1 16 = .ok (.invokevirtual 98, 3) := by decide +kernel
theorem d_Reader_readOrder_19 : decode m_Reader_readOrder.2.1 19 = .ok (.bipush 97, 2) := by decide +kernel
theorem d_Reader_readOrder_21 : decode m_Reader_readOrder.2.1 21 = .ok (.isub, 1) := by decide +kernel
theorem d_Reader_readOrder_22 : decode m_Reader_readOrder.2.1 22 = .ok (.putfield 163, 3) := by decide +kernel
theorem d_Reader_readOrder_25 : decode m_Reader_readOrder.2.1 25 = .ok (.return_, 1) := by decide +kernel
theorem d_QS_run_0 : decode m_QS_run.2.1 0 = .ok (.iload_n 1, 1) := by decide +kernel
theorem d_QS_run_1 : decode m_QS_run.2.1 1 = .ok (.invokestatic 63, 3) := by decide +kernel
theorem d_QS_run_4 : decode m_QS_run.2.1 4 = .ok (.aload_n 0, 1) := by decide +kernel
theorem d_QS_run_5 : decode m_QS_run.2.1 5 = .ok (.getfield 41, 3) := by decide +kernel
theorem d_QS_run_8 : decode m_QS_run.2.1 8 = .ok (.iload_n 1, 1) := by decide +kernel
theorem d_QS_run_9 : decode m_QS_run.2.1 9 = .ok (.aaload, 1) := by decide +kernel
theorem d_QS_run_10 : decode m_QS_run.2.1 10 = .ok (.ifnonnull 11, 3) := by decide +kernel
theorem d_QS_run_13 : decode m_QS_run.2.1 13 = .ok (.new 75, 3) := by decide +kernel
theorem d_QS_run_16 : decode m_QS_run.2.1 16 = .ok (.dup, 1) := by decide +kernel
theorem d_QS_run_17 : decode m_QS_run.2.1 17 = .ok (.invokespecial 77, 3) := by decide +kernel
theorem d_QS_run_20 : decode m_QS_run.2.1 20 = .ok (.athrow, 1) := by decide +kernel
theorem d_QS_run_21 : decode m_QS_run.2.1 21 = .ok (.aload_n 0, 1) := by decide +kernel
theorem d_QS_run_22 : decode m_QS_run.2.1 22 = .ok (.aload_n 0, 1) := by decide +kernel
theorem d_QS_run_23 : decode m_QS_run.2.1 23 = .ok (.getfield 41, 3) := by decide +kernel
theorem d_QS_run_26 : decode m_QS_run.2.1 26 = .ok (.iload_n 1, 1) := by decide +kernel
theorem d_QS_run_27 : decode m_QS_run.2.1 27 = .ok (.aaload, 1) := by decide +kernel
theorem d_QS_run_28 : decode m_QS_run.2.1 28 = .ok (.iload_n 2, 1) := by decide +kernel
theorem d_QS_run_29 : decode m_QS_run.2.1 29 = .ok (.invokevirtual 78, 3) := by decide +kernel
theorem d_QS_run_32 : decode m_QS_run.2.1 32 = .ok (.ireturn, 1) := by decide +kernel
theorem d_QS_execute_0 : decode m_QS_execute.2.1 0 = .ok (.aload_n 0, 1) := by decide +kernel
theorem d_QS_execute_1 : decode m_QS_execute.2.1 1 = .ok (.dup, 1) := by decide +kernel
theorem d_QS_execute_2 : decode m_QS_execute.2.1 2 = .ok (.getfield 127, 3) := by decide +kernel
theorem d_QS_execute_5 : decode m_QS_execute.2.1 5 = .ok (.iconst 1, 1) := by decide +kernel
theorem d_QS_execute_6 : decode m_QS_execute.2.1 6 = .ok (.iadd, 1) := by decide +kernel
theorem d_QS_execute_7 : decode m_QS_execute.2.1 7 = .ok (.putfield 127, 3) := by decide +kernel
theorem d_QS_execute_10 : decode m_QS_execute.2.1 10 = .ok (.aload_n 0, 1) := by decide +kernel
theorem d_QS_execute_11 : decode m_QS_execute.2.1 11 = .ok (.getfield 35, 3) := by decide +kernel
theorem d_QS_execute_14 : decode m_QS_execute.2.1 14 = .ok (.invokevirtual 130, 3) := by decide +kernel
theorem d_QS_execute_17 : decode m_QS_execute.2.1 17 = .ok (.aload_n 0, 1) := by decide +kernel
theorem d_QS_execute_18 : decode m_QS_execute.2.1 18 = .ok (.getfield 28, 3) := by decide +kernel
theorem d_QS_execute_21 : decode m_QS_execute.2.1 21 = .ok (.bipush 6, 2) := by decide +kernel
theorem d_QS_execute_23 : decode m_QS_execute.2.1 23 = .ok (.iload_n 2, 1) := by decide +kernel
theorem d_QS_execute_24 : decode m_QS_execute.2.1 24 = .ok (.invokevirtual 133, 3) := by decide +kernel
theorem d_QS_execute_27 : decode m_QS_execute.2.1 27 = .ok (.aload_n 1, 1) := by decide +kernel
theorem d_QS_execute_28 : decode m_QS_execute.2.1 28 = .ok (.getfield 137, 3) := by decide +kernel
theorem d_QS_execute_31 : decode m_QS_execute.2.1 31 = .ok (.lookupswitch 85 #[(65, 76), (66, 76), (68, 58), (73, 49), (85, 67)], 49) := by decide +kernel
theorem d_QS_execute_80 : decode m_QS_execute.2.1 80 = .ok (.aload_n 0, 1) := by decide +kernel
theorem d_QS_execute_81 : decode m_QS_execute.2.1 81 = .ok (.aload_n 1, 1) := by decide +kernel
theorem d_QS_execute_82 : decode m_QS_execute.2.1 82 = .ok (.invokevirtual 140, 3) := by decide +kernel
theorem d_QS_execute_85 : decode m_QS_execute.2.1 85 = .ok (.istore_n 3, 1) := by decide +kernel
theorem d_QS_execute_86 : decode m_QS_execute.2.1 86 = .ok (.goto 36, 3) := by decide +kernel
theorem d_QS_execute_89 : decode m_QS_execute.2.1 89 = .ok (.aload_n 0, 1) := by decide +kernel
theorem d_QS_execute_90 : decode m_QS_execute.2.1 90 = .ok (.aload_n 1, 1) := by decide +kernel
theorem d_QS_execute_91 : decode m_QS_execute.2.1 91 = .ok (.invokevirtual 144, 3) := by decide +kernel
theorem d_QS_execute_94 : decode m_QS_execute.2.1 94 = .ok (.istore_n 3, 1) := by decide +kernel
theorem d_QS_execute_95 : decode m_QS_execute.2.1 95 = .ok (.goto 27, 3) := by decide +kernel
theorem d_QS_execute_98 : decode m_QS_execute.2.1 98 = .ok (.aload_n 0, 1) := by decide +kernel
theorem d_QS_execute_99 : decode m_QS_execute.2.1 99 = .ok (.aload_n 1, 1) := by decide +kernel
theorem d_QS_execute_100 : decode m_QS_execute.2.1 100 = .ok (.invokevirtual 147, 3) := by decide +kernel
theorem d_QS_execute_103 : decode m_QS_execute.2.1 103 = .ok (.istore_n 3, 1) := by decide +kernel
theorem d_QS_execute_104 : decode m_QS_execute.2.1 104 = .ok (.goto 18, 3) := by decide +kernel
theorem d_QS_execute_107 : decode m_QS_execute.2.1 107 = .ok (.aload_n 0, 1) := by decide +kernel
theorem d_QS_execute_108 : decode m_QS_execute.2.1 108 = .ok (.aload_n 1, 1) := by decide +kernel
theorem d_QS_execute_109 : decode m_QS_execute.2.1 109 = .ok (.invokevirtual 150, 3) := by decide +kernel
theorem d_QS_execute_112 : decode m_QS_execute.2.1 112 = .ok (.istore_n 3, 1) := by decide +kernel
theorem d_QS_execute_113 : decode m_QS_execute.2.1 113 = .ok (.goto 9, 3) := by decide +kernel
theorem d_QS_execute_116 : decode m_QS_execute.2.1 116 = .ok (.aload_n 0, 1) := by decide +kernel
theorem d_QS_execute_117 : decode m_QS_execute.2.1 117 = .ok (.aload_n 1, 1) := by decide +kernel
theorem d_QS_execute_118 : decode m_QS_execute.2.1 118 = .ok (.invokevirtual 153, 3) := by decide +kernel
theorem d_QS_execute_121 : decode m_QS_execute.2.1 121 = .ok (.istore_n 3, 1) := by decide +kernel
theorem d_QS_execute_122 : decode m_QS_execute.2.1 122 = .ok (.aload_n 0, 1) := by decide +kernel
theorem d_QS_execute_123 : decode m_QS_execute.2.1 123 = .ok (.dup, 1) := by decide +kernel
theorem d_QS_execute_124 : decode m_QS_execute.2.1 124 = .ok (.getfield 124, 3) := by decide +kernel
theorem d_QS_execute_127 : decode m_QS_execute.2.1 127 = .ok (.iconst 1, 1) := by decide +kernel
theorem d_QS_execute_128 : decode m_QS_execute.2.1 128 = .ok (.iadd, 1) := by decide +kernel
theorem d_QS_execute_129 : decode m_QS_execute.2.1 129 = .ok (.putfield 124, 3) := by decide +kernel
theorem d_QS_execute_132 : decode m_QS_execute.2.1 132 = .ok (.iload_n 3, 1) := by decide +kernel
theorem d_QS_execute_133 : decode m_QS_execute.2.1 133 = .ok (.ireturn, 1) := by decide +kernel
theorem d_Result_clear_0 : decode m_Result_clear.2.1 0 = .ok (.aload_n 0, 1) := by decide +kernel
theorem d_Result_clear_1 : decode m_Result_clear.2.1 1 = .ok (.iconst 0, 1) := by decide +kernel
theorem d_Result_clear_2 : decode m_Result_clear.2.1 2 = .ok (.putfield 28, 3) := by decide +kernel
theorem d_Result_clear_5 : decode m_Result_clear.2.1 5 = .ok (.aload_n 0, 1) := by decide +kernel
theorem d_Result_clear_6 : decode m_Result_clear.2.1 6 = .ok (.iconst 0, 1) := by decide +kernel
theorem d_Result_clear_7 : decode m_Result_clear.2.1 7 = .ok (.putfield 21, 3) := by decide +kernel
theorem d_Result_clear_10 : decode m_Result_clear.2.1 10 = .ok (.return_, 1) := by decide +kernel
theorem d_Machine_put_0 : decode m_Machine_put.2.1 0 = .ok (.aload_n 0, 1) := by decide +kernel
theorem d_Machine_put_1 : decode m_Machine_put.2.1 1 = .ok (.getfield 9, 3) := by decide +kernel
theorem d_Machine_put_4 : decode m_Machine_put.2.1 4 = .ok (.iload_n 1, 1) := by decide +kernel
theorem d_Machine_put_5 : decode m_Machine_put.2.1 5 = .ok (.iload_n 2, 1) := by decide +kernel
theorem d_Machine_put_6 : decode m_Machine_put.2.1 6 = .ok (.iastore, 1) := by decide +kernel
theorem d_Machine_put_7 : decode m_Machine_put.2.1 7 = .ok (.return_, 1) := by decide +kernel
theorem d_QS_insert_0 : decode m_QS_insert.2.1 0 = .ok (.aload_n 0, 1) := by decide +kernel
theorem d_QS_insert_1 : decode m_QS_insert.2.1 1 = .ok (.getfield 28, 3) := by decide +kernel
theorem d_QS_insert_4 : decode m_QS_insert.2.1 4 = .ok (.aload_n 1, 1) := by decide +kernel
theorem d_QS_insert_5 : decode m_QS_insert.2.1 5 = .ok (.invokevirtual 156, 3) := by decide +kernel
theorem d_QS_insert_8 : decode m_QS_insert.2.1 8 = .ok (.aload_n 0, 1) := by decide +kernel
theorem d_QS_insert_9 : decode m_QS_insert.2.1 9 = .ok (.getfield 11, 3) := by decide +kernel
theorem d_QS_insert_12 : decode m_QS_insert.2.1 12 = .ok (.aload_n 1, 1) := by decide +kernel
theorem d_QS_insert_13 : decode m_QS_insert.2.1 13 = .ok (.getfield 159, 3) := by decide +kernel
theorem d_QS_insert_16 : decode m_QS_insert.2.1 16 = .ok (.aaload, 1) := by decide +kernel
theorem d_QS_insert_17 : decode m_QS_insert.2.1 17 = .ok (.astore_n 2, 1) := by decide +kernel
theorem d_QS_insert_18 : decode m_QS_insert.2.1 18 = .ok (.aload_n 0, 1) := by decide +kernel
theorem d_QS_insert_19 : decode m_QS_insert.2.1 19 = .ok (.getfield 28, 3) := by decide +kernel
theorem d_QS_insert_22 : decode m_QS_insert.2.1 22 = .ok (.bipush 7, 2) := by decide +kernel
theorem d_QS_insert_24 : decode m_QS_insert.2.1 24 = .ok (.invokevirtual 162, 3) := by decide +kernel
theorem d_QS_insert_27 : decode m_QS_insert.2.1 27 = .ok (.istore_n 3, 1) := by decide +kernel
theorem d_QS_insert_28 : decode m_QS_insert.2.1 28 = .ok (.aload_n 2, 1) := by decide +kernel
theorem d_QS_insert_29 : decode m_QS_insert.2.1 29 = .ok (.iload_n 3, 1) := by decide +kernel
theorem d_QS_insert_30 : decode m_QS_insert.2.1 30 = .ok (.invokevirtual 165, 3) := by decide +kernel
theorem d_QS_insert_33 : decode m_QS_insert.2.1 33 = .ok (.ifCond .ne 10, 3) := by decide +kernel
theorem d_QS_insert_36 : decode m_QS_insert.2.1 36 = .ok (.aload_n 2, 1) := by decide +kernel
theorem d_QS_insert_37 : decode m_QS_insert.2.1 37 = .ok (.invokevirtual 169, 3) := by decide +kernel
theorem d_QS_insert_40 : decode m_QS_insert.2.1 40 = .ok (.ifCond .eq 11, 3) := by decide +kernel
theorem d_QS_insert_43 : decode m_QS_insert.2.1 43 = .ok (.new 102, 3) := by decide +kernel
theorem d_QS_insert_46 : decode m_QS_insert.2.1 46 = .ok (.dup, 1) := by decide +kernel
theorem d_QS_insert_47 : decode m_QS_insert.2.1 47 = .ok (.invokespecial 104, 3) := by decide +kernel
theorem d_QS_insert_50 : decode m_QS_insert.2.1 50 = .ok (.athrow, 1) := by decide +kernel
theorem d_QS_insert_51 : decode m_QS_insert.2.1 51 = .ok (.aload_n 2, 1) := by decide +kernel
theorem d_QS_insert_52 : decode m_QS_insert.2.1 52 = .ok (.iload_n 3, 1) := by decide +kernel
theorem d_QS_insert_53 : decode m_QS_insert.2.1 53 = .ok (.aload_n 0, 1) := by decide +kernel
theorem d_QS_insert_54 : decode m_QS_insert.2.1 54 = .ok (.getfield 28, 3) := by decide +kernel
theorem d_QS_insert_57 : decode m_QS_insert.2.1 57 = .ok (.bipush 8, 2) := by decide +kernel
theorem d_QS_insert_59 : decode m_QS_insert.2.1 59 = .ok (.invokevirtual 162, 3) := by decide +kernel
theorem d_QS_insert_62 : decode m_QS_insert.2.1 62 = .ok (.aload_n 0, 1) := by decide +kernel
theorem d_QS_insert_63 : decode m_QS_insert.2.1 63 = .ok (.getfield 28, 3) := by decide +kernel
theorem d_QS_insert_66 : decode m_QS_insert.2.1 66 = .ok (.bipush 9, 2) := by decide +kernel
theorem d_QS_insert_68 : decode m_QS_insert.2.1 68 = .ok (.invokevirtual 162, 3) := by decide +kernel
theorem d_QS_insert_71 : decode m_QS_insert.2.1 71 = .ok (.invokevirtual 173, 3) := by decide +kernel
theorem d_QS_insert_74 : decode m_QS_insert.2.1 74 = .ok (.aload_n 0, 1) := by decide +kernel
theorem d_QS_insert_75 : decode m_QS_insert.2.1 75 = .ok (.iconst 1, 1) := by decide +kernel
theorem d_QS_insert_76 : decode m_QS_insert.2.1 76 = .ok (.invokevirtual 176, 3) := by decide +kernel
theorem d_QS_insert_79 : decode m_QS_insert.2.1 79 = .ok (.iconst 1, 1) := by decide +kernel
theorem d_QS_insert_80 : decode m_QS_insert.2.1 80 = .ok (.ireturn, 1) := by decide +kernel
theorem d_Machine_workOut_0 : decode m_Machine_workOut.2.1 0 = .ok (.aload_n 0, 1) := by decide +kernel
theorem d_Machine_workOut_1 : decode m_Machine_workOut.2.1 1 = .ok (.aload_n 1, 1) := by decide +kernel
theorem d_Machine_workOut_2 : decode m_Machine_workOut.2.1 2 = .ok (.iconst 0, 1) := by decide +kernel
theorem d_Machine_workOut_3 : decode m_Machine_workOut.2.1 3 = .ok (.invokevirtual 27, 3) := by decide +kernel
theorem d_Machine_workOut_6 : decode m_Machine_workOut.2.1 6 = .ok (.pop, 1) := by decide +kernel
theorem d_Machine_workOut_7 : decode m_Machine_workOut.2.1 7 = .ok (.return_, 1) := by decide +kernel
theorem d_Machine_carryOut_0 : decode m_Machine_carryOut.2.1 0 = .ok (.iload_n 2, 1) := by decide +kernel
theorem d_Machine_carryOut_1 : decode m_Machine_carryOut.2.1 1 = .ok (.istore_n 3, 1) := by decide +kernel
theorem d_Machine_carryOut_2 : decode m_Machine_carryOut.2.1 2 = .ok (.iconst 0, 1) := by decide +kernel
theorem d_Machine_carryOut_3 : decode m_Machine_carryOut.2.1 3 = .ok (.istore 4, 2) := by decide +kernel
theorem d_Machine_carryOut_5 : decode m_Machine_carryOut.2.1 5 = .ok (.iload 4, 2) := by decide +kernel
theorem d_Machine_carryOut_7 : decode m_Machine_carryOut.2.1 7 = .ok (.bipush 48, 2) := by decide +kernel
theorem d_Machine_carryOut_9 : decode m_Machine_carryOut.2.1 9 = .ok (.if_icmp .ge 118, 3) := by decide +kernel
theorem d_Machine_carryOut_12 : decode m_Machine_carryOut.2.1 12 = .ok (.iload_n 3, 1) := by decide +kernel
theorem d_Machine_carryOut_13 : decode m_Machine_carryOut.2.1 13 = .ok (.aload_n 1, 1) := by decide +kernel
theorem d_Machine_carryOut_14 : decode m_Machine_carryOut.2.1 14 = .ok (.getfield 31, 3) := by decide +kernel
theorem d_Machine_carryOut_17 : decode m_Machine_carryOut.2.1 17 = .ok (.if_icmp .ge 110, 3) := by decide +kernel
theorem d_Machine_carryOut_20 : decode m_Machine_carryOut.2.1 20 = .ok (.aload_n 1, 1) := by decide +kernel
theorem d_Machine_carryOut_21 : decode m_Machine_carryOut.2.1 21 = .ok (.getfield 34, 3) := by decide +kernel
theorem d_Machine_carryOut_24 : decode m_Machine_carryOut.2.1 24 = .ok (.iload_n 3, 1) := by decide +kernel
theorem d_Machine_carryOut_25 : decode m_Machine_carryOut.2.1 25 = .ok (.iaload, 1) := by decide +kernel
theorem d_Machine_carryOut_26 : decode m_Machine_carryOut.2.1 26 = .ok (.istore 5, 2) := by decide +kernel
theorem d_Machine_carryOut_28 : decode m_Machine_carryOut.2.1 28 = .ok (.aload_n 1, 1) := by decide +kernel
theorem d_Machine_carryOut_29 : decode m_Machine_carryOut.2.1 29 = .ok (.getfield 37, 3) := by decide +kernel
theorem d_Machine_carryOut_32 : decode m_Machine_carryOut.2.1 32 = .ok (.iload_n 3, 1) := by decide +kernel
theorem d_Machine_carryOut_33 : decode m_Machine_carryOut.2.1 33 = .ok (.iaload, 1) := by decide +kernel
theorem d_Machine_carryOut_34 : decode m_Machine_carryOut.2.1 34 = .ok (.istore 6, 2) := by decide +kernel
theorem d_Machine_carryOut_36 : decode m_Machine_carryOut.2.1 36 = .ok (.iload 5, 2) := by decide +kernel
theorem d_Machine_carryOut_38 : decode m_Machine_carryOut.2.1 38 = .ok (.bipush 11, 2) := by decide +kernel
theorem d_Machine_carryOut_40 : decode m_Machine_carryOut.2.1 40 = .ok (.if_icmp .eq 10, 3) := by decide +kernel
theorem d_Machine_carryOut_43 : decode m_Machine_carryOut.2.1 43 = .ok (.iload 5, 2) := by decide +kernel
theorem d_Machine_carryOut_45 : decode m_Machine_carryOut.2.1 45 = .ok (.bipush 12, 2) := by decide +kernel
theorem d_Machine_carryOut_47 : decode m_Machine_carryOut.2.1 47 = .ok (.if_icmp .ne 16, 3) := by decide +kernel
theorem d_Machine_carryOut_50 : decode m_Machine_carryOut.2.1 50 = .ok (.iload 5, 2) := by decide +kernel
theorem d_Machine_carryOut_52 : decode m_Machine_carryOut.2.1 52 = .ok (.bipush 11, 2) := by decide +kernel
theorem d_Machine_carryOut_54 : decode m_Machine_carryOut.2.1 54 = .ok (.if_icmp .ne 7, 3) := by decide +kernel
theorem d_Machine_carryOut_57 : decode m_Machine_carryOut.2.1 57 = .ok (.iconst 1, 1) := by decide +kernel
theorem d_Machine_carryOut_58 : decode m_Machine_carryOut.2.1 58 = .ok (.goto 4, 3) := by decide +kernel
theorem d_Machine_carryOut_61 : decode m_Machine_carryOut.2.1 61 = .ok (.iconst 0, 1) := by decide +kernel
theorem d_Machine_carryOut_62 : decode m_Machine_carryOut.2.1 62 = .ok (.ireturn, 1) := by decide +kernel
theorem d_Machine_carryOut_63 : decode m_Machine_carryOut.2.1 63 = .ok (.iload 5, 2) := by decide +kernel
theorem d_Machine_carryOut_65 : decode m_Machine_carryOut.2.1 65 = .ok (.bipush 8, 2) := by decide +kernel
theorem d_Machine_carryOut_67 : decode m_Machine_carryOut.2.1 67 = .ok (.if_icmp .ge 30, 3) := by decide +kernel
theorem d_Machine_carryOut_70 : decode m_Machine_carryOut.2.1 70 = .ok (.aload_n 0, 1) := by decide +kernel
theorem d_Machine_carryOut_71 : decode m_Machine_carryOut.2.1 71 = .ok (.getfield 9, 3) := by decide +kernel
theorem d_Machine_carryOut_74 : decode m_Machine_carryOut.2.1 74 = .ok (.iload 6, 2) := by decide +kernel
theorem d_Machine_carryOut_76 : decode m_Machine_carryOut.2.1 76 = .ok (.aload_n 0, 1) := by decide +kernel
theorem d_Machine_carryOut_77 : decode m_Machine_carryOut.2.1 77 = .ok (.iload 5, 2) := by decide +kernel
theorem d_Machine_carryOut_79 : decode m_Machine_carryOut.2.1 79 = .ok (.iload 6, 2) := by decide +kernel
theorem d_Machine_carryOut_81 : decode m_Machine_carryOut.2.1 81 = .ok (.aload_n 1, 1) := by decide +kernel
theorem d_Machine_carryOut_82 : decode m_Machine_carryOut.2.1 82 = .ok (.getfield 38, 3) := by decide +kernel
theorem d_Machine_carryOut_85 : decode m_Machine_carryOut.2.1 85 = .ok (.iload_n 3, 1) := by decide +kernel
theorem d_Machine_carryOut_86 : decode m_Machine_carryOut.2.1 86 = .ok (.iaload, 1) := by decide +kernel
theorem d_Machine_carryOut_87 : decode m_Machine_carryOut.2.1 87 = .ok (.invokevirtual 41, 3) := by decide +kernel
theorem d_Machine_carryOut_90 : decode m_Machine_carryOut.2.1 90 = .ok (.iastore, 1) := by decide +kernel
theorem d_Machine_carryOut_91 : decode m_Machine_carryOut.2.1 91 = .ok (.iinc 3 1, 3) := by decide +kernel
theorem d_Machine_carryOut_94 : decode m_Machine_carryOut.2.1 94 = .ok (.goto 27, 3) := by decide +kernel
theorem d_Machine_carryOut_97 : decode m_Machine_carryOut.2.1 97 = .ok (.aload_n 0, 1) := by decide +kernel
theorem d_Machine_carryOut_98 : decode m_Machine_carryOut.2.1 98 = .ok (.iload 5, 2) := by decide +kernel
theorem d_Machine_carryOut_100 : decode m_Machine_carryOut.2.1 100 = .ok (.iload 6, 2) := by decide +kernel
theorem d_Machine_carryOut_102 : decode m_Machine_carryOut.2.1 102 = .ok (.invokevirtual 45, 3) := by decide +kernel
theorem d_Machine_carryOut_105 : decode m_Machine_carryOut.2.1 105 = .ok (.ifCond .eq 9, 3) := by decide +kernel
theorem d_Machine_carryOut_108 : decode m_Machine_carryOut.2.1 108 = .ok (.iload_n 3, 1) := by decide +kernel
theorem d_Machine_carryOut_109 : decode m_Machine_carryOut.2.1 109 = .ok (.iconst 1, 1) := by decide +kernel
theorem d_Machine_carryOut_110 : decode m_Machine_carryOut.2.1 110 = .ok (.iadd, 1) := by decide +kernel
theorem d_Machine_carryOut_111 : decode m_Machine_carryOut.2.1 111 = .ok (.goto 9, 3) := by decide +kernel
theorem d_Machine_carryOut_114 : decode m_Machine_carryOut.2.1 114 = .ok (.aload_n 1, 1) := by decide +kernel
theorem d_Machine_carryOut_115 : decode m_Machine_carryOut.2.1 115 = .ok (.getfield 38, 3) := by decide +kernel
theorem d_Machine_carryOut_118 : decode m_Machine_carryOut.2.1 118 = .ok (.iload_n 3, 1) := by decide +kernel
theorem d_Machine_carryOut_119 : decode m_Machine_carryOut.2.1 119 = .ok (.iaload, 1) := by decide +kernel
theorem d_Machine_carryOut_120 : decode m_Machine_carryOut.2.1 120 = .ok (.istore_n 3, 1) := by decide +kernel
theorem d_Machine_carryOut_121 : decode m_Machine_carryOut.2.1 121 = .ok (.iinc 4 1, 3) := by decide +kernel
theorem d_Machine_carryOut_124 : decode m_Machine_carryOut.2.1 124 = .ok (.goto (-119), 3) := by decide +kernel
theorem d_Machine_carryOut_127 : decode m_Machine_carryOut.2.1 127 = .ok (.iconst 0, 1) := by decide +kernel
theorem d_Machine_carryOut_128 : decode m_Machine_carryOut.2.1 128 = .ok (.ireturn, 1) := by decide +kernel
theorem d_Machine_outcome_0 : decode m_Machine_outcome.2.1 0 = .ok (.iload_n 1, 1) := by decide +kernel
theorem d_Machine_outcome_1 : decode m_Machine_outcome.2.1 1 = .ok (.tableswitch 104 0 5 #[39, 41, 48, 56, 72, 88], 39) := by decide +kernel
theorem d_Machine_outcome_40 : decode m_Machine_outcome.2.1 40 = .ok (.iload_n 3, 1) := by decide +kernel
theorem d_Machine_outcome_41 : decode m_Machine_outcome.2.1 41 = .ok (.ireturn, 1) := by decide +kernel
theorem d_Machine_outcome_42 : decode m_Machine_outcome.2.1 42 = .ok (.aload_n 0, 1) := by decide +kernel
theorem d_Machine_outcome_43 : decode m_Machine_outcome.2.1 43 = .ok (.getfield 9, 3) := by decide +kernel
theorem d_Machine_outcome_46 : decode m_Machine_outcome.2.1 46 = .ok (.iload_n 3, 1) := by decide +kernel
theorem d_Machine_outcome_47 : decode m_Machine_outcome.2.1 47 = .ok (.iaload, 1) := by decide +kernel
theorem d_Machine_outcome_48 : decode m_Machine_outcome.2.1 48 = .ok (.ireturn, 1) := by decide +kernel
theorem d_Machine_outcome_49 : decode m_Machine_outcome.2.1 49 = .ok (.aload_n 0, 1) := by decide +kernel
theorem d_Machine_outcome_50 : decode m_Machine_outcome.2.1 50 = .ok (.getfield 9, 3) := by decide +kernel
theorem d_Machine_outcome_53 : decode m_Machine_outcome.2.1 53 = .ok (.iload_n 2, 1) := by decide +kernel
theorem d_Machine_outcome_54 : decode m_Machine_outcome.2.1 54 = .ok (.iaload, 1) := by decide +kernel
theorem d_Machine_outcome_55 : decode m_Machine_outcome.2.1 55 = .ok (.ineg, 1) := by decide +kernel
theorem d_Machine_outcome_56 : decode m_Machine_outcome.2.1 56 = .ok (.ireturn, 1) := by decide +kernel
theorem d_Machine_outcome_57 : decode m_Machine_outcome.2.1 57 = .ok (.aload_n 0, 1) := by decide +kernel
theorem d_Machine_outcome_58 : decode m_Machine_outcome.2.1 58 = .ok (.getfield 9, 3) := by decide +kernel
theorem d_Machine_outcome_61 : decode m_Machine_outcome.2.1 61 = .ok (.iload_n 2, 1) := by decide +kernel
theorem d_Machine_outcome_62 : decode m_Machine_outcome.2.1 62 = .ok (.iaload, 1) := by decide +kernel
theorem d_Machine_outcome_63 : decode m_Machine_outcome.2.1 63 = .ok (.aload_n 0, 1) := by decide +kernel
theorem d_Machine_outcome_64 : decode m_Machine_outcome.2.1 64 = .ok (.getfield 9, 3) := by decide +kernel
theorem d_Machine_outcome_67 : decode m_Machine_outcome.2.1 67 = .ok (.iload_n 2, 1) := by decide +kernel
theorem d_Machine_outcome_68 : decode m_Machine_outcome.2.1 68 = .ok (.iconst 1, 1) := by decide +kernel
theorem d_Machine_outcome_69 : decode m_Machine_outcome.2.1 69 = .ok (.iadd, 1) := by decide +kernel
theorem d_Machine_outcome_70 : decode m_Machine_outcome.2.1 70 = .ok (.iaload, 1) := by decide +kernel
theorem d_Machine_outcome_71 : decode m_Machine_outcome.2.1 71 = .ok (.iadd, 1) := by decide +kernel
theorem d_Machine_outcome_72 : decode m_Machine_outcome.2.1 72 = .ok (.ireturn, 1) := by decide +kernel
theorem d_Machine_outcome_73 : decode m_Machine_outcome.2.1 73 = .ok (.aload_n 0, 1) := by decide +kernel
theorem d_Machine_outcome_74 : decode m_Machine_outcome.2.1 74 = .ok (.getfield 9, 3) := by decide +kernel
theorem d_Machine_outcome_77 : decode m_Machine_outcome.2.1 77 = .ok (.iload_n 2, 1) := by decide +kernel
theorem d_Machine_outcome_78 : decode m_Machine_outcome.2.1 78 = .ok (.iaload, 1) := by decide +kernel
theorem d_Machine_outcome_79 : decode m_Machine_outcome.2.1 79 = .ok (.aload_n 0, 1) := by decide +kernel
theorem d_Machine_outcome_80 : decode m_Machine_outcome.2.1 80 = .ok (.getfield 9, 3) := by decide +kernel
theorem d_Machine_outcome_83 : decode m_Machine_outcome.2.1 83 = .ok (.iload_n 2, 1) := by decide +kernel
theorem d_Machine_outcome_84 : decode m_Machine_outcome.2.1 84 = .ok (.iconst 1, 1) := by decide +kernel
theorem d_Machine_outcome_85 : decode m_Machine_outcome.2.1 85 = .ok (.iadd, 1) := by decide +kernel
theorem d_Machine_outcome_86 : decode m_Machine_outcome.2.1 86 = .ok (.iaload, 1) := by decide +kernel
theorem d_Machine_outcome_87 : decode m_Machine_outcome.2.1 87 = .ok (.isub, 1) := by decide +kernel
theorem d_Machine_outcome_88 : decode m_Machine_outcome.2.1 88 = .ok (.ireturn, 1) := by decide +kernel
theorem d_Machine_outcome_89 : decode m_Machine_outcome.2.1 89 = .ok (.aload_n 0, 1) := by decide +kernel
theorem d_Machine_outcome_90 : decode m_Machine_outcome.2.1 90 = .ok (.getfield 9, 3) := by decide +kernel
theorem d_Machine_outcome_93 : decode m_Machine_outcome.2.1 93 = .ok (.iload_n 2, 1) := by decide +kernel
theorem d_Machine_outcome_94 : decode m_Machine_outcome.2.1 94 = .ok (.iaload, 1) := by decide +kernel
theorem d_Machine_outcome_95 : decode m_Machine_outcome.2.1 95 = .ok (.aload_n 0, 1) := by decide +kernel
theorem d_Machine_outcome_96 : decode m_Machine_outcome.2.1 96 = .ok (.getfield 9, 3) := by decide +kernel
theorem d_Machine_outcome_99 : decode m_Machine_outcome.2.1 99 = .ok (.iload_n 2, 1) := by decide +kernel
theorem d_Machine_outcome_100 : decode m_Machine_outcome.2.1 100 = .ok (.iconst 1, 1) := by decide +kernel
theorem d_Machine_outcome_101 : decode m_Machine_outcome.2.1 101 = .ok (.iadd, 1) := by decide +kernel
theorem d_Machine_outcome_102 : decode m_Machine_outcome.2.1 102 = .ok (.iaload, 1) := by decide +kernel
theorem d_Machine_outcome_103 : decode m_Machine_outcome.2.1 103 = .ok (.imul, 1) := by decide +kernel
theorem d_Machine_outcome_104 : decode m_Machine_outcome.2.1 104 = .ok (.ireturn, 1) := by decide +kernel
theorem d_Machine_outcome_105 : decode m_Machine_outcome.2.1 105 = .ok (.iload_n 1, 1) := by decide +kernel
theorem d_Machine_outcome_106 : decode m_Machine_outcome.2.1 106 = .ok (.aload_n 0, 1) := by decide +kernel
theorem d_Machine_outcome_107 : decode m_Machine_outcome.2.1 107 = .ok (.getfield 9, 3) := by decide +kernel
theorem d_Machine_outcome_110 : decode m_Machine_outcome.2.1 110 = .ok (.iload_n 2, 1) := by decide +kernel
theorem d_Machine_outcome_111 : decode m_Machine_outcome.2.1 111 = .ok (.iaload, 1) := by decide +kernel
theorem d_Machine_outcome_112 : decode m_Machine_outcome.2.1 112 = .ok (.aload_n 0, 1) := by decide +kernel
theorem d_Machine_outcome_113 : decode m_Machine_outcome.2.1 113 = .ok (.getfield 9, 3) := by decide +kernel
theorem d_Machine_outcome_116 : decode m_Machine_outcome.2.1 116 = .ok (.iload_n 2, 1) := by decide +kernel
theorem d_Machine_outcome_117 : decode m_Machine_outcome.2.1 117 = .ok (.iconst 1, 1) := by decide +kernel
theorem d_Machine_outcome_118 : decode m_Machine_outcome.2.1 118 = .ok (.iadd, 1) := by decide +kernel
theorem d_Machine_outcome_119 : decode m_Machine_outcome.2.1 119 = .ok (.iaload, 1) := by decide +kernel
theorem d_Machine_outcome_120 : decode m_Machine_outcome.2.1 120 = .ok (.invokestatic 49, 3) := by decide +kernel
theorem d_Machine_outcome_123 : decode m_Machine_outcome.2.1 123 = .ok (.ireturn, 1) := by decide +kernel
theorem d_Machine_divide_0 : decode m_Machine_divide.2.1 0 = .ok (.iload_n 2, 1) := by decide +kernel
theorem d_Machine_divide_1 : decode m_Machine_divide.2.1 1 = .ok (.ifCond .ne 11, 3) := by decide +kernel
theorem d_Machine_divide_4 : decode m_Machine_divide.2.1 4 = .ok (.new 52, 3) := by decide +kernel
theorem d_Machine_divide_7 : decode m_Machine_divide.2.1 7 = .ok (.dup, 1) := by decide +kernel
theorem d_Machine_divide_8 : decode m_Machine_divide.2.1 8 = .ok (.invokespecial 54, 3) := by decide +kernel
theorem d_Machine_divide_11 : decode m_Machine_divide.2.1 11 = .ok (.athrow, 1) := by decide +kernel
theorem d_Machine_divide_12 : decode m_Machine_divide.2.1 12 = .ok (.iload_n 0, 1) := by decide +kernel
theorem d_Machine_divide_13 : decode m_Machine_divide.2.1 13 = .ok (.bipush 6, 2) := by decide +kernel
theorem d_Machine_divide_15 : decode m_Machine_divide.2.1 15 = .ok (.if_icmp .ne 9, 3) := by decide +kernel
theorem d_Machine_divide_18 : decode m_Machine_divide.2.1 18 = .ok (.iload_n 1, 1) := by decide +kernel
theorem d_Machine_divide_19 : decode m_Machine_divide.2.1 19 = .ok (.iload_n 2, 1) := by decide +kernel
theorem d_Machine_divide_20 : decode m_Machine_divide.2.1 20 = .ok (.idiv, 1) := by decide +kernel
theorem d_Machine_divide_21 : decode m_Machine_divide.2.1 21 = .ok (.goto 6, 3) := by decide +kernel
theorem d_Machine_divide_24 : decode m_Machine_divide.2.1 24 = .ok (.iload_n 1, 1) := by decide +kernel
theorem d_Machine_divide_25 : decode m_Machine_divide.2.1 25 = .ok (.iload_n 2, 1) := by decide +kernel
theorem d_Machine_divide_26 : decode m_Machine_divide.2.1 26 = .ok (.irem, 1) := by decide +kernel
theorem d_Machine_divide_27 : decode m_Machine_divide.2.1 27 = .ok (.ireturn, 1) := by decide +kernel
theorem d_Machine_compares_0 : decode m_Machine_compares.2.1 0 = .ok (.aload_n 0, 1) := by decide +kernel
theorem d_Machine_compares_1 : decode m_Machine_compares.2.1 1 = .ok (.getfield 9, 3) := by decide +kernel
theorem d_Machine_compares_4 : decode m_Machine_compares.2.1 4 = .ok (.iload_n 2, 1) := by decide +kernel
theorem d_Machine_compares_5 : decode m_Machine_compares.2.1 5 = .ok (.iaload, 1) := by decide +kernel
theorem d_Machine_compares_6 : decode m_Machine_compares.2.1 6 = .ok (.istore_n 3, 1) := by decide +kernel
theorem d_Machine_compares_7 : decode m_Machine_compares.2.1 7 = .ok (.aload_n 0, 1) := by decide +kernel
theorem d_Machine_compares_8 : decode m_Machine_compares.2.1 8 = .ok (.getfield 9, 3) := by decide +kernel
theorem d_Machine_compares_11 : decode m_Machine_compares.2.1 11 = .ok (.iload_n 2, 1) := by decide +kernel
theorem d_Machine_compares_12 : decode m_Machine_compares.2.1 12 = .ok (.iconst 1, 1) := by decide +kernel
theorem d_Machine_compares_13 : decode m_Machine_compares.2.1 13 = .ok (.iadd, 1) := by decide +kernel
theorem d_Machine_compares_14 : decode m_Machine_compares.2.1 14 = .ok (.iaload, 1) := by decide +kernel
theorem d_Machine_compares_15 : decode m_Machine_compares.2.1 15 = .ok (.istore 4, 2) := by decide +kernel
theorem d_Machine_compares_17 : decode m_Machine_compares.2.1 17 = .ok (.iload_n 1, 1) := by decide +kernel
theorem d_Machine_compares_18 : decode m_Machine_compares.2.1 18 = .ok (.lookupswitch 50 #[(8, 26), (9, 38)], 26) := by decide +kernel
theorem d_Machine_compares_44 : decode m_Machine_compares.2.1 44 = .ok (.iload_n 3, 1) := by decide +kernel
theorem d_Machine_compares_45 : decode m_Machine_compares.2.1 45 = .ok (.iload 4, 2) := by decide +kernel
theorem d_Machine_compares_47 : decode m_Machine_compares.2.1 47 = .ok (.if_icmp .ge 7, 3) := by decide +kernel
theorem d_Machine_compares_50 : decode m_Machine_compares.2.1 50 = .ok (.iconst 1, 1) := by decide +kernel
theorem d_Machine_compares_51 : decode m_Machine_compares.2.1 51 = .ok (.goto 4, 3) := by decide +kernel
theorem d_Machine_compares_54 : decode m_Machine_compares.2.1 54 = .ok (.iconst 0, 1) := by decide +kernel
theorem d_Machine_compares_55 : decode m_Machine_compares.2.1 55 = .ok (.ireturn, 1) := by decide +kernel
theorem d_Machine_compares_56 : decode m_Machine_compares.2.1 56 = .ok (.iload_n 3, 1) := by decide +kernel
theorem d_Machine_compares_57 : decode m_Machine_compares.2.1 57 = .ok (.iload 4, 2) := by decide +kernel
theorem d_Machine_compares_59 : decode m_Machine_compares.2.1 59 = .ok (.if_icmp .ne 7, 3) := by decide +kernel
theorem d_Machine_compares_62 : decode m_Machine_compares.2.1 62 = .ok (.iconst 1, 1) := by decide +kernel
theorem d_Machine_compares_63 : decode m_Machine_compares.2.1 63 = .ok (.goto 4, 3) := by decide +kernel
theorem d_Machine_compares_66 : decode m_Machine_compares.2.1 66 = .ok (.iconst 0, 1) := by decide +kernel
theorem d_Machine_compares_67 : decode m_Machine_compares.2.1 67 = .ok (.ireturn, 1) := by decide +kernel
theorem d_Machine_compares_68 : decode m_Machine_compares.2.1 68 = .ok (.iload_n 3, 1) := by decide +kernel
theorem d_Machine_compares_69 : decode m_Machine_compares.2.1 69 = .ok (.iload 4, 2) := by decide +kernel
theorem d_Machine_compares_71 : decode m_Machine_compares.2.1 71 = .ok (.if_icmp .le 7, 3) := by decide +kernel
theorem d_Machine_compares_74 : decode m_Machine_compares.2.1 74 = .ok (.iconst 1, 1) := by decide +kernel
theorem d_Machine_compares_75 : decode m_Machine_compares.2.1 75 = .ok (.goto 4, 3) := by decide +kernel
theorem d_Machine_compares_78 : decode m_Machine_compares.2.1 78 = .ok (.iconst 0, 1) := by decide +kernel
theorem d_Machine_compares_79 : decode m_Machine_compares.2.1 79 = .ok (.ireturn, 1) := by decide +kernel
theorem d_Machine_get_0 : decode m_Machine_get.2.1 0 = .ok (.aload_n 0, 1) := by decide +kernel
theorem d_Machine_get_1 : decode m_Machine_get.2.1 1 = .ok (.getfield 9, 3) := by decide +kernel
theorem d_Machine_get_4 : decode m_Machine_get.2.1 4 = .ok (.iload_n 1, 1) := by decide +kernel
theorem d_Machine_get_5 : decode m_Machine_get.2.1 5 = .ok (.iaload, 1) := by decide +kernel
theorem d_Machine_get_6 : decode m_Machine_get.2.1 6 = .ok (.ireturn, 1) := by decide +kernel
theorem d_Table_holds_0 : decode m_Table_holds.2.1 0 = .ok (.aload_n 0, 1) := by decide +kernel
theorem d_Table_holds_1 : decode m_Table_holds.2.1 1 = .ok (.getfield 22, 3) := by decide +kernel
theorem d_Table_holds_4 : decode m_Table_holds.2.1 4 = .ok (.ifCond .le 24, 3) := by decide +kernel
theorem d_Table_holds_7 : decode m_Table_holds.2.1 7 = .ok (.aload_n 0, 1) := by decide +kernel
theorem d_Table_holds_8 : decode m_Table_holds.2.1 8 = .ok (.getfield 11, 3) := by decide +kernel
theorem d_Table_holds_11 : decode m_Table_holds.2.1 11 = .ok (.aload_n 0, 1) := by decide +kernel
theorem d_Table_holds_12 : decode m_Table_holds.2.1 12 = .ok (.iload_n 1, 1) := by decide +kernel
theorem d_Table_holds_13 : decode m_Table_holds.2.1 13 = .ok (.invokevirtual 25, 3) := by decide +kernel
theorem d_Table_holds_16 : decode m_Table_holds.2.1 16 = .ok (.aaload, 1) := by decide +kernel
theorem d_Table_holds_17 : decode m_Table_holds.2.1 17 = .ok (.iload_n 1, 1) := by decide +kernel
theorem d_Table_holds_18 : decode m_Table_holds.2.1 18 = .ok (.invokevirtual 29, 3) := by decide +kernel
theorem d_Table_holds_21 : decode m_Table_holds.2.1 21 = .ok (.ifCond .eq 7, 3) := by decide +kernel
theorem d_Table_holds_24 : decode m_Table_holds.2.1 24 = .ok (.iconst 1, 1) := by decide +kernel
theorem d_Table_holds_25 : decode m_Table_holds.2.1 25 = .ok (.goto 4, 3) := by decide +kernel
theorem d_Table_holds_28 : decode m_Table_holds.2.1 28 = .ok (.iconst 0, 1) := by decide +kernel
theorem d_Table_holds_29 : decode m_Table_holds.2.1 29 = .ok (.ireturn, 1) := by decide +kernel
theorem d_Table_pageFor_0 : decode m_Table_pageFor.2.1 0 = .ok (.aload_n 0, 1) := by decide +kernel
theorem d_Table_pageFor_1 : decode m_Table_pageFor.2.1 1 = .ok (.getfield 22, 3) := by decide +kernel
theorem d_Table_pageFor_4 : decode m_Table_pageFor.2.1 4 = .ok (.iconst 1, 1) := by decide +kernel
theorem d_Table_pageFor_5 : decode m_Table_pageFor.2.1 5 = .ok (.isub, 1) := by decide +kernel
theorem d_Table_pageFor_6 : decode m_Table_pageFor.2.1 6 = .ok (.istore_n 2, 1) := by decide +kernel
theorem d_Table_pageFor_7 : decode m_Table_pageFor.2.1 7 = .ok (.iload_n 2, 1) := by decide +kernel
theorem d_Table_pageFor_8 : decode m_Table_pageFor.2.1 8 = .ok (.ifCond .le 24, 3) := by decide +kernel
theorem d_Table_pageFor_11 : decode m_Table_pageFor.2.1 11 = .ok (.aload_n 0, 1) := by decide +kernel
theorem d_Table_pageFor_12 : decode m_Table_pageFor.2.1 12 = .ok (.getfield 11, 3) := by decide +kernel
theorem d_Table_pageFor_15 : decode m_Table_pageFor.2.1 15 = .ok (.iload_n 2, 1) := by decide +kernel
theorem d_Table_pageFor_16 : decode m_Table_pageFor.2.1 16 = .ok (.aaload, 1) := by decide +kernel
theorem d_Table_pageFor_17 : decode m_Table_pageFor.2.1 17 = .ok (.iconst 0, 1) := by decide +kernel
theorem d_Table_pageFor_18 : decode m_Table_pageFor.2.1 18 = .ok (.iconst 0, 1) := by decide +kernel
theorem d_Table_pageFor_19 : decode m_Table_pageFor.2.1 19 = .ok (.invokevirtual 36, 3) := by decide +kernel
theorem d_Table_pageFor_22 : decode m_Table_pageFor.2.1 22 = .ok (.iload_n 1, 1) := by decide +kernel
theorem d_Table_pageFor_23 : decode m_Table_pageFor.2.1 23 = .ok (.if_icmp .le 9, 3) := by decide +kernel
theorem d_Table_pageFor_26 : decode m_Table_pageFor.2.1 26 = .ok (.iinc 2 (-1), 3) := by decide +kernel
theorem d_Table_pageFor_29 : decode m_Table_pageFor.2.1 29 = .ok (.goto (-22), 3) := by decide +kernel
theorem d_Table_pageFor_32 : decode m_Table_pageFor.2.1 32 = .ok (.iload_n 2, 1) := by decide +kernel
theorem d_Table_pageFor_33 : decode m_Table_pageFor.2.1 33 = .ok (.ireturn, 1) := by decide +kernel
theorem d_Page_get_0 : decode m_Page_get.2.1 0 = .ok (.aload_n 0, 1) := by decide +kernel
theorem d_Page_get_1 : decode m_Page_get.2.1 1 = .ok (.getfield 9, 3) := by decide +kernel
theorem d_Page_get_4 : decode m_Page_get.2.1 4 = .ok (.iload_n 1, 1) := by decide +kernel
theorem d_Page_get_5 : decode m_Page_get.2.1 5 = .ok (.iconst 3, 1) := by decide +kernel
theorem d_Page_get_6 : decode m_Page_get.2.1 6 = .ok (.imul, 1) := by decide +kernel
theorem d_Page_get_7 : decode m_Page_get.2.1 7 = .ok (.iload_n 2, 1) := by decide +kernel
theorem d_Page_get_8 : decode m_Page_get.2.1 8 = .ok (.iadd, 1) := by decide +kernel
theorem d_Page_get_9 : decode m_Page_get.2.1 9 = .ok (.iaload, 1) := by decide +kernel
theorem d_Page_get_10 : decode m_Page_get.2.1 10 = .ok (.ireturn, 1) := by decide +kernel
theorem d_Page_holds_0 : decode m_Page_holds.2.1 0 = .ok (.iconst 0, 1) := by decide +kernel
theorem d_Page_holds_1 : decode m_Page_holds.2.1 1 = .ok (.istore_n 2, 1) := by decide +kernel
theorem d_Page_holds_2 : decode m_Page_holds.2.1 2 = .ok (.iload_n 2, 1) := by decide +kernel
theorem d_Page_holds_3 : decode m_Page_holds.2.1 3 = .ok (.aload_n 0, 1) := by decide +kernel
theorem d_Page_holds_4 : decode m_Page_holds.2.1 4 = .ok (.getfield 15, 3) := by decide +kernel
theorem d_Page_holds_7 : decode m_Page_holds.2.1 7 = .ok (.if_icmp .ge 21, 3) := by decide +kernel
theorem d_Page_holds_10 : decode m_Page_holds.2.1 10 = .ok (.aload_n 0, 1) := by decide +kernel
theorem d_Page_holds_11 : decode m_Page_holds.2.1 11 = .ok (.iload_n 2, 1) := by decide +kernel
theorem d_Page_holds_12 : decode m_Page_holds.2.1 12 = .ok (.iconst 0, 1) := by decide +kernel
theorem d_Page_holds_13 : decode m_Page_holds.2.1 13 = .ok (.invokevirtual 25, 3) := by decide +kernel
theorem d_Page_holds_16 : decode m_Page_holds.2.1 16 = .ok (.iload_n 1, 1) := by decide +kernel
theorem d_Page_holds_17 : decode m_Page_holds.2.1 17 = .ok (.if_icmp .ne 5, 3) := by decide +kernel
theorem d_Page_holds_20 : decode m_Page_holds.2.1 20 = .ok (.iconst 1, 1) := by decide +kernel
theorem d_Page_holds_21 : decode m_Page_holds.2.1 21 = .ok (.ireturn, 1) := by decide +kernel
theorem d_Page_holds_22 : decode m_Page_holds.2.1 22 = .ok (.iinc 2 1, 3) := by decide +kernel
theorem d_Page_holds_25 : decode m_Page_holds.2.1 25 = .ok (.goto (-23), 3) := by decide +kernel
theorem d_Page_holds_28 : decode m_Page_holds.2.1 28 = .ok (.iconst 0, 1) := by decide +kernel
theorem d_Page_holds_29 : decode m_Page_holds.2.1 29 = .ok (.ireturn, 1) := by decide +kernel
theorem d_Table_isFull_0 : decode m_Table_isFull.2.1 0 = .ok (.aload_n 0, 1) := by decide +kernel
theorem d_Table_isFull_1 : decode m_Table_isFull.2.1 1 = .ok (.getfield 18, 3) := by decide +kernel
theorem d_Table_isFull_4 : decode m_Table_isFull.2.1 4 = .ok (.bipush 20, 2) := by decide +kernel
theorem d_Table_isFull_6 : decode m_Table_isFull.2.1 6 = .ok (.if_icmp .ne 7, 3) := by decide +kernel
theorem d_Table_isFull_9 : decode m_Table_isFull.2.1 9 = .ok (.iconst 1, 1) := by decide +kernel
theorem d_Table_isFull_10 : decode m_Table_isFull.2.1 10 = .ok (.goto 4, 3) := by decide +kernel
theorem d_Table_isFull_13 : decode m_Table_isFull.2.1 13 = .ok (.iconst 0, 1) := by decide +kernel
theorem d_Table_isFull_14 : decode m_Table_isFull.2.1 14 = .ok (.ireturn, 1) := by decide +kernel
theorem d_Table_insert_0 : decode m_Table_insert.2.1 0 = .ok (.aload_n 0, 1) := by decide +kernel
theorem d_Table_insert_1 : decode m_Table_insert.2.1 1 = .ok (.getfield 22, 3) := by decide +kernel
theorem d_Table_insert_4 : decode m_Table_insert.2.1 4 = .ok (.ifCond .ne 8, 3) := by decide +kernel
theorem d_Table_insert_7 : decode m_Table_insert.2.1 7 = .ok (.aload_n 0, 1) := by decide +kernel
theorem d_Table_insert_8 : decode m_Table_insert.2.1 8 = .ok (.iconst 0, 1) := by decide +kernel
theorem d_Table_insert_9 : decode m_Table_insert.2.1 9 = .ok (.invokevirtual 48, 3) := by decide +kernel
theorem d_Table_insert_12 : decode m_Table_insert.2.1 12 = .ok (.aload_n 0, 1) := by decide +kernel
theorem d_Table_insert_13 : decode m_Table_insert.2.1 13 = .ok (.iload_n 1, 1) := by decide +kernel
theorem d_Table_insert_14 : decode m_Table_insert.2.1 14 = .ok (.invokevirtual 25, 3) := by decide +kernel
theorem d_Table_insert_17 : decode m_Table_insert.2.1 17 = .ok (.istore 4, 2) := by decide +kernel
theorem d_Table_insert_19 : decode m_Table_insert.2.1 19 = .ok (.aload_n 0, 1) := by decide +kernel
theorem d_Table_insert_20 : decode m_Table_insert.2.1 20 = .ok (.getfield 11, 3) := by decide +kernel
theorem d_Table_insert_23 : decode m_Table_insert.2.1 23 = .ok (.iload 4, 2) := by decide +kernel
theorem d_Table_insert_25 : decode m_Table_insert.2.1 25 = .ok (.aaload, 1) := by decide +kernel
theorem d_Table_insert_26 : decode m_Table_insert.2.1 26 = .ok (.invokevirtual 52, 3) := by decide +kernel
theorem d_Table_insert_29 : decode m_Table_insert.2.1 29 = .ok (.ifCond .eq 37, 3) := by decide +kernel
theorem d_Table_insert_32 : decode m_Table_insert.2.1 32 = .ok (.aload_n 0, 1) := by decide +kernel
theorem d_Table_insert_33 : decode m_Table_insert.2.1 33 = .ok (.iload 4, 2) := by decide +kernel
theorem d_Table_insert_35 : decode m_Table_insert.2.1 35 = .ok (.iconst 1, 1) := by decide +kernel
theorem d_Table_insert_36 : decode m_Table_insert.2.1 36 = .ok (.iadd, 1) := by decide +kernel
theorem d_Table_insert_37 : decode m_Table_insert.2.1 37 = .ok (.invokevirtual 48, 3) := by decide +kernel
theorem d_Table_insert_40 : decode m_Table_insert.2.1 40 = .ok (.aload_n 0, 1) := by decide +kernel
theorem d_Table_insert_41 : decode m_Table_insert.2.1 41 = .ok (.getfield 11, 3) := by decide +kernel
theorem d_Table_insert_44 : decode m_Table_insert.2.1 44 = .ok (.iload 4, 2) := by decide +kernel
theorem d_Table_insert_46 : decode m_Table_insert.2.1 46 = .ok (.aaload, 1) := by decide +kernel
theorem d_Table_insert_47 : decode m_Table_insert.2.1 47 = .ok (.aload_n 0, 1) := by decide +kernel
theorem d_Table_insert_48 : decode m_Table_insert.2.1 48 = .ok (.getfield 11, 3) := by decide +kernel
theorem d_Table_insert_51 : decode m_Table_insert.2.1 51 = .ok (.iload 4, 2) := by decide +kernel
theorem d_Table_insert_53 : decode m_Table_insert.2.1 53 = .ok (.iconst 1, 1) := by decide +kernel
theorem d_Table_insert_54 : decode m_Table_insert.2.1 54 = .ok (.iadd, 1) := by decide +kernel
theorem d_Table_insert_55 : decode m_Table_insert.2.1 55 = .ok (.aaload, 1) := by decide +kernel
theorem d_Table_insert_56 : decode m_Table_insert.2.1 56 = .ok (.invokevirtual 56, 3) := by decide +kernel
theorem d_Table_insert_59 : decode m_Table_insert.2.1 59 = .ok (.aload_n 0, 1) := by decide +kernel
theorem d_Table_insert_60 : decode m_Table_insert.2.1 60 = .ok (.iload_n 1, 1) := by decide +kernel
theorem d_Table_insert_61 : decode m_Table_insert.2.1 61 = .ok (.invokevirtual 25, 3) := by decide +kernel
theorem d_Table_insert_64 : decode m_Table_insert.2.1 64 = .ok (.istore 4, 2) := by decide +kernel
theorem d_Table_insert_66 : decode m_Table_insert.2.1 66 = .ok (.aload_n 0, 1) := by decide +kernel
theorem d_Table_insert_67 : decode m_Table_insert.2.1 67 = .ok (.getfield 11, 3) := by decide +kernel
theorem d_Table_insert_70 : decode m_Table_insert.2.1 70 = .ok (.iload 4, 2) := by decide +kernel
theorem d_Table_insert_72 : decode m_Table_insert.2.1 72 = .ok (.aaload, 1) := by decide +kernel
theorem d_Table_insert_73 : decode m_Table_insert.2.1 73 = .ok (.iload_n 1, 1) := by decide +kernel
theorem d_Table_insert_74 : decode m_Table_insert.2.1 74 = .ok (.iload_n 2, 1) := by decide +kernel
theorem d_Table_insert_75 : decode m_Table_insert.2.1 75 = .ok (.iload_n 3, 1) := by decide +kernel
theorem d_Table_insert_76 : decode m_Table_insert.2.1 76 = .ok (.invokevirtual 60, 3) := by decide +kernel
theorem d_Table_insert_79 : decode m_Table_insert.2.1 79 = .ok (.aload_n 0, 1) := by decide +kernel
theorem d_Table_insert_80 : decode m_Table_insert.2.1 80 = .ok (.dup, 1) := by decide +kernel
theorem d_Table_insert_81 : decode m_Table_insert.2.1 81 = .ok (.getfield 18, 3) := by decide +kernel
theorem d_Table_insert_84 : decode m_Table_insert.2.1 84 = .ok (.iconst 1, 1) := by decide +kernel
theorem d_Table_insert_85 : decode m_Table_insert.2.1 85 = .ok (.iadd, 1) := by decide +kernel
theorem d_Table_insert_86 : decode m_Table_insert.2.1 86 = .ok (.putfield 18, 3) := by decide +kernel
theorem d_Table_insert_89 : decode m_Table_insert.2.1 89 = .ok (.return_, 1) := by decide +kernel
theorem d_Table_openPage_0 : decode m_Table_openPage.2.1 0 = .ok (.aload_n 0, 1) := by decide +kernel
theorem d_Table_openPage_1 : decode m_Table_openPage.2.1 1 = .ok (.getfield 11, 3) := by decide +kernel
theorem d_Table_openPage_4 : decode m_Table_openPage.2.1 4 = .ok (.aload_n 0, 1) := by decide +kernel
theorem d_Table_openPage_5 : decode m_Table_openPage.2.1 5 = .ok (.getfield 22, 3) := by decide +kernel
theorem d_Table_openPage_8 : decode m_Table_openPage.2.1 8 = .ok (.aaload, 1) := by decide +kernel
theorem d_Table_openPage_9 : decode m_Table_openPage.2.1 9 = .ok (.astore_n 2, 1) := by decide +kernel
theorem d_Table_openPage_10 : decode m_Table_openPage.2.1 10 = .ok (.aload_n 0, 1) := by decide +kernel
theorem d_Table_openPage_11 : decode m_Table_openPage.2.1 11 = .ok (.getfield 22, 3) := by decide +kernel
theorem d_Table_openPage_14 : decode m_Table_openPage.2.1 14 = .ok (.istore_n 3, 1) := by decide +kernel
theorem d_Table_openPage_15 : decode m_Table_openPage.2.1 15 = .ok (.iload_n 3, 1) := by decide +kernel
theorem d_Table_openPage_16 : decode m_Table_openPage.2.1 16 = .ok (.iload_n 1, 1) := by decide +kernel
theorem d_Table_openPage_17 : decode m_Table_openPage.2.1 17 = .ok (.if_icmp .le 23, 3) := by decide +kernel
theorem d_Table_openPage_20 : decode m_Table_openPage.2.1 20 = .ok (.aload_n 0, 1) := by decide +kernel
theorem d_Table_openPage_21 : decode m_Table_openPage.2.1 21 = .ok (.getfield 11, 3) := by decide +kernel
theorem d_Table_openPage_24 : decode m_Table_openPage.2.1 24 = .ok (.iload_n 3, 1) := by decide +kernel
theorem d_Table_openPage_25 : decode m_Table_openPage.2.1 25 = .ok (.aload_n 0, 1) := by decide +kernel
theorem d_Table_openPage_26 : decode m_Table_openPage.2.1 26 = .ok (.getfield 11, 3) := by decide +kernel
theorem d_Table_openPage_29 : decode m_Table_openPage.2.1 29 = .ok (.iload_n 3, 1) := by decide +kernel
theorem d_Table_openPage_30 : decode m_Table_openPage.2.1 30 = .ok (.iconst 1, 1) := by decide +kernel
theorem d_Table_openPage_31 : decode m_Table_openPage.2.1 31 = .ok (.isub, 1) := by decide +kernel
theorem d_Table_openPage_32 : decode m_Table_openPage.2.1 32 = .ok (.aaload, 1) := by decide +kernel
theorem d_Table_openPage_33 : decode m_Table_openPage.2.1 33 = .ok (.aastore, 1) := by decide +kernel
theorem d_Table_openPage_34 : decode m_Table_openPage.2.1 34 = .ok (.iinc 3 (-1), 3) := by decide +kernel
theorem d_Table_openPage_37 : decode m_Table_openPage.2.1 37 = .ok (.goto (-22), 3) := by decide +kernel
theorem d_Table_openPage_40 : decode m_Table_openPage.2.1 40 = .ok (.aload_n 0, 1) := by decide +kernel
theorem d_Table_openPage_41 : decode m_Table_openPage.2.1 41 = .ok (.getfield 11, 3) := by decide +kernel
theorem d_Table_openPage_44 : decode m_Table_openPage.2.1 44 = .ok (.iload_n 1, 1) := by decide +kernel
theorem d_Table_openPage_45 : decode m_Table_openPage.2.1 45 = .ok (.aload_n 2, 1) := by decide +kernel
theorem d_Table_openPage_46 : decode m_Table_openPage.2.1 46 = .ok (.aastore, 1) := by decide +kernel
theorem d_Table_openPage_47 : decode m_Table_openPage.2.1 47 = .ok (.aload_n 0, 1) := by decide +kernel
theorem d_Table_openPage_48 : decode m_Table_openPage.2.1 48 = .ok (.dup, 1) := by decide +kernel
theorem d_Table_openPage_49 : decode m_Table_openPage.2.1 49 = .ok (.getfield 22, 3) := by decide +kernel
theorem d_Table_openPage_52 : decode m_Table_openPage.2.1 52 = .ok (.iconst 1, 1) := by decide +kernel
theorem d_Table_openPage_53 : decode m_Table_openPage.2.1 53 = .ok (.iadd, 1) := by decide +kernel
theorem d_Table_openPage_54 : decode m_Table_openPage.2.1 54 = .ok (.putfield 22, 3) := by decide +kernel
theorem d_Table_openPage_57 : decode m_Table_openPage.2.1 57 = .ok (.return_, 1) := by decide +kernel
theorem d_Page_isFull_0 : decode m_Page_isFull.2.1 0 = .ok (.aload_n 0, 1) := by decide +kernel
theorem d_Page_isFull_1 : decode m_Page_isFull.2.1 1 = .ok (.getfield 15, 3) := by decide +kernel
theorem d_Page_isFull_4 : decode m_Page_isFull.2.1 4 = .ok (.iconst 4, 1) := by decide +kernel
theorem d_Page_isFull_5 : decode m_Page_isFull.2.1 5 = .ok (.if_icmp .ne 7, 3) := by decide +kernel
theorem d_Page_isFull_8 : decode m_Page_isFull.2.1 8 = .ok (.iconst 1, 1) := by decide +kernel
theorem d_Page_isFull_9 : decode m_Page_isFull.2.1 9 = .ok (.goto 4, 3) := by decide +kernel
theorem d_Page_isFull_12 : decode m_Page_isFull.2.1 12 = .ok (.iconst 0, 1) := by decide +kernel
theorem d_Page_isFull_13 : decode m_Page_isFull.2.1 13 = .ok (.ireturn, 1) := by decide +kernel
theorem d_Page_giveUpperHalf_0 : decode m_Page_giveUpperHalf.2.1 0 = .ok (.aload_n 0, 1) := by decide +kernel
theorem d_Page_giveUpperHalf_1 : decode m_Page_giveUpperHalf.2.1 1 = .ok (.getfield 15, 3) := by decide +kernel
theorem d_Page_giveUpperHalf_4 : decode m_Page_giveUpperHalf.2.1 4 = .ok (.iconst 2, 1) := by decide +kernel
theorem d_Page_giveUpperHalf_5 : decode m_Page_giveUpperHalf.2.1 5 = .ok (.idiv, 1) := by decide +kernel
theorem d_Page_giveUpperHalf_6 : decode m_Page_giveUpperHalf.2.1 6 = .ok (.istore_n 2, 1) := by decide +kernel
theorem d_Page_giveUpperHalf_7 : decode m_Page_giveUpperHalf.2.1 7 = .ok (.aload_n 1, 1) := by decide +kernel
theorem d_Page_giveUpperHalf_8 : decode m_Page_giveUpperHalf.2.1 8 = .ok (.aload_n 0, 1) := by decide +kernel
theorem d_Page_giveUpperHalf_9 : decode m_Page_giveUpperHalf.2.1 9 = .ok (.getfield 15, 3) := by decide +kernel
theorem d_Page_giveUpperHalf_12 : decode m_Page_giveUpperHalf.2.1 12 = .ok (.iload_n 2, 1) := by decide +kernel
theorem d_Page_giveUpperHalf_13 : decode m_Page_giveUpperHalf.2.1 13 = .ok (.isub, 1) := by decide +kernel
theorem d_Page_giveUpperHalf_14 : decode m_Page_giveUpperHalf.2.1 14 = .ok (.putfield 15, 3) := by decide +kernel
theorem d_Page_giveUpperHalf_17 : decode m_Page_giveUpperHalf.2.1 17 = .ok (.aload_n 0, 1) := by decide +kernel
theorem d_Page_giveUpperHalf_18 : decode m_Page_giveUpperHalf.2.1 18 = .ok (.getfield 9, 3) := by decide +kernel
theorem d_Page_giveUpperHalf_21 : decode m_Page_giveUpperHalf.2.1 21 = .ok (.iload_n 2, 1) := by decide +kernel
theorem d_Page_giveUpperHalf_22 : decode m_Page_giveUpperHalf.2.1 22 = .ok (.iconst 3, 1) := by decide +kernel
theorem d_Page_giveUpperHalf_23 : decode m_Page_giveUpperHalf.2.1 23 = .ok (.imul, 1) := by decide +kernel
theorem d_Page_giveUpperHalf_24 : decode m_Page_giveUpperHalf.2.1 24 = .ok (.aload_n 1, 1) := by decide +kernel
theorem d_Page_giveUpperHalf_25 : decode m_Page_giveUpperHalf.2.1 25 = .ok (.getfield 9, 3) := by decide +kernel
theorem d_Page_giveUpperHalf_28 : decode m_Page_giveUpperHalf.2.1 28 = .ok (.iconst 0, 1) := by decide +kernel
theorem d_Page_giveUpperHalf_29 : decode m_Page_giveUpperHalf.2.1 29 = .ok (.aload_n 1, 1) := by decide +kernel
theorem d_Page_giveUpperHalf_30 : decode m_Page_giveUpperHalf.2.1 30 = .ok (.getfield 15, 3) := by decide +kernel
theorem d_Page_giveUpperHalf_33 : decode m_Page_giveUpperHalf.2.1 33 = .ok (.iconst 3, 1) := by decide +kernel
theorem d_Page_giveUpperHalf_34 : decode m_Page_giveUpperHalf.2.1 34 = .ok (.imul, 1) := by decide +kernel
theorem d_Page_giveUpperHalf_35 : decode m_Page_giveUpperHalf.2.1 35 = .ok (.invokestatic 19, 3) := by decide +kernel
theorem d_Page_giveUpperHalf_38 : decode m_Page_giveUpperHalf.2.1 38 = .ok (.aload_n 0, 1) := by decide +kernel
theorem d_Page_giveUpperHalf_39 : decode m_Page_giveUpperHalf.2.1 39 = .ok (.iload_n 2, 1) := by decide +kernel
theorem d_Page_giveUpperHalf_40 : decode m_Page_giveUpperHalf.2.1 40 = .ok (.putfield 15, 3) := by decide +kernel
theorem d_Page_giveUpperHalf_43 : decode m_Page_giveUpperHalf.2.1 43 = .ok (.return_, 1) := by decide +kernel
theorem d_Page_insert_0 : decode m_Page_insert.2.1 0 = .ok (.aload_n 0, 1) := by decide +kernel
theorem d_Page_insert_1 : decode m_Page_insert.2.1 1 = .ok (.getfield 15, 3) := by decide +kernel
theorem d_Page_insert_4 : decode m_Page_insert.2.1 4 = .ok (.istore 4, 2) := by decide +kernel
theorem d_Page_insert_6 : decode m_Page_insert.2.1 6 = .ok (.iload 4, 2) := by decide +kernel
theorem d_Page_insert_8 : decode m_Page_insert.2.1 8 = .ok (.ifCond .le 22, 3) := by decide +kernel
theorem d_Page_insert_11 : decode m_Page_insert.2.1 11 = .ok (.aload_n 0, 1) := by decide +kernel
theorem d_Page_insert_12 : decode m_Page_insert.2.1 12 = .ok (.iload 4, 2) := by decide +kernel
theorem d_Page_insert_14 : decode m_Page_insert.2.1 14 = .ok (.iconst 1, 1) := by decide +kernel
theorem d_Page_insert_15 : decode m_Page_insert.2.1 15 = .ok (.isub, 1) := by decide +kernel
theorem d_Page_insert_16 : decode m_Page_insert.2.1 16 = .ok (.iconst 0, 1) := by decide +kernel
theorem d_Page_insert_17 : decode m_Page_insert.2.1 17 = .ok (.invokevirtual 25, 3) := by decide +kernel
theorem d_Page_insert_20 : decode m_Page_insert.2.1 20 = .ok (.iload_n 1, 1) := by decide +kernel
theorem d_Page_insert_21 : decode m_Page_insert.2.1 21 = .ok (.if_icmp .le 9, 3) := by decide +kernel
theorem d_Page_insert_24 : decode m_Page_insert.2.1 24 = .ok (.iinc 4 (-1), 3) := by decide +kernel
theorem d_Page_insert_27 : decode m_Page_insert.2.1 27 = .ok (.goto (-21), 3) := by decide +kernel
theorem d_Page_insert_30 : decode m_Page_insert.2.1 30 = .ok (.aload_n 0, 1) := by decide +kernel
theorem d_Page_insert_31 : decode m_Page_insert.2.1 31 = .ok (.iload 4, 2) := by decide +kernel
theorem d_Page_insert_33 : decode m_Page_insert.2.1 33 = .ok (.iload 4, 2) := by decide +kernel
theorem d_Page_insert_35 : decode m_Page_insert.2.1 35 = .ok (.iconst 1, 1) := by decide +kernel
theorem d_Page_insert_36 : decode m_Page_insert.2.1 36 = .ok (.iadd, 1) := by decide +kernel
theorem d_Page_insert_37 : decode m_Page_insert.2.1 37 = .ok (.aload_n 0, 1) := by decide +kernel
theorem d_Page_insert_38 : decode m_Page_insert.2.1 38 = .ok (.getfield 15, 3) := by decide +kernel
theorem d_Page_insert_41 : decode m_Page_insert.2.1 41 = .ok (.iload 4, 2) := by decide +kernel
theorem d_Page_insert_43 : decode m_Page_insert.2.1 43 = .ok (.isub, 1) := by decide +kernel
theorem d_Page_insert_44 : decode m_Page_insert.2.1 44 = .ok (.invokevirtual 29, 3) := by decide +kernel
theorem d_Page_insert_47 : decode m_Page_insert.2.1 47 = .ok (.aload_n 0, 1) := by decide +kernel
theorem d_Page_insert_48 : decode m_Page_insert.2.1 48 = .ok (.iload 4, 2) := by decide +kernel
theorem d_Page_insert_50 : decode m_Page_insert.2.1 50 = .ok (.iconst 0, 1) := by decide +kernel
theorem d_Page_insert_51 : decode m_Page_insert.2.1 51 = .ok (.iload_n 1, 1) := by decide +kernel
theorem d_Page_insert_52 : decode m_Page_insert.2.1 52 = .ok (.invokevirtual 33, 3) := by decide +kernel
theorem d_Page_insert_55 : decode m_Page_insert.2.1 55 = .ok (.aload_n 0, 1) := by decide +kernel
theorem d_Page_insert_56 : decode m_Page_insert.2.1 56 = .ok (.iload 4, 2) := by decide +kernel
theorem d_Page_insert_58 : decode m_Page_insert.2.1 58 = .ok (.iconst 1, 1) := by decide +kernel
theorem d_Page_insert_59 : decode m_Page_insert.2.1 59 = .ok (.iload_n 2, 1) := by decide +kernel
theorem d_Page_insert_60 : decode m_Page_insert.2.1 60 = .ok (.invokevirtual 33, 3) := by decide +kernel
theorem d_Page_insert_63 : decode m_Page_insert.2.1 63 = .ok (.aload_n 0, 1) := by decide +kernel
theorem d_Page_insert_64 : decode m_Page_insert.2.1 64 = .ok (.iload 4, 2) := by decide +kernel
theorem d_Page_insert_66 : decode m_Page_insert.2.1 66 = .ok (.iconst 2, 1) := by decide +kernel
theorem d_Page_insert_67 : decode m_Page_insert.2.1 67 = .ok (.iload_n 3, 1) := by decide +kernel
theorem d_Page_insert_68 : decode m_Page_insert.2.1 68 = .ok (.invokevirtual 33, 3) := by decide +kernel
theorem d_Page_insert_71 : decode m_Page_insert.2.1 71 = .ok (.aload_n 0, 1) := by decide +kernel
theorem d_Page_insert_72 : decode m_Page_insert.2.1 72 = .ok (.dup, 1) := by decide +kernel
theorem d_Page_insert_73 : decode m_Page_insert.2.1 73 = .ok (.getfield 15, 3) := by decide +kernel
theorem d_Page_insert_76 : decode m_Page_insert.2.1 76 = .ok (.iconst 1, 1) := by decide +kernel
theorem d_Page_insert_77 : decode m_Page_insert.2.1 77 = .ok (.iadd, 1) := by decide +kernel
theorem d_Page_insert_78 : decode m_Page_insert.2.1 78 = .ok (.putfield 15, 3) := by decide +kernel
theorem d_Page_insert_81 : decode m_Page_insert.2.1 81 = .ok (.return_, 1) := by decide +kernel
theorem d_Page_moveRows_0 : decode m_Page_moveRows.2.1 0 = .ok (.aload_n 0, 1) := by decide +kernel
theorem d_Page_moveRows_1 : decode m_Page_moveRows.2.1 1 = .ok (.getfield 9, 3) := by decide +kernel
theorem d_Page_moveRows_4 : decode m_Page_moveRows.2.1 4 = .ok (.iload_n 1, 1) := by decide +kernel
theorem d_Page_moveRows_5 : decode m_Page_moveRows.2.1 5 = .ok (.iconst 3, 1) := by decide +kernel
theorem d_Page_moveRows_6 : decode m_Page_moveRows.2.1 6 = .ok (.imul, 1) := by decide +kernel
theorem d_Page_moveRows_7 : decode m_Page_moveRows.2.1 7 = .ok (.aload_n 0, 1) := by decide +kernel
theorem d_Page_moveRows_8 : decode m_Page_moveRows.2.1 8 = .ok (.getfield 9, 3) := by decide +kernel
theorem d_Page_moveRows_11 : decode m_Page_moveRows.2.1 11 = .ok (.iload_n 2, 1) := by decide +kernel
theorem d_Page_moveRows_12 : decode m_Page_moveRows.2.1 12 = .ok (.iconst 3, 1) := by decide +kernel
theorem d_Page_moveRows_13 : decode m_Page_moveRows.2.1 13 = .ok (.imul, 1) := by decide +kernel
theorem d_Page_moveRows_14 : decode m_Page_moveRows.2.1 14 = .ok (.iload_n 3, 1) := by decide +kernel
theorem d_Page_moveRows_15 : decode m_Page_moveRows.2.1 15 = .ok (.iconst 3, 1) := by decide +kernel
theorem d_Page_moveRows_16 : decode m_Page_moveRows.2.1 16 = .ok (.imul, 1) := by decide +kernel
theorem d_Page_moveRows_17 : decode m_Page_moveRows.2.1 17 = .ok (.invokestatic 19, 3) := by decide +kernel
theorem d_Page_moveRows_20 : decode m_Page_moveRows.2.1 20 = .ok (.return_, 1) := by decide +kernel
theorem d_Page_put_0 : decode m_Page_put.2.1 0 = .ok (.aload_n 0, 1) := by decide +kernel
theorem d_Page_put_1 : decode m_Page_put.2.1 1 = .ok (.getfield 9, 3) := by decide +kernel
theorem d_Page_put_4 : decode m_Page_put.2.1 4 = .ok (.iload_n 1, 1) := by decide +kernel
theorem d_Page_put_5 : decode m_Page_put.2.1 5 = .ok (.iconst 3, 1) := by decide +kernel
theorem d_Page_put_6 : decode m_Page_put.2.1 6 = .ok (.imul, 1) := by decide +kernel
theorem d_Page_put_7 : decode m_Page_put.2.1 7 = .ok (.iload_n 2, 1) := by decide +kernel
theorem d_Page_put_8 : decode m_Page_put.2.1 8 = .ok (.iadd, 1) := by decide +kernel
theorem d_Page_put_9 : decode m_Page_put.2.1 9 = .ok (.iload_n 3, 1) := by decide +kernel
theorem d_Page_put_10 : decode m_Page_put.2.1 10 = .ok (.iastore, 1) := by decide +kernel
theorem d_Page_put_11 : decode m_Page_put.2.1 11 = .ok (.return_, 1) := by decide +kernel
theorem d_QS_note_0 : decode m_QS_note.2.1 0 = .ok (.aload_n 0, 1) := by decide +kernel
theorem d_QS_note_1 : decode m_QS_note.2.1 1 = .ok (.getfield 98, 3) := by decide +kernel
theorem d_QS_note_4 : decode m_QS_note.2.1 4 = .ok (.ifCond .eq 13, 3) := by decide +kernel
theorem d_QS_note_7 : decode m_QS_note.2.1 7 = .ok (.aload_n 0, 1) := by decide +kernel
theorem d_QS_note_8 : decode m_QS_note.2.1 8 = .ok (.dup, 1) := by decide +kernel
theorem d_QS_note_9 : decode m_QS_note.2.1 9 = .ok (.getfield 121, 3) := by decide +kernel
theorem d_QS_note_12 : decode m_QS_note.2.1 12 = .ok (.iload_n 1, 1) := by decide +kernel
theorem d_QS_note_13 : decode m_QS_note.2.1 13 = .ok (.iadd, 1) := by decide +kernel
theorem d_QS_note_14 : decode m_QS_note.2.1 14 = .ok (.putfield 121, 3) := by decide +kernel
theorem d_QS_note_17 : decode m_QS_note.2.1 17 = .ok (.return_, 1) := by decide +kernel
theorem d_QS_delete_0 : decode m_QS_delete.2.1 0 = .ok (.aload_n 0, 1) := by decide +kernel
theorem d_QS_delete_1 : decode m_QS_delete.2.1 1 = .ok (.getfield 11, 3) := by decide +kernel
theorem d_QS_delete_4 : decode m_QS_delete.2.1 4 = .ok (.aload_n 1, 1) := by decide +kernel
theorem d_QS_delete_5 : decode m_QS_delete.2.1 5 = .ok (.getfield 159, 3) := by decide +kernel
theorem d_QS_delete_8 : decode m_QS_delete.2.1 8 = .ok (.aaload, 1) := by decide +kernel
theorem d_QS_delete_9 : decode m_QS_delete.2.1 9 = .ok (.astore_n 2, 1) := by decide +kernel
theorem d_QS_delete_10 : decode m_QS_delete.2.1 10 = .ok (.iconst 0, 1) := by decide +kernel
theorem d_QS_delete_11 : decode m_QS_delete.2.1 11 = .ok (.istore_n 3, 1) := by decide +kernel
theorem d_QS_delete_12 : decode m_QS_delete.2.1 12 = .ok (.iconst 0, 1) := by decide +kernel
theorem d_QS_delete_13 : decode m_QS_delete.2.1 13 = .ok (.istore 4, 2) := by decide +kernel
theorem d_QS_delete_15 : decode m_QS_delete.2.1 15 = .ok (.iload 4, 2) := by decide +kernel
theorem d_QS_delete_17 : decode m_QS_delete.2.1 17 = .ok (.aload_n 2, 1) := by decide +kernel
theorem d_QS_delete_18 : decode m_QS_delete.2.1 18 = .ok (.invokevirtual 96, 3) := by decide +kernel
theorem d_QS_delete_21 : decode m_QS_delete.2.1 21 = .ok (.if_icmp .ge 36, 3) := by decide +kernel
theorem d_QS_delete_24 : decode m_QS_delete.2.1 24 = .ok (.aload_n 0, 1) := by decide +kernel
theorem d_QS_delete_25 : decode m_QS_delete.2.1 25 = .ok (.getfield 45, 3) := by decide +kernel
theorem d_QS_delete_28 : decode m_QS_delete.2.1 28 = .ok (.iload 4, 2) := by decide +kernel
theorem d_QS_delete_30 : decode m_QS_delete.2.1 30 = .ok (.aload_n 0, 1) := by decide +kernel
theorem d_QS_delete_31 : decode m_QS_delete.2.1 31 = .ok (.aload_n 1, 1) := by decide +kernel
theorem d_QS_delete_32 : decode m_QS_delete.2.1 32 = .ok (.iload 4, 2) := by decide +kernel
theorem d_QS_delete_34 : decode m_QS_delete.2.1 34 = .ok (.invokevirtual 179, 3) := by decide +kernel
theorem d_QS_delete_37 : decode m_QS_delete.2.1 37 = .ok (.bastore, 1) := by decide +kernel
theorem d_QS_delete_38 : decode m_QS_delete.2.1 38 = .ok (.aload_n 0, 1) := by decide +kernel
theorem d_QS_delete_39 : decode m_QS_delete.2.1 39 = .ok (.getfield 45, 3) := by decide +kernel
theorem d_QS_delete_42 : decode m_QS_delete.2.1 42 = .ok (.iload 4, 2) := by decide +kernel
theorem d_QS_delete_44 : decode m_QS_delete.2.1 44 = .ok (.baload, 1) := by decide +kernel
theorem d_QS_delete_45 : decode m_QS_delete.2.1 45 = .ok (.ifCond .eq 6, 3) := by decide +kernel
theorem d_QS_delete_48 : decode m_QS_delete.2.1 48 = .ok (.iinc 3 1, 3) := by decide +kernel
theorem d_QS_delete_51 : decode m_QS_delete.2.1 51 = .ok (.iinc 4 1, 3) := by decide +kernel
theorem d_QS_delete_54 : decode m_QS_delete.2.1 54 = .ok (.goto (-39), 3) := by decide +kernel
theorem d_QS_delete_57 : decode m_QS_delete.2.1 57 = .ok (.aload_n 2, 1) := by decide +kernel
theorem d_QS_delete_58 : decode m_QS_delete.2.1 58 = .ok (.invokevirtual 96, 3) := by decide +kernel
theorem d_QS_delete_61 : decode m_QS_delete.2.1 61 = .ok (.iconst 1, 1) := by decide +kernel
theorem d_QS_delete_62 : decode m_QS_delete.2.1 62 = .ok (.isub, 1) := by decide +kernel
theorem d_QS_delete_63 : decode m_QS_delete.2.1 63 = .ok (.istore 4, 2) := by decide +kernel
theorem d_QS_delete_65 : decode m_QS_delete.2.1 65 = .ok (.iload 4, 2) := by decide +kernel
theorem d_QS_delete_67 : decode m_QS_delete.2.1 67 = .ok (.ifCond .lt 25, 3) := by decide +kernel
theorem d_QS_delete_70 : decode m_QS_delete.2.1 70 = .ok (.aload_n 0, 1) := by decide +kernel
theorem d_QS_delete_71 : decode m_QS_delete.2.1 71 = .ok (.getfield 45, 3) := by decide +kernel
theorem d_QS_delete_74 : decode m_QS_delete.2.1 74 = .ok (.iload 4, 2) := by decide +kernel
theorem d_QS_delete_76 : decode m_QS_delete.2.1 76 = .ok (.baload, 1) := by decide +kernel
theorem d_QS_delete_77 : decode m_QS_delete.2.1 77 = .ok (.ifCond .eq 9, 3) := by decide +kernel
theorem d_QS_delete_80 : decode m_QS_delete.2.1 80 = .ok (.aload_n 2, 1) := by decide +kernel
theorem d_QS_delete_81 : decode m_QS_delete.2.1 81 = .ok (.iload 4, 2) := by decide +kernel
theorem d_QS_delete_83 : decode m_QS_delete.2.1 83 = .ok (.invokevirtual 183, 3) := by decide +kernel
theorem d_QS_delete_86 : decode m_QS_delete.2.1 86 = .ok (.iinc 4 (-1), 3) := by decide +kernel
theorem d_QS_delete_89 : decode m_QS_delete.2.1 89 = .ok (.goto (-24), 3) := by decide +kernel
theorem d_QS_delete_92 : decode m_QS_delete.2.1 92 = .ok (.aload_n 0, 1) := by decide +kernel
theorem d_QS_delete_93 : decode m_QS_delete.2.1 93 = .ok (.iload_n 3, 1) := by decide +kernel
theorem d_QS_delete_94 : decode m_QS_delete.2.1 94 = .ok (.invokevirtual 176, 3) := by decide +kernel
theorem d_QS_delete_97 : decode m_QS_delete.2.1 97 = .ok (.iload_n 3, 1) := by decide +kernel
theorem d_QS_delete_98 : decode m_QS_delete.2.1 98 = .ok (.ireturn, 1) := by decide +kernel
theorem d_QS_meets_0 : decode m_QS_meets.2.1 0 = .ok (.aload_n 0, 1) := by decide +kernel
theorem d_QS_meets_1 : decode m_QS_meets.2.1 1 = .ok (.aload_n 1, 1) := by decide +kernel
theorem d_QS_meets_2 : decode m_QS_meets.2.1 2 = .ok (.invokevirtual 230, 3) := by decide +kernel
theorem d_QS_meets_5 : decode m_QS_meets.2.1 5 = .ok (.istore_n 3, 1) := by decide +kernel
theorem d_QS_meets_6 : decode m_QS_meets.2.1 6 = .ok (.iload_n 3, 1) := by decide +kernel
theorem d_QS_meets_7 : decode m_QS_meets.2.1 7 = .ok (.ifCond .ne 5, 3) := by decide +kernel
theorem d_QS_meets_10 : decode m_QS_meets.2.1 10 = .ok (.iconst 0, 1) := by decide +kernel
theorem d_QS_meets_11 : decode m_QS_meets.2.1 11 = .ok (.ireturn, 1) := by decide +kernel
theorem d_QS_meets_12 : decode m_QS_meets.2.1 12 = .ok (.aload_n 0, 1) := by decide +kernel
theorem d_QS_meets_13 : decode m_QS_meets.2.1 13 = .ok (.getfield 28, 3) := by decide +kernel
theorem d_QS_meets_16 : decode m_QS_meets.2.1 16 = .ok (.aload_n 0, 1) := by decide +kernel
theorem d_QS_meets_17 : decode m_QS_meets.2.1 17 = .ok (.getfield 11, 3) := by decide +kernel
theorem d_QS_meets_20 : decode m_QS_meets.2.1 20 = .ok (.aload_n 1, 1) := by decide +kernel
theorem d_QS_meets_21 : decode m_QS_meets.2.1 21 = .ok (.getfield 159, 3) := by decide +kernel
theorem d_QS_meets_24 : decode m_QS_meets.2.1 24 = .ok (.aaload, 1) := by decide +kernel
theorem d_QS_meets_25 : decode m_QS_meets.2.1 25 = .ok (.iload_n 2, 1) := by decide +kernel
theorem d_QS_meets_26 : decode m_QS_meets.2.1 26 = .ok (.iload_n 3, 1) := by decide +kernel
theorem d_QS_meets_27 : decode m_QS_meets.2.1 27 = .ok (.idiv, 1) := by decide +kernel
theorem d_QS_meets_28 : decode m_QS_meets.2.1 28 = .ok (.iconst 0, 1) := by decide +kernel
theorem d_QS_meets_29 : decode m_QS_meets.2.1 29 = .ok (.invokevirtual 233, 3) := by decide +kernel
theorem d_QS_meets_32 : decode m_QS_meets.2.1 32 = .ok (.aload_n 1, 1) := by decide +kernel
theorem d_QS_meets_33 : decode m_QS_meets.2.1 33 = .ok (.getfield 227, 3) := by decide +kernel
theorem d_QS_meets_36 : decode m_QS_meets.2.1 36 = .ok (.iconst (-1), 1) := by decide +kernel
theorem d_QS_meets_37 : decode m_QS_meets.2.1 37 = .ok (.if_icmp .eq 23, 3) := by decide +kernel
theorem d_QS_meets_40 : decode m_QS_meets.2.1 40 = .ok (.aload_n 0, 1) := by decide +kernel
theorem d_QS_meets_41 : decode m_QS_meets.2.1 41 = .ok (.getfield 28, 3) := by decide +kernel
theorem d_QS_meets_44 : decode m_QS_meets.2.1 44 = .ok (.aload_n 0, 1) := by decide +kernel
theorem d_QS_meets_45 : decode m_QS_meets.2.1 45 = .ok (.getfield 11, 3) := by decide +kernel
theorem d_QS_meets_48 : decode m_QS_meets.2.1 48 = .ok (.aload_n 1, 1) := by decide +kernel
theorem d_QS_meets_49 : decode m_QS_meets.2.1 49 = .ok (.getfield 227, 3) := by decide +kernel
theorem d_QS_meets_52 : decode m_QS_meets.2.1 52 = .ok (.aaload, 1) := by decide +kernel
theorem d_QS_meets_53 : decode m_QS_meets.2.1 53 = .ok (.iload_n 2, 1) := by decide +kernel
theorem d_QS_meets_54 : decode m_QS_meets.2.1 54 = .ok (.iload_n 3, 1) := by decide +kernel
theorem d_QS_meets_55 : decode m_QS_meets.2.1 55 = .ok (.irem, 1) := by decide +kernel
theorem d_QS_meets_56 : decode m_QS_meets.2.1 56 = .ok (.iconst 3, 1) := by decide +kernel
theorem d_QS_meets_57 : decode m_QS_meets.2.1 57 = .ok (.invokevirtual 233, 3) := by decide +kernel
theorem d_QS_meets_60 : decode m_QS_meets.2.1 60 = .ok (.aload_n 0, 1) := by decide +kernel
theorem d_QS_meets_61 : decode m_QS_meets.2.1 61 = .ok (.getfield 28, 3) := by decide +kernel
theorem d_QS_meets_64 : decode m_QS_meets.2.1 64 = .ok (.aload_n 1, 1) := by decide +kernel
theorem d_QS_meets_65 : decode m_QS_meets.2.1 65 = .ok (.invokevirtual 237, 3) := by decide +kernel
theorem d_QS_meets_68 : decode m_QS_meets.2.1 68 = .ok (.ireturn, 1) := by decide +kernel
theorem d_QS_rowsBeside_0 : decode m_QS_rowsBeside.2.1 0 = .ok (.aload_n 1, 1) := by decide +kernel
theorem d_QS_rowsBeside_1 : decode m_QS_rowsBeside.2.1 1 = .ok (.getfield 227, 3) := by decide +kernel
theorem d_QS_rowsBeside_4 : decode m_QS_rowsBeside.2.1 4 = .ok (.iconst (-1), 1) := by decide +kernel
theorem d_QS_rowsBeside_5 : decode m_QS_rowsBeside.2.1 5 = .ok (.if_icmp .ne 7, 3) := by decide +kernel
theorem d_QS_rowsBeside_8 : decode m_QS_rowsBeside.2.1 8 = .ok (.iconst 1, 1) := by decide +kernel
theorem d_QS_rowsBeside_9 : decode m_QS_rowsBeside.2.1 9 = .ok (.goto 15, 3) := by decide +kernel
theorem d_QS_rowsBeside_12 : decode m_QS_rowsBeside.2.1 12 = .ok (.aload_n 0, 1) := by decide +kernel
theorem d_QS_rowsBeside_13 : decode m_QS_rowsBeside.2.1 13 = .ok (.getfield 11, 3) := by decide +kernel
theorem d_QS_rowsBeside_16 : decode m_QS_rowsBeside.2.1 16 = .ok (.aload_n 1, 1) := by decide +kernel
theorem d_QS_rowsBeside_17 : decode m_QS_rowsBeside.2.1 17 = .ok (.getfield 227, 3) := by decide +kernel
theorem d_QS_rowsBeside_20 : decode m_QS_rowsBeside.2.1 20 = .ok (.aaload, 1) := by decide +kernel
theorem d_QS_rowsBeside_21 : decode m_QS_rowsBeside.2.1 21 = .ok (.invokevirtual 96, 3) := by decide +kernel
theorem d_QS_rowsBeside_24 : decode m_QS_rowsBeside.2.1 24 = .ok (.ireturn, 1) := by decide +kernel
theorem d_Machine_load_0 : decode m_Machine_load.2.1 0 = .ok (.aload_n 1, 1) := by decide +kernel
theorem d_Machine_load_1 : decode m_Machine_load.2.1 1 = .ok (.iload_n 2, 1) := by decide +kernel
theorem d_Machine_load_2 : decode m_Machine_load.2.1 2 = .ok (.aload_n 0, 1) := by decide +kernel
theorem d_Machine_load_3 : decode m_Machine_load.2.1 3 = .ok (.getfield 9, 3) := by decide +kernel
theorem d_Machine_load_6 : decode m_Machine_load.2.1 6 = .ok (.iload_n 3, 1) := by decide +kernel
theorem d_Machine_load_7 : decode m_Machine_load.2.1 7 = .ok (.invokevirtual 15, 3) := by decide +kernel
theorem d_Machine_load_10 : decode m_Machine_load.2.1 10 = .ok (.return_, 1) := by decide +kernel
theorem d_Table_copyRow_0 : decode m_Table_copyRow.2.1 0 = .ok (.aload_n 0, 1) := by decide +kernel
theorem d_Table_copyRow_1 : decode m_Table_copyRow.2.1 1 = .ok (.iload_n 1, 1) := by decide +kernel
theorem d_Table_copyRow_2 : decode m_Table_copyRow.2.1 2 = .ok (.invokevirtual 33, 3) := by decide +kernel
theorem d_Table_copyRow_5 : decode m_Table_copyRow.2.1 5 = .ok (.istore 4, 2) := by decide +kernel
theorem d_Table_copyRow_7 : decode m_Table_copyRow.2.1 7 = .ok (.aload_n 0, 1) := by decide +kernel
theorem d_Table_copyRow_8 : decode m_Table_copyRow.2.1 8 = .ok (.getfield 11, 3) := by decide +kernel
theorem d_Table_copyRow_11 : decode m_Table_copyRow.2.1 11 = .ok (.iload 4, 2) := by decide +kernel
theorem d_Table_copyRow_13 : decode m_Table_copyRow.2.1 13 = .ok (.iconst 4, 1) := by decide +kernel
theorem d_Table_copyRow_14 : decode m_Table_copyRow.2.1 14 = .ok (.idiv, 1) := by decide +kernel
theorem d_Table_copyRow_15 : decode m_Table_copyRow.2.1 15 = .ok (.aaload, 1) := by decide +kernel
theorem d_Table_copyRow_16 : decode m_Table_copyRow.2.1 16 = .ok (.iload 4, 2) := by decide +kernel
theorem d_Table_copyRow_18 : decode m_Table_copyRow.2.1 18 = .ok (.iconst 4, 1) := by decide +kernel
theorem d_Table_copyRow_19 : decode m_Table_copyRow.2.1 19 = .ok (.irem, 1) := by decide +kernel
theorem d_Table_copyRow_20 : decode m_Table_copyRow.2.1 20 = .ok (.aload_n 2, 1) := by decide +kernel
theorem d_Table_copyRow_21 : decode m_Table_copyRow.2.1 21 = .ok (.iload_n 3, 1) := by decide +kernel
theorem d_Table_copyRow_22 : decode m_Table_copyRow.2.1 22 = .ok (.invokevirtual 44, 3) := by decide +kernel
theorem d_Table_copyRow_25 : decode m_Table_copyRow.2.1 25 = .ok (.return_, 1) := by decide +kernel
theorem d_Table_spotOf_0 : decode m_Table_spotOf.2.1 0 = .ok (.iconst 0, 1) := by decide +kernel
theorem d_Table_spotOf_1 : decode m_Table_spotOf.2.1 1 = .ok (.istore_n 2, 1) := by decide +kernel
theorem d_Table_spotOf_2 : decode m_Table_spotOf.2.1 2 = .ok (.iload_n 1, 1) := by decide +kernel
theorem d_Table_spotOf_3 : decode m_Table_spotOf.2.1 3 = .ok (.istore_n 3, 1) := by decide +kernel
theorem d_Table_spotOf_4 : decode m_Table_spotOf.2.1 4 = .ok (.iload_n 2, 1) := by decide +kernel
theorem d_Table_spotOf_5 : decode m_Table_spotOf.2.1 5 = .ok (.aload_n 0, 1) := by decide +kernel
theorem d_Table_spotOf_6 : decode m_Table_spotOf.2.1 6 = .ok (.getfield 22, 3) := by decide +kernel
theorem d_Table_spotOf_9 : decode m_Table_spotOf.2.1 9 = .ok (.iconst 1, 1) := by decide +kernel
theorem d_Table_spotOf_10 : decode m_Table_spotOf.2.1 10 = .ok (.isub, 1) := by decide +kernel
theorem d_Table_spotOf_11 : decode m_Table_spotOf.2.1 11 = .ok (.if_icmp .ge 34, 3) := by decide +kernel
theorem d_Table_spotOf_14 : decode m_Table_spotOf.2.1 14 = .ok (.iload_n 3, 1) := by decide +kernel
theorem d_Table_spotOf_15 : decode m_Table_spotOf.2.1 15 = .ok (.aload_n 0, 1) := by decide +kernel
theorem d_Table_spotOf_16 : decode m_Table_spotOf.2.1 16 = .ok (.getfield 11, 3) := by decide +kernel
theorem d_Table_spotOf_19 : decode m_Table_spotOf.2.1 19 = .ok (.iload_n 2, 1) := by decide +kernel
theorem d_Table_spotOf_20 : decode m_Table_spotOf.2.1 20 = .ok (.aaload, 1) := by decide +kernel
theorem d_Table_spotOf_21 : decode m_Table_spotOf.2.1 21 = .ok (.invokevirtual 66, 3) := by decide +kernel
theorem d_Table_spotOf_24 : decode m_Table_spotOf.2.1 24 = .ok (.if_icmp .lt 21, 3) := by decide +kernel
theorem d_Table_spotOf_27 : decode m_Table_spotOf.2.1 27 = .ok (.iload_n 3, 1) := by decide +kernel
theorem d_Table_spotOf_28 : decode m_Table_spotOf.2.1 28 = .ok (.aload_n 0, 1) := by decide +kernel
theorem d_Table_spotOf_29 : decode m_Table_spotOf.2.1 29 = .ok (.getfield 11, 3) := by decide +kernel
theorem d_Table_spotOf_32 : decode m_Table_spotOf.2.1 32 = .ok (.iload_n 2, 1) := by decide +kernel
theorem d_Table_spotOf_33 : decode m_Table_spotOf.2.1 33 = .ok (.aaload, 1) := by decide +kernel
theorem d_Table_spotOf_34 : decode m_Table_spotOf.2.1 34 = .ok (.invokevirtual 66, 3) := by decide +kernel
theorem d_Table_spotOf_37 : decode m_Table_spotOf.2.1 37 = .ok (.isub, 1) := by decide +kernel
theorem d_Table_spotOf_38 : decode m_Table_spotOf.2.1 38 = .ok (.istore_n 3, 1) := by decide +kernel
theorem d_Table_spotOf_39 : decode m_Table_spotOf.2.1 39 = .ok (.iinc 2 1, 3) := by decide +kernel
theorem d_Table_spotOf_42 : decode m_Table_spotOf.2.1 42 = .ok (.goto (-38), 3) := by decide +kernel
theorem d_Table_spotOf_45 : decode m_Table_spotOf.2.1 45 = .ok (.iload_n 2, 1) := by decide +kernel
theorem d_Table_spotOf_46 : decode m_Table_spotOf.2.1 46 = .ok (.iconst 4, 1) := by decide +kernel
theorem d_Table_spotOf_47 : decode m_Table_spotOf.2.1 47 = .ok (.imul, 1) := by decide +kernel
theorem d_Table_spotOf_48 : decode m_Table_spotOf.2.1 48 = .ok (.iload_n 3, 1) := by decide +kernel
theorem d_Table_spotOf_49 : decode m_Table_spotOf.2.1 49 = .ok (.iadd, 1) := by decide +kernel
theorem d_Table_spotOf_50 : decode m_Table_spotOf.2.1 50 = .ok (.ireturn, 1) := by decide +kernel
theorem d_Page_size_0 : decode m_Page_size.2.1 0 = .ok (.aload_n 0, 1) := by decide +kernel
theorem d_Page_size_1 : decode m_Page_size.2.1 1 = .ok (.getfield 15, 3) := by decide +kernel
theorem d_Page_size_4 : decode m_Page_size.2.1 4 = .ok (.ireturn, 1) := by decide +kernel
theorem d_Page_copyRow_0 : decode m_Page_copyRow.2.1 0 = .ok (.aload_n 0, 1) := by decide +kernel
theorem d_Page_copyRow_1 : decode m_Page_copyRow.2.1 1 = .ok (.getfield 9, 3) := by decide +kernel
theorem d_Page_copyRow_4 : decode m_Page_copyRow.2.1 4 = .ok (.iload_n 1, 1) := by decide +kernel
theorem d_Page_copyRow_5 : decode m_Page_copyRow.2.1 5 = .ok (.iconst 3, 1) := by decide +kernel
theorem d_Page_copyRow_6 : decode m_Page_copyRow.2.1 6 = .ok (.imul, 1) := by decide +kernel
theorem d_Page_copyRow_7 : decode m_Page_copyRow.2.1 7 = .ok (.aload_n 2, 1) := by decide +kernel
theorem d_Page_copyRow_8 : decode m_Page_copyRow.2.1 8 = .ok (.iload_n 3, 1) := by decide +kernel
theorem d_Page_copyRow_9 : decode m_Page_copyRow.2.1 9 = .ok (.iconst 3, 1) := by decide +kernel
theorem d_Page_copyRow_10 : decode m_Page_copyRow.2.1 10 = .ok (.invokestatic 19, 3) := by decide +kernel
theorem d_Page_copyRow_13 : decode m_Page_copyRow.2.1 13 = .ok (.return_, 1) := by decide +kernel
theorem d_Machine_meetsTest_0 : decode m_Machine_meetsTest.2.1 0 = .ok (.aload_n 1, 1) := by decide +kernel
theorem d_Machine_meetsTest_1 : decode m_Machine_meetsTest.2.1 1 = .ok (.getfield 21, 3) := by decide +kernel
theorem d_Machine_meetsTest_4 : decode m_Machine_meetsTest.2.1 4 = .ok (.iconst (-1), 1) := by decide +kernel
theorem d_Machine_meetsTest_5 : decode m_Machine_meetsTest.2.1 5 = .ok (.if_icmp .eq 15, 3) := by decide +kernel
theorem d_Machine_meetsTest_8 : decode m_Machine_meetsTest.2.1 8 = .ok (.aload_n 0, 1) := by decide +kernel
theorem d_Machine_meetsTest_9 : decode m_Machine_meetsTest.2.1 9 = .ok (.aload_n 1, 1) := by decide +kernel
theorem d_Machine_meetsTest_10 : decode m_Machine_meetsTest.2.1 10 = .ok (.aload_n 1, 1) := by decide +kernel
theorem d_Machine_meetsTest_11 : decode m_Machine_meetsTest.2.1 11 = .ok (.getfield 21, 3) := by decide +kernel
theorem d_Machine_meetsTest_14 : decode m_Machine_meetsTest.2.1 14 = .ok (.invokevirtual 27, 3) := by decide +kernel
theorem d_Machine_meetsTest_17 : decode m_Machine_meetsTest.2.1 17 = .ok (.ifCond .eq 7, 3) := by decide +kernel
theorem d_Machine_meetsTest_20 : decode m_Machine_meetsTest.2.1 20 = .ok (.iconst 1, 1) := by decide +kernel
theorem d_Machine_meetsTest_21 : decode m_Machine_meetsTest.2.1 21 = .ok (.goto 4, 3) := by decide +kernel
theorem d_Machine_meetsTest_24 : decode m_Machine_meetsTest.2.1 24 = .ok (.iconst 0, 1) := by decide +kernel
theorem d_Machine_meetsTest_25 : decode m_Machine_meetsTest.2.1 25 = .ok (.ireturn, 1) := by decide +kernel
theorem d_Table_remove_0 : decode m_Table_remove.2.1 0 = .ok (.aload_n 0, 1) := by decide +kernel
theorem d_Table_remove_1 : decode m_Table_remove.2.1 1 = .ok (.iload_n 1, 1) := by decide +kernel
theorem d_Table_remove_2 : decode m_Table_remove.2.1 2 = .ok (.invokevirtual 33, 3) := by decide +kernel
theorem d_Table_remove_5 : decode m_Table_remove.2.1 5 = .ok (.istore_n 2, 1) := by decide +kernel
theorem d_Table_remove_6 : decode m_Table_remove.2.1 6 = .ok (.iload_n 2, 1) := by decide +kernel
theorem d_Table_remove_7 : decode m_Table_remove.2.1 7 = .ok (.iconst 4, 1) := by decide +kernel
theorem d_Table_remove_8 : decode m_Table_remove.2.1 8 = .ok (.idiv, 1) := by decide +kernel
theorem d_Table_remove_9 : decode m_Table_remove.2.1 9 = .ok (.istore_n 3, 1) := by decide +kernel
theorem d_Table_remove_10 : decode m_Table_remove.2.1 10 = .ok (.aload_n 0, 1) := by decide +kernel
theorem d_Table_remove_11 : decode m_Table_remove.2.1 11 = .ok (.getfield 11, 3) := by decide +kernel
theorem d_Table_remove_14 : decode m_Table_remove.2.1 14 = .ok (.iload_n 3, 1) := by decide +kernel
theorem d_Table_remove_15 : decode m_Table_remove.2.1 15 = .ok (.aaload, 1) := by decide +kernel
theorem d_Table_remove_16 : decode m_Table_remove.2.1 16 = .ok (.iload_n 2, 1) := by decide +kernel
theorem d_Table_remove_17 : decode m_Table_remove.2.1 17 = .ok (.iconst 4, 1) := by decide +kernel
theorem d_Table_remove_18 : decode m_Table_remove.2.1 18 = .ok (.irem, 1) := by decide +kernel
theorem d_Table_remove_19 : decode m_Table_remove.2.1 19 = .ok (.invokevirtual 63, 3) := by decide +kernel
theorem d_Table_remove_22 : decode m_Table_remove.2.1 22 = .ok (.aload_n 0, 1) := by decide +kernel
theorem d_Table_remove_23 : decode m_Table_remove.2.1 23 = .ok (.getfield 11, 3) := by decide +kernel
theorem d_Table_remove_26 : decode m_Table_remove.2.1 26 = .ok (.iload_n 3, 1) := by decide +kernel
theorem d_Table_remove_27 : decode m_Table_remove.2.1 27 = .ok (.aaload, 1) := by decide +kernel
theorem d_Table_remove_28 : decode m_Table_remove.2.1 28 = .ok (.invokevirtual 66, 3) := by decide +kernel
theorem d_Table_remove_31 : decode m_Table_remove.2.1 31 = .ok (.ifCond .ne 8, 3) := by decide +kernel
theorem d_Table_remove_34 : decode m_Table_remove.2.1 34 = .ok (.aload_n 0, 1) := by decide +kernel
theorem d_Table_remove_35 : decode m_Table_remove.2.1 35 = .ok (.iload_n 3, 1) := by decide +kernel
theorem d_Table_remove_36 : decode m_Table_remove.2.1 36 = .ok (.invokevirtual 69, 3) := by decide +kernel
theorem d_Table_remove_39 : decode m_Table_remove.2.1 39 = .ok (.aload_n 0, 1) := by decide +kernel
theorem d_Table_remove_40 : decode m_Table_remove.2.1 40 = .ok (.dup, 1) := by decide +kernel
theorem d_Table_remove_41 : decode m_Table_remove.2.1 41 = .ok (.getfield 18, 3) := by decide +kernel
theorem d_Table_remove_44 : decode m_Table_remove.2.1 44 = .ok (.iconst 1, 1) := by decide +kernel
theorem d_Table_remove_45 : decode m_Table_remove.2.1 45 = .ok (.isub, 1) := by decide +kernel
theorem d_Table_remove_46 : decode m_Table_remove.2.1 46 = .ok (.putfield 18, 3) := by decide +kernel
theorem d_Table_remove_49 : decode m_Table_remove.2.1 49 = .ok (.return_, 1) := by decide +kernel
theorem d_Page_remove_0 : decode m_Page_remove.2.1 0 = .ok (.aload_n 0, 1) := by decide +kernel
theorem d_Page_remove_1 : decode m_Page_remove.2.1 1 = .ok (.iload_n 1, 1) := by decide +kernel
theorem d_Page_remove_2 : decode m_Page_remove.2.1 2 = .ok (.iconst 1, 1) := by decide +kernel
theorem d_Page_remove_3 : decode m_Page_remove.2.1 3 = .ok (.iadd, 1) := by decide +kernel
theorem d_Page_remove_4 : decode m_Page_remove.2.1 4 = .ok (.iload_n 1, 1) := by decide +kernel
theorem d_Page_remove_5 : decode m_Page_remove.2.1 5 = .ok (.aload_n 0, 1) := by decide +kernel
theorem d_Page_remove_6 : decode m_Page_remove.2.1 6 = .ok (.getfield 15, 3) := by decide +kernel
theorem d_Page_remove_9 : decode m_Page_remove.2.1 9 = .ok (.iload_n 1, 1) := by decide +kernel
theorem d_Page_remove_10 : decode m_Page_remove.2.1 10 = .ok (.isub, 1) := by decide +kernel
theorem d_Page_remove_11 : decode m_Page_remove.2.1 11 = .ok (.iconst 1, 1) := by decide +kernel
theorem d_Page_remove_12 : decode m_Page_remove.2.1 12 = .ok (.isub, 1) := by decide +kernel
theorem d_Page_remove_13 : decode m_Page_remove.2.1 13 = .ok (.invokevirtual 29, 3) := by decide +kernel
theorem d_Page_remove_16 : decode m_Page_remove.2.1 16 = .ok (.aload_n 0, 1) := by decide +kernel
theorem d_Page_remove_17 : decode m_Page_remove.2.1 17 = .ok (.dup, 1) := by decide +kernel
theorem d_Page_remove_18 : decode m_Page_remove.2.1 18 = .ok (.getfield 15, 3) := by decide +kernel
theorem d_Page_remove_21 : decode m_Page_remove.2.1 21 = .ok (.iconst 1, 1) := by decide +kernel
theorem d_Page_remove_22 : decode m_Page_remove.2.1 22 = .ok (.isub, 1) := by decide +kernel
theorem d_Page_remove_23 : decode m_Page_remove.2.1 23 = .ok (.putfield 15, 3) := by decide +kernel
theorem d_Page_remove_26 : decode m_Page_remove.2.1 26 = .ok (.return_, 1) := by decide +kernel
theorem d_Table_closePage_0 : decode m_Table_closePage.2.1 0 = .ok (.aload_n 0, 1) := by decide +kernel
theorem d_Table_closePage_1 : decode m_Table_closePage.2.1 1 = .ok (.getfield 11, 3) := by decide +kernel
theorem d_Table_closePage_4 : decode m_Table_closePage.2.1 4 = .ok (.iload_n 1, 1) := by decide +kernel
theorem d_Table_closePage_5 : decode m_Table_closePage.2.1 5 = .ok (.aaload, 1) := by decide +kernel
theorem d_Table_closePage_6 : decode m_Table_closePage.2.1 6 = .ok (.astore_n 2, 1) := by decide +kernel
theorem d_Table_closePage_7 : decode m_Table_closePage.2.1 7 = .ok (.aload_n 0, 1) := by decide +kernel
theorem d_Table_closePage_8 : decode m_Table_closePage.2.1 8 = .ok (.dup, 1) := by decide +kernel
theorem d_Table_closePage_9 : decode m_Table_closePage.2.1 9 = .ok (.getfield 22, 3) := by decide +kernel
theorem d_Table_closePage_12 : decode m_Table_closePage.2.1 12 = .ok (.iconst 1, 1) := by decide +kernel
theorem d_Table_closePage_13 : decode m_Table_closePage.2.1 13 = .ok (.isub, 1) := by decide +kernel
theorem d_Table_closePage_14 : decode m_Table_closePage.2.1 14 = .ok (.putfield 22, 3) := by decide +kernel
theorem d_Table_closePage_17 : decode m_Table_closePage.2.1 17 = .ok (.iload_n 1, 1) := by decide +kernel
theorem d_Table_closePage_18 : decode m_Table_closePage.2.1 18 = .ok (.istore_n 3, 1) := by decide +kernel
theorem d_Table_closePage_19 : decode m_Table_closePage.2.1 19 = .ok (.iload_n 3, 1) := by decide +kernel
theorem d_Table_closePage_20 : decode m_Table_closePage.2.1 20 = .ok (.aload_n 0, 1) := by decide +kernel
theorem d_Table_closePage_21 : decode m_Table_closePage.2.1 21 = .ok (.getfield 22, 3) := by decide +kernel
theorem d_Table_closePage_24 : decode m_Table_closePage.2.1 24 = .ok (.if_icmp .ge 23, 3) := by decide +kernel
theorem d_Table_closePage_27 : decode m_Table_closePage.2.1 27 = .ok (.aload_n 0, 1) := by decide +kernel
theorem d_Table_closePage_28 : decode m_Table_closePage.2.1 28 = .ok (.getfield 11, 3) := by decide +kernel
theorem d_Table_closePage_31 : decode m_Table_closePage.2.1 31 = .ok (.iload_n 3, 1) := by decide +kernel
theorem d_Table_closePage_32 : decode m_Table_closePage.2.1 32 = .ok (.aload_n 0, 1) := by decide +kernel
theorem d_Table_closePage_33 : decode m_Table_closePage.2.1 33 = .ok (.getfield 11, 3) := by decide +kernel
theorem d_Table_closePage_36 : decode m_Table_closePage.2.1 36 = .ok (.iload_n 3, 1) := by decide +kernel
theorem d_Table_closePage_37 : decode m_Table_closePage.2.1 37 = .ok (.iconst 1, 1) := by decide +kernel
theorem d_Table_closePage_38 : decode m_Table_closePage.2.1 38 = .ok (.iadd, 1) := by decide +kernel
theorem d_Table_closePage_39 : decode m_Table_closePage.2.1 39 = .ok (.aaload, 1) := by decide +kernel
theorem d_Table_closePage_40 : decode m_Table_closePage.2.1 40 = .ok (.aastore, 1) := by decide +kernel
theorem d_Table_closePage_41 : decode m_Table_closePage.2.1 41 = .ok (.iinc 3 1, 3) := by decide +kernel
theorem d_Table_closePage_44 : decode m_Table_closePage.2.1 44 = .ok (.goto (-25), 3) := by decide +kernel
theorem d_Table_closePage_47 : decode m_Table_closePage.2.1 47 = .ok (.aload_n 0, 1) := by decide +kernel
theorem d_Table_closePage_48 : decode m_Table_closePage.2.1 48 = .ok (.getfield 11, 3) := by decide +kernel
theorem d_Table_closePage_51 : decode m_Table_closePage.2.1 51 = .ok (.aload_n 0, 1) := by decide +kernel
theorem d_Table_closePage_52 : decode m_Table_closePage.2.1 52 = .ok (.getfield 22, 3) := by decide +kernel
theorem d_Table_closePage_55 : decode m_Table_closePage.2.1 55 = .ok (.aload_n 2, 1) := by decide +kernel
theorem d_Table_closePage_56 : decode m_Table_closePage.2.1 56 = .ok (.aastore, 1) := by decide +kernel
theorem d_Table_closePage_57 : decode m_Table_closePage.2.1 57 = .ok (.return_, 1) := by decide +kernel
theorem d_QS_update_0 : decode m_QS_update.2.1 0 = .ok (.aload_n 0, 1) := by decide +kernel
theorem d_QS_update_1 : decode m_QS_update.2.1 1 = .ok (.getfield 11, 3) := by decide +kernel
theorem d_QS_update_4 : decode m_QS_update.2.1 4 = .ok (.aload_n 1, 1) := by decide +kernel
theorem d_QS_update_5 : decode m_QS_update.2.1 5 = .ok (.getfield 159, 3) := by decide +kernel
theorem d_QS_update_8 : decode m_QS_update.2.1 8 = .ok (.aaload, 1) := by decide +kernel
theorem d_QS_update_9 : decode m_QS_update.2.1 9 = .ok (.astore_n 2, 1) := by decide +kernel
theorem d_QS_update_10 : decode m_QS_update.2.1 10 = .ok (.iconst 0, 1) := by decide +kernel
theorem d_QS_update_11 : decode m_QS_update.2.1 11 = .ok (.istore_n 3, 1) := by decide +kernel
theorem d_QS_update_12 : decode m_QS_update.2.1 12 = .ok (.iconst 0, 1) := by decide +kernel
theorem d_QS_update_13 : decode m_QS_update.2.1 13 = .ok (.istore 4, 2) := by decide +kernel
theorem d_QS_update_15 : decode m_QS_update.2.1 15 = .ok (.iload 4, 2) := by decide +kernel
theorem d_QS_update_17 : decode m_QS_update.2.1 17 = .ok (.aload_n 2, 1) := by decide +kernel
theorem d_QS_update_18 : decode m_QS_update.2.1 18 = .ok (.invokevirtual 96, 3) := by decide +kernel
theorem d_QS_update_21 : decode m_QS_update.2.1 21 = .ok (.if_icmp .ge 60, 3) := by decide +kernel
theorem d_QS_update_24 : decode m_QS_update.2.1 24 = .ok (.aload_n 0, 1) := by decide +kernel
theorem d_QS_update_25 : decode m_QS_update.2.1 25 = .ok (.getfield 45, 3) := by decide +kernel
theorem d_QS_update_28 : decode m_QS_update.2.1 28 = .ok (.iload 4, 2) := by decide +kernel
theorem d_QS_update_30 : decode m_QS_update.2.1 30 = .ok (.aload_n 0, 1) := by decide +kernel
theorem d_QS_update_31 : decode m_QS_update.2.1 31 = .ok (.aload_n 1, 1) := by decide +kernel
theorem d_QS_update_32 : decode m_QS_update.2.1 32 = .ok (.iload 4, 2) := by decide +kernel
theorem d_QS_update_34 : decode m_QS_update.2.1 34 = .ok (.invokevirtual 179, 3) := by decide +kernel
theorem d_QS_update_37 : decode m_QS_update.2.1 37 = .ok (.bastore, 1) := by decide +kernel
theorem d_QS_update_38 : decode m_QS_update.2.1 38 = .ok (.aload_n 0, 1) := by decide +kernel
theorem d_QS_update_39 : decode m_QS_update.2.1 39 = .ok (.getfield 45, 3) := by decide +kernel
theorem d_QS_update_42 : decode m_QS_update.2.1 42 = .ok (.iload 4, 2) := by decide +kernel
theorem d_QS_update_44 : decode m_QS_update.2.1 44 = .ok (.baload, 1) := by decide +kernel
theorem d_QS_update_45 : decode m_QS_update.2.1 45 = .ok (.ifCond .eq 30, 3) := by decide +kernel
theorem d_QS_update_48 : decode m_QS_update.2.1 48 = .ok (.aload_n 0, 1) := by decide +kernel
theorem d_QS_update_49 : decode m_QS_update.2.1 49 = .ok (.getfield 28, 3) := by decide +kernel
theorem d_QS_update_52 : decode m_QS_update.2.1 52 = .ok (.aload_n 1, 1) := by decide +kernel
theorem d_QS_update_53 : decode m_QS_update.2.1 53 = .ok (.invokevirtual 156, 3) := by decide +kernel
theorem d_QS_update_56 : decode m_QS_update.2.1 56 = .ok (.aload_n 0, 1) := by decide +kernel
theorem d_QS_update_57 : decode m_QS_update.2.1 57 = .ok (.getfield 49, 3) := by decide +kernel
theorem d_QS_update_60 : decode m_QS_update.2.1 60 = .ok (.iload 4, 2) := by decide +kernel
theorem d_QS_update_62 : decode m_QS_update.2.1 62 = .ok (.aload_n 0, 1) := by decide +kernel
theorem d_QS_update_63 : decode m_QS_update.2.1 63 = .ok (.getfield 28, 3) := by decide +kernel
theorem d_QS_update_66 : decode m_QS_update.2.1 66 = .ok (.bipush 7, 2) := by decide +kernel
theorem d_QS_update_68 : decode m_QS_update.2.1 68 = .ok (.invokevirtual 162, 3) := by decide +kernel
theorem d_QS_update_71 : decode m_QS_update.2.1 71 = .ok (.iastore, 1) := by decide +kernel
theorem d_QS_update_72 : decode m_QS_update.2.1 72 = .ok (.iinc 3 1, 3) := by decide +kernel
theorem d_QS_update_75 : decode m_QS_update.2.1 75 = .ok (.iinc 4 1, 3) := by decide +kernel
theorem d_QS_update_78 : decode m_QS_update.2.1 78 = .ok (.goto (-63), 3) := by decide +kernel
theorem d_QS_update_81 : decode m_QS_update.2.1 81 = .ok (.iconst 0, 1) := by decide +kernel
theorem d_QS_update_82 : decode m_QS_update.2.1 82 = .ok (.istore 4, 2) := by decide +kernel
theorem d_QS_update_84 : decode m_QS_update.2.1 84 = .ok (.iload 4, 2) := by decide +kernel
theorem d_QS_update_86 : decode m_QS_update.2.1 86 = .ok (.aload_n 2, 1) := by decide +kernel
theorem d_QS_update_87 : decode m_QS_update.2.1 87 = .ok (.invokevirtual 96, 3) := by decide +kernel
theorem d_QS_update_90 : decode m_QS_update.2.1 90 = .ok (.if_icmp .ge 36, 3) := by decide +kernel
theorem d_QS_update_93 : decode m_QS_update.2.1 93 = .ok (.aload_n 0, 1) := by decide +kernel
theorem d_QS_update_94 : decode m_QS_update.2.1 94 = .ok (.getfield 45, 3) := by decide +kernel
theorem d_QS_update_97 : decode m_QS_update.2.1 97 = .ok (.iload 4, 2) := by decide +kernel
theorem d_QS_update_99 : decode m_QS_update.2.1 99 = .ok (.baload, 1) := by decide +kernel
theorem d_QS_update_100 : decode m_QS_update.2.1 100 = .ok (.ifCond .eq 20, 3) := by decide +kernel
theorem d_QS_update_103 : decode m_QS_update.2.1 103 = .ok (.aload_n 2, 1) := by decide +kernel
theorem d_QS_update_104 : decode m_QS_update.2.1 104 = .ok (.iload 4, 2) := by decide +kernel
theorem d_QS_update_106 : decode m_QS_update.2.1 106 = .ok (.aload_n 1, 1) := by decide +kernel
theorem d_QS_update_107 : decode m_QS_update.2.1 107 = .ok (.getfield 186, 3) := by decide +kernel
theorem d_QS_update_110 : decode m_QS_update.2.1 110 = .ok (.aload_n 0, 1) := by decide +kernel
theorem d_QS_update_111 : decode m_QS_update.2.1 111 = .ok (.getfield 49, 3) := by decide +kernel
theorem d_QS_update_114 : decode m_QS_update.2.1 114 = .ok (.iload 4, 2) := by decide +kernel
theorem d_QS_update_116 : decode m_QS_update.2.1 116 = .ok (.iaload, 1) := by decide +kernel
theorem d_QS_update_117 : decode m_QS_update.2.1 117 = .ok (.invokevirtual 189, 3) := by decide +kernel
theorem d_QS_update_120 : decode m_QS_update.2.1 120 = .ok (.iinc 4 1, 3) := by decide +kernel
theorem d_QS_update_123 : decode m_QS_update.2.1 123 = .ok (.goto (-39), 3) := by decide +kernel
theorem d_QS_update_126 : decode m_QS_update.2.1 126 = .ok (.aload_n 0, 1) := by decide +kernel
theorem d_QS_update_127 : decode m_QS_update.2.1 127 = .ok (.iload_n 3, 1) := by decide +kernel
theorem d_QS_update_128 : decode m_QS_update.2.1 128 = .ok (.invokevirtual 176, 3) := by decide +kernel
theorem d_QS_update_131 : decode m_QS_update.2.1 131 = .ok (.iload_n 3, 1) := by decide +kernel
theorem d_QS_update_132 : decode m_QS_update.2.1 132 = .ok (.ireturn, 1) := by decide +kernel
theorem d_Table_put_0 : decode m_Table_put.2.1 0 = .ok (.aload_n 0, 1) := by decide +kernel
theorem d_Table_put_1 : decode m_Table_put.2.1 1 = .ok (.iload_n 1, 1) := by decide +kernel
theorem d_Table_put_2 : decode m_Table_put.2.1 2 = .ok (.invokevirtual 33, 3) := by decide +kernel
theorem d_Table_put_5 : decode m_Table_put.2.1 5 = .ok (.istore 4, 2) := by decide +kernel
theorem d_Table_put_7 : decode m_Table_put.2.1 7 = .ok (.aload_n 0, 1) := by decide +kernel
theorem d_Table_put_8 : decode m_Table_put.2.1 8 = .ok (.getfield 11, 3) := by decide +kernel
theorem d_Table_put_11 : decode m_Table_put.2.1 11 = .ok (.iload 4, 2) := by decide +kernel
theorem d_Table_put_13 : decode m_Table_put.2.1 13 = .ok (.iconst 4, 1) := by decide +kernel
theorem d_Table_put_14 : decode m_Table_put.2.1 14 = .ok (.idiv, 1) := by decide +kernel
theorem d_Table_put_15 : decode m_Table_put.2.1 15 = .ok (.aaload, 1) := by decide +kernel
theorem d_Table_put_16 : decode m_Table_put.2.1 16 = .ok (.iload 4, 2) := by decide +kernel
theorem d_Table_put_18 : decode m_Table_put.2.1 18 = .ok (.iconst 4, 1) := by decide +kernel
theorem d_Table_put_19 : decode m_Table_put.2.1 19 = .ok (.irem, 1) := by decide +kernel
theorem d_Table_put_20 : decode m_Table_put.2.1 20 = .ok (.iload_n 2, 1) := by decide +kernel
theorem d_Table_put_21 : decode m_Table_put.2.1 21 = .ok (.iload_n 3, 1) := by decide +kernel
theorem d_Table_put_22 : decode m_Table_put.2.1 22 = .ok (.invokevirtual 40, 3) := by decide +kernel
theorem d_Table_put_25 : decode m_Table_put.2.1 25 = .ok (.return_, 1) := by decide +kernel
theorem d_QS_aggregate_0 : decode m_QS_aggregate.2.1 0 = .ok (.aload_n 0, 1) := by decide +kernel
theorem d_QS_aggregate_1 : decode m_QS_aggregate.2.1 1 = .ok (.aload_n 1, 1) := by decide +kernel
theorem d_QS_aggregate_2 : decode m_QS_aggregate.2.1 2 = .ok (.invokevirtual 191, 3) := by decide +kernel
theorem d_QS_aggregate_5 : decode m_QS_aggregate.2.1 5 = .ok (.istore_n 2, 1) := by decide +kernel
theorem d_QS_aggregate_6 : decode m_QS_aggregate.2.1 6 = .ok (.iconst 0, 1) := by decide +kernel
theorem d_QS_aggregate_7 : decode m_QS_aggregate.2.1 7 = .ok (.istore_n 3, 1) := by decide +kernel
theorem d_QS_aggregate_8 : decode m_QS_aggregate.2.1 8 = .ok (.aload_n 1, 1) := by decide +kernel
theorem d_QS_aggregate_9 : decode m_QS_aggregate.2.1 9 = .ok (.getfield 205, 3) := by decide +kernel
theorem d_QS_aggregate_12 : decode m_QS_aggregate.2.1 12 = .ok (.invokestatic 208, 3) := by decide +kernel
theorem d_QS_aggregate_15 : decode m_QS_aggregate.2.1 15 = .ok (.istore 4, 2) := by decide +kernel
theorem d_QS_aggregate_17 : decode m_QS_aggregate.2.1 17 = .ok (.iconst 0, 1) := by decide +kernel
theorem d_QS_aggregate_18 : decode m_QS_aggregate.2.1 18 = .ok (.istore 5, 2) := by decide +kernel
theorem d_QS_aggregate_20 : decode m_QS_aggregate.2.1 20 = .ok (.iload 5, 2) := by decide +kernel
theorem d_QS_aggregate_22 : decode m_QS_aggregate.2.1 22 = .ok (.iload_n 2, 1) := by decide +kernel
theorem d_QS_aggregate_23 : decode m_QS_aggregate.2.1 23 = .ok (.if_icmp .ge 50, 3) := by decide +kernel
theorem d_QS_aggregate_26 : decode m_QS_aggregate.2.1 26 = .ok (.aload_n 0, 1) := by decide +kernel
theorem d_QS_aggregate_27 : decode m_QS_aggregate.2.1 27 = .ok (.aload_n 1, 1) := by decide +kernel
theorem d_QS_aggregate_28 : decode m_QS_aggregate.2.1 28 = .ok (.iload 5, 2) := by decide +kernel
theorem d_QS_aggregate_30 : decode m_QS_aggregate.2.1 30 = .ok (.invokevirtual 179, 3) := by decide +kernel
theorem d_QS_aggregate_33 : decode m_QS_aggregate.2.1 33 = .ok (.ifCond .eq 34, 3) := by decide +kernel
theorem d_QS_aggregate_36 : decode m_QS_aggregate.2.1 36 = .ok (.aload_n 0, 1) := by decide +kernel
theorem d_QS_aggregate_37 : decode m_QS_aggregate.2.1 37 = .ok (.getfield 28, 3) := by decide +kernel
theorem d_QS_aggregate_40 : decode m_QS_aggregate.2.1 40 = .ok (.aload_n 1, 1) := by decide +kernel
theorem d_QS_aggregate_41 : decode m_QS_aggregate.2.1 41 = .ok (.invokevirtual 156, 3) := by decide +kernel
theorem d_QS_aggregate_44 : decode m_QS_aggregate.2.1 44 = .ok (.aload_n 1, 1) := by decide +kernel
theorem d_QS_aggregate_45 : decode m_QS_aggregate.2.1 45 = .ok (.getfield 205, 3) := by decide +kernel
theorem d_QS_aggregate_48 : decode m_QS_aggregate.2.1 48 = .ok (.iload 4, 2) := by decide +kernel
theorem d_QS_aggregate_50 : decode m_QS_aggregate.2.1 50 = .ok (.aload_n 0, 1) := by decide +kernel
theorem d_QS_aggregate_51 : decode m_QS_aggregate.2.1 51 = .ok (.getfield 28, 3) := by decide +kernel
theorem d_QS_aggregate_54 : decode m_QS_aggregate.2.1 54 = .ok (.bipush 7, 2) := by decide +kernel
theorem d_QS_aggregate_56 : decode m_QS_aggregate.2.1 56 = .ok (.invokevirtual 162, 3) := by decide +kernel
theorem d_QS_aggregate_59 : decode m_QS_aggregate.2.1 59 = .ok (.invokestatic 211, 3) := by decide +kernel
theorem d_QS_aggregate_62 : decode m_QS_aggregate.2.1 62 = .ok (.istore 4, 2) := by decide +kernel
theorem d_QS_aggregate_64 : decode m_QS_aggregate.2.1 64 = .ok (.iinc 3 1, 3) := by decide +kernel
theorem d_QS_aggregate_67 : decode m_QS_aggregate.2.1 67 = .ok (.iinc 5 1, 3) := by decide +kernel
theorem d_QS_aggregate_70 : decode m_QS_aggregate.2.1 70 = .ok (.goto (-50), 3) := by decide +kernel
theorem d_QS_aggregate_73 : decode m_QS_aggregate.2.1 73 = .ok (.iload_n 3, 1) := by decide +kernel
theorem d_QS_aggregate_74 : decode m_QS_aggregate.2.1 74 = .ok (.ifCond .ne 29, 3) := by decide +kernel
theorem d_QS_aggregate_77 : decode m_QS_aggregate.2.1 77 = .ok (.aload_n 1, 1) := by decide +kernel
theorem d_QS_aggregate_78 : decode m_QS_aggregate.2.1 78 = .ok (.getfield 205, 3) := by decide +kernel
theorem d_QS_aggregate_81 : decode m_QS_aggregate.2.1 81 = .ok (.bipush 60, 2) := by decide +kernel
theorem d_QS_aggregate_83 : decode m_QS_aggregate.2.1 83 = .ok (.if_icmp .eq 12, 3) := by decide +kernel
theorem d_QS_aggregate_86 : decode m_QS_aggregate.2.1 86 = .ok (.aload_n 1, 1) := by decide +kernel
theorem d_QS_aggregate_87 : decode m_QS_aggregate.2.1 87 = .ok (.getfield 205, 3) := by decide +kernel
theorem d_QS_aggregate_90 : decode m_QS_aggregate.2.1 90 = .ok (.bipush 62, 2) := by decide +kernel
theorem d_QS_aggregate_92 : decode m_QS_aggregate.2.1 92 = .ok (.if_icmp .ne 11, 3) := by decide +kernel
theorem d_QS_aggregate_95 : decode m_QS_aggregate.2.1 95 = .ok (.new 75, 3) := by decide +kernel
theorem d_QS_aggregate_98 : decode m_QS_aggregate.2.1 98 = .ok (.dup, 1) := by decide +kernel
theorem d_QS_aggregate_99 : decode m_QS_aggregate.2.1 99 = .ok (.invokespecial 77, 3) := by decide +kernel
theorem d_QS_aggregate_102 : decode m_QS_aggregate.2.1 102 = .ok (.athrow, 1) := by decide +kernel
theorem d_QS_aggregate_103 : decode m_QS_aggregate.2.1 103 = .ok (.aload_n 0, 1) := by decide +kernel
theorem d_QS_aggregate_104 : decode m_QS_aggregate.2.1 104 = .ok (.getfield 28, 3) := by decide +kernel
theorem d_QS_aggregate_107 : decode m_QS_aggregate.2.1 107 = .ok (.bipush 7, 2) := by decide +kernel
theorem d_QS_aggregate_109 : decode m_QS_aggregate.2.1 109 = .ok (.iload 4, 2) := by decide +kernel
theorem d_QS_aggregate_111 : decode m_QS_aggregate.2.1 111 = .ok (.invokevirtual 133, 3) := by decide +kernel
theorem d_QS_aggregate_114 : decode m_QS_aggregate.2.1 114 = .ok (.aload_n 0, 1) := by decide +kernel
theorem d_QS_aggregate_115 : decode m_QS_aggregate.2.1 115 = .ok (.getfield 35, 3) := by decide +kernel
theorem d_QS_aggregate_118 : decode m_QS_aggregate.2.1 118 = .ok (.aload_n 0, 1) := by decide +kernel
theorem d_QS_aggregate_119 : decode m_QS_aggregate.2.1 119 = .ok (.getfield 28, 3) := by decide +kernel
theorem d_QS_aggregate_122 : decode m_QS_aggregate.2.1 122 = .ok (.iconst (-1), 1) := by decide +kernel
theorem d_QS_aggregate_123 : decode m_QS_aggregate.2.1 123 = .ok (.invokevirtual 197, 3) := by decide +kernel
theorem d_QS_aggregate_126 : decode m_QS_aggregate.2.1 126 = .ok (.aload_n 0, 1) := by decide +kernel
theorem d_QS_aggregate_127 : decode m_QS_aggregate.2.1 127 = .ok (.getfield 35, 3) := by decide +kernel
theorem d_QS_aggregate_130 : decode m_QS_aggregate.2.1 130 = .ok (.iconst 1, 1) := by decide +kernel
theorem d_QS_aggregate_131 : decode m_QS_aggregate.2.1 131 = .ok (.invokevirtual 202, 3) := by decide +kernel
theorem d_QS_aggregate_134 : decode m_QS_aggregate.2.1 134 = .ok (.iconst 1, 1) := by decide +kernel
theorem d_QS_aggregate_135 : decode m_QS_aggregate.2.1 135 = .ok (.ireturn, 1) := by decide +kernel
theorem d_QS_pairsOf_0 : decode m_QS_pairsOf.2.1 0 = .ok (.aload_n 0, 1) := by decide +kernel
theorem d_QS_pairsOf_1 : decode m_QS_pairsOf.2.1 1 = .ok (.getfield 11, 3) := by decide +kernel
theorem d_QS_pairsOf_4 : decode m_QS_pairsOf.2.1 4 = .ok (.aload_n 1, 1) := by decide +kernel
theorem d_QS_pairsOf_5 : decode m_QS_pairsOf.2.1 5 = .ok (.getfield 159, 3) := by decide +kernel
theorem d_QS_pairsOf_8 : decode m_QS_pairsOf.2.1 8 = .ok (.aaload, 1) := by decide +kernel
theorem d_QS_pairsOf_9 : decode m_QS_pairsOf.2.1 9 = .ok (.invokevirtual 96, 3) := by decide +kernel
theorem d_QS_pairsOf_12 : decode m_QS_pairsOf.2.1 12 = .ok (.aload_n 0, 1) := by decide +kernel
theorem d_QS_pairsOf_13 : decode m_QS_pairsOf.2.1 13 = .ok (.aload_n 1, 1) := by decide +kernel
theorem d_QS_pairsOf_14 : decode m_QS_pairsOf.2.1 14 = .ok (.invokevirtual 230, 3) := by decide +kernel
theorem d_QS_pairsOf_17 : decode m_QS_pairsOf.2.1 17 = .ok (.imul, 1) := by decide +kernel
theorem d_QS_pairsOf_18 : decode m_QS_pairsOf.2.1 18 = .ok (.ireturn, 1) := by decide +kernel
theorem d_QS_foldOfNone_0 : decode m_QS_foldOfNone.2.1 0 = .ok (.iload_n 0, 1) := by decide +kernel
theorem d_QS_foldOfNone_1 : decode m_QS_foldOfNone.2.1 1 = .ok (.bipush 62, 2) := by decide +kernel
theorem d_QS_foldOfNone_3 : decode m_QS_foldOfNone.2.1 3 = .ok (.if_icmp .ne 6, 3) := by decide +kernel
theorem d_QS_foldOfNone_6 : decode m_QS_foldOfNone.2.1 6 = .ok (.ldc 217, 2) := by decide +kernel
theorem d_QS_foldOfNone_8 : decode m_QS_foldOfNone.2.1 8 = .ok (.ireturn, 1) := by decide +kernel
theorem d_QS_foldOfNone_9 : decode m_QS_foldOfNone.2.1 9 = .ok (.iload_n 0, 1) := by decide +kernel
theorem d_QS_foldOfNone_10 : decode m_QS_foldOfNone.2.1 10 = .ok (.bipush 60, 2) := by decide +kernel
theorem d_QS_foldOfNone_12 : decode m_QS_foldOfNone.2.1 12 = .ok (.if_icmp .ne 8, 3) := by decide +kernel
theorem d_QS_foldOfNone_15 : decode m_QS_foldOfNone.2.1 15 = .ok (.ldc 218, 2) := by decide +kernel
theorem d_QS_foldOfNone_17 : decode m_QS_foldOfNone.2.1 17 = .ok (.goto 4, 3) := by decide +kernel
theorem d_QS_foldOfNone_20 : decode m_QS_foldOfNone.2.1 20 = .ok (.iconst 0, 1) := by decide +kernel
theorem d_QS_foldOfNone_21 : decode m_QS_foldOfNone.2.1 21 = .ok (.ireturn, 1) := by decide +kernel
theorem d_QS_fold_0 : decode m_QS_fold.2.1 0 = .ok (.iload_n 0, 1) := by decide +kernel
theorem d_QS_fold_1 : decode m_QS_fold.2.1 1 = .ok (.lookupswitch 49 #[(35, 39), (43, 35), (62, 43)], 35) := by decide +kernel
theorem d_QS_fold_36 : decode m_QS_fold.2.1 36 = .ok (.iload_n 1, 1) := by decide +kernel
theorem d_QS_fold_37 : decode m_QS_fold.2.1 37 = .ok (.iload_n 2, 1) := by decide +kernel
theorem d_QS_fold_38 : decode m_QS_fold.2.1 38 = .ok (.iadd, 1) := by decide +kernel
theorem d_QS_fold_39 : decode m_QS_fold.2.1 39 = .ok (.ireturn, 1) := by decide +kernel
theorem d_QS_fold_40 : decode m_QS_fold.2.1 40 = .ok (.iload_n 1, 1) := by decide +kernel
theorem d_QS_fold_41 : decode m_QS_fold.2.1 41 = .ok (.iconst 1, 1) := by decide +kernel
theorem d_QS_fold_42 : decode m_QS_fold.2.1 42 = .ok (.iadd, 1) := by decide +kernel
theorem d_QS_fold_43 : decode m_QS_fold.2.1 43 = .ok (.ireturn, 1) := by decide +kernel
theorem d_QS_fold_44 : decode m_QS_fold.2.1 44 = .ok (.iload_n 1, 1) := by decide +kernel
theorem d_QS_fold_45 : decode m_QS_fold.2.1 45 = .ok (.iload_n 2, 1) := by decide +kernel
theorem d_QS_fold_46 : decode m_QS_fold.2.1 46 = .ok (.invokestatic 219, 3) := by decide +kernel
theorem d_QS_fold_49 : decode m_QS_fold.2.1 49 = .ok (.ireturn, 1) := by decide +kernel
theorem d_QS_fold_50 : decode m_QS_fold.2.1 50 = .ok (.iload_n 1, 1) := by decide +kernel
theorem d_QS_fold_51 : decode m_QS_fold.2.1 51 = .ok (.iload_n 2, 1) := by decide +kernel
theorem d_QS_fold_52 : decode m_QS_fold.2.1 52 = .ok (.invokestatic 224, 3) := by decide +kernel
theorem d_QS_fold_55 : decode m_QS_fold.2.1 55 = .ok (.ireturn, 1) := by decide +kernel
theorem d_Result_add_0 : decode m_Result_add.2.1 0 = .ok (.aload_n 0, 1) := by decide +kernel
theorem d_Result_add_1 : decode m_Result_add.2.1 1 = .ok (.getfield 28, 3) := by decide +kernel
theorem d_Result_add_4 : decode m_Result_add.2.1 4 = .ok (.bipush 40, 2) := by decide +kernel
theorem d_Result_add_6 : decode m_Result_add.2.1 6 = .ok (.if_icmp .ne 11, 3) := by decide +kernel
theorem d_Result_add_9 : decode m_Result_add.2.1 9 = .ok (.new 31, 3) := by decide +kernel
theorem d_Result_add_12 : decode m_Result_add.2.1 12 = .ok (.dup, 1) := by decide +kernel
theorem d_Result_add_13 : decode m_Result_add.2.1 13 = .ok (.invokespecial 33, 3) := by decide +kernel
theorem d_Result_add_16 : decode m_Result_add.2.1 16 = .ok (.athrow, 1) := by decide +kernel
theorem d_Result_add_17 : decode m_Result_add.2.1 17 = .ok (.iload_n 2, 1) := by decide +kernel
theorem d_Result_add_18 : decode m_Result_add.2.1 18 = .ok (.iconst (-1), 1) := by decide +kernel
theorem d_Result_add_19 : decode m_Result_add.2.1 19 = .ok (.if_icmp .ne 7, 3) := by decide +kernel
theorem d_Result_add_22 : decode m_Result_add.2.1 22 = .ok (.iconst 0, 1) := by decide +kernel
theorem d_Result_add_23 : decode m_Result_add.2.1 23 = .ok (.goto 8, 3) := by decide +kernel
theorem d_Result_add_26 : decode m_Result_add.2.1 26 = .ok (.aload_n 1, 1) := by decide +kernel
theorem d_Result_add_27 : decode m_Result_add.2.1 27 = .ok (.iload_n 2, 1) := by decide +kernel
theorem d_Result_add_28 : decode m_Result_add.2.1 28 = .ok (.invokevirtual 34, 3) := by decide +kernel
theorem d_Result_add_31 : decode m_Result_add.2.1 31 = .ok (.istore_n 3, 1) := by decide +kernel
theorem d_Result_add_32 : decode m_Result_add.2.1 32 = .ok (.aload_n 0, 1) := by decide +kernel
theorem d_Result_add_33 : decode m_Result_add.2.1 33 = .ok (.getfield 28, 3) := by decide +kernel
theorem d_Result_add_36 : decode m_Result_add.2.1 36 = .ok (.istore 4, 2) := by decide +kernel
theorem d_Result_add_38 : decode m_Result_add.2.1 38 = .ok (.iload 4, 2) := by decide +kernel
theorem d_Result_add_40 : decode m_Result_add.2.1 40 = .ok (.ifCond .le 43, 3) := by decide +kernel
theorem d_Result_add_43 : decode m_Result_add.2.1 43 = .ok (.aload_n 0, 1) := by decide +kernel
theorem d_Result_add_44 : decode m_Result_add.2.1 44 = .ok (.getfield 15, 3) := by decide +kernel
theorem d_Result_add_47 : decode m_Result_add.2.1 47 = .ok (.aload_n 0, 1) := by decide +kernel
theorem d_Result_add_48 : decode m_Result_add.2.1 48 = .ok (.getfield 18, 3) := by decide +kernel
theorem d_Result_add_51 : decode m_Result_add.2.1 51 = .ok (.iload 4, 2) := by decide +kernel
theorem d_Result_add_53 : decode m_Result_add.2.1 53 = .ok (.iconst 1, 1) := by decide +kernel
theorem d_Result_add_54 : decode m_Result_add.2.1 54 = .ok (.isub, 1) := by decide +kernel
theorem d_Result_add_55 : decode m_Result_add.2.1 55 = .ok (.iaload, 1) := by decide +kernel
theorem d_Result_add_56 : decode m_Result_add.2.1 56 = .ok (.iaload, 1) := by decide +kernel
theorem d_Result_add_57 : decode m_Result_add.2.1 57 = .ok (.iload_n 3, 1) := by decide +kernel
theorem d_Result_add_58 : decode m_Result_add.2.1 58 = .ok (.if_icmp .le 25, 3) := by decide +kernel
theorem d_Result_add_61 : decode m_Result_add.2.1 61 = .ok (.aload_n 0, 1) := by decide +kernel
theorem d_Result_add_62 : decode m_Result_add.2.1 62 = .ok (.getfield 18, 3) := by decide +kernel
theorem d_Result_add_65 : decode m_Result_add.2.1 65 = .ok (.iload 4, 2) := by decide +kernel
theorem d_Result_add_67 : decode m_Result_add.2.1 67 = .ok (.aload_n 0, 1) := by decide +kernel
theorem d_Result_add_68 : decode m_Result_add.2.1 68 = .ok (.getfield 18, 3) := by decide +kernel
theorem d_Result_add_71 : decode m_Result_add.2.1 71 = .ok (.iload 4, 2) := by decide +kernel
theorem d_Result_add_73 : decode m_Result_add.2.1 73 = .ok (.iconst 1, 1) := by decide +kernel
theorem d_Result_add_74 : decode m_Result_add.2.1 74 = .ok (.isub, 1) := by decide +kernel
theorem d_Result_add_75 : decode m_Result_add.2.1 75 = .ok (.iaload, 1) := by decide +kernel
theorem d_Result_add_76 : decode m_Result_add.2.1 76 = .ok (.iastore, 1) := by decide +kernel
theorem d_Result_add_77 : decode m_Result_add.2.1 77 = .ok (.iinc 4 (-1), 3) := by decide +kernel
theorem d_Result_add_80 : decode m_Result_add.2.1 80 = .ok (.goto (-42), 3) := by decide +kernel
theorem d_Result_add_83 : decode m_Result_add.2.1 83 = .ok (.aload_n 0, 1) := by decide +kernel
theorem d_Result_add_84 : decode m_Result_add.2.1 84 = .ok (.getfield 18, 3) := by decide +kernel
theorem d_Result_add_87 : decode m_Result_add.2.1 87 = .ok (.iload 4, 2) := by decide +kernel
theorem d_Result_add_89 : decode m_Result_add.2.1 89 = .ok (.aload_n 0, 1) := by decide +kernel
theorem d_Result_add_90 : decode m_Result_add.2.1 90 = .ok (.getfield 28, 3) := by decide +kernel
theorem d_Result_add_93 : decode m_Result_add.2.1 93 = .ok (.iastore, 1) := by decide +kernel
theorem d_Result_add_94 : decode m_Result_add.2.1 94 = .ok (.aload_n 0, 1) := by decide +kernel
theorem d_Result_add_95 : decode m_Result_add.2.1 95 = .ok (.getfield 15, 3) := by decide +kernel
theorem d_Result_add_98 : decode m_Result_add.2.1 98 = .ok (.aload_n 0, 1) := by decide +kernel
theorem d_Result_add_99 : decode m_Result_add.2.1 99 = .ok (.getfield 28, 3) := by decide +kernel
theorem d_Result_add_102 : decode m_Result_add.2.1 102 = .ok (.iload_n 3, 1) := by decide +kernel
theorem d_Result_add_103 : decode m_Result_add.2.1 103 = .ok (.iastore, 1) := by decide +kernel
theorem d_Result_add_104 : decode m_Result_add.2.1 104 = .ok (.iconst 0, 1) := by decide +kernel
theorem d_Result_add_105 : decode m_Result_add.2.1 105 = .ok (.istore 5, 2) := by decide +kernel
theorem d_Result_add_107 : decode m_Result_add.2.1 107 = .ok (.iload 5, 2) := by decide +kernel
theorem d_Result_add_109 : decode m_Result_add.2.1 109 = .ok (.iconst 3, 1) := by decide +kernel
theorem d_Result_add_110 : decode m_Result_add.2.1 110 = .ok (.if_icmp .ge 32, 3) := by decide +kernel
theorem d_Result_add_113 : decode m_Result_add.2.1 113 = .ok (.aload_n 0, 1) := by decide +kernel
theorem d_Result_add_114 : decode m_Result_add.2.1 114 = .ok (.getfield 9, 3) := by decide +kernel
theorem d_Result_add_117 : decode m_Result_add.2.1 117 = .ok (.aload_n 0, 1) := by decide +kernel
theorem d_Result_add_118 : decode m_Result_add.2.1 118 = .ok (.getfield 28, 3) := by decide +kernel
theorem d_Result_add_121 : decode m_Result_add.2.1 121 = .ok (.iconst 3, 1) := by decide +kernel
theorem d_Result_add_122 : decode m_Result_add.2.1 122 = .ok (.imul, 1) := by decide +kernel
theorem d_Result_add_123 : decode m_Result_add.2.1 123 = .ok (.iload 5, 2) := by decide +kernel
theorem d_Result_add_125 : decode m_Result_add.2.1 125 = .ok (.iadd, 1) := by decide +kernel
theorem d_Result_add_126 : decode m_Result_add.2.1 126 = .ok (.aload_n 1, 1) := by decide +kernel
theorem d_Result_add_127 : decode m_Result_add.2.1 127 = .ok (.bipush 7, 2) := by decide +kernel
theorem d_Result_add_129 : decode m_Result_add.2.1 129 = .ok (.iload 5, 2) := by decide +kernel
theorem d_Result_add_131 : decode m_Result_add.2.1 131 = .ok (.iadd, 1) := by decide +kernel
theorem d_Result_add_132 : decode m_Result_add.2.1 132 = .ok (.invokevirtual 34, 3) := by decide +kernel
theorem d_Result_add_135 : decode m_Result_add.2.1 135 = .ok (.iastore, 1) := by decide +kernel
theorem d_Result_add_136 : decode m_Result_add.2.1 136 = .ok (.iinc 5 1, 3) := by decide +kernel
theorem d_Result_add_139 : decode m_Result_add.2.1 139 = .ok (.goto (-32), 3) := by decide +kernel
theorem d_Result_add_142 : decode m_Result_add.2.1 142 = .ok (.aload_n 0, 1) := by decide +kernel
theorem d_Result_add_143 : decode m_Result_add.2.1 143 = .ok (.dup, 1) := by decide +kernel
theorem d_Result_add_144 : decode m_Result_add.2.1 144 = .ok (.getfield 28, 3) := by decide +kernel
theorem d_Result_add_147 : decode m_Result_add.2.1 147 = .ok (.iconst 1, 1) := by decide +kernel
theorem d_Result_add_148 : decode m_Result_add.2.1 148 = .ok (.iadd, 1) := by decide +kernel
theorem d_Result_add_149 : decode m_Result_add.2.1 149 = .ok (.putfield 28, 3) := by decide +kernel
theorem d_Result_add_152 : decode m_Result_add.2.1 152 = .ok (.return_, 1) := by decide +kernel
theorem d_Result_show_0 : decode m_Result_show.2.1 0 = .ok (.aload_n 0, 1) := by decide +kernel
theorem d_Result_show_1 : decode m_Result_show.2.1 1 = .ok (.aload_n 0, 1) := by decide +kernel
theorem d_Result_show_2 : decode m_Result_show.2.1 2 = .ok (.getfield 28, 3) := by decide +kernel
theorem d_Result_show_5 : decode m_Result_show.2.1 5 = .ok (.putfield 21, 3) := by decide +kernel
theorem d_Result_show_8 : decode m_Result_show.2.1 8 = .ok (.aload_n 0, 1) := by decide +kernel
theorem d_Result_show_9 : decode m_Result_show.2.1 9 = .ok (.iload_n 1, 1) := by decide +kernel
theorem d_Result_show_10 : decode m_Result_show.2.1 10 = .ok (.putfield 25, 3) := by decide +kernel
theorem d_Result_show_13 : decode m_Result_show.2.1 13 = .ok (.return_, 1) := by decide +kernel
theorem d_QS_select_0 : decode m_QS_select.2.1 0 = .ok (.aload_n 0, 1) := by decide +kernel
theorem d_QS_select_1 : decode m_QS_select.2.1 1 = .ok (.aload_n 1, 1) := by decide +kernel
theorem d_QS_select_2 : decode m_QS_select.2.1 2 = .ok (.invokevirtual 191, 3) := by decide +kernel
theorem d_QS_select_5 : decode m_QS_select.2.1 5 = .ok (.istore_n 2, 1) := by decide +kernel
theorem d_QS_select_6 : decode m_QS_select.2.1 6 = .ok (.iconst 0, 1) := by decide +kernel
theorem d_QS_select_7 : decode m_QS_select.2.1 7 = .ok (.istore_n 3, 1) := by decide +kernel
theorem d_QS_select_8 : decode m_QS_select.2.1 8 = .ok (.iload_n 3, 1) := by decide +kernel
theorem d_QS_select_9 : decode m_QS_select.2.1 9 = .ok (.iload_n 2, 1) := by decide +kernel
theorem d_QS_select_10 : decode m_QS_select.2.1 10 = .ok (.if_icmp .ge 41, 3) := by decide +kernel
theorem d_QS_select_13 : decode m_QS_select.2.1 13 = .ok (.aload_n 0, 1) := by decide +kernel
theorem d_QS_select_14 : decode m_QS_select.2.1 14 = .ok (.aload_n 1, 1) := by decide +kernel
theorem d_QS_select_15 : decode m_QS_select.2.1 15 = .ok (.iload_n 3, 1) := by decide +kernel
theorem d_QS_select_16 : decode m_QS_select.2.1 16 = .ok (.invokevirtual 179, 3) := by decide +kernel
theorem d_QS_select_19 : decode m_QS_select.2.1 19 = .ok (.ifCond .eq 26, 3) := by decide +kernel
theorem d_QS_select_22 : decode m_QS_select.2.1 22 = .ok (.aload_n 0, 1) := by decide +kernel
theorem d_QS_select_23 : decode m_QS_select.2.1 23 = .ok (.getfield 28, 3) := by decide +kernel
theorem d_QS_select_26 : decode m_QS_select.2.1 26 = .ok (.aload_n 1, 1) := by decide +kernel
theorem d_QS_select_27 : decode m_QS_select.2.1 27 = .ok (.invokevirtual 156, 3) := by decide +kernel
theorem d_QS_select_30 : decode m_QS_select.2.1 30 = .ok (.aload_n 0, 1) := by decide +kernel
theorem d_QS_select_31 : decode m_QS_select.2.1 31 = .ok (.getfield 35, 3) := by decide +kernel
theorem d_QS_select_34 : decode m_QS_select.2.1 34 = .ok (.aload_n 0, 1) := by decide +kernel
theorem d_QS_select_35 : decode m_QS_select.2.1 35 = .ok (.getfield 28, 3) := by decide +kernel
theorem d_QS_select_38 : decode m_QS_select.2.1 38 = .ok (.aload_n 1, 1) := by decide +kernel
theorem d_QS_select_39 : decode m_QS_select.2.1 39 = .ok (.getfield 194, 3) := by decide +kernel
theorem d_QS_select_42 : decode m_QS_select.2.1 42 = .ok (.invokevirtual 197, 3) := by decide +kernel
theorem d_QS_select_45 : decode m_QS_select.2.1 45 = .ok (.iinc 3 1, 3) := by decide +kernel
theorem d_QS_select_48 : decode m_QS_select.2.1 48 = .ok (.goto (-40), 3) := by decide +kernel
theorem d_QS_select_51 : decode m_QS_select.2.1 51 = .ok (.aload_n 0, 1) := by decide +kernel
theorem d_QS_select_52 : decode m_QS_select.2.1 52 = .ok (.getfield 35, 3) := by decide +kernel
theorem d_QS_select_55 : decode m_QS_select.2.1 55 = .ok (.aload_n 1, 1) := by decide +kernel
theorem d_QS_select_56 : decode m_QS_select.2.1 56 = .ok (.getfield 200, 3) := by decide +kernel
theorem d_QS_select_59 : decode m_QS_select.2.1 59 = .ok (.invokevirtual 202, 3) := by decide +kernel
theorem d_QS_select_62 : decode m_QS_select.2.1 62 = .ok (.aload_n 0, 1) := by decide +kernel
theorem d_QS_select_63 : decode m_QS_select.2.1 63 = .ok (.getfield 35, 3) := by decide +kernel
theorem d_QS_select_66 : decode m_QS_select.2.1 66 = .ok (.invokevirtual 82, 3) := by decide +kernel
theorem d_QS_select_69 : decode m_QS_select.2.1 69 = .ok (.ireturn, 1) := by decide +kernel
theorem d_QS_ask_0 : decode m_QS_ask.2.1 0 = .ok (.aload_n 0, 1) := by decide +kernel
theorem d_QS_ask_1 : decode m_QS_ask.2.1 1 = .ok (.getfield 21, 3) := by decide +kernel
theorem d_QS_ask_4 : decode m_QS_ask.2.1 4 = .ok (.aload_n 0, 1) := by decide +kernel
theorem d_QS_ask_5 : decode m_QS_ask.2.1 5 = .ok (.getfield 54, 3) := by decide +kernel
theorem d_QS_ask_8 : decode m_QS_ask.2.1 8 = .ok (.invokevirtual 67, 3) := by decide +kernel
theorem d_QS_ask_11 : decode m_QS_ask.2.1 11 = .ok (.aload_n 0, 1) := by decide +kernel
theorem d_QS_ask_12 : decode m_QS_ask.2.1 12 = .ok (.aload_n 0, 1) := by decide +kernel
theorem d_QS_ask_13 : decode m_QS_ask.2.1 13 = .ok (.getfield 54, 3) := by decide +kernel
theorem d_QS_ask_16 : decode m_QS_ask.2.1 16 = .ok (.iload_n 1, 1) := by decide +kernel
theorem d_QS_ask_17 : decode m_QS_ask.2.1 17 = .ok (.invokevirtual 78, 3) := by decide +kernel
theorem d_QS_ask_20 : decode m_QS_ask.2.1 20 = .ok (.ireturn, 1) := by decide +kernel
theorem d_QS_value_0 : decode m_QS_value.2.1 0 = .ok (.iload_n 1, 1) := by decide +kernel
theorem d_QS_value_1 : decode m_QS_value.2.1 1 = .ok (.ifCond .lt 29, 3) := by decide +kernel
theorem d_QS_value_4 : decode m_QS_value.2.1 4 = .ok (.iload_n 1, 1) := by decide +kernel
theorem d_QS_value_5 : decode m_QS_value.2.1 5 = .ok (.aload_n 0, 1) := by decide +kernel
theorem d_QS_value_6 : decode m_QS_value.2.1 6 = .ok (.getfield 35, 3) := by decide +kernel
theorem d_QS_value_9 : decode m_QS_value.2.1 9 = .ok (.invokevirtual 82, 3) := by decide +kernel
theorem d_QS_value_12 : decode m_QS_value.2.1 12 = .ok (.if_icmp .ge 18, 3) := by decide +kernel
theorem d_QS_value_15 : decode m_QS_value.2.1 15 = .ok (.iload_n 2, 1) := by decide +kernel
theorem d_QS_value_16 : decode m_QS_value.2.1 16 = .ok (.ifCond .lt 14, 3) := by decide +kernel
theorem d_QS_value_19 : decode m_QS_value.2.1 19 = .ok (.iload_n 2, 1) := by decide +kernel
theorem d_QS_value_20 : decode m_QS_value.2.1 20 = .ok (.aload_n 0, 1) := by decide +kernel
theorem d_QS_value_21 : decode m_QS_value.2.1 21 = .ok (.getfield 35, 3) := by decide +kernel
theorem d_QS_value_24 : decode m_QS_value.2.1 24 = .ok (.invokevirtual 86, 3) := by decide +kernel
theorem d_QS_value_27 : decode m_QS_value.2.1 27 = .ok (.if_icmp .lt 11, 3) := by decide +kernel
theorem d_QS_value_30 : decode m_QS_value.2.1 30 = .ok (.new 75, 3) := by decide +kernel
theorem d_QS_value_33 : decode m_QS_value.2.1 33 = .ok (.dup, 1) := by decide +kernel
theorem d_QS_value_34 : decode m_QS_value.2.1 34 = .ok (.invokespecial 77, 3) := by decide +kernel
theorem d_QS_value_37 : decode m_QS_value.2.1 37 = .ok (.athrow, 1) := by decide +kernel
theorem d_QS_value_38 : decode m_QS_value.2.1 38 = .ok (.aload_n 0, 1) := by decide +kernel
theorem d_QS_value_39 : decode m_QS_value.2.1 39 = .ok (.getfield 35, 3) := by decide +kernel
theorem d_QS_value_42 : decode m_QS_value.2.1 42 = .ok (.iload_n 1, 1) := by decide +kernel
theorem d_QS_value_43 : decode m_QS_value.2.1 43 = .ok (.iload_n 2, 1) := by decide +kernel
theorem d_QS_value_44 : decode m_QS_value.2.1 44 = .ok (.invokevirtual 89, 3) := by decide +kernel
theorem d_QS_value_47 : decode m_QS_value.2.1 47 = .ok (.ireturn, 1) := by decide +kernel
theorem d_Result_get_0 : decode m_Result_get.2.1 0 = .ok (.aload_n 0, 1) := by decide +kernel
theorem d_Result_get_1 : decode m_Result_get.2.1 1 = .ok (.getfield 9, 3) := by decide +kernel
theorem d_Result_get_4 : decode m_Result_get.2.1 4 = .ok (.aload_n 0, 1) := by decide +kernel
theorem d_Result_get_5 : decode m_Result_get.2.1 5 = .ok (.getfield 18, 3) := by decide +kernel
theorem d_Result_get_8 : decode m_Result_get.2.1 8 = .ok (.iload_n 1, 1) := by decide +kernel
theorem d_Result_get_9 : decode m_Result_get.2.1 9 = .ok (.iaload, 1) := by decide +kernel
theorem d_Result_get_10 : decode m_Result_get.2.1 10 = .ok (.iconst 3, 1) := by decide +kernel
theorem d_Result_get_11 : decode m_Result_get.2.1 11 = .ok (.imul, 1) := by decide +kernel
theorem d_Result_get_12 : decode m_Result_get.2.1 12 = .ok (.iload_n 2, 1) := by decide +kernel
theorem d_Result_get_13 : decode m_Result_get.2.1 13 = .ok (.iadd, 1) := by decide +kernel
theorem d_Result_get_14 : decode m_Result_get.2.1 14 = .ok (.iaload, 1) := by decide +kernel
theorem d_Result_get_15 : decode m_Result_get.2.1 15 = .ok (.ireturn, 1) := by decide +kernel
theorem d_QS_row_0 : decode m_QS_row.2.1 0 = .ok (.iload_n 1, 1) := by decide +kernel
theorem d_QS_row_1 : decode m_QS_row.2.1 1 = .ok (.ifCond .lt 17, 3) := by decide +kernel
theorem d_QS_row_4 : decode m_QS_row.2.1 4 = .ok (.iload_n 1, 1) := by decide +kernel
theorem d_QS_row_5 : decode m_QS_row.2.1 5 = .ok (.iconst 3, 1) := by decide +kernel
theorem d_QS_row_6 : decode m_QS_row.2.1 6 = .ok (.if_icmp .ge 12, 3) := by decide +kernel
theorem d_QS_row_9 : decode m_QS_row.2.1 9 = .ok (.iload_n 3, 1) := by decide +kernel
theorem d_QS_row_10 : decode m_QS_row.2.1 10 = .ok (.ifCond .lt 8, 3) := by decide +kernel
theorem d_QS_row_13 : decode m_QS_row.2.1 13 = .ok (.iload_n 3, 1) := by decide +kernel
theorem d_QS_row_14 : decode m_QS_row.2.1 14 = .ok (.iconst 3, 1) := by decide +kernel
theorem d_QS_row_15 : decode m_QS_row.2.1 15 = .ok (.if_icmp .lt 11, 3) := by decide +kernel
theorem d_QS_row_18 : decode m_QS_row.2.1 18 = .ok (.new 93, 3) := by decide +kernel
theorem d_QS_row_21 : decode m_QS_row.2.1 21 = .ok (.dup, 1) := by decide +kernel
theorem d_QS_row_22 : decode m_QS_row.2.1 22 = .ok (.invokespecial 95, 3) := by decide +kernel
theorem d_QS_row_25 : decode m_QS_row.2.1 25 = .ok (.athrow, 1) := by decide +kernel
theorem d_QS_row_26 : decode m_QS_row.2.1 26 = .ok (.iload_n 2, 1) := by decide +kernel
theorem d_QS_row_27 : decode m_QS_row.2.1 27 = .ok (.ifCond .lt 16, 3) := by decide +kernel
theorem d_QS_row_30 : decode m_QS_row.2.1 30 = .ok (.iload_n 2, 1) := by decide +kernel
theorem d_QS_row_31 : decode m_QS_row.2.1 31 = .ok (.aload_n 0, 1) := by decide +kernel
theorem d_QS_row_32 : decode m_QS_row.2.1 32 = .ok (.getfield 11, 3) := by decide +kernel
theorem d_QS_row_35 : decode m_QS_row.2.1 35 = .ok (.iload_n 1, 1) := by decide +kernel
theorem d_QS_row_36 : decode m_QS_row.2.1 36 = .ok (.aaload, 1) := by decide +kernel
theorem d_QS_row_37 : decode m_QS_row.2.1 37 = .ok (.invokevirtual 96, 3) := by decide +kernel
theorem d_QS_row_40 : decode m_QS_row.2.1 40 = .ok (.if_icmp .lt 11, 3) := by decide +kernel
theorem d_QS_row_43 : decode m_QS_row.2.1 43 = .ok (.new 75, 3) := by decide +kernel
theorem d_QS_row_46 : decode m_QS_row.2.1 46 = .ok (.dup, 1) := by decide +kernel
theorem d_QS_row_47 : decode m_QS_row.2.1 47 = .ok (.invokespecial 77, 3) := by decide +kernel
theorem d_QS_row_50 : decode m_QS_row.2.1 50 = .ok (.athrow, 1) := by decide +kernel
theorem d_QS_row_51 : decode m_QS_row.2.1 51 = .ok (.aload_n 0, 1) := by decide +kernel
theorem d_QS_row_52 : decode m_QS_row.2.1 52 = .ok (.getfield 11, 3) := by decide +kernel
theorem d_QS_row_55 : decode m_QS_row.2.1 55 = .ok (.iload_n 1, 1) := by decide +kernel
theorem d_QS_row_56 : decode m_QS_row.2.1 56 = .ok (.aaload, 1) := by decide +kernel
theorem d_QS_row_57 : decode m_QS_row.2.1 57 = .ok (.iload_n 2, 1) := by decide +kernel
theorem d_QS_row_58 : decode m_QS_row.2.1 58 = .ok (.iload_n 3, 1) := by decide +kernel
theorem d_QS_row_59 : decode m_QS_row.2.1 59 = .ok (.invokevirtual 97, 3) := by decide +kernel
theorem d_QS_row_62 : decode m_QS_row.2.1 62 = .ok (.ireturn, 1) := by decide +kernel
theorem d_Table_get_0 : decode m_Table_get.2.1 0 = .ok (.aload_n 0, 1) := by decide +kernel
theorem d_Table_get_1 : decode m_Table_get.2.1 1 = .ok (.iload_n 1, 1) := by decide +kernel
theorem d_Table_get_2 : decode m_Table_get.2.1 2 = .ok (.invokevirtual 33, 3) := by decide +kernel
theorem d_Table_get_5 : decode m_Table_get.2.1 5 = .ok (.istore_n 3, 1) := by decide +kernel
theorem d_Table_get_6 : decode m_Table_get.2.1 6 = .ok (.aload_n 0, 1) := by decide +kernel
theorem d_Table_get_7 : decode m_Table_get.2.1 7 = .ok (.getfield 11, 3) := by decide +kernel
theorem d_Table_get_10 : decode m_Table_get.2.1 10 = .ok (.iload_n 3, 1) := by decide +kernel
theorem d_Table_get_11 : decode m_Table_get.2.1 11 = .ok (.iconst 4, 1) := by decide +kernel
theorem d_Table_get_12 : decode m_Table_get.2.1 12 = .ok (.idiv, 1) := by decide +kernel
theorem d_Table_get_13 : decode m_Table_get.2.1 13 = .ok (.aaload, 1) := by decide +kernel
theorem d_Table_get_14 : decode m_Table_get.2.1 14 = .ok (.iload_n 3, 1) := by decide +kernel
theorem d_Table_get_15 : decode m_Table_get.2.1 15 = .ok (.iconst 4, 1) := by decide +kernel
theorem d_Table_get_16 : decode m_Table_get.2.1 16 = .ok (.irem, 1) := by decide +kernel
theorem d_Table_get_17 : decode m_Table_get.2.1 17 = .ok (.iload_n 2, 1) := by decide +kernel
theorem d_Table_get_18 : decode m_Table_get.2.1 18 = .ok (.invokevirtual 36, 3) := by decide +kernel
theorem d_Table_get_21 : decode m_Table_get.2.1 21 = .ok (.ireturn, 1) := by decide +kernel
theorem d_QS_begin_0 : decode m_QS_begin.2.1 0 = .ok (.aload_n 0, 1) := by decide +kernel
theorem d_QS_begin_1 : decode m_QS_begin.2.1 1 = .ok (.getfield 98, 3) := by decide +kernel
theorem d_QS_begin_4 : decode m_QS_begin.2.1 4 = .ok (.ifCond .eq 11, 3) := by decide +kernel
theorem d_QS_begin_7 : decode m_QS_begin.2.1 7 = .ok (.new 102, 3) := by decide +kernel
theorem d_QS_begin_10 : decode m_QS_begin.2.1 10 = .ok (.dup, 1) := by decide +kernel
theorem d_QS_begin_11 : decode m_QS_begin.2.1 11 = .ok (.invokespecial 104, 3) := by decide +kernel
theorem d_QS_begin_14 : decode m_QS_begin.2.1 14 = .ok (.athrow, 1) := by decide +kernel
theorem d_QS_begin_15 : decode m_QS_begin.2.1 15 = .ok (.iconst 0, 1) := by decide +kernel
theorem d_QS_begin_16 : decode m_QS_begin.2.1 16 = .ok (.istore_n 1, 1) := by decide +kernel
theorem d_QS_begin_17 : decode m_QS_begin.2.1 17 = .ok (.iload_n 1, 1) := by decide +kernel
theorem d_QS_begin_18 : decode m_QS_begin.2.1 18 = .ok (.iconst 3, 1) := by decide +kernel
theorem d_QS_begin_19 : decode m_QS_begin.2.1 19 = .ok (.if_icmp .ge 24, 3) := by decide +kernel
theorem d_QS_begin_22 : decode m_QS_begin.2.1 22 = .ok (.aload_n 0, 1) := by decide +kernel
theorem d_QS_begin_23 : decode m_QS_begin.2.1 23 = .ok (.getfield 15, 3) := by decide +kernel
theorem d_QS_begin_26 : decode m_QS_begin.2.1 26 = .ok (.iload_n 1, 1) := by decide +kernel
theorem d_QS_begin_27 : decode m_QS_begin.2.1 27 = .ok (.aaload, 1) := by decide +kernel
theorem d_QS_begin_28 : decode m_QS_begin.2.1 28 = .ok (.aload_n 0, 1) := by decide +kernel
theorem d_QS_begin_29 : decode m_QS_begin.2.1 29 = .ok (.getfield 11, 3) := by decide +kernel
theorem d_QS_begin_32 : decode m_QS_begin.2.1 32 = .ok (.iload_n 1, 1) := by decide +kernel
theorem d_QS_begin_33 : decode m_QS_begin.2.1 33 = .ok (.aaload, 1) := by decide +kernel
theorem d_QS_begin_34 : decode m_QS_begin.2.1 34 = .ok (.invokevirtual 105, 3) := by decide +kernel
theorem d_QS_begin_37 : decode m_QS_begin.2.1 37 = .ok (.iinc 1 1, 3) := by decide +kernel
theorem d_QS_begin_40 : decode m_QS_begin.2.1 40 = .ok (.goto (-23), 3) := by decide +kernel
theorem d_QS_begin_43 : decode m_QS_begin.2.1 43 = .ok (.aload_n 0, 1) := by decide +kernel
theorem d_QS_begin_44 : decode m_QS_begin.2.1 44 = .ok (.iconst 1, 1) := by decide +kernel
theorem d_QS_begin_45 : decode m_QS_begin.2.1 45 = .ok (.putfield 98, 3) := by decide +kernel
theorem d_QS_begin_48 : decode m_QS_begin.2.1 48 = .ok (.return_, 1) := by decide +kernel
theorem d_Table_becomeLike_0 : decode m_Table_becomeLike.2.1 0 = .ok (.iconst 0, 1) := by decide +kernel
theorem d_Table_becomeLike_1 : decode m_Table_becomeLike.2.1 1 = .ok (.istore_n 2, 1) := by decide +kernel
theorem d_Table_becomeLike_2 : decode m_Table_becomeLike.2.1 2 = .ok (.iload_n 2, 1) := by decide +kernel
theorem d_Table_becomeLike_3 : decode m_Table_becomeLike.2.1 3 = .ok (.bipush 20, 2) := by decide +kernel
theorem d_Table_becomeLike_5 : decode m_Table_becomeLike.2.1 5 = .ok (.if_icmp .ge 24, 3) := by decide +kernel
theorem d_Table_becomeLike_8 : decode m_Table_becomeLike.2.1 8 = .ok (.aload_n 0, 1) := by decide +kernel
theorem d_Table_becomeLike_9 : decode m_Table_becomeLike.2.1 9 = .ok (.getfield 11, 3) := by decide +kernel
theorem d_Table_becomeLike_12 : decode m_Table_becomeLike.2.1 12 = .ok (.iload_n 2, 1) := by decide +kernel
theorem d_Table_becomeLike_13 : decode m_Table_becomeLike.2.1 13 = .ok (.aaload, 1) := by decide +kernel
theorem d_Table_becomeLike_14 : decode m_Table_becomeLike.2.1 14 = .ok (.aload_n 1, 1) := by decide +kernel
theorem d_Table_becomeLike_15 : decode m_Table_becomeLike.2.1 15 = .ok (.getfield 11, 3) := by decide +kernel
theorem d_Table_becomeLike_18 : decode m_Table_becomeLike.2.1 18 = .ok (.iload_n 2, 1) := by decide +kernel
theorem d_Table_becomeLike_19 : decode m_Table_becomeLike.2.1 19 = .ok (.aaload, 1) := by decide +kernel
theorem d_Table_becomeLike_20 : decode m_Table_becomeLike.2.1 20 = .ok (.invokevirtual 72, 3) := by decide +kernel
theorem d_Table_becomeLike_23 : decode m_Table_becomeLike.2.1 23 = .ok (.iinc 2 1, 3) := by decide +kernel
theorem d_Table_becomeLike_26 : decode m_Table_becomeLike.2.1 26 = .ok (.goto (-24), 3) := by decide +kernel
theorem d_Table_becomeLike_29 : decode m_Table_becomeLike.2.1 29 = .ok (.aload_n 0, 1) := by decide +kernel
theorem d_Table_becomeLike_30 : decode m_Table_becomeLike.2.1 30 = .ok (.aload_n 1, 1) := by decide +kernel
theorem d_Table_becomeLike_31 : decode m_Table_becomeLike.2.1 31 = .ok (.getfield 22, 3) := by decide +kernel
theorem d_Table_becomeLike_34 : decode m_Table_becomeLike.2.1 34 = .ok (.putfield 22, 3) := by decide +kernel
theorem d_Table_becomeLike_37 : decode m_Table_becomeLike.2.1 37 = .ok (.aload_n 0, 1) := by decide +kernel
theorem d_Table_becomeLike_38 : decode m_Table_becomeLike.2.1 38 = .ok (.aload_n 1, 1) := by decide +kernel
theorem d_Table_becomeLike_39 : decode m_Table_becomeLike.2.1 39 = .ok (.getfield 18, 3) := by decide +kernel
theorem d_Table_becomeLike_42 : decode m_Table_becomeLike.2.1 42 = .ok (.putfield 18, 3) := by decide +kernel
theorem d_Table_becomeLike_45 : decode m_Table_becomeLike.2.1 45 = .ok (.return_, 1) := by decide +kernel
theorem d_Page_becomeLike_0 : decode m_Page_becomeLike.2.1 0 = .ok (.aload_n 1, 1) := by decide +kernel
theorem d_Page_becomeLike_1 : decode m_Page_becomeLike.2.1 1 = .ok (.getfield 9, 3) := by decide +kernel
theorem d_Page_becomeLike_4 : decode m_Page_becomeLike.2.1 4 = .ok (.iconst 0, 1) := by decide +kernel
theorem d_Page_becomeLike_5 : decode m_Page_becomeLike.2.1 5 = .ok (.aload_n 0, 1) := by decide +kernel
theorem d_Page_becomeLike_6 : decode m_Page_becomeLike.2.1 6 = .ok (.getfield 9, 3) := by decide +kernel
theorem d_Page_becomeLike_9 : decode m_Page_becomeLike.2.1 9 = .ok (.iconst 0, 1) := by decide +kernel
theorem d_Page_becomeLike_10 : decode m_Page_becomeLike.2.1 10 = .ok (.aload_n 0, 1) := by decide +kernel
theorem d_Page_becomeLike_11 : decode m_Page_becomeLike.2.1 11 = .ok (.getfield 9, 3) := by decide +kernel
theorem d_Page_becomeLike_14 : decode m_Page_becomeLike.2.1 14 = .ok (.arraylength, 1) := by decide +kernel
theorem d_Page_becomeLike_15 : decode m_Page_becomeLike.2.1 15 = .ok (.invokestatic 19, 3) := by decide +kernel
theorem d_Page_becomeLike_18 : decode m_Page_becomeLike.2.1 18 = .ok (.aload_n 0, 1) := by decide +kernel
theorem d_Page_becomeLike_19 : decode m_Page_becomeLike.2.1 19 = .ok (.aload_n 1, 1) := by decide +kernel
theorem d_Page_becomeLike_20 : decode m_Page_becomeLike.2.1 20 = .ok (.getfield 15, 3) := by decide +kernel
theorem d_Page_becomeLike_23 : decode m_Page_becomeLike.2.1 23 = .ok (.putfield 15, 3) := by decide +kernel
theorem d_Page_becomeLike_26 : decode m_Page_becomeLike.2.1 26 = .ok (.return_, 1) := by decide +kernel
theorem d_QS_end_0 : decode m_QS_end.2.1 0 = .ok (.aload_n 0, 1) := by decide +kernel
theorem d_QS_end_1 : decode m_QS_end.2.1 1 = .ok (.invokevirtual 109, 3) := by decide +kernel
theorem d_QS_end_4 : decode m_QS_end.2.1 4 = .ok (.ireturn, 1) := by decide +kernel
theorem d_QS_stopNoting_0 : decode m_QS_stopNoting.2.1 0 = .ok (.aload_n 0, 1) := by decide +kernel
theorem d_QS_stopNoting_1 : decode m_QS_stopNoting.2.1 1 = .ok (.getfield 98, 3) := by decide +kernel
theorem d_QS_stopNoting_4 : decode m_QS_stopNoting.2.1 4 = .ok (.ifCond .ne 11, 3) := by decide +kernel
theorem d_QS_stopNoting_7 : decode m_QS_stopNoting.2.1 7 = .ok (.new 102, 3) := by decide +kernel
theorem d_QS_stopNoting_10 : decode m_QS_stopNoting.2.1 10 = .ok (.dup, 1) := by decide +kernel
theorem d_QS_stopNoting_11 : decode m_QS_stopNoting.2.1 11 = .ok (.invokespecial 104, 3) := by decide +kernel
theorem d_QS_stopNoting_14 : decode m_QS_stopNoting.2.1 14 = .ok (.athrow, 1) := by decide +kernel
theorem d_QS_stopNoting_15 : decode m_QS_stopNoting.2.1 15 = .ok (.aload_n 0, 1) := by decide +kernel
theorem d_QS_stopNoting_16 : decode m_QS_stopNoting.2.1 16 = .ok (.getfield 121, 3) := by decide +kernel
theorem d_QS_stopNoting_19 : decode m_QS_stopNoting.2.1 19 = .ok (.istore_n 1, 1) := by decide +kernel
theorem d_QS_stopNoting_20 : decode m_QS_stopNoting.2.1 20 = .ok (.aload_n 0, 1) := by decide +kernel
theorem d_QS_stopNoting_21 : decode m_QS_stopNoting.2.1 21 = .ok (.iconst 0, 1) := by decide +kernel
theorem d_QS_stopNoting_22 : decode m_QS_stopNoting.2.1 22 = .ok (.putfield 98, 3) := by decide +kernel
theorem d_QS_stopNoting_25 : decode m_QS_stopNoting.2.1 25 = .ok (.aload_n 0, 1) := by decide +kernel
theorem d_QS_stopNoting_26 : decode m_QS_stopNoting.2.1 26 = .ok (.iconst 0, 1) := by decide +kernel
theorem d_QS_stopNoting_27 : decode m_QS_stopNoting.2.1 27 = .ok (.putfield 121, 3) := by decide +kernel
theorem d_QS_stopNoting_30 : decode m_QS_stopNoting.2.1 30 = .ok (.iload_n 1, 1) := by decide +kernel
theorem d_QS_stopNoting_31 : decode m_QS_stopNoting.2.1 31 = .ok (.ireturn, 1) := by decide +kernel
theorem d_QS_back_0 : decode m_QS_back.2.1 0 = .ok (.aload_n 0, 1) := by decide +kernel
theorem d_QS_back_1 : decode m_QS_back.2.1 1 = .ok (.invokevirtual 109, 3) := by decide +kernel
theorem d_QS_back_4 : decode m_QS_back.2.1 4 = .ok (.istore_n 1, 1) := by decide +kernel
theorem d_QS_back_5 : decode m_QS_back.2.1 5 = .ok (.iconst 0, 1) := by decide +kernel
theorem d_QS_back_6 : decode m_QS_back.2.1 6 = .ok (.istore_n 2, 1) := by decide +kernel
theorem d_QS_back_7 : decode m_QS_back.2.1 7 = .ok (.iload_n 2, 1) := by decide +kernel
theorem d_QS_back_8 : decode m_QS_back.2.1 8 = .ok (.iconst 3, 1) := by decide +kernel
theorem d_QS_back_9 : decode m_QS_back.2.1 9 = .ok (.if_icmp .ge 24, 3) := by decide +kernel
theorem d_QS_back_12 : decode m_QS_back.2.1 12 = .ok (.aload_n 0, 1) := by decide +kernel
theorem d_QS_back_13 : decode m_QS_back.2.1 13 = .ok (.getfield 11, 3) := by decide +kernel
theorem d_QS_back_16 : decode m_QS_back.2.1 16 = .ok (.iload_n 2, 1) := by decide +kernel
theorem d_QS_back_17 : decode m_QS_back.2.1 17 = .ok (.aaload, 1) := by decide +kernel
theorem d_QS_back_18 : decode m_QS_back.2.1 18 = .ok (.aload_n 0, 1) := by decide +kernel
theorem d_QS_back_19 : decode m_QS_back.2.1 19 = .ok (.getfield 15, 3) := by decide +kernel
theorem d_QS_back_22 : decode m_QS_back.2.1 22 = .ok (.iload_n 2, 1) := by decide +kernel
theorem d_QS_back_23 : decode m_QS_back.2.1 23 = .ok (.aaload, 1) := by decide +kernel
theorem d_QS_back_24 : decode m_QS_back.2.1 24 = .ok (.invokevirtual 105, 3) := by decide +kernel
theorem d_QS_back_27 : decode m_QS_back.2.1 27 = .ok (.iinc 2 1, 3) := by decide +kernel
theorem d_QS_back_30 : decode m_QS_back.2.1 30 = .ok (.goto (-23), 3) := by decide +kernel
theorem d_QS_back_33 : decode m_QS_back.2.1 33 = .ok (.iload_n 1, 1) := by decide +kernel
theorem d_QS_back_34 : decode m_QS_back.2.1 34 = .ok (.ireturn, 1) := by decide +kernel
